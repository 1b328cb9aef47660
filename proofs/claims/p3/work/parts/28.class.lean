set_option maxHeartbeats 4000000 in
set_option maxRecDepth 100000 in
theorem t_X11_isBackwards (l : Launch) (dC : Nat → ClassId) (dI : Nat → Nat → Nat) (sz : Nat) (G : GT) (cs : Nat → ClassId) (tt mm : Nat) (v0 : Int32) : Met l yX11_isBackwards [.code yX11_isBackwards cX11_isBackwards 1 (some .boolean)] ({ frames := 0, cells := 0, slots := 0, locals := 0 }) (PT [.int v0] sz dC dI G cs tt mm) (vp_Si (fun (r : Int32) => r = 0 ∨ r = 1)) 0 0 (fun _ => False) := by
  refine Met.ofW (cc := cX11_isBackwards) (maxL := 1) (ret := (some .boolean)) (by decide) rfl ?_
  intro p e s m args below meth c s₁ B hml hv
  obtain ⟨rfl, hsz, ⟨f0, hok, hP⟩, hK, hnd, hWT, hE⟩ := hv
  have hx := B.exec
  have hb := B.bytes
  have hr := B.returns
  have hown : s.vm.findClass RX11 = some m.cls := findClass_of_methodNamed B.named
  have hlocks := B.notSynchronized
  subst hsz
  have hl := lv_entry ([.int v0]) (n := 1) (Nat.le_of_ble_eq_true rfl)
  rw [lg_entry_eq]
  generalize (lg_sl ([.int v0]) ++ List.replicate (1 - (lg_sl ([.int v0])).length) Slot.unset).toArray = ls at hl ⊢
  have hl : lv_has ls 1 [(0, .int v0)] := hl
  refine lv_iload_n hx hb dX11_isBackwards_0 rfl (lv_at hl 0 rfl) ?_
  refine lv_iconst (v := 1) hx hb dX11_isBackwards_1 (by decide) ?_
  refine lv_iand hx hb dX11_isBackwards_2 ?_
  refine lv_topi (fun x1 _ => ?_)
  refine lv_iconst (v := 1) hx hb dX11_isBackwards_3 (by decide) ?_
  refine lv_icmp_ne (tgt := 11) hx hb dX11_isBackwards_4 (by decide) (fun c2 => ?_) (fun c2 => ?_)
  · refine lv_iconst (v := 0) hx hb dX11_isBackwards_11 (by decide) ?_
    exact W.zret (v := 0) hx hb hr rfl (fun t ht hW => ⟨0, rfl, Or.inl rfl, ht⟩) (fun _ h => absurd h List.not_mem_nil) dX11_isBackwards_12
  · refine lv_iconst (v := 1) hx hb dX11_isBackwards_7 (by decide) ?_
    refine lv_goto (tgt := 12) hx hb dX11_isBackwards_8 (by decide) ?_
    exact W.zret (v := 1) hx hb hr rfl (fun t ht hW => ⟨1, rfl, Or.inr rfl, ht⟩) (fun _ h => absurd h List.not_mem_nil) dX11_isBackwards_12

set_option maxHeartbeats 4000000 in
set_option maxRecDepth 100000 in
theorem t_X11_rest (l : Launch) (dC : Nat → ClassId) (dI : Nat → Nat → Nat) (sz : Nat) (G : GT) (cs : Nat → ClassId) (tt mm : Nat) (v0 : Int32) (v1 : Int32) : Met l yX11_rest [.code yX11_rest cX11_rest 3 (some .int)] ({ frames := 0, cells := 0, slots := 0, locals := 0 }) (PT [.int v0, .int v1] sz dC dI G cs tt mm) (vp_Si (fun (r : Int32) => True)) 0 0 (fun _ => False) := by
  refine Met.ofW (cc := cX11_rest) (maxL := 3) (ret := (some .int)) (by decide) rfl ?_
  intro p e s m args below meth c s₁ B hml hv
  obtain ⟨rfl, hsz, ⟨f0, hok, hP⟩, hK, hnd, hWT, hE⟩ := hv
  have hx := B.exec
  have hb := B.bytes
  have hr := B.returns
  have hown : s.vm.findClass RX11 = some m.cls := findClass_of_methodNamed B.named
  have hlocks := B.notSynchronized
  subst hsz
  have hl := lv_entry ([.int v0, .int v1]) (n := 3) (Nat.le_of_ble_eq_true rfl)
  rw [lg_entry_eq]
  generalize (lg_sl ([.int v0, .int v1]) ++ List.replicate (3 - (lg_sl ([.int v0, .int v1])).length) Slot.unset).toArray = ls at hl ⊢
  have hl : lv_has ls 3 [(0, .int v0), (1, .int v1)] := hl
  refine lv_iload_n hx hb dX11_rest_0 rfl (lv_at hl 1 rfl) ?_
  refine lv_iconst (v := 1) hx hb dX11_rest_1 (by decide) ?_
  refine lv_icmp_ge (tgt := 7) hx hb dX11_rest_2 (by decide) (fun c1 => ?_) (fun c1 => ?_)
  · refine lv_iload_n hx hb dX11_rest_7 rfl (lv_at hl 0 rfl) ?_
    refine lv_iload_n hx hb dX11_rest_8 rfl (lv_at hl 1 rfl) ?_
    refine lv_irem hx hb dX11_rest_9 (by intro h0; simp only [i_lt, i_le, i_eq, ti_m9, ti_m1, ti_0, ti_1, ti_2, ti_3, ti_4, ti_5, ti_6, ti_7, ti_9, ti_12, ti_20, ti_99, ti_700, ti_24] at c1 h0; omega) ?_
    refine lv_topi (fun x2 _ => ?_)
    refine lv_istore_n (lv' := [(2, .int x2), (0, .int v0), (1, .int v1)]) hx hb dX11_rest_10 rfl hl (by decide) rfl (fun ls hl => ?_)
    refine lv_iload_n hx hb dX11_rest_11 rfl (lv_at hl 0 rfl) ?_
    refine lv_if_ge (tgt := 21) hx hb dX11_rest_12 (by decide) (fun c3 => ?_) (fun c3 => ?_)
    · refine lv_iload_n hx hb dX11_rest_21 rfl (lv_at hl 0 rfl) ?_
      exact W.iret (v := x2) hx hb hr (fun t ht hW => ⟨x2, rfl, trivial, ht⟩) (fun _ h => absurd h List.not_mem_nil) dX11_rest_22
    · refine lv_iload_n hx hb dX11_rest_15 rfl (lv_at hl 0 rfl) ?_
      refine lv_iload_n hx hb dX11_rest_16 rfl (lv_at hl 2 rfl) ?_
      refine lv_iadd hx hb dX11_rest_17 ?_
      refine lv_topi (fun x4 _ => ?_)
      refine lv_goto (tgt := 22) hx hb dX11_rest_18 (by decide) ?_
      exact W.iret (v := x4) hx hb hr (fun t ht hW => ⟨x4, rfl, trivial, ht⟩) (fun _ h => absurd h List.not_mem_nil) dX11_rest_22
  · refine lv_iconst (v := 0) hx hb dX11_rest_5 (by decide) ?_
    exact W.iret (v := 0) hx hb hr (fun t ht hW => ⟨0, rfl, trivial, ht⟩) (fun _ h => absurd h List.not_mem_nil) dX11_rest_6

set_option maxHeartbeats 4000000 in
set_option maxRecDepth 100000 in
theorem t_X11_share (l : Launch) (dC : Nat → ClassId) (dI : Nat → Nat → Nat) (sz : Nat) (G : GT) (cs : Nat → ClassId) (tt mm : Nat) (v0 : Int32) (v1 : Int32) : Met l yX11_share [.code yX11_share cX11_share 2 (some .int)] ({ frames := 0, cells := 0, slots := 0, locals := 0 }) (PT [.int v0, .int v1] sz dC dI G cs tt mm) (vp_Si (fun (r : Int32) => True)) 0 0 (fun _ => False) := by
  refine Met.ofW (cc := cX11_share) (maxL := 2) (ret := (some .int)) (by decide) rfl ?_
  intro p e s m args below meth c s₁ B hml hv
  obtain ⟨rfl, hsz, ⟨f0, hok, hP⟩, hK, hnd, hWT, hE⟩ := hv
  have hx := B.exec
  have hb := B.bytes
  have hr := B.returns
  have hown : s.vm.findClass RX11 = some m.cls := findClass_of_methodNamed B.named
  have hlocks := B.notSynchronized
  subst hsz
  have hl := lv_entry ([.int v0, .int v1]) (n := 2) (Nat.le_of_ble_eq_true rfl)
  rw [lg_entry_eq]
  generalize (lg_sl ([.int v0, .int v1]) ++ List.replicate (2 - (lg_sl ([.int v0, .int v1])).length) Slot.unset).toArray = ls at hl ⊢
  have hl : lv_has ls 2 [(0, .int v0), (1, .int v1)] := hl
  refine lv_iload_n hx hb dX11_share_0 rfl (lv_at hl 1 rfl) ?_
  refine lv_iconst (v := 1) hx hb dX11_share_1 (by decide) ?_
  refine lv_icmp_ge (tgt := 9) hx hb dX11_share_2 (by decide) (fun c1 => ?_) (fun c1 => ?_)
  · refine lv_iload_n hx hb dX11_share_9 rfl (lv_at hl 0 rfl) ?_
    refine lv_iload_n hx hb dX11_share_10 rfl (lv_at hl 1 rfl) ?_
    refine lv_idiv hx hb dX11_share_11 (by intro h0; simp only [i_lt, i_le, i_eq, ti_m9, ti_m1, ti_0, ti_1, ti_2, ti_3, ti_4, ti_5, ti_6, ti_7, ti_9, ti_12, ti_20, ti_99, ti_700, ti_24] at c1 h0; omega) ?_
    refine lv_topi (fun x2 _ => ?_)
    exact W.iret (v := x2) hx hb hr (fun t ht hW => ⟨x2, rfl, trivial, ht⟩) (fun _ h => absurd h List.not_mem_nil) dX11_share_12
  · refine lv_iconst (v := 0) hx hb dX11_share_5 (by decide) ?_
    refine lv_goto (tgt := 12) hx hb dX11_share_6 (by decide) ?_
    exact W.iret (v := 0) hx hb hr (fun t ht hW => ⟨0, rfl, trivial, ht⟩) (fun _ h => absurd h List.not_mem_nil) dX11_share_12

set_option maxHeartbeats 4000000 in
set_option maxRecDepth 100000 in
theorem t_X11_opposite (l : Launch) (dC : Nat → ClassId) (dI : Nat → Nat → Nat) (sz : Nat) (G : GT) (cs : Nat → ClassId) (tt mm : Nat) (v0 : Int32) : Met l yX11_opposite [.code yX11_opposite cX11_opposite 1 (some .int)] ({ frames := 0, cells := 0, slots := 0, locals := 0 }) (PT [.int v0] sz dC dI G cs tt mm) (vp_Si (fun (r : Int32) => True)) 0 0 (fun _ => False) := by
  refine Met.ofW (cc := cX11_opposite) (maxL := 1) (ret := (some .int)) (by decide) rfl ?_
  intro p e s m args below meth c s₁ B hml hv
  obtain ⟨rfl, hsz, ⟨f0, hok, hP⟩, hK, hnd, hWT, hE⟩ := hv
  have hx := B.exec
  have hb := B.bytes
  have hr := B.returns
  have hown : s.vm.findClass RX11 = some m.cls := findClass_of_methodNamed B.named
  have hlocks := B.notSynchronized
  subst hsz
  have hl := lv_entry ([.int v0]) (n := 1) (Nat.le_of_ble_eq_true rfl)
  rw [lg_entry_eq]
  generalize (lg_sl ([.int v0]) ++ List.replicate (1 - (lg_sl ([.int v0])).length) Slot.unset).toArray = ls at hl ⊢
  have hl : lv_has ls 1 [(0, .int v0)] := hl
  refine lv_iload_n hx hb dX11_opposite_0 rfl (lv_at hl 0 rfl) ?_
  refine lv_iconst (v := 1) hx hb dX11_opposite_1 (by decide) ?_
  refine lv_ixor hx hb dX11_opposite_2 ?_
  refine lv_topi (fun x1 _ => ?_)
  exact W.iret (v := x1) hx hb hr (fun t ht hW => ⟨x1, rfl, trivial, ht⟩) (fun _ h => absurd h List.not_mem_nil) dX11_opposite_3

set_option maxHeartbeats 4000000 in
set_option maxRecDepth 100000 in
theorem t_X11_bit (l : Launch) (dC : Nat → ClassId) (dI : Nat → Nat → Nat) (sz : Nat) (G : GT) (cs : Nat → ClassId) (tt mm : Nat) (v0 : Int32) : Met l yX11_bit [.code yX11_bit cX11_bit 1 (some .int)] ({ frames := 0, cells := 0, slots := 0, locals := 0 }) (PT [.int v0] sz dC dI G cs tt mm) (vp_Si (fun (r : Int32) => True)) 0 0 (fun _ => False) := by
  refine Met.ofW (cc := cX11_bit) (maxL := 1) (ret := (some .int)) (by decide) rfl ?_
  intro p e s m args below meth c s₁ B hml hv
  obtain ⟨rfl, hsz, ⟨f0, hok, hP⟩, hK, hnd, hWT, hE⟩ := hv
  have hx := B.exec
  have hb := B.bytes
  have hr := B.returns
  have hown : s.vm.findClass RX11 = some m.cls := findClass_of_methodNamed B.named
  have hlocks := B.notSynchronized
  subst hsz
  have hl := lv_entry ([.int v0]) (n := 1) (Nat.le_of_ble_eq_true rfl)
  rw [lg_entry_eq]
  generalize (lg_sl ([.int v0]) ++ List.replicate (1 - (lg_sl ([.int v0])).length) Slot.unset).toArray = ls at hl ⊢
  have hl : lv_has ls 1 [(0, .int v0)] := hl
  refine lv_iload_n hx hb dX11_bit_0 rfl (lv_at hl 0 rfl) ?_
  refine lv_if_eq (tgt := 8) hx hb dX11_bit_1 (by decide) (fun c1 => ?_) (fun c1 => ?_)
  · refine lv_iconst (v := 0) hx hb dX11_bit_8 (by decide) ?_
    exact W.iret (v := 0) hx hb hr (fun t ht hW => ⟨0, rfl, trivial, ht⟩) (fun _ h => absurd h List.not_mem_nil) dX11_bit_9
  · refine lv_iconst (v := 1) hx hb dX11_bit_4 (by decide) ?_
    refine lv_goto (tgt := 9) hx hb dX11_bit_5 (by decide) ?_
    exact W.iret (v := 1) hx hb hr (fun t ht hW => ⟨1, rfl, trivial, ht⟩) (fun _ h => absurd h List.not_mem_nil) dX11_bit_9

set_option maxHeartbeats 4000000 in
set_option maxRecDepth 100000 in
theorem t_X11_status (l : Launch) (dC : Nat → ClassId) (dI : Nat → Nat → Nat) (sz : Nat) (G : GT) (cs : Nat → ClassId) (tt mm : Nat) (a0 : Nat) (ha0 : Ty G a0 11) : Met l yX11_status [.code yX11_status cX11_status 1 (some .int)] ({ frames := 0, cells := 0, slots := 0, locals := 0 }) (PT [.ref a0] sz dC dI G cs tt mm) (vp_Si (fun (r : Int32) => True)) 0 0 (fun _ => False) := by
  refine Met.ofW (cc := cX11_status) (maxL := 1) (ret := (some .int)) (by decide) rfl ?_
  intro p e s m args below meth c s₁ B hml hv
  obtain ⟨rfl, hsz, ⟨f0, hok, hP⟩, hK, hnd, hWT, hE⟩ := hv
  have hx := B.exec
  have hb := B.bytes
  have hr := B.returns
  have hown : s.vm.findClass RX11 = some m.cls := findClass_of_methodNamed B.named
  have hlocks := B.notSynchronized
  subst hsz
  have hl := lv_entry ([.ref a0]) (n := 1) (Nat.le_of_ble_eq_true rfl)
  rw [lg_entry_eq]
  generalize (lg_sl ([.ref a0]) ++ List.replicate (1 - (lg_sl ([.ref a0])).length) Slot.unset).toArray = ls at hl ⊢
  have hl : lv_has ls 1 [(0, .ref a0)] := hl
  refine lv_aload_n hx hb dX11_status_0 rfl (lv_at hl 0 rfl) ?_
  obtain ⟨y5_1, he1⟩ := ok_X11 hok ha0
  refine th_get hx hb (ly_X11 hE) hown hK hP ha0.1 he1 rfl 5 (by decide) (wd_364 hE) (fun _ h9 => h9) rfl dX11_status_1 ?_
  exact W.iret (v := y5_1) hx hb hr (fun t ht hW => ⟨y5_1, rfl, trivial, ht⟩) (fun _ h => absurd h List.not_mem_nil) dX11_status_4

set_option maxHeartbeats 4000000 in
set_option maxRecDepth 100000 in
theorem t_X11_feedFour (l : Launch) (dC : Nat → ClassId) (dI : Nat → Nat → Nat) (sz : Nat) (G : GT) (cs : Nat → ClassId) (tt mm : Nat) (a0 : Nat) (ha0 : Ty G a0 11) (v1 : Int32) : Met l yX11_feedFour [.code yX11_feedFour cX11_feedFour 3 none] ({ frames := 0, cells := 0, slots := 0, locals := 0 }) (PT [.ref a0, .int v1] sz dC dI G cs tt mm) (va_Qv (fun (u : Nat → va_E) => True) (BT dC dI G cs tt mm) (AT G sz)) 0 0 (AT G sz) := by
  refine Met.ofW (cc := cX11_feedFour) (maxL := 3) (ret := none) (by decide) rfl ?_
  intro p e s m args below meth c s₁ B hml hv
  obtain ⟨rfl, hsz, ⟨f0, hok, hP⟩, hK, hnd, hWT, hE⟩ := hv
  have hx := B.exec
  have hb := B.bytes
  have hr := B.returns
  have hown : s.vm.findClass RX11 = some m.cls := findClass_of_methodNamed B.named
  have hlocks := B.notSynchronized
  subst hsz
  have hAL : ∀ a, a ∈ gL G → AT G s.heap.size a := fun a h => Or.inl h
  have hA : ∀ q : Nat, s.heap.size ≤ q → AT G s.heap.size q := fun q h => Or.inr h
  have hS : va_S (AT G s.heap.size) s.heap s.heap [] := va_S.rf
  have hl := lv_entry ([.ref a0, .int v1]) (n := 3) (Nat.le_of_ble_eq_true rfl)
  rw [lg_entry_eq]
  generalize (lg_sl ([.ref a0, .int v1]) ++ List.replicate (3 - (lg_sl ([.ref a0, .int v1])).length) Slot.unset).toArray = ls at hl ⊢
  have hl : lv_has ls 3 [(0, .ref a0), (1, .int v1)] := hl
  refine lv_bipush (v := 24) hx hb dX11_feedFour_0 (by decide) ?_
  refine lv_istore_n (lv' := [(2, .int 24), (0, .ref a0), (1, .int v1)]) hx hb dX11_feedFour_2 rfl hl (by decide) rfl (fun ls hl => ?_)
  refine w_ind (I := fun n f H locs ls => OKT G cs tt mm f ∧ va_P (dC, dI) vwCl (va_pl (gL G) f) H ∧ va_S (AT G s.heap.size) s.heap H locs ∧ ∃ (w2_1 : Int32), n = (w2_1.toInt + 2147483648).toNat ∧ w2_1 ≤ 24 ∧ lv_has ls 3 [(0, .ref a0), (1, .int v1), (2, .int w2_1)]) (fun n f1 H locs ls hI ih1 => ?_) _ f0 _ _ _ ⟨hok, hP, hS, 24, rfl, (by first | omega | (simp only [i_lt, i_le, i_eq, ti_m9, ti_m1, ti_0, ti_1, ti_2, ti_3, ti_4, ti_5, ti_6, ti_7, ti_9, ti_12, ti_20, ti_99, ti_700, ti_24, ti_72, ti_8, ti_128, ti_97, ti_122, ti_48, ti_57, ti_59, ti_60, ti_61, ti_62, ti_10, ti_33, ti_51, ti_32, ti_119]; omega)), lv_sub hl [1, 2, 0] rfl⟩
  obtain ⟨hok, hP, hS, w2_1, hmu1, hlo1, hl⟩ := hI
  subst hmu1
  refine lv_iload_n hx hb dX11_feedFour_3 rfl (lv_at hl 2 rfl) ?_
  refine lv_if_lt (tgt := 55) hx hb dX11_feedFour_4 (by decide) (fun c2 => ?_) (fun c2 => ?_)
  · exact W.vret hx hb hr (fun t ht hW => ⟨⟨f1, rfl, trivial, hok, by rw [ht]; exact hP⟩, hS.F ht⟩) hS.2.2 dX11_feedFour_55
  · refine lv_aload_n hx hb dX11_feedFour_7 rfl (lv_at hl 0 rfl) ?_
    obtain ⟨y5_3, he3⟩ := ok_X11 hok ha0
    refine th_get hx hb (ly_X11 hE) hown hK hP ha0.1 he3 rfl 7 (by decide) (wd_366 hE) (fun _ h9 => h9) rfl dX11_feedFour_8 ?_
    have nt4 : (nI tt).toInt = ((tt : Nat) : Int) := nI_toInt (by omega)
    refine lv_if_lt (tgt := 49) hx hb dX11_feedFour_11 (by decide) (fun c5 => False.elim (by simp only [i_lt, i_le, i_eq, ti_m9, ti_m1, ti_0, ti_1, ti_2, ti_3, ti_4, ti_5, ti_6, ti_7, ti_9, ti_12, ti_20, ti_99, ti_700, ti_24, ti_72, ti_8, ti_128, ti_97, ti_122, ti_48, ti_57, ti_59, ti_60, ti_61, ti_62, ti_10, ti_33, ti_51, ti_32, ti_119, nt4] at hlo1 c2 c5; omega)) (fun c5 => ?_)
    refine lv_aload_n hx hb dX11_feedFour_14 rfl (lv_at hl 0 rfl) ?_
    refine th_get hx hb (ly_X11 hE) hown hK hP ha0.1 he3 rfl 7 (by decide) (wd_366 hE) (fun _ h9 => h9) rfl dX11_feedFour_15 ?_
    refine lv_aload_n hx hb dX11_feedFour_18 rfl (lv_at hl 0 rfl) ?_
    refine th_get hx hb (ly_X11 hE) hown hK hP ha0.1 he3 rfl 6 (by decide) (wd_365 hE) (fun _ h9 => h9) rfl dX11_feedFour_19 ?_
    refine th_len1 hx hb hK hP hok (n := 700) (wl_X11_6 hWT ha0) (Or.inr (Or.inl (wt_X11_6 hWT ha0))) dX11_feedFour_22 ?_
    refine W.eq (g2 := F0 m 23 ls [.int 700, .int (nI tt)]) rfl ?_
    refine lv_icmp_ge (tgt := 49) hx hb dX11_feedFour_23 (by decide) (fun c6 => ?_) (fun c6 => ?_)
    · obtain ⟨z7, ez7⟩ : ∃ z : Int32, z = w2_1 + (-8) := ⟨_, rfl⟩
      refine lv_iinc (v := z7) (lv' := [(2, .int z7), (0, .ref a0), (1, .int v1)]) hx hb dX11_feedFour_49 hl (k := 2) rfl (by rw [ez7]; rfl) (by decide) rfl (fun ls hl => ?_)
      refine lv_goto (tgt := 3) hx hb dX11_feedFour_52 (by decide) ?_
      exact ih1 _ f1 _ _ _ (by first | omega | (simp only [i_lt, i_le, i_eq, ti_m9, ti_m1, ti_0, ti_1, ti_2, ti_3, ti_4, ti_5, ti_6, ti_7, ti_9, ti_12, ti_20, ti_99, ti_700, ti_24, ti_72, ti_8, ti_128, ti_97, ti_122, ti_48, ti_57, ti_59, ti_60, ti_61, ti_62, ti_10, ti_33, ti_51, ti_32, ti_119, nt4] at hlo1 c2 c5 c6 ⊢; omega)) ⟨hok, hP, hS, z7, rfl, (by first | omega | (simp only [i_lt, i_le, i_eq, ti_m9, ti_m1, ti_0, ti_1, ti_2, ti_3, ti_4, ti_5, ti_6, ti_7, ti_9, ti_12, ti_20, ti_99, ti_700, ti_24, ti_72, ti_8, ti_128, ti_97, ti_122, ti_48, ti_57, ti_59, ti_60, ti_61, ti_62, ti_10, ti_33, ti_51, ti_32, ti_119, nt4] at hlo1 c2 c5 c6 ⊢; omega)), lv_sub hl [1, 2, 0] rfl⟩
    · refine lv_aload_n hx hb dX11_feedFour_26 rfl (lv_at hl 0 rfl) ?_
      refine th_get hx hb (ly_X11 hE) hown hK hP ha0.1 he3 rfl 6 (by decide) (wd_365 hE) (fun _ h9 => h9) rfl dX11_feedFour_27 ?_
      refine lv_aload_n hx hb dX11_feedFour_30 rfl (lv_at hl 0 rfl) ?_
      refine th_get hx hb (ly_X11 hE) hown hK hP ha0.1 he3 rfl 7 (by decide) (wd_366 hE) (fun _ h9 => h9) rfl dX11_feedFour_31 ?_
      refine lv_iload_n hx hb dX11_feedFour_34 rfl (lv_at hl 1 rfl) ?_
      refine lv_iload_n hx hb dX11_feedFour_35 rfl (lv_at hl 2 rfl) ?_
      refine lv_ishr hx hb dX11_feedFour_36 ?_
      refine lv_topi (fun x8 _ => ?_)
      refine lv_i2b hx hb dX11_feedFour_37 rfl ?_
      refine lv_topi (fun x9 _ => ?_)
      refine th_bast hx hb hK hP hok hnd hAL hS (wt_X11_6 hWT ha0) (n := 700) (wl_X11_6 hWT ha0) (vp_in_iff.mpr (by first | omega | (simp only [i_lt, i_le, i_eq, ti_m9, ti_m1, ti_0, ti_1, ti_2, ti_3, ti_4, ti_5, ti_6, ti_7, ti_9, ti_12, ti_20, ti_99, ti_700, ti_24, ti_72, ti_8, ti_128, ti_97, ti_122, ti_48, ti_57, ti_59, ti_60, ti_61, ti_62, ti_10, ti_33, ti_51, ti_32, ti_119, nt4] at hlo1 c2 c5 c6 ⊢; omega))) dX11_feedFour_38 (fun f10 H locs hfo10 hok hP hS => ?_)
      have he11 := (hfo10 a0 (Ty.ne ha0 (wt_X11_6 hWT ha0) (by decide))).trans he3
      refine lv_aload_n hx hb dX11_feedFour_39 rfl (lv_at hl 0 rfl) ?_
      refine lv_dup hx hb dX11_feedFour_40 rfl ?_
      refine th_get hx hb (ly_X11 hE) hown hK hP ha0.1 he11 rfl 7 (by decide) (wd_366 hE) (fun _ h9 => h9) rfl dX11_feedFour_41 ?_
      refine lv_iconst (v := 1) hx hb dX11_feedFour_44 (by decide) ?_
      refine lv_iadd hx hb dX11_feedFour_45 ?_
      refine W.eq (g2 := F0 m 46 ls [.int (nI (tt + 1)), .ref a0]) (congrArg (fun z : Int32 => F0 m 46 ls (.int z :: [.ref a0])) (nI_add tt 1)) ?_
      refine th_put (v := .int (nI (tt + 1))) (ty := .int) hx hb (ly_X11 hE) tyX11 tyX11_ok nmX11 hown hK hP hnd hAL hS ha0.1 he11 rfl 7 (by decide) (wd_366 hE) (fun _ h9 => h9) rfl (by decide +kernel) rfl rfl (Nat.le_of_ble_eq_true rfl) (up_tm (t2 := (tt + 1)) (m2 := mm) hWT hok ha0 ⟨y5_3, rfl⟩) dX11_feedFour_46 (fun f12 H locs hfa12 hfo12 hok hP hS => ?_)
      obtain ⟨z13, ez13⟩ : ∃ z : Int32, z = w2_1 + (-8) := ⟨_, rfl⟩
      refine lv_iinc (v := z13) (lv' := [(2, .int z13), (0, .ref a0), (1, .int v1)]) hx hb dX11_feedFour_49 hl (k := 2) rfl (by rw [ez13]; rfl) (by decide) rfl (fun ls hl => ?_)
      refine lv_goto (tgt := 3) hx hb dX11_feedFour_52 (by decide) ?_
      exact ih1 _ f12 _ _ _ (by first | omega | (simp only [i_lt, i_le, i_eq, ti_m9, ti_m1, ti_0, ti_1, ti_2, ti_3, ti_4, ti_5, ti_6, ti_7, ti_9, ti_12, ti_20, ti_99, ti_700, ti_24, ti_72, ti_8, ti_128, ti_97, ti_122, ti_48, ti_57, ti_59, ti_60, ti_61, ti_62, ti_10, ti_33, ti_51, ti_32, ti_119, nt4] at hlo1 c2 c5 c6 ⊢; omega)) ⟨hok, hP, hS, z13, rfl, (by first | omega | (simp only [i_lt, i_le, i_eq, ti_m9, ti_m1, ti_0, ti_1, ti_2, ti_3, ti_4, ti_5, ti_6, ti_7, ti_9, ti_12, ti_20, ti_99, ti_700, ti_24, ti_72, ti_8, ti_128, ti_97, ti_122, ti_48, ti_57, ti_59, ti_60, ti_61, ti_62, ti_10, ti_33, ti_51, ti_32, ti_119, nt4] at hlo1 c2 c5 c6 ⊢; omega)), lv_sub hl [1, 2, 0] rfl⟩

set_option maxHeartbeats 4000000 in
set_option maxRecDepth 100000 in
theorem t_X11_feed (l : Launch) (dC : Nat → ClassId) (dI : Nat → Nat → Nat) (sz : Nat) (G : GT) (cs : Nat → ClassId) (tt mm : Nat) (a0 : Nat) (ha0 : Ty G a0 11) (v1 : Int32) (v2 : Int32) (v3 : Int32) (v4 : Int32) (v5 : Int32) : Met l yX11_feed [.code yX11_feed cX11_feed 6 (some .int)] ({ frames := 1, cells := 0, slots := 0, locals := 40 }) (PT [.ref a0, .int v1, .int v2, .int v3, .int v4, .int v5] sz dC dI G cs tt mm) (va_Qi (fun (r : Int32) (u : Nat → va_E) => True) (BT dC dI G cs tt mm) (AT G sz)) 0 0 (AT G sz) := by
  refine Met.ofW (cc := cX11_feed) (maxL := 6) (ret := (some .int)) (by decide) rfl ?_
  intro p e s m args below meth c s₁ B hml hv
  obtain ⟨rfl, hsz, ⟨f0, hok, hP⟩, hK, hnd, hWT, hE⟩ := hv
  have hx := B.exec
  have hb := B.bytes
  have hr := B.returns
  have hown : s.vm.findClass RX11 = some m.cls := findClass_of_methodNamed B.named
  have hlocks := B.notSynchronized
  subst hsz
  have hAL : ∀ a, a ∈ gL G → AT G s.heap.size a := fun a h => Or.inl h
  have hA : ∀ q : Nat, s.heap.size ≤ q → AT G s.heap.size q := fun q h => Or.inr h
  have hS : va_S (AT G s.heap.size) s.heap s.heap [] := va_S.rf
  have hl := lv_entry ([.ref a0, .int v1, .int v2, .int v3, .int v4, .int v5]) (n := 6) (Nat.le_of_ble_eq_true rfl)
  rw [lg_entry_eq]
  generalize (lg_sl ([.ref a0, .int v1, .int v2, .int v3, .int v4, .int v5]) ++ List.replicate (6 - (lg_sl ([.ref a0, .int v1, .int v2, .int v3, .int v4, .int v5])).length) Slot.unset).toArray = ls at hl ⊢
  have hl : lv_has ls 6 [(0, .ref a0), (1, .int v1), (2, .int v2), (3, .int v3), (4, .int v4), (5, .int v5)] := hl
  refine lv_aload_n hx hb dX11_feed_0 rfl (lv_at hl 0 rfl) ?_
  obtain ⟨y5_1, he1⟩ := ok_X11 hok ha0
  refine th_get hx hb (ly_X11 hE) hown hK hP ha0.1 he1 rfl 7 (by decide) (wd_366 hE) (fun _ h9 => h9) rfl dX11_feed_1 ?_
  refine lv_bipush (v := 20) hx hb dX11_feed_4 (by decide) ?_
  refine lv_iadd hx hb dX11_feed_6 ?_
  refine W.eq (g2 := F0 m 7 ls [.int (nI (tt + 20))]) (congrArg (fun z : Int32 => F0 m 7 ls (.int z :: [])) (nI_add tt 20)) ?_
  refine lv_sipush (v := 700) hx hb dX11_feed_7 (by decide) ?_
  have nt2 : (nI (tt + 20)).toInt = ((tt + 20 : Nat) : Int) := nI_toInt (by omega)
  refine lv_icmp_le (tgt := 15) hx hb dX11_feed_10 (by decide) (fun c3 => ?_) (fun c3 => ?_)
  · refine lv_aload_n hx hb dX11_feed_15 rfl (lv_at hl 0 rfl) ?_
    refine lv_iload_n hx hb dX11_feed_16 rfl (lv_at hl 1 rfl) ?_
    refine tc_v hAL hS hA (va_runV (As := [.int v1]) (rest := []) ⟨hx, hb, hml, hown, noTs⟩ (t_X11_feedFour l dC dI s.heap.size G cs tt mm a0 ha0 v1) ⟨cbE 1 (wd_428 hE) (wd_115 hE) (wd_425 hE) rfl rfl (by decide +kernel) ⟨Nat.le_of_ble_eq_true rfl, Nat.le_of_ble_eq_true rfl⟩, (wd_427 hE), (wd_0 hE)⟩ ⟨PT.blind, th_recv hK hP ha0.1 he1 rfl, (th_pre (av := [.ref a0, .int v1]) hK hP hok hnd hWT hE)⟩ rfl rfl hl.1 rfl (lv_room (Nat.le_of_ble_eq_true rfl)) dX11_feed_17 ⟨Nat.le_of_ble_eq_true rfl, Nat.le_of_ble_eq_true rfl⟩) (fun f4 H locs hr4 hok hP hS => ?_)
    refine lv_aload_n hx hb dX11_feed_20 rfl (lv_at hl 0 rfl) ?_
    refine lv_iload_n hx hb dX11_feed_21 rfl (lv_at hl 2 rfl) ?_
    obtain ⟨y5_5, he5⟩ := ok_X11 hok ha0
    refine tc_v hAL hS hA (va_runV (As := [.int v2]) (rest := []) ⟨hx, hb, hml, hown, noTs⟩ (t_X11_feedFour l dC dI H.size G cs tt mm a0 ha0 v2) ⟨cbE 1 (wd_428 hE) (wd_115 hE) (wd_425 hE) rfl rfl (by decide +kernel) ⟨Nat.le_of_ble_eq_true rfl, Nat.le_of_ble_eq_true rfl⟩, (wd_427 hE), (wd_0 hE)⟩ ⟨PT.blind, th_recv hK hP ha0.1 he5 rfl, (th_pre (av := [.ref a0, .int v2]) hK hP hok hnd hWT hE)⟩ rfl rfl hl.1 rfl (lv_room (Nat.le_of_ble_eq_true rfl)) dX11_feed_22 ⟨Nat.le_of_ble_eq_true rfl, Nat.le_of_ble_eq_true rfl⟩) (fun f6 H locs hr6 hok hP hS => ?_)
    refine lv_aload_n hx hb dX11_feed_25 rfl (lv_at hl 0 rfl) ?_
    refine lv_iload_n hx hb dX11_feed_26 rfl (lv_at hl 3 rfl) ?_
    obtain ⟨y5_7, he7⟩ := ok_X11 hok ha0
    refine tc_v hAL hS hA (va_runV (As := [.int v3]) (rest := []) ⟨hx, hb, hml, hown, noTs⟩ (t_X11_feedFour l dC dI H.size G cs tt mm a0 ha0 v3) ⟨cbE 1 (wd_428 hE) (wd_115 hE) (wd_425 hE) rfl rfl (by decide +kernel) ⟨Nat.le_of_ble_eq_true rfl, Nat.le_of_ble_eq_true rfl⟩, (wd_427 hE), (wd_0 hE)⟩ ⟨PT.blind, th_recv hK hP ha0.1 he7 rfl, (th_pre (av := [.ref a0, .int v3]) hK hP hok hnd hWT hE)⟩ rfl rfl hl.1 rfl (lv_room (Nat.le_of_ble_eq_true rfl)) dX11_feed_27 ⟨Nat.le_of_ble_eq_true rfl, Nat.le_of_ble_eq_true rfl⟩) (fun f8 H locs hr8 hok hP hS => ?_)
    refine lv_aload_n hx hb dX11_feed_30 rfl (lv_at hl 0 rfl) ?_
    refine lv_iload hx hb dX11_feed_31 (lv_at hl 4 rfl) ?_
    obtain ⟨y5_9, he9⟩ := ok_X11 hok ha0
    refine tc_v hAL hS hA (va_runV (As := [.int v4]) (rest := []) ⟨hx, hb, hml, hown, noTs⟩ (t_X11_feedFour l dC dI H.size G cs tt mm a0 ha0 v4) ⟨cbE 1 (wd_428 hE) (wd_115 hE) (wd_425 hE) rfl rfl (by decide +kernel) ⟨Nat.le_of_ble_eq_true rfl, Nat.le_of_ble_eq_true rfl⟩, (wd_427 hE), (wd_0 hE)⟩ ⟨PT.blind, th_recv hK hP ha0.1 he9 rfl, (th_pre (av := [.ref a0, .int v4]) hK hP hok hnd hWT hE)⟩ rfl rfl hl.1 rfl (lv_room (Nat.le_of_ble_eq_true rfl)) dX11_feed_33 ⟨Nat.le_of_ble_eq_true rfl, Nat.le_of_ble_eq_true rfl⟩) (fun f10 H locs hr10 hok hP hS => ?_)
    refine lv_aload_n hx hb dX11_feed_36 rfl (lv_at hl 0 rfl) ?_
    refine lv_iload hx hb dX11_feed_37 (lv_at hl 5 rfl) ?_
    obtain ⟨y5_11, he11⟩ := ok_X11 hok ha0
    refine tc_v hAL hS hA (va_runV (As := [.int v5]) (rest := []) ⟨hx, hb, hml, hown, noTs⟩ (t_X11_feedFour l dC dI H.size G cs tt mm a0 ha0 v5) ⟨cbE 1 (wd_428 hE) (wd_115 hE) (wd_425 hE) rfl rfl (by decide +kernel) ⟨Nat.le_of_ble_eq_true rfl, Nat.le_of_ble_eq_true rfl⟩, (wd_427 hE), (wd_0 hE)⟩ ⟨PT.blind, th_recv hK hP ha0.1 he11 rfl, (th_pre (av := [.ref a0, .int v5]) hK hP hok hnd hWT hE)⟩ rfl rfl hl.1 rfl (lv_room (Nat.le_of_ble_eq_true rfl)) dX11_feed_39 ⟨Nat.le_of_ble_eq_true rfl, Nat.le_of_ble_eq_true rfl⟩) (fun f12 H locs hr12 hok hP hS => ?_)
    refine lv_aload_n hx hb dX11_feed_42 rfl (lv_at hl 0 rfl) ?_
    obtain ⟨y5_13, he13⟩ := ok_X11 hok ha0
    refine th_get hx hb (ly_X11 hE) hown hK hP ha0.1 he13 rfl 7 (by decide) (wd_366 hE) (fun _ h9 => h9) rfl dX11_feed_43 ?_
    exact W.iret (v := nI tt) hx hb hr (fun t ht hW => ⟨⟨nI tt, f12, rfl, trivial, hok, by rw [ht]; exact hP⟩, hS.F ht⟩) hS.2.2 dX11_feed_46
  · refine lv_iconst (v := -1) hx hb dX11_feed_13 (by decide) ?_
    exact W.iret (v := -1) hx hb hr (fun t ht hW => ⟨⟨-1, f0, rfl, trivial, hok, by rw [ht]; exact hP⟩, hS.F ht⟩) hS.2.2 dX11_feed_14

set_option maxHeartbeats 4000000 in
set_option maxRecDepth 100000 in
theorem t_X11_fail (l : Launch) (dC : Nat → ClassId) (dI : Nat → Nat → Nat) (sz : Nat) (G : GT) (cs : Nat → ClassId) (tt mm : Nat) (a0 : Nat) (ha0 : Ty G a0 11) (v1 : Int32) : Met l yX11_fail [.code yX11_fail cX11_fail 2 (some .int)] ({ frames := 0, cells := 0, slots := 0, locals := 0 }) (PT [.ref a0, .int v1] sz dC dI G cs tt mm) (va_Qi (fun (r : Int32) (u : Nat → va_E) => True) (BT dC dI G cs tt mm) (AT G sz)) 0 0 (AT G sz) := by
  refine Met.ofW (cc := cX11_fail) (maxL := 2) (ret := (some .int)) (by decide) rfl ?_
  intro p e s m args below meth c s₁ B hml hv
  obtain ⟨rfl, hsz, ⟨f0, hok, hP⟩, hK, hnd, hWT, hE⟩ := hv
  have hx := B.exec
  have hb := B.bytes
  have hr := B.returns
  have hown : s.vm.findClass RX11 = some m.cls := findClass_of_methodNamed B.named
  have hlocks := B.notSynchronized
  subst hsz
  have hAL : ∀ a, a ∈ gL G → AT G s.heap.size a := fun a h => Or.inl h
  have hA : ∀ q : Nat, s.heap.size ≤ q → AT G s.heap.size q := fun q h => Or.inr h
  have hS : va_S (AT G s.heap.size) s.heap s.heap [] := va_S.rf
  have hl := lv_entry ([.ref a0, .int v1]) (n := 2) (Nat.le_of_ble_eq_true rfl)
  rw [lg_entry_eq]
  generalize (lg_sl ([.ref a0, .int v1]) ++ List.replicate (2 - (lg_sl ([.ref a0, .int v1])).length) Slot.unset).toArray = ls at hl ⊢
  have hl : lv_has ls 2 [(0, .ref a0), (1, .int v1)] := hl
  refine lv_aload_n hx hb dX11_fail_0 rfl (lv_at hl 0 rfl) ?_
  refine lv_iload_n hx hb dX11_fail_1 rfl (lv_at hl 1 rfl) ?_
  obtain ⟨y5_1, he1⟩ := ok_X11 hok ha0
  refine th_put (v := .int v1) (ty := .int) hx hb (ly_X11 hE) tyX11 tyX11_ok nmX11 hown hK hP hnd hAL hS ha0.1 he1 rfl 5 (by decide) (wd_364 hE) (fun _ h9 => h9) rfl (by decide +kernel) rfl rfl (Nat.le_of_ble_eq_true rfl) (up_X11 hok ha0 ⟨v1, rfl⟩) dX11_fail_2 (fun f2 H locs hfa2 hfo2 hok hP hS => ?_)
  refine lv_iconst (v := -1) hx hb dX11_fail_5 (by decide) ?_
  exact W.iret (v := -1) hx hb hr (fun t ht hW => ⟨⟨-1, f2, rfl, trivial, hok, by rw [ht]; exact hP⟩, hS.F ht⟩) hS.2.2 dX11_fail_6

set_option maxHeartbeats 4000000 in
set_option maxRecDepth 100000 in
theorem t_X11_answer (l : Launch) (dC : Nat → ClassId) (dI : Nat → Nat → Nat) (sz : Nat) (G : GT) (cs : Nat → ClassId) (tt mm : Nat) (a0 : Nat) (ha0 : Ty G a0 11) (v1 : Int32) : Met l yX11_answer [.code yX11_answer cX11_answer 2 (some .int)] ({ frames := 0, cells := 0, slots := 0, locals := 0 }) (PT [.ref a0, .int v1] sz dC dI G cs tt mm) (va_Qi (fun (r : Int32) (u : Nat → va_E) => True) (BT dC dI G cs tt mm) (AT G sz)) 0 0 (AT G sz) := by
  refine Met.ofW (cc := cX11_answer) (maxL := 2) (ret := (some .int)) (by decide) rfl ?_
  intro p e s m args below meth c s₁ B hml hv
  obtain ⟨rfl, hsz, ⟨f0, hok, hP⟩, hK, hnd, hWT, hE⟩ := hv
  have hx := B.exec
  have hb := B.bytes
  have hr := B.returns
  have hown : s.vm.findClass RX11 = some m.cls := findClass_of_methodNamed B.named
  have hlocks := B.notSynchronized
  subst hsz
  have hAL : ∀ a, a ∈ gL G → AT G s.heap.size a := fun a h => Or.inl h
  have hA : ∀ q : Nat, s.heap.size ≤ q → AT G s.heap.size q := fun q h => Or.inr h
  have hS : va_S (AT G s.heap.size) s.heap s.heap [] := va_S.rf
  have hl := lv_entry ([.ref a0, .int v1]) (n := 2) (Nat.le_of_ble_eq_true rfl)
  rw [lg_entry_eq]
  generalize (lg_sl ([.ref a0, .int v1]) ++ List.replicate (2 - (lg_sl ([.ref a0, .int v1])).length) Slot.unset).toArray = ls at hl ⊢
  have hl : lv_has ls 2 [(0, .ref a0), (1, .int v1)] := hl
  refine lv_aload_n hx hb dX11_answer_0 rfl (lv_at hl 0 rfl) ?_
  refine lv_iconst (v := 0) hx hb dX11_answer_1 (by decide) ?_
  obtain ⟨y5_1, he1⟩ := ok_X11 hok ha0
  refine th_put (v := .int 0) (ty := .int) hx hb (ly_X11 hE) tyX11 tyX11_ok nmX11 hown hK hP hnd hAL hS ha0.1 he1 rfl 5 (by decide) (wd_364 hE) (fun _ h9 => h9) rfl (by decide +kernel) rfl rfl (Nat.le_of_ble_eq_true rfl) (up_X11 hok ha0 ⟨0, rfl⟩) dX11_answer_2 (fun f2 H locs hfa2 hfo2 hok hP hS => ?_)
  refine lv_iload_n hx hb dX11_answer_5 rfl (lv_at hl 1 rfl) ?_
  exact W.iret (v := v1) hx hb hr (fun t ht hW => ⟨⟨v1, f2, rfl, trivial, hok, by rw [ht]; exact hP⟩, hS.F ht⟩) hS.2.2 dX11_answer_6

set_option maxHeartbeats 4000000 in
set_option maxRecDepth 100000 in
theorem t_X11_fault (l : Launch) (dC : Nat → ClassId) (dI : Nat → Nat → Nat) (sz : Nat) (G : GT) (cs : Nat → ClassId) (tt mm : Nat) (a0 : Nat) (ha0 : Ty G a0 11) (v1 : Int32) : Met l yX11_fault [.code yX11_fault cX11_fault 2 (some .int)] ({ frames := 1, cells := 0, slots := 0, locals := 40 }) (PT [.ref a0, .int v1] sz dC dI G cs tt mm) (vp_Si (fun (r : Int32) => True)) 0 0 (fun _ => False) := by
  refine Met.ofW (cc := cX11_fault) (maxL := 2) (ret := (some .int)) (by decide) rfl ?_
  intro p e s m args below meth c s₁ B hml hv
  obtain ⟨rfl, hsz, ⟨f0, hok, hP⟩, hK, hnd, hWT, hE⟩ := hv
  have hx := B.exec
  have hb := B.bytes
  have hr := B.returns
  have hown : s.vm.findClass RX11 = some m.cls := findClass_of_methodNamed B.named
  have hlocks := B.notSynchronized
  subst hsz
  have hl := lv_entry ([.ref a0, .int v1]) (n := 2) (Nat.le_of_ble_eq_true rfl)
  rw [lg_entry_eq]
  generalize (lg_sl ([.ref a0, .int v1]) ++ List.replicate (2 - (lg_sl ([.ref a0, .int v1])).length) Slot.unset).toArray = ls at hl ⊢
  have hl : lv_has ls 2 [(0, .ref a0), (1, .int v1)] := hl
  refine lv_aload_n hx hb dX11_fault_0 rfl (lv_at hl 0 rfl) ?_
  obtain ⟨y5_1, he1⟩ := ok_X11 hok ha0
  refine th_get hx hb (ly_X11 hE) hown hK hP ha0.1 he1 rfl 8 (by decide) (wd_367 hE) (fun _ h9 => h9) rfl dX11_fault_1 ?_
  refine lv_iload_n hx hb dX11_fault_4 rfl (lv_at hl 1 rfl) ?_
  obtain ⟨y3_2, y4_2, y5_2, y6_2, y7_2, y8_2, y9_2, he2⟩ := ok_X5 hok (wt_X11_8 hWT ha0)
  refine vp_callSi (va_Run.run (va_runV (As := [.int v1]) (rest := []) ⟨hx, hb, hml, hown, noTs⟩ (t_X5_tellFault l dC dI s.heap.size G cs tt mm (gR G a0 8) ((wt_X11_8 hWT ha0)) v1) ⟨cbE 1 (wd_756 hE) (wd_118 hE) (wd_753 hE) rfl rfl (by decide +kernel) ⟨Nat.le_of_ble_eq_true rfl, Nat.le_of_ble_eq_true rfl⟩, (wd_754 hE), (wd_755 hE)⟩ ⟨PT.blind, th_recv hK hP (wt_X11_8 hWT ha0).1 he2 rfl, (th_pre (av := [.ref (gR G a0 8), .int v1]) hK hP hok hnd hWT hE)⟩ rfl rfl hl.1 rfl (lv_room (Nat.le_of_ble_eq_true rfl)) dX11_fault_5 ⟨Nat.le_of_ble_eq_true rfl, Nat.le_of_ble_eq_true rfl⟩)) (fun r3 hr3 => ?_)
  exact W.iret (v := r3) hx hb hr (fun t ht hW => ⟨r3, rfl, trivial, ht⟩) (fun _ h => absurd h List.not_mem_nil) dX11_fault_8

set_option maxHeartbeats 4000000 in
set_option maxRecDepth 100000 in
theorem t_X11_many (l : Launch) (dC : Nat → ClassId) (dI : Nat → Nat → Nat) (sz : Nat) (G : GT) (cs : Nat → ClassId) (tt mm : Nat) (a0 : Nat) (ha0 : Ty G a0 11) (v1 : Int32) : Met l yX11_many [.code yX11_many cX11_many 2 (some .int)] ({ frames := 4, cells := 0, slots := 0, locals := 160 }) (PT [.ref a0, .int v1] sz dC dI G cs tt mm) (va_Qi (fun (r : Int32) (u : Nat → va_E) => True) (BT dC dI G cs tt mm) (AT G sz)) 0 0 (AT G sz) := by
  refine Met.ofW (cc := cX11_many) (maxL := 2) (ret := (some .int)) (by decide) rfl ?_
  intro p e s m args below meth c s₁ B hml hv
  obtain ⟨rfl, hsz, ⟨f0, hok, hP⟩, hK, hnd, hWT, hE⟩ := hv
  have hx := B.exec
  have hb := B.bytes
  have hr := B.returns
  have hown : s.vm.findClass RX11 = some m.cls := findClass_of_methodNamed B.named
  have hlocks := B.notSynchronized
  subst hsz
  have hAL : ∀ a, a ∈ gL G → AT G s.heap.size a := fun a h => Or.inl h
  have hA : ∀ q : Nat, s.heap.size ≤ q → AT G s.heap.size q := fun q h => Or.inr h
  have hS : va_S (AT G s.heap.size) s.heap s.heap [] := va_S.rf
  have hl := lv_entry ([.ref a0, .int v1]) (n := 2) (Nat.le_of_ble_eq_true rfl)
  rw [lg_entry_eq]
  generalize (lg_sl ([.ref a0, .int v1]) ++ List.replicate (2 - (lg_sl ([.ref a0, .int v1])).length) Slot.unset).toArray = ls at hl ⊢
  have hl : lv_has ls 2 [(0, .ref a0), (1, .int v1)] := hl
  refine lv_iload_n hx hb dX11_many_0 rfl (lv_at hl 1 rfl) ?_
  by_cases t1 : v1 = 0
  · refine lv_tableIn (tgt := 44) hx hb dX11_many_1 (by rw [t1]; decide) (by rw [t1]; decide) (by rw [t1]; rfl) (by decide) ?_
    refine lv_aload_n hx hb dX11_many_44 rfl (lv_at hl 0 rfl) ?_
    refine lv_aload_n hx hb dX11_many_45 rfl (lv_at hl 0 rfl) ?_
    obtain ⟨y5_2, he2⟩ := ok_X11 hok ha0
    refine th_get hx hb (ly_X11 hE) hown hK hP ha0.1 he2 rfl 0 (by decide) (wd_359 hE) (fun _ h9 => h9) rfl dX11_many_46 ?_
    have he3 := ok_X7 hok (wt_X11_0 hWT ha0)
    refine vp_callSi (va_Run.run (va_runV (As := []) (rest := [.ref a0]) ⟨hx, hb, hml, hown, noTs⟩ (t_X7_vertices l dC dI s.heap.size G cs tt mm (gR G a0 0) ((wt_X11_0 hWT ha0))) ⟨cbE 0 (wd_557 hE) (wd_116 hE) (wd_761 hE) rfl rfl (by decide +kernel) ⟨Nat.le_of_ble_eq_true rfl, Nat.le_of_ble_eq_true rfl⟩, (wd_555 hE), (wd_556 hE)⟩ ⟨PT.blind, th_recv hK hP (wt_X11_0 hWT ha0).1 he3 rfl, (th_pre (av := [.ref (gR G a0 0)]) hK hP hok hnd hWT hE)⟩ rfl rfl hl.1 rfl (lv_room (Nat.le_of_ble_eq_true rfl)) dX11_many_49 ⟨Nat.le_of_ble_eq_true rfl, Nat.le_of_ble_eq_true rfl⟩)) (fun r4 hr4 => ?_)
    refine tc_i hAL hS hA (va_runV (As := [.int r4]) (rest := []) ⟨hx, hb, hml, hown, noTs⟩ (t_X11_answer l dC dI s.heap.size G cs tt mm a0 ha0 r4) ⟨cbE 1 (wd_748 hE) (wd_115 hE) (wd_745 hE) rfl rfl (by decide +kernel) ⟨Nat.le_of_ble_eq_true rfl, Nat.le_of_ble_eq_true rfl⟩, (wd_747 hE), (wd_23 hE)⟩ ⟨PT.blind, th_recv hK hP ha0.1 he2 rfl, (th_pre (av := [.ref a0, .int r4]) hK hP hok hnd hWT hE)⟩ rfl rfl hl.1 rfl (lv_room (Nat.le_of_ble_eq_true rfl)) dX11_many_52 ⟨Nat.le_of_ble_eq_true rfl, Nat.le_of_ble_eq_true rfl⟩) (fun r5 f5 H locs hr5 hok hP hS => ?_)
    exact W.iret (v := r5) hx hb hr (fun t ht hW => ⟨⟨r5, f5, rfl, trivial, hok, by rw [ht]; exact hP⟩, hS.F ht⟩) hS.2.2 dX11_many_55
  by_cases t6 : v1 = 1
  · refine lv_tableIn (tgt := 56) hx hb dX11_many_1 (by rw [t6]; decide) (by rw [t6]; decide) (by rw [t6]; rfl) (by decide) ?_
    refine lv_aload_n hx hb dX11_many_56 rfl (lv_at hl 0 rfl) ?_
    refine lv_aload_n hx hb dX11_many_57 rfl (lv_at hl 0 rfl) ?_
    obtain ⟨y5_7, he7⟩ := ok_X11 hok ha0
    refine th_get hx hb (ly_X11 hE) hown hK hP ha0.1 he7 rfl 0 (by decide) (wd_359 hE) (fun _ h9 => h9) rfl dX11_many_58 ?_
    have he8 := ok_X7 hok (wt_X11_0 hWT ha0)
    refine vp_callSi (va_Run.run (va_runV (As := []) (rest := [.ref a0]) ⟨hx, hb, hml, hown, noTs⟩ (t_X7_edges l dC dI s.heap.size G cs tt mm (gR G a0 0) ((wt_X11_0 hWT ha0))) ⟨cbE 0 (wd_598 hE) (wd_116 hE) (wd_762 hE) rfl rfl (by decide +kernel) ⟨Nat.le_of_ble_eq_true rfl, Nat.le_of_ble_eq_true rfl⟩, (wd_596 hE), (wd_597 hE)⟩ ⟨PT.blind, th_recv hK hP (wt_X11_0 hWT ha0).1 he8 rfl, (th_pre (av := [.ref (gR G a0 0)]) hK hP hok hnd hWT hE)⟩ rfl rfl hl.1 rfl (lv_room (Nat.le_of_ble_eq_true rfl)) dX11_many_61 ⟨Nat.le_of_ble_eq_true rfl, Nat.le_of_ble_eq_true rfl⟩)) (fun r9 hr9 => ?_)
    refine tc_i hAL hS hA (va_runV (As := [.int r9]) (rest := []) ⟨hx, hb, hml, hown, noTs⟩ (t_X11_answer l dC dI s.heap.size G cs tt mm a0 ha0 r9) ⟨cbE 1 (wd_748 hE) (wd_115 hE) (wd_745 hE) rfl rfl (by decide +kernel) ⟨Nat.le_of_ble_eq_true rfl, Nat.le_of_ble_eq_true rfl⟩, (wd_747 hE), (wd_23 hE)⟩ ⟨PT.blind, th_recv hK hP ha0.1 he7 rfl, (th_pre (av := [.ref a0, .int r9]) hK hP hok hnd hWT hE)⟩ rfl rfl hl.1 rfl (lv_room (Nat.le_of_ble_eq_true rfl)) dX11_many_64 ⟨Nat.le_of_ble_eq_true rfl, Nat.le_of_ble_eq_true rfl⟩) (fun r10 f10 H locs hr10 hok hP hS => ?_)
    exact W.iret (v := r10) hx hb hr (fun t ht hW => ⟨⟨r10, f10, rfl, trivial, hok, by rw [ht]; exact hP⟩, hS.F ht⟩) hS.2.2 dX11_many_67
  by_cases t11 : v1 = 2
  · refine lv_tableIn (tgt := 68) hx hb dX11_many_1 (by rw [t11]; decide) (by rw [t11]; decide) (by rw [t11]; rfl) (by decide) ?_
    refine lv_aload_n hx hb dX11_many_68 rfl (lv_at hl 0 rfl) ?_
    refine lv_aload_n hx hb dX11_many_69 rfl (lv_at hl 0 rfl) ?_
    obtain ⟨y5_12, he12⟩ := ok_X11 hok ha0
    refine th_get hx hb (ly_X11 hE) hown hK hP ha0.1 he12 rfl 0 (by decide) (wd_359 hE) (fun _ h9 => h9) rfl dX11_many_70 ?_
    have he13 := ok_X7 hok (wt_X11_0 hWT ha0)
    refine vp_callSi (va_Run.run (va_runV (As := []) (rest := [.ref a0]) ⟨hx, hb, hml, hown, noTs⟩ (t_X7_words l dC dI s.heap.size G cs tt mm (gR G a0 0) ((wt_X11_0 hWT ha0))) ⟨cbE 0 (wd_700 hE) (wd_116 hE) (wd_744 hE) rfl rfl (by decide +kernel) ⟨Nat.le_of_ble_eq_true rfl, Nat.le_of_ble_eq_true rfl⟩, (wd_698 hE), (wd_699 hE)⟩ ⟨PT.blind, th_recv hK hP (wt_X11_0 hWT ha0).1 he13 rfl, (th_pre (av := [.ref (gR G a0 0)]) hK hP hok hnd hWT hE)⟩ rfl rfl hl.1 rfl (lv_room (Nat.le_of_ble_eq_true rfl)) dX11_many_73 ⟨Nat.le_of_ble_eq_true rfl, Nat.le_of_ble_eq_true rfl⟩)) (fun r14 hr14 => ?_)
    refine tc_i hAL hS hA (va_runV (As := [.int r14]) (rest := []) ⟨hx, hb, hml, hown, noTs⟩ (t_X11_answer l dC dI s.heap.size G cs tt mm a0 ha0 r14) ⟨cbE 1 (wd_748 hE) (wd_115 hE) (wd_745 hE) rfl rfl (by decide +kernel) ⟨Nat.le_of_ble_eq_true rfl, Nat.le_of_ble_eq_true rfl⟩, (wd_747 hE), (wd_23 hE)⟩ ⟨PT.blind, th_recv hK hP ha0.1 he12 rfl, (th_pre (av := [.ref a0, .int r14]) hK hP hok hnd hWT hE)⟩ rfl rfl hl.1 rfl (lv_room (Nat.le_of_ble_eq_true rfl)) dX11_many_76 ⟨Nat.le_of_ble_eq_true rfl, Nat.le_of_ble_eq_true rfl⟩) (fun r15 f15 H locs hr15 hok hP hS => ?_)
    exact W.iret (v := r15) hx hb hr (fun t ht hW => ⟨⟨r15, f15, rfl, trivial, hok, by rw [ht]; exact hP⟩, hS.F ht⟩) hS.2.2 dX11_many_79
  by_cases t16 : v1 = 3
  · refine lv_tableIn (tgt := 80) hx hb dX11_many_1 (by rw [t16]; decide) (by rw [t16]; decide) (by rw [t16]; rfl) (by decide) ?_
    refine lv_aload_n hx hb dX11_many_80 rfl (lv_at hl 0 rfl) ?_
    refine lv_aload_n hx hb dX11_many_81 rfl (lv_at hl 0 rfl) ?_
    obtain ⟨y5_17, he17⟩ := ok_X11 hok ha0
    refine th_get hx hb (ly_X11 hE) hown hK hP ha0.1 he17 rfl 1 (by decide) (wd_360 hE) (fun _ h9 => h9) rfl dX11_many_82 ?_
    obtain ⟨y1_18, y2_18, he18⟩ := ok_X3 hok (wt_X11_1 hWT ha0)
    refine vp_callSi (va_Run.run (va_runV (As := []) (rest := [.ref a0]) ⟨hx, hb, hml, hown, noTs⟩ (t_X3_size l dC dI s.heap.size G cs tt mm (gR G a0 1) ((wt_X11_1 hWT ha0))) ⟨cbE 0 (wd_766 hE) (wd_117 hE) (wd_763 hE) rfl rfl (by decide +kernel) ⟨Nat.le_of_ble_eq_true rfl, Nat.le_of_ble_eq_true rfl⟩, (wd_764 hE), (wd_765 hE)⟩ ⟨PT.blind, th_recv hK hP (wt_X11_1 hWT ha0).1 he18 rfl, (th_pre (av := [.ref (gR G a0 1)]) hK hP hok hnd hWT hE)⟩ rfl rfl hl.1 rfl (lv_room (Nat.le_of_ble_eq_true rfl)) dX11_many_85 ⟨Nat.le_of_ble_eq_true rfl, Nat.le_of_ble_eq_true rfl⟩)) (fun r19 hr19 => ?_)
    refine tc_i hAL hS hA (va_runV (As := [.int r19]) (rest := []) ⟨hx, hb, hml, hown, noTs⟩ (t_X11_answer l dC dI s.heap.size G cs tt mm a0 ha0 r19) ⟨cbE 1 (wd_748 hE) (wd_115 hE) (wd_745 hE) rfl rfl (by decide +kernel) ⟨Nat.le_of_ble_eq_true rfl, Nat.le_of_ble_eq_true rfl⟩, (wd_747 hE), (wd_23 hE)⟩ ⟨PT.blind, th_recv hK hP ha0.1 he17 rfl, (th_pre (av := [.ref a0, .int r19]) hK hP hok hnd hWT hE)⟩ rfl rfl hl.1 rfl (lv_room (Nat.le_of_ble_eq_true rfl)) dX11_many_88 ⟨Nat.le_of_ble_eq_true rfl, Nat.le_of_ble_eq_true rfl⟩) (fun r20 f20 H locs hr20 hok hP hS => ?_)
    exact W.iret (v := r20) hx hb hr (fun t ht hW => ⟨⟨r20, f20, rfl, trivial, hok, by rw [ht]; exact hP⟩, hS.F ht⟩) hS.2.2 dX11_many_91
  by_cases t21 : v1 = 4
  · refine lv_tableIn (tgt := 92) hx hb dX11_many_1 (by rw [t21]; decide) (by rw [t21]; decide) (by rw [t21]; rfl) (by decide) ?_
    refine lv_aload_n hx hb dX11_many_92 rfl (lv_at hl 0 rfl) ?_
    refine lv_aload_n hx hb dX11_many_93 rfl (lv_at hl 0 rfl) ?_
    obtain ⟨y5_22, he22⟩ := ok_X11 hok ha0
    refine th_get hx hb (ly_X11 hE) hown hK hP ha0.1 he22 rfl 4 (by decide) (wd_363 hE) (fun _ h9 => h9) rfl dX11_many_94 ?_
    refine tc_i hAL hS hA (va_runV (As := [.int (nI mm)]) (rest := []) ⟨hx, hb, hml, hown, noTs⟩ (t_X11_answer l dC dI s.heap.size G cs tt mm a0 ha0 (nI mm)) ⟨cbE 1 (wd_748 hE) (wd_115 hE) (wd_745 hE) rfl rfl (by decide +kernel) ⟨Nat.le_of_ble_eq_true rfl, Nat.le_of_ble_eq_true rfl⟩, (wd_747 hE), (wd_23 hE)⟩ ⟨PT.blind, th_recv hK hP ha0.1 he22 rfl, (th_pre (av := [.ref a0, .int (nI mm)]) hK hP hok hnd hWT hE)⟩ rfl rfl hl.1 rfl (lv_room (Nat.le_of_ble_eq_true rfl)) dX11_many_97 ⟨Nat.le_of_ble_eq_true rfl, Nat.le_of_ble_eq_true rfl⟩) (fun r23 f23 H locs hr23 hok hP hS => ?_)
    exact W.iret (v := r23) hx hb hr (fun t ht hW => ⟨⟨r23, f23, rfl, trivial, hok, by rw [ht]; exact hP⟩, hS.F ht⟩) hS.2.2 dX11_many_100
  by_cases t24 : v1 = 5
  · refine lv_tableIn (tgt := 101) hx hb dX11_many_1 (by rw [t24]; decide) (by rw [t24]; decide) (by rw [t24]; rfl) (by decide) ?_
    refine lv_aload_n hx hb dX11_many_101 rfl (lv_at hl 0 rfl) ?_
    refine lv_aload_n hx hb dX11_many_102 rfl (lv_at hl 0 rfl) ?_
    obtain ⟨y5_25, he25⟩ := ok_X11 hok ha0
    refine th_get hx hb (ly_X11 hE) hown hK hP ha0.1 he25 rfl 0 (by decide) (wd_359 hE) (fun _ h9 => h9) rfl dX11_many_103 ?_
    have he26 := ok_X7 hok (wt_X11_0 hWT ha0)
    refine vp_callSi (va_Run.run (va_runV (As := []) (rest := [.ref a0]) ⟨hx, hb, hml, hown, noTs⟩ (t_X7_edges l dC dI s.heap.size G cs tt mm (gR G a0 0) ((wt_X11_0 hWT ha0))) ⟨cbE 0 (wd_598 hE) (wd_116 hE) (wd_762 hE) rfl rfl (by decide +kernel) ⟨Nat.le_of_ble_eq_true rfl, Nat.le_of_ble_eq_true rfl⟩, (wd_596 hE), (wd_597 hE)⟩ ⟨PT.blind, th_recv hK hP (wt_X11_0 hWT ha0).1 he26 rfl, (th_pre (av := [.ref (gR G a0 0)]) hK hP hok hnd hWT hE)⟩ rfl rfl hl.1 rfl (lv_room (Nat.le_of_ble_eq_true rfl)) dX11_many_106 ⟨Nat.le_of_ble_eq_true rfl, Nat.le_of_ble_eq_true rfl⟩)) (fun r27 hr27 => ?_)
    refine lv_aload_n hx hb dX11_many_109 rfl (lv_at hl 0 rfl) ?_
    refine th_get hx hb (ly_X11 hE) hown hK hP ha0.1 he25 rfl 0 (by decide) (wd_359 hE) (fun _ h9 => h9) rfl dX11_many_110 ?_
    refine vp_callSi (va_Run.run (va_runV (As := []) (rest := [.int r27, .ref a0]) ⟨hx, hb, hml, hown, noTs⟩ (t_X7_vertices l dC dI s.heap.size G cs tt mm (gR G a0 0) ((wt_X11_0 hWT ha0))) ⟨cbE 0 (wd_557 hE) (wd_116 hE) (wd_761 hE) rfl rfl (by decide +kernel) ⟨Nat.le_of_ble_eq_true rfl, Nat.le_of_ble_eq_true rfl⟩, (wd_555 hE), (wd_556 hE)⟩ ⟨PT.blind, th_recv hK hP (wt_X11_0 hWT ha0).1 he26 rfl, (th_pre (av := [.ref (gR G a0 0)]) hK hP hok hnd hWT hE)⟩ rfl rfl hl.1 rfl (lv_room (Nat.le_of_ble_eq_true rfl)) dX11_many_113 ⟨Nat.le_of_ble_eq_true rfl, Nat.le_of_ble_eq_true rfl⟩)) (fun r28 hr28 => ?_)
    refine lv_isub hx hb dX11_many_116 ?_
    refine lv_topi (fun x29 _ => ?_)
    refine lv_aload_n hx hb dX11_many_117 rfl (lv_at hl 0 rfl) ?_
    refine th_get hx hb (ly_X11 hE) hown hK hP ha0.1 he25 rfl 17 (by decide) (wd_376 hE) (fun _ h9 => h9) rfl dX11_many_118 ?_
    refine lv_aload_n hx hb dX11_many_121 rfl (lv_at hl 0 rfl) ?_
    refine th_get hx hb (ly_X11 hE) hown hK hP ha0.1 he25 rfl 0 (by decide) (wd_359 hE) (fun _ h9 => h9) rfl dX11_many_122 ?_
    obtain ⟨y1_30, y2_30, he30⟩ := ok_X6 hok (wt_X11_17 hWT ha0)
    refine tc_i hAL hS hA (va_runV (As := [.ref (gR G a0 0)]) (rest := [.int x29, .ref a0]) ⟨hx, hb, hml, hown, noTs⟩ (t_X6_parts l dC dI s.heap.size G cs tt mm (gR G a0 17) ((wt_X11_17 hWT ha0)) (gR G a0 0) ((wt_X11_0 hWT ha0))) ⟨cbE 1 (wd_770 hE) (wd_124 hE) (wd_767 hE) rfl rfl (by decide +kernel) ⟨Nat.le_of_ble_eq_true rfl, Nat.le_of_ble_eq_true rfl⟩, (wd_768 hE), (wd_769 hE)⟩ ⟨PT.blind, th_recv hK hP (wt_X11_17 hWT ha0).1 he30 rfl, (th_pre (av := [.ref (gR G a0 17), .ref (gR G a0 0)]) hK hP hok hnd hWT hE)⟩ rfl rfl hl.1 rfl (lv_room (Nat.le_of_ble_eq_true rfl)) dX11_many_125 ⟨Nat.le_of_ble_eq_true rfl, Nat.le_of_ble_eq_true rfl⟩) (fun r31 f31 H locs hr31 hok hP hS => ?_)
    refine lv_iadd hx hb dX11_many_128 ?_
    refine lv_topi (fun x32 _ => ?_)
    obtain ⟨y5_33, he33⟩ := ok_X11 hok ha0
    refine tc_i hAL hS hA (va_runV (As := [.int x32]) (rest := []) ⟨hx, hb, hml, hown, noTs⟩ (t_X11_answer l dC dI H.size G cs tt mm a0 ha0 x32) ⟨cbE 1 (wd_748 hE) (wd_115 hE) (wd_745 hE) rfl rfl (by decide +kernel) ⟨Nat.le_of_ble_eq_true rfl, Nat.le_of_ble_eq_true rfl⟩, (wd_747 hE), (wd_23 hE)⟩ ⟨PT.blind, th_recv hK hP ha0.1 he33 rfl, (th_pre (av := [.ref a0, .int x32]) hK hP hok hnd hWT hE)⟩ rfl rfl hl.1 rfl (lv_room (Nat.le_of_ble_eq_true rfl)) dX11_many_129 ⟨Nat.le_of_ble_eq_true rfl, Nat.le_of_ble_eq_true rfl⟩) (fun r34 f34 H locs hr34 hok hP hS => ?_)
    exact W.iret (v := r34) hx hb hr (fun t ht hW => ⟨⟨r34, f34, rfl, trivial, hok, by rw [ht]; exact hP⟩, hS.F ht⟩) hS.2.2 dX11_many_132
  by_cases t35 : v1 = 6
  · refine lv_tableIn (tgt := 133) hx hb dX11_many_1 (by rw [t35]; decide) (by rw [t35]; decide) (by rw [t35]; rfl) (by decide) ?_
    refine lv_aload_n hx hb dX11_many_133 rfl (lv_at hl 0 rfl) ?_
    refine lv_aload_n hx hb dX11_many_134 rfl (lv_at hl 0 rfl) ?_
    obtain ⟨y5_36, he36⟩ := ok_X11 hok ha0
    refine th_get hx hb (ly_X11 hE) hown hK hP ha0.1 he36 rfl 17 (by decide) (wd_376 hE) (fun _ h9 => h9) rfl dX11_many_135 ?_
    refine lv_aload_n hx hb dX11_many_138 rfl (lv_at hl 0 rfl) ?_
    refine th_get hx hb (ly_X11 hE) hown hK hP ha0.1 he36 rfl 0 (by decide) (wd_359 hE) (fun _ h9 => h9) rfl dX11_many_139 ?_
    obtain ⟨y1_37, y2_37, he37⟩ := ok_X6 hok (wt_X11_17 hWT ha0)
    refine tc_i hAL hS hA (va_runV (As := [.ref (gR G a0 0)]) (rest := [.ref a0]) ⟨hx, hb, hml, hown, noTs⟩ (t_X6_parts l dC dI s.heap.size G cs tt mm (gR G a0 17) ((wt_X11_17 hWT ha0)) (gR G a0 0) ((wt_X11_0 hWT ha0))) ⟨cbE 1 (wd_770 hE) (wd_124 hE) (wd_767 hE) rfl rfl (by decide +kernel) ⟨Nat.le_of_ble_eq_true rfl, Nat.le_of_ble_eq_true rfl⟩, (wd_768 hE), (wd_769 hE)⟩ ⟨PT.blind, th_recv hK hP (wt_X11_17 hWT ha0).1 he37 rfl, (th_pre (av := [.ref (gR G a0 17), .ref (gR G a0 0)]) hK hP hok hnd hWT hE)⟩ rfl rfl hl.1 rfl (lv_room (Nat.le_of_ble_eq_true rfl)) dX11_many_142 ⟨Nat.le_of_ble_eq_true rfl, Nat.le_of_ble_eq_true rfl⟩) (fun r38 f38 H locs hr38 hok hP hS => ?_)
    obtain ⟨y5_39, he39⟩ := ok_X11 hok ha0
    refine tc_i hAL hS hA (va_runV (As := [.int r38]) (rest := []) ⟨hx, hb, hml, hown, noTs⟩ (t_X11_answer l dC dI H.size G cs tt mm a0 ha0 r38) ⟨cbE 1 (wd_748 hE) (wd_115 hE) (wd_745 hE) rfl rfl (by decide +kernel) ⟨Nat.le_of_ble_eq_true rfl, Nat.le_of_ble_eq_true rfl⟩, (wd_747 hE), (wd_23 hE)⟩ ⟨PT.blind, th_recv hK hP ha0.1 he39 rfl, (th_pre (av := [.ref a0, .int r38]) hK hP hok hnd hWT hE)⟩ rfl rfl hl.1 rfl (lv_room (Nat.le_of_ble_eq_true rfl)) dX11_many_145 ⟨Nat.le_of_ble_eq_true rfl, Nat.le_of_ble_eq_true rfl⟩) (fun r40 f40 H locs hr40 hok hP hS => ?_)
    exact W.iret (v := r40) hx hb hr (fun t ht hW => ⟨⟨r40, f40, rfl, trivial, hok, by rw [ht]; exact hP⟩, hS.F ht⟩) hS.2.2 dX11_many_148
  have hT41 : v1.toInt < 0 ∨ 6 < v1.toInt := by simp only [i_eq, ti_m9, ti_m1, ti_0, ti_1, ti_2, ti_3, ti_4, ti_5, ti_6, ti_7, ti_9, ti_12, ti_20, ti_99, ti_700] at t1 t6 t11 t16 t21 t24 t35; omega
  refine lv_tableOut (tgt := 149) hx hb dX11_many_1 hT41 (by decide) ?_
  refine lv_aload_n hx hb dX11_many_149 rfl (lv_at hl 0 rfl) ?_
  refine lv_iconst (v := 1) hx hb dX11_many_150 (by decide) ?_
  obtain ⟨y5_42, he42⟩ := ok_X11 hok ha0
  refine tc_i hAL hS hA (va_runV (As := [.int 1]) (rest := []) ⟨hx, hb, hml, hown, noTs⟩ (t_X11_fail l dC dI s.heap.size G cs tt mm a0 ha0 1) ⟨cbE 1 (wd_436 hE) (wd_115 hE) (wd_433 hE) rfl rfl (by decide +kernel) ⟨Nat.le_of_ble_eq_true rfl, Nat.le_of_ble_eq_true rfl⟩, (wd_435 hE), (wd_1 hE)⟩ ⟨PT.blind, th_recv hK hP ha0.1 he42 rfl, (th_pre (av := [.ref a0, .int 1]) hK hP hok hnd hWT hE)⟩ rfl rfl hl.1 rfl (lv_room (Nat.le_of_ble_eq_true rfl)) dX11_many_151 ⟨Nat.le_of_ble_eq_true rfl, Nat.le_of_ble_eq_true rfl⟩) (fun r43 f43 H locs hr43 hok hP hS => ?_)
  exact W.iret (v := r43) hx hb hr (fun t ht hW => ⟨⟨r43, f43, rfl, trivial, hok, by rw [ht]; exact hP⟩, hS.F ht⟩) hS.2.2 dX11_many_154

set_option maxHeartbeats 4000000 in
set_option maxRecDepth 100000 in
theorem t_X11_order (l : Launch) (dC : Nat → ClassId) (dI : Nat → Nat → Nat) (sz : Nat) (G : GT) (cs : Nat → ClassId) (tt mm : Nat) (a0 : Nat) (ha0 : Ty G a0 11) (v1 : Int32) : Met l yX11_order [.code yX11_order cX11_order 2 (some .int)] ({ frames := 1, cells := 0, slots := 0, locals := 40 }) (PT [.ref a0, .int v1] sz dC dI G cs tt mm) (va_Qi (fun (r : Int32) (u : Nat → va_E) => True) (BT dC dI G cs tt mm) (AT G sz)) 0 0 (AT G sz) := by
  refine Met.ofW (cc := cX11_order) (maxL := 2) (ret := (some .int)) (by decide) rfl ?_
  intro p e s m args below meth c s₁ B hml hv
  obtain ⟨rfl, hsz, ⟨f0, hok, hP⟩, hK, hnd, hWT, hE⟩ := hv
  have hx := B.exec
  have hb := B.bytes
  have hr := B.returns
  have hown : s.vm.findClass RX11 = some m.cls := findClass_of_methodNamed B.named
  have hlocks := B.notSynchronized
  subst hsz
  have hAL : ∀ a, a ∈ gL G → AT G s.heap.size a := fun a h => Or.inl h
  have hA : ∀ q : Nat, s.heap.size ≤ q → AT G s.heap.size q := fun q h => Or.inr h
  have hS : va_S (AT G s.heap.size) s.heap s.heap [] := va_S.rf
  have hl := lv_entry ([.ref a0, .int v1]) (n := 2) (Nat.le_of_ble_eq_true rfl)
  rw [lg_entry_eq]
  generalize (lg_sl ([.ref a0, .int v1]) ++ List.replicate (2 - (lg_sl ([.ref a0, .int v1])).length) Slot.unset).toArray = ls at hl ⊢
  have hl : lv_has ls 2 [(0, .ref a0), (1, .int v1)] := hl
  refine lv_aload_n hx hb dX11_order_0 rfl (lv_at hl 0 rfl) ?_
  obtain ⟨y5_1, he1⟩ := ok_X11 hok ha0
  refine th_get hx hb (ly_X11 hE) hown hK hP ha0.1 he1 rfl 0 (by decide) (wd_359 hE) (fun _ h9 => h9) rfl dX11_order_1 ?_
  refine lv_iload_n hx hb dX11_order_4 rfl (lv_at hl 1 rfl) ?_
  have he2 := ok_X7 hok (wt_X11_0 hWT ha0)
  refine vp_callSi (va_Run.run (va_runV (As := [.int v1]) (rest := []) ⟨hx, hb, hml, hown, noTs⟩ (t_X7_hasVertex l dC dI s.heap.size G cs tt mm (gR G a0 0) ((wt_X11_0 hWT ha0)) v1) ⟨cbE 1 (wd_606 hE) (wd_116 hE) (wd_796 hE) rfl rfl (by decide +kernel) ⟨Nat.le_of_ble_eq_true rfl, Nat.le_of_ble_eq_true rfl⟩, (wd_604 hE), (wd_605 hE)⟩ ⟨PT.blind, th_recv hK hP (wt_X11_0 hWT ha0).1 he2 rfl, (th_pre (av := [.ref (gR G a0 0), .int v1]) hK hP hok hnd hWT hE)⟩ rfl rfl hl.1 rfl (lv_room (Nat.le_of_ble_eq_true rfl)) dX11_order_5 ⟨Nat.le_of_ble_eq_true rfl, Nat.le_of_ble_eq_true rfl⟩)) (fun r3 hr3 => ?_)
  refine lv_if_eq (tgt := 26) hx hb dX11_order_8 (by decide) (fun c4 => ?_) (fun c4 => ?_)
  · refine lv_aload_n hx hb dX11_order_26 rfl (lv_at hl 0 rfl) ?_
    refine lv_iconst (v := 2) hx hb dX11_order_27 (by decide) ?_
    refine tc_i hAL hS hA (va_runV (As := [.int 2]) (rest := []) ⟨hx, hb, hml, hown, noTs⟩ (t_X11_fail l dC dI s.heap.size G cs tt mm a0 ha0 2) ⟨cbE 1 (wd_436 hE) (wd_115 hE) (wd_433 hE) rfl rfl (by decide +kernel) ⟨Nat.le_of_ble_eq_true rfl, Nat.le_of_ble_eq_true rfl⟩, (wd_435 hE), (wd_1 hE)⟩ ⟨PT.blind, th_recv hK hP ha0.1 he1 rfl, (th_pre (av := [.ref a0, .int 2]) hK hP hok hnd hWT hE)⟩ rfl rfl hl.1 rfl (lv_room (Nat.le_of_ble_eq_true rfl)) dX11_order_28 ⟨Nat.le_of_ble_eq_true rfl, Nat.le_of_ble_eq_true rfl⟩) (fun r5 f5 H locs hr5 hok hP hS => ?_)
    exact W.iret (v := r5) hx hb hr (fun t ht hW => ⟨⟨r5, f5, rfl, trivial, hok, by rw [ht]; exact hP⟩, hS.F ht⟩) hS.2.2 dX11_order_31
  · refine lv_aload_n hx hb dX11_order_11 rfl (lv_at hl 0 rfl) ?_
    refine lv_aload_n hx hb dX11_order_12 rfl (lv_at hl 0 rfl) ?_
    refine th_get hx hb (ly_X11 hE) hown hK hP ha0.1 he1 rfl 0 (by decide) (wd_359 hE) (fun _ h9 => h9) rfl dX11_order_13 ?_
    refine lv_iload_n hx hb dX11_order_16 rfl (lv_at hl 1 rfl) ?_
    refine vp_callSi (va_Run.run (va_runV (As := [.int v1]) (rest := [.ref a0]) ⟨hx, hb, hml, hown, noTs⟩ (t_X7_orderAt l dC dI s.heap.size G cs tt mm (gR G a0 0) ((wt_X11_0 hWT ha0)) v1) ⟨cbE 1 (wd_614 hE) (wd_116 hE) (wd_797 hE) rfl rfl (by decide +kernel) ⟨Nat.le_of_ble_eq_true rfl, Nat.le_of_ble_eq_true rfl⟩, (wd_612 hE), (wd_613 hE)⟩ ⟨PT.blind, th_recv hK hP (wt_X11_0 hWT ha0).1 he2 rfl, (th_pre (av := [.ref (gR G a0 0), .int v1]) hK hP hok hnd hWT hE)⟩ rfl rfl hl.1 rfl (lv_room (Nat.le_of_ble_eq_true rfl)) dX11_order_17 ⟨Nat.le_of_ble_eq_true rfl, Nat.le_of_ble_eq_true rfl⟩)) (fun r6 hr6 => ?_)
    refine tc_i hAL hS hA (va_runV (As := [.int r6]) (rest := []) ⟨hx, hb, hml, hown, noTs⟩ (t_X11_answer l dC dI s.heap.size G cs tt mm a0 ha0 r6) ⟨cbE 1 (wd_748 hE) (wd_115 hE) (wd_745 hE) rfl rfl (by decide +kernel) ⟨Nat.le_of_ble_eq_true rfl, Nat.le_of_ble_eq_true rfl⟩, (wd_747 hE), (wd_23 hE)⟩ ⟨PT.blind, th_recv hK hP ha0.1 he1 rfl, (th_pre (av := [.ref a0, .int r6]) hK hP hok hnd hWT hE)⟩ rfl rfl hl.1 rfl (lv_room (Nat.le_of_ble_eq_true rfl)) dX11_order_20 ⟨Nat.le_of_ble_eq_true rfl, Nat.le_of_ble_eq_true rfl⟩) (fun r7 f7 H locs hr7 hok hP hS => ?_)
    refine lv_goto (tgt := 31) hx hb dX11_order_23 (by decide) ?_
    exact W.iret (v := r7) hx hb hr (fun t ht hW => ⟨⟨r7, f7, rfl, trivial, hok, by rw [ht]; exact hP⟩, hS.F ht⟩) hS.2.2 dX11_order_31

set_option maxHeartbeats 4000000 in
set_option maxRecDepth 100000 in
theorem t_X11_edge (l : Launch) (dC : Nat → ClassId) (dI : Nat → Nat → Nat) (sz : Nat) (G : GT) (cs : Nat → ClassId) (tt mm : Nat) (a0 : Nat) (ha0 : Ty G a0 11) (v1 : Int32) (v2 : Int32) : Met l yX11_edge [.code yX11_edge cX11_edge 3 (some .int)] ({ frames := 2, cells := 0, slots := 0, locals := 80 }) (PT [.ref a0, .int v1, .int v2] sz dC dI G cs tt mm) (va_Qi (fun (r : Int32) (u : Nat → va_E) => True) (BT dC dI G cs tt mm) (AT G sz)) 0 0 (AT G sz) := by
  refine Met.ofW (cc := cX11_edge) (maxL := 3) (ret := (some .int)) (by decide) rfl ?_
  intro p e s m args below meth c s₁ B hml hv
  obtain ⟨rfl, hsz, ⟨f0, hok, hP⟩, hK, hnd, hWT, hE⟩ := hv
  have hx := B.exec
  have hb := B.bytes
  have hr := B.returns
  have hown : s.vm.findClass RX11 = some m.cls := findClass_of_methodNamed B.named
  have hlocks := B.notSynchronized
  subst hsz
  have hAL : ∀ a, a ∈ gL G → AT G s.heap.size a := fun a h => Or.inl h
  have hA : ∀ q : Nat, s.heap.size ≤ q → AT G s.heap.size q := fun q h => Or.inr h
  have hS : va_S (AT G s.heap.size) s.heap s.heap [] := va_S.rf
  have hl := lv_entry ([.ref a0, .int v1, .int v2]) (n := 3) (Nat.le_of_ble_eq_true rfl)
  rw [lg_entry_eq]
  generalize (lg_sl ([.ref a0, .int v1, .int v2]) ++ List.replicate (3 - (lg_sl ([.ref a0, .int v1, .int v2])).length) Slot.unset).toArray = ls at hl ⊢
  have hl : lv_has ls 3 [(0, .ref a0), (1, .int v1), (2, .int v2)] := hl
  refine lv_iload_n hx hb dX11_edge_0 rfl (lv_at hl 2 rfl) ?_
  refine lv_if_lt (tgt := 9) hx hb dX11_edge_1 (by decide) (fun c1 => ?_) (fun c1 => ?_)
  · refine lv_aload_n hx hb dX11_edge_9 rfl (lv_at hl 0 rfl) ?_
    refine lv_iconst (v := 1) hx hb dX11_edge_10 (by decide) ?_
    obtain ⟨y5_2, he2⟩ := ok_X11 hok ha0
    refine tc_i hAL hS hA (va_runV (As := [.int 1]) (rest := []) ⟨hx, hb, hml, hown, noTs⟩ (t_X11_fail l dC dI s.heap.size G cs tt mm a0 ha0 1) ⟨cbE 1 (wd_436 hE) (wd_115 hE) (wd_433 hE) rfl rfl (by decide +kernel) ⟨Nat.le_of_ble_eq_true rfl, Nat.le_of_ble_eq_true rfl⟩, (wd_435 hE), (wd_1 hE)⟩ ⟨PT.blind, th_recv hK hP ha0.1 he2 rfl, (th_pre (av := [.ref a0, .int 1]) hK hP hok hnd hWT hE)⟩ rfl rfl hl.1 rfl (lv_room (Nat.le_of_ble_eq_true rfl)) dX11_edge_11 ⟨Nat.le_of_ble_eq_true rfl, Nat.le_of_ble_eq_true rfl⟩) (fun r3 f3 H locs hr3 hok hP hS => ?_)
    exact W.iret (v := r3) hx hb hr (fun t ht hW => ⟨⟨r3, f3, rfl, trivial, hok, by rw [ht]; exact hP⟩, hS.F ht⟩) hS.2.2 dX11_edge_14
  · refine lv_iload_n hx hb dX11_edge_4 rfl (lv_at hl 2 rfl) ?_
    refine lv_iconst (v := 4) hx hb dX11_edge_5 (by decide) ?_
    refine lv_icmp_le (tgt := 15) hx hb dX11_edge_6 (by decide) (fun c4 => ?_) (fun c4 => ?_)
    · refine lv_aload_n hx hb dX11_edge_15 rfl (lv_at hl 0 rfl) ?_
      obtain ⟨y5_5, he5⟩ := ok_X11 hok ha0
      refine th_get hx hb (ly_X11 hE) hown hK hP ha0.1 he5 rfl 0 (by decide) (wd_359 hE) (fun _ h9 => h9) rfl dX11_edge_16 ?_
      refine lv_iload_n hx hb dX11_edge_19 rfl (lv_at hl 1 rfl) ?_
      have he6 := ok_X7 hok (wt_X11_0 hWT ha0)
      refine vp_callSi (va_Run.run (va_runV (As := [.int v1]) (rest := []) ⟨hx, hb, hml, hown, noTs⟩ (t_X7_hasEdge l dC dI s.heap.size G cs tt mm (gR G a0 0) ((wt_X11_0 hWT ha0)) v1) ⟨cbE 1 (wd_673 hE) (wd_116 hE) (wd_802 hE) rfl rfl (by decide +kernel) ⟨Nat.le_of_ble_eq_true rfl, Nat.le_of_ble_eq_true rfl⟩, (wd_671 hE), (wd_672 hE)⟩ ⟨PT.blind, th_recv hK hP (wt_X11_0 hWT ha0).1 he6 rfl, (th_pre (av := [.ref (gR G a0 0), .int v1]) hK hP hok hnd hWT hE)⟩ rfl rfl hl.1 rfl (lv_room (Nat.le_of_ble_eq_true rfl)) dX11_edge_20 ⟨Nat.le_of_ble_eq_true rfl, Nat.le_of_ble_eq_true rfl⟩)) (fun r7 hr7 => ?_)
      refine lv_if_ne (tgt := 32) hx hb dX11_edge_23 (by decide) (fun c8 => ?_) (fun c8 => ?_)
      · refine lv_aload_n hx hb dX11_edge_32 rfl (lv_at hl 0 rfl) ?_
        refine lv_iload_n hx hb dX11_edge_33 rfl (lv_at hl 2 rfl) ?_
        refine lv_iconst (v := 4) hx hb dX11_edge_34 (by decide) ?_
        refine lv_icmp_ne (tgt := 49) hx hb dX11_edge_35 (by decide) (fun c9 => ?_) (fun c9 => ?_)
        · refine lv_aload_n hx hb dX11_edge_49 rfl (lv_at hl 0 rfl) ?_
          refine th_get hx hb (ly_X11 hE) hown hK hP ha0.1 he5 rfl 0 (by decide) (wd_359 hE) (fun _ h9 => h9) rfl dX11_edge_50 ?_
          refine lv_iload_n hx hb dX11_edge_53 rfl (lv_at hl 1 rfl) ?_
          refine lv_iload_n hx hb dX11_edge_54 rfl (lv_at hl 2 rfl) ?_
          refine vp_callSi (va_Run.run (va_runV (As := [.int v1, .int v2]) (rest := [.ref a0]) ⟨hx, hb, hml, hown, noTs⟩ (t_X7_edgePart l dC dI s.heap.size G cs tt mm (gR G a0 0) ((wt_X11_0 hWT ha0)) v1 v2) ⟨cbE 2 (wd_684 hE) (wd_116 hE) (wd_809 hE) rfl rfl (by decide +kernel) ⟨Nat.le_of_ble_eq_true rfl, Nat.le_of_ble_eq_true rfl⟩, (wd_682 hE), (wd_683 hE)⟩ ⟨PT.blind, th_recv hK hP (wt_X11_0 hWT ha0).1 he6 rfl, (th_pre (av := [.ref (gR G a0 0), .int v1, .int v2]) hK hP hok hnd hWT hE)⟩ rfl rfl hl.1 rfl (lv_room (Nat.le_of_ble_eq_true rfl)) dX11_edge_55 ⟨Nat.le_of_ble_eq_true rfl, Nat.le_of_ble_eq_true rfl⟩)) (fun r10 hr10 => ?_)
          refine tc_i hAL hS hA (va_runV (As := [.int r10]) (rest := []) ⟨hx, hb, hml, hown, noTs⟩ (t_X11_answer l dC dI s.heap.size G cs tt mm a0 ha0 r10) ⟨cbE 1 (wd_748 hE) (wd_115 hE) (wd_745 hE) rfl rfl (by decide +kernel) ⟨Nat.le_of_ble_eq_true rfl, Nat.le_of_ble_eq_true rfl⟩, (wd_747 hE), (wd_23 hE)⟩ ⟨PT.blind, th_recv hK hP ha0.1 he5 rfl, (th_pre (av := [.ref a0, .int r10]) hK hP hok hnd hWT hE)⟩ rfl rfl hl.1 rfl (lv_room (Nat.le_of_ble_eq_true rfl)) dX11_edge_58 ⟨Nat.le_of_ble_eq_true rfl, Nat.le_of_ble_eq_true rfl⟩) (fun r11 f11 H locs hr11 hok hP hS => ?_)
          exact W.iret (v := r11) hx hb hr (fun t ht hW => ⟨⟨r11, f11, rfl, trivial, hok, by rw [ht]; exact hP⟩, hS.F ht⟩) hS.2.2 dX11_edge_61
        · refine lv_aload_n hx hb dX11_edge_38 rfl (lv_at hl 0 rfl) ?_
          refine th_get hx hb (ly_X11 hE) hown hK hP ha0.1 he5 rfl 0 (by decide) (wd_359 hE) (fun _ h9 => h9) rfl dX11_edge_39 ?_
          refine lv_iload_n hx hb dX11_edge_42 rfl (lv_at hl 1 rfl) ?_
          refine vp_callSi (va_Run.run (va_runV (As := [.int v1]) (rest := [.ref a0]) ⟨hx, hb, hml, hown, noTs⟩ (t_X7_common l dC dI s.heap.size G cs tt mm (gR G a0 0) ((wt_X11_0 hWT ha0)) v1) ⟨cbE 1 (wd_806 hE) (wd_116 hE) (wd_803 hE) rfl rfl (by decide +kernel) ⟨Nat.le_of_ble_eq_true rfl, Nat.le_of_ble_eq_true rfl⟩, (wd_804 hE), (wd_805 hE)⟩ ⟨PT.blind, th_recv hK hP (wt_X11_0 hWT ha0).1 he6 rfl, (th_pre (av := [.ref (gR G a0 0), .int v1]) hK hP hok hnd hWT hE)⟩ rfl rfl hl.1 rfl (lv_room (Nat.le_of_ble_eq_true rfl)) dX11_edge_43 ⟨Nat.le_of_ble_eq_true rfl, Nat.le_of_ble_eq_true rfl⟩)) (fun r12 hr12 => ?_)
          refine lv_goto (tgt := 58) hx hb dX11_edge_46 (by decide) ?_
          refine tc_i hAL hS hA (va_runV (As := [.int r12]) (rest := []) ⟨hx, hb, hml, hown, noTs⟩ (t_X11_answer l dC dI s.heap.size G cs tt mm a0 ha0 r12) ⟨cbE 1 (wd_748 hE) (wd_115 hE) (wd_745 hE) rfl rfl (by decide +kernel) ⟨Nat.le_of_ble_eq_true rfl, Nat.le_of_ble_eq_true rfl⟩, (wd_747 hE), (wd_23 hE)⟩ ⟨PT.blind, th_recv hK hP ha0.1 he5 rfl, (th_pre (av := [.ref a0, .int r12]) hK hP hok hnd hWT hE)⟩ rfl rfl hl.1 rfl (lv_room (Nat.le_of_ble_eq_true rfl)) dX11_edge_58 ⟨Nat.le_of_ble_eq_true rfl, Nat.le_of_ble_eq_true rfl⟩) (fun r13 f13 H locs hr13 hok hP hS => ?_)
          exact W.iret (v := r13) hx hb hr (fun t ht hW => ⟨⟨r13, f13, rfl, trivial, hok, by rw [ht]; exact hP⟩, hS.F ht⟩) hS.2.2 dX11_edge_61
      · refine lv_aload_n hx hb dX11_edge_26 rfl (lv_at hl 0 rfl) ?_
        refine lv_iconst (v := 2) hx hb dX11_edge_27 (by decide) ?_
        refine tc_i hAL hS hA (va_runV (As := [.int 2]) (rest := []) ⟨hx, hb, hml, hown, noTs⟩ (t_X11_fail l dC dI s.heap.size G cs tt mm a0 ha0 2) ⟨cbE 1 (wd_436 hE) (wd_115 hE) (wd_433 hE) rfl rfl (by decide +kernel) ⟨Nat.le_of_ble_eq_true rfl, Nat.le_of_ble_eq_true rfl⟩, (wd_435 hE), (wd_1 hE)⟩ ⟨PT.blind, th_recv hK hP ha0.1 he5 rfl, (th_pre (av := [.ref a0, .int 2]) hK hP hok hnd hWT hE)⟩ rfl rfl hl.1 rfl (lv_room (Nat.le_of_ble_eq_true rfl)) dX11_edge_28 ⟨Nat.le_of_ble_eq_true rfl, Nat.le_of_ble_eq_true rfl⟩) (fun r14 f14 H locs hr14 hok hP hS => ?_)
        exact W.iret (v := r14) hx hb hr (fun t ht hW => ⟨⟨r14, f14, rfl, trivial, hok, by rw [ht]; exact hP⟩, hS.F ht⟩) hS.2.2 dX11_edge_31
    · refine lv_aload_n hx hb dX11_edge_9 rfl (lv_at hl 0 rfl) ?_
      refine lv_iconst (v := 1) hx hb dX11_edge_10 (by decide) ?_
      obtain ⟨y5_15, he15⟩ := ok_X11 hok ha0
      refine tc_i hAL hS hA (va_runV (As := [.int 1]) (rest := []) ⟨hx, hb, hml, hown, noTs⟩ (t_X11_fail l dC dI s.heap.size G cs tt mm a0 ha0 1) ⟨cbE 1 (wd_436 hE) (wd_115 hE) (wd_433 hE) rfl rfl (by decide +kernel) ⟨Nat.le_of_ble_eq_true rfl, Nat.le_of_ble_eq_true rfl⟩, (wd_435 hE), (wd_1 hE)⟩ ⟨PT.blind, th_recv hK hP ha0.1 he15 rfl, (th_pre (av := [.ref a0, .int 1]) hK hP hok hnd hWT hE)⟩ rfl rfl hl.1 rfl (lv_room (Nat.le_of_ble_eq_true rfl)) dX11_edge_11 ⟨Nat.le_of_ble_eq_true rfl, Nat.le_of_ble_eq_true rfl⟩) (fun r16 f16 H locs hr16 hok hP hS => ?_)
      exact W.iret (v := r16) hx hb hr (fun t ht hW => ⟨⟨r16, f16, rfl, trivial, hok, by rw [ht]; exact hP⟩, hS.F ht⟩) hS.2.2 dX11_edge_14

set_option maxHeartbeats 4000000 in
set_option maxRecDepth 100000 in
theorem t_X11_word (l : Launch) (dC : Nat → ClassId) (dI : Nat → Nat → Nat) (sz : Nat) (G : GT) (cs : Nat → ClassId) (tt mm : Nat) (a0 : Nat) (ha0 : Ty G a0 11) (v1 : Int32) (v2 : Int32) : Met l yX11_word [.code yX11_word cX11_word 4 (some .int)] ({ frames := 5, cells := 0, slots := 0, locals := 200 }) (PT [.ref a0, .int v1, .int v2] sz dC dI G cs tt mm) (va_Qi (fun (r : Int32) (u : Nat → va_E) => True) (BT dC dI G cs tt mm) (AT G sz)) 0 0 (AT G sz) := by
  refine Met.ofW (cc := cX11_word) (maxL := 4) (ret := (some .int)) (by decide) rfl ?_
  intro p e s m args below meth c s₁ B hml hv
  obtain ⟨rfl, hsz, ⟨f0, hok, hP⟩, hK, hnd, hWT, hE⟩ := hv
  have hx := B.exec
  have hb := B.bytes
  have hr := B.returns
  have hown : s.vm.findClass RX11 = some m.cls := findClass_of_methodNamed B.named
  have hlocks := B.notSynchronized
  subst hsz
  have hAL : ∀ a, a ∈ gL G → AT G s.heap.size a := fun a h => Or.inl h
  have hA : ∀ q : Nat, s.heap.size ≤ q → AT G s.heap.size q := fun q h => Or.inr h
  have hS : va_S (AT G s.heap.size) s.heap s.heap [] := va_S.rf
  have hl := lv_entry ([.ref a0, .int v1, .int v2]) (n := 4) (Nat.le_of_ble_eq_true rfl)
  rw [lg_entry_eq]
  generalize (lg_sl ([.ref a0, .int v1, .int v2]) ++ List.replicate (4 - (lg_sl ([.ref a0, .int v1, .int v2])).length) Slot.unset).toArray = ls at hl ⊢
  have hl : lv_has ls 4 [(0, .ref a0), (1, .int v1), (2, .int v2)] := hl
  refine lv_iload_n hx hb dX11_word_0 rfl (lv_at hl 2 rfl) ?_
  refine lv_if_lt (tgt := 9) hx hb dX11_word_1 (by decide) (fun c1 => ?_) (fun c1 => ?_)
  · refine lv_aload_n hx hb dX11_word_9 rfl (lv_at hl 0 rfl) ?_
    refine lv_iconst (v := 1) hx hb dX11_word_10 (by decide) ?_
    obtain ⟨y5_2, he2⟩ := ok_X11 hok ha0
    refine tc_i hAL hS hA (va_runV (As := [.int 1]) (rest := []) ⟨hx, hb, hml, hown, noTs⟩ (t_X11_fail l dC dI s.heap.size G cs tt mm a0 ha0 1) ⟨cbE 1 (wd_436 hE) (wd_115 hE) (wd_433 hE) rfl rfl (by decide +kernel) ⟨Nat.le_of_ble_eq_true rfl, Nat.le_of_ble_eq_true rfl⟩, (wd_435 hE), (wd_1 hE)⟩ ⟨PT.blind, th_recv hK hP ha0.1 he2 rfl, (th_pre (av := [.ref a0, .int 1]) hK hP hok hnd hWT hE)⟩ rfl rfl hl.1 rfl (lv_room (Nat.le_of_ble_eq_true rfl)) dX11_word_11 ⟨Nat.le_of_ble_eq_true rfl, Nat.le_of_ble_eq_true rfl⟩) (fun r3 f3 H locs hr3 hok hP hS => ?_)
    exact W.iret (v := r3) hx hb hr (fun t ht hW => ⟨⟨r3, f3, rfl, trivial, hok, by rw [ht]; exact hP⟩, hS.F ht⟩) hS.2.2 dX11_word_14
  · refine lv_iload_n hx hb dX11_word_4 rfl (lv_at hl 2 rfl) ?_
    refine lv_iconst (v := 4) hx hb dX11_word_5 (by decide) ?_
    refine lv_icmp_le (tgt := 15) hx hb dX11_word_6 (by decide) (fun c4 => ?_) (fun c4 => ?_)
    · refine lv_aload_n hx hb dX11_word_15 rfl (lv_at hl 0 rfl) ?_
      obtain ⟨y5_5, he5⟩ := ok_X11 hok ha0
      refine th_get hx hb (ly_X11 hE) hown hK hP ha0.1 he5 rfl 0 (by decide) (wd_359 hE) (fun _ h9 => h9) rfl dX11_word_16 ?_
      refine lv_iload_n hx hb dX11_word_19 rfl (lv_at hl 1 rfl) ?_
      refine lv_aload_n hx hb dX11_word_20 rfl (lv_at hl 0 rfl) ?_
      refine th_get hx hb (ly_X11 hE) hown hK hP ha0.1 he5 rfl 10 (by decide) (wd_369 hE) (fun _ h9 => h9) rfl dX11_word_21 ?_
      have he6 := ok_X7 hok (wt_X11_0 hWT ha0)
      refine tc_i hAL hS hA (va_runV (As := [.int v1, .ref (gR G a0 10)]) (rest := []) ⟨hx, hb, hml, hown, noTs⟩ (t_X7_readWord l dC dI s.heap.size G cs tt mm (gR G a0 0) ((wt_X11_0 hWT ha0)) v1 (gR G a0 10) ((wt_X11_10 hWT ha0))) ⟨cbE 2 (wd_817 hE) (wd_116 hE) (wd_814 hE) rfl rfl (by decide +kernel) ⟨Nat.le_of_ble_eq_true rfl, Nat.le_of_ble_eq_true rfl⟩, (wd_815 hE), (wd_816 hE)⟩ ⟨PT.blind, th_recv hK hP (wt_X11_0 hWT ha0).1 he6 rfl, (th_pre (av := [.ref (gR G a0 0), .int v1, .ref (gR G a0 10)]) hK hP hok hnd hWT hE)⟩ rfl rfl hl.1 rfl (lv_room (Nat.le_of_ble_eq_true rfl)) dX11_word_24 ⟨Nat.le_of_ble_eq_true rfl, Nat.le_of_ble_eq_true rfl⟩) (fun r7 f7 H locs hr7 hok hP hS => ?_)
      refine lv_if_ne (tgt := 36) hx hb dX11_word_27 (by decide) (fun c8 => ?_) (fun c8 => ?_)
      · refine lv_iload_n hx hb dX11_word_36 rfl (lv_at hl 2 rfl) ?_
        refine lv_if_ne (tgt := 52) hx hb dX11_word_37 (by decide) (fun c9 => ?_) (fun c9 => ?_)
        · refine lv_iload_n hx hb dX11_word_52 rfl (lv_at hl 2 rfl) ?_
          refine lv_iconst (v := 1) hx hb dX11_word_53 (by decide) ?_
          refine lv_icmp_ne (tgt := 73) hx hb dX11_word_54 (by decide) (fun c10 => ?_) (fun c10 => ?_)
          · refine lv_iload_n hx hb dX11_word_73 rfl (lv_at hl 2 rfl) ?_
            refine lv_iconst (v := 2) hx hb dX11_word_74 (by decide) ?_
            refine lv_icmp_ne (tgt := 90) hx hb dX11_word_75 (by decide) (fun c11 => ?_) (fun c11 => ?_)
            · refine lv_aload_n hx hb dX11_word_90 rfl (lv_at hl 0 rfl) ?_
              obtain ⟨y5_12, he12⟩ := ok_X11 hok ha0
              refine th_get hx hb (ly_X11 hE) hown hK hP ha0.1 he12 rfl 0 (by decide) (wd_359 hE) (fun _ h9 => h9) rfl dX11_word_91 ?_
              refine lv_aload_n hx hb dX11_word_94 rfl (lv_at hl 0 rfl) ?_
              refine th_get hx hb (ly_X11 hE) hown hK hP ha0.1 he12 rfl 10 (by decide) (wd_369 hE) (fun _ h9 => h9) rfl dX11_word_95 ?_
              refine lv_aload_n hx hb dX11_word_98 rfl (lv_at hl 0 rfl) ?_
              refine th_get hx hb (ly_X11 hE) hown hK hP ha0.1 he12 rfl 12 (by decide) (wd_371 hE) (fun _ h9 => h9) rfl dX11_word_99 ?_
              refine tc_i hAL hS hA (va_runS (As := [.ref (gR G a0 0), .ref (gR G a0 10), .ref (gR G a0 12)]) (rest := []) ⟨hx, hb, hml, hown, noTs⟩ (t_X2_reduce l dC dI H.size G cs tt mm (gR G a0 0) ((wt_X11_0 hWT ha0)) (gR G a0 10) ((wt_X11_10 hWT ha0)) (gR G a0 12) ((wt_X11_12 hWT ha0))) ⟨cbE 3 (wd_837 hE) (wd_134 hE) (wd_835 hE) rfl rfl (by decide +kernel) ⟨Nat.le_of_ble_eq_true rfl, Nat.le_of_ble_eq_true rfl⟩, (wd_836 hE)⟩ ⟨PT.blind, (th_pre (av := [.ref (gR G a0 0), .ref (gR G a0 10), .ref (gR G a0 12)]) hK hP hok hnd hWT hE)⟩ rfl rfl hl.1 rfl (lv_room (Nat.le_of_ble_eq_true rfl)) dX11_word_102 ⟨Nat.le_of_ble_eq_true rfl, Nat.le_of_ble_eq_true rfl⟩) (fun r13 f13 H locs hr13 hok hP hS => ?_)
              refine lv_istore_n (lv' := [(3, .int r13), (0, .ref a0), (1, .int v1), (2, .int v2)]) hx hb dX11_word_105 rfl hl (by decide) rfl (fun ls hl => ?_)
              refine lv_aload_n hx hb dX11_word_106 rfl (lv_at hl 1 rfl) ?_
              refine lv_iload_n hx hb dX11_word_107 rfl (lv_at hl 3 rfl) ?_
              refine lv_iconst (v := 4) hx hb dX11_word_108 (by decide) ?_
              refine lv_icmp_ne (tgt := 116) hx hb dX11_word_109 (by decide) (fun c14 => ?_) (fun c14 => ?_)
              · refine lv_aload_n hx hb dX11_word_116 rfl (lv_at hl 1 rfl) ?_
                obtain ⟨y5_15, he15⟩ := ok_X11 hok ha0
                refine th_get hx hb (ly_X11 hE) hown hK hP ha0.1 he15 rfl 12 (by decide) (wd_371 hE) (fun _ h9 => h9) rfl dX11_word_117 ?_
                refine lv_aload_n hx hb dX11_word_120 rfl (lv_at hl 1 rfl) ?_
                refine th_get hx hb (ly_X11 hE) hown hK hP ha0.1 he15 rfl 10 (by decide) (wd_369 hE) (fun _ h9 => h9) rfl dX11_word_121 ?_
                obtain ⟨y2_16, y3_16, hy3_16, he16⟩ := ok_X10 hok (wt_X11_12 hWT ha0)
                refine vp_callSi (va_Run.run (va_runV (As := [.ref (gR G a0 10)]) (rest := [.ref a0]) ⟨hx, hb, hml, hown, noTs⟩ (t_X10_sameAs l dC dI H.size G cs tt mm (gR G a0 12) ((wt_X11_12 hWT ha0)) (gR G a0 10) ((wt_X11_10 hWT ha0))) ⟨cbE 1 (wd_877 hE) (wd_120 hE) (wd_874 hE) rfl rfl (by decide +kernel) ⟨Nat.le_of_ble_eq_true rfl, Nat.le_of_ble_eq_true rfl⟩, (wd_875 hE), (wd_876 hE)⟩ ⟨PT.blind, th_recv hK hP (wt_X11_12 hWT ha0).1 he16 rfl, (th_pre (av := [.ref (gR G a0 12), .ref (gR G a0 10)]) hK hP hok hnd hWT hE)⟩ rfl rfl hl.1 rfl (lv_room (Nat.le_of_ble_eq_true rfl)) dX11_word_124 ⟨Nat.le_of_ble_eq_true rfl, Nat.le_of_ble_eq_true rfl⟩)) (fun r17 hr17 => ?_)
                refine vp_callSi (va_Run.run (va_runS (As := [.int r17]) (rest := [.ref a0]) ⟨hx, hb, hml, hown, noTs⟩ (t_X11_bit l dC dI H.size G cs tt mm r17) ⟨cbE 1 (wd_669 hE) (wd_115 hE) (wd_884 hE) rfl rfl (by decide +kernel) ⟨Nat.le_of_ble_eq_true rfl, Nat.le_of_ble_eq_true rfl⟩, (wd_668 hE)⟩ ⟨PT.blind, (th_pre (av := [.int r17]) hK hP hok hnd hWT hE)⟩ rfl rfl hl.1 rfl (lv_room (Nat.le_of_ble_eq_true rfl)) dX11_word_127 ⟨Nat.le_of_ble_eq_true rfl, Nat.le_of_ble_eq_true rfl⟩)) (fun r18 hr18 => ?_)
                refine tc_i hAL hS hA (va_runV (As := [.int r18]) (rest := []) ⟨hx, hb, hml, hown, noTs⟩ (t_X11_answer l dC dI H.size G cs tt mm a0 ha0 r18) ⟨cbE 1 (wd_748 hE) (wd_115 hE) (wd_745 hE) rfl rfl (by decide +kernel) ⟨Nat.le_of_ble_eq_true rfl, Nat.le_of_ble_eq_true rfl⟩, (wd_747 hE), (wd_23 hE)⟩ ⟨PT.blind, th_recv hK hP ha0.1 he15 rfl, (th_pre (av := [.ref a0, .int r18]) hK hP hok hnd hWT hE)⟩ rfl rfl hl.1 rfl (lv_room (Nat.le_of_ble_eq_true rfl)) dX11_word_130 ⟨Nat.le_of_ble_eq_true rfl, Nat.le_of_ble_eq_true rfl⟩) (fun r19 f19 H locs hr19 hok hP hS => ?_)
                exact W.iret (v := r19) hx hb hr (fun t ht hW => ⟨⟨r19, f19, rfl, trivial, hok, by rw [ht]; exact hP⟩, hS.F ht⟩) hS.2.2 dX11_word_133
              · refine lv_iload_n hx hb dX11_word_112 rfl (lv_at hl 0 rfl) ?_
                refine lv_goto (tgt := 130) hx hb dX11_word_113 (by decide) ?_
                obtain ⟨y5_20, he20⟩ := ok_X11 hok ha0
                refine tc_i hAL hS hA (va_runV (As := [.int r13]) (rest := []) ⟨hx, hb, hml, hown, noTs⟩ (t_X11_answer l dC dI H.size G cs tt mm a0 ha0 r13) ⟨cbE 1 (wd_748 hE) (wd_115 hE) (wd_745 hE) rfl rfl (by decide +kernel) ⟨Nat.le_of_ble_eq_true rfl, Nat.le_of_ble_eq_true rfl⟩, (wd_747 hE), (wd_23 hE)⟩ ⟨PT.blind, th_recv hK hP ha0.1 he20 rfl, (th_pre (av := [.ref a0, .int r13]) hK hP hok hnd hWT hE)⟩ rfl rfl hl.1 rfl (lv_room (Nat.le_of_ble_eq_true rfl)) dX11_word_130 ⟨Nat.le_of_ble_eq_true rfl, Nat.le_of_ble_eq_true rfl⟩) (fun r21 f21 H locs hr21 hok hP hS => ?_)
                exact W.iret (v := r21) hx hb hr (fun t ht hW => ⟨⟨r21, f21, rfl, trivial, hok, by rw [ht]; exact hP⟩, hS.F ht⟩) hS.2.2 dX11_word_133
            · refine lv_aload_n hx hb dX11_word_78 rfl (lv_at hl 0 rfl) ?_
              refine lv_aload_n hx hb dX11_word_79 rfl (lv_at hl 0 rfl) ?_
              obtain ⟨y5_22, he22⟩ := ok_X11 hok ha0
              refine th_get hx hb (ly_X11 hE) hown hK hP ha0.1 he22 rfl 10 (by decide) (wd_369 hE) (fun _ h9 => h9) rfl dX11_word_80 ?_
              obtain ⟨y2_23, y3_23, hy3_23, he23⟩ := ok_X10 hok (wt_X11_10 hWT ha0)
              refine vp_callSi (va_Run.run (va_runV (As := []) (rest := [.ref a0]) ⟨hx, hb, hml, hown, noTs⟩ (t_X10_size l dC dI H.size G cs tt mm (gR G a0 10) ((wt_X11_10 hWT ha0))) ⟨cbE 0 (wd_666 hE) (wd_120 hE) (wd_834 hE) rfl rfl (by decide +kernel) ⟨Nat.le_of_ble_eq_true rfl, Nat.le_of_ble_eq_true rfl⟩, (wd_664 hE), (wd_665 hE)⟩ ⟨PT.blind, th_recv hK hP (wt_X11_10 hWT ha0).1 he23 rfl, (th_pre (av := [.ref (gR G a0 10)]) hK hP hok hnd hWT hE)⟩ rfl rfl hl.1 rfl (lv_room (Nat.le_of_ble_eq_true rfl)) dX11_word_83 ⟨Nat.le_of_ble_eq_true rfl, Nat.le_of_ble_eq_true rfl⟩)) (fun r24 hr24 => ?_)
              obtain ⟨hra24, hrb24⟩ := hr24
              refine tc_i hAL hS hA (va_runV (As := [.int r24]) (rest := []) ⟨hx, hb, hml, hown, noTs⟩ (t_X11_answer l dC dI H.size G cs tt mm a0 ha0 r24) ⟨cbE 1 (wd_748 hE) (wd_115 hE) (wd_745 hE) rfl rfl (by decide +kernel) ⟨Nat.le_of_ble_eq_true rfl, Nat.le_of_ble_eq_true rfl⟩, (wd_747 hE), (wd_23 hE)⟩ ⟨PT.blind, th_recv hK hP ha0.1 he22 rfl, (th_pre (av := [.ref a0, .int r24]) hK hP hok hnd hWT hE)⟩ rfl rfl hl.1 rfl (lv_room (Nat.le_of_ble_eq_true rfl)) dX11_word_86 ⟨Nat.le_of_ble_eq_true rfl, Nat.le_of_ble_eq_true rfl⟩) (fun r25 f25 H locs hr25 hok hP hS => ?_)
              exact W.iret (v := r25) hx hb hr (fun t ht hW => ⟨⟨r25, f25, rfl, trivial, hok, by rw [ht]; exact hP⟩, hS.F ht⟩) hS.2.2 dX11_word_89
          · refine lv_aload_n hx hb dX11_word_57 rfl (lv_at hl 0 rfl) ?_
            refine lv_aload_n hx hb dX11_word_58 rfl (lv_at hl 0 rfl) ?_
            obtain ⟨y5_26, he26⟩ := ok_X11 hok ha0
            refine th_get hx hb (ly_X11 hE) hown hK hP ha0.1 he26 rfl 0 (by decide) (wd_359 hE) (fun _ h9 => h9) rfl dX11_word_59 ?_
            refine lv_aload_n hx hb dX11_word_62 rfl (lv_at hl 0 rfl) ?_
            refine th_get hx hb (ly_X11 hE) hown hK hP ha0.1 he26 rfl 10 (by decide) (wd_369 hE) (fun _ h9 => h9) rfl dX11_word_63 ?_
            have he27 := ok_X7 hok (wt_X11_0 hWT ha0)
            refine vp_callSi (va_Run.run (va_runV (As := [.ref (gR G a0 10)]) (rest := [.ref a0]) ⟨hx, hb, hml, hown, noTs⟩ (t_X7_endOf l dC dI H.size G cs tt mm (gR G a0 0) ((wt_X11_0 hWT ha0)) (gR G a0 10) ((wt_X11_10 hWT ha0))) ⟨cbE 1 (wd_828 hE) (wd_116 hE) (wd_825 hE) rfl rfl (by decide +kernel) ⟨Nat.le_of_ble_eq_true rfl, Nat.le_of_ble_eq_true rfl⟩, (wd_826 hE), (wd_827 hE)⟩ ⟨PT.blind, th_recv hK hP (wt_X11_0 hWT ha0).1 he27 rfl, (th_pre (av := [.ref (gR G a0 0), .ref (gR G a0 10)]) hK hP hok hnd hWT hE)⟩ rfl rfl hl.1 rfl (lv_room (Nat.le_of_ble_eq_true rfl)) dX11_word_66 ⟨Nat.le_of_ble_eq_true rfl, Nat.le_of_ble_eq_true rfl⟩)) (fun r28 hr28 => ?_)
            refine tc_i hAL hS hA (va_runV (As := [.int r28]) (rest := []) ⟨hx, hb, hml, hown, noTs⟩ (t_X11_answer l dC dI H.size G cs tt mm a0 ha0 r28) ⟨cbE 1 (wd_748 hE) (wd_115 hE) (wd_745 hE) rfl rfl (by decide +kernel) ⟨Nat.le_of_ble_eq_true rfl, Nat.le_of_ble_eq_true rfl⟩, (wd_747 hE), (wd_23 hE)⟩ ⟨PT.blind, th_recv hK hP ha0.1 he26 rfl, (th_pre (av := [.ref a0, .int r28]) hK hP hok hnd hWT hE)⟩ rfl rfl hl.1 rfl (lv_room (Nat.le_of_ble_eq_true rfl)) dX11_word_69 ⟨Nat.le_of_ble_eq_true rfl, Nat.le_of_ble_eq_true rfl⟩) (fun r29 f29 H locs hr29 hok hP hS => ?_)
            exact W.iret (v := r29) hx hb hr (fun t ht hW => ⟨⟨r29, f29, rfl, trivial, hok, by rw [ht]; exact hP⟩, hS.F ht⟩) hS.2.2 dX11_word_72
        · refine lv_aload_n hx hb dX11_word_40 rfl (lv_at hl 0 rfl) ?_
          refine lv_aload_n hx hb dX11_word_41 rfl (lv_at hl 0 rfl) ?_
          obtain ⟨y5_30, he30⟩ := ok_X11 hok ha0
          refine th_get hx hb (ly_X11 hE) hown hK hP ha0.1 he30 rfl 10 (by decide) (wd_369 hE) (fun _ h9 => h9) rfl dX11_word_42 ?_
          obtain ⟨y2_31, y3_31, hy3_31, he31⟩ := ok_X10 hok (wt_X11_10 hWT ha0)
          refine vp_callSi (va_Run.run (va_runV (As := []) (rest := [.ref a0]) ⟨hx, hb, hml, hown, noTs⟩ (t_X10_begin l dC dI H.size G cs tt mm (gR G a0 10) ((wt_X11_10 hWT ha0))) ⟨cbE 0 (wd_713 hE) (wd_120 hE) (wd_824 hE) rfl rfl (by decide +kernel) ⟨Nat.le_of_ble_eq_true rfl, Nat.le_of_ble_eq_true rfl⟩, (wd_711 hE), (wd_712 hE)⟩ ⟨PT.blind, th_recv hK hP (wt_X11_10 hWT ha0).1 he31 rfl, (th_pre (av := [.ref (gR G a0 10)]) hK hP hok hnd hWT hE)⟩ rfl rfl hl.1 rfl (lv_room (Nat.le_of_ble_eq_true rfl)) dX11_word_45 ⟨Nat.le_of_ble_eq_true rfl, Nat.le_of_ble_eq_true rfl⟩)) (fun r32 hr32 => ?_)
          refine tc_i hAL hS hA (va_runV (As := [.int r32]) (rest := []) ⟨hx, hb, hml, hown, noTs⟩ (t_X11_answer l dC dI H.size G cs tt mm a0 ha0 r32) ⟨cbE 1 (wd_748 hE) (wd_115 hE) (wd_745 hE) rfl rfl (by decide +kernel) ⟨Nat.le_of_ble_eq_true rfl, Nat.le_of_ble_eq_true rfl⟩, (wd_747 hE), (wd_23 hE)⟩ ⟨PT.blind, th_recv hK hP ha0.1 he30 rfl, (th_pre (av := [.ref a0, .int r32]) hK hP hok hnd hWT hE)⟩ rfl rfl hl.1 rfl (lv_room (Nat.le_of_ble_eq_true rfl)) dX11_word_48 ⟨Nat.le_of_ble_eq_true rfl, Nat.le_of_ble_eq_true rfl⟩) (fun r33 f33 H locs hr33 hok hP hS => ?_)
          exact W.iret (v := r33) hx hb hr (fun t ht hW => ⟨⟨r33, f33, rfl, trivial, hok, by rw [ht]; exact hP⟩, hS.F ht⟩) hS.2.2 dX11_word_51
      · refine lv_aload_n hx hb dX11_word_30 rfl (lv_at hl 0 rfl) ?_
        refine lv_iconst (v := 2) hx hb dX11_word_31 (by decide) ?_
        obtain ⟨y5_34, he34⟩ := ok_X11 hok ha0
        refine tc_i hAL hS hA (va_runV (As := [.int 2]) (rest := []) ⟨hx, hb, hml, hown, noTs⟩ (t_X11_fail l dC dI H.size G cs tt mm a0 ha0 2) ⟨cbE 1 (wd_436 hE) (wd_115 hE) (wd_433 hE) rfl rfl (by decide +kernel) ⟨Nat.le_of_ble_eq_true rfl, Nat.le_of_ble_eq_true rfl⟩, (wd_435 hE), (wd_1 hE)⟩ ⟨PT.blind, th_recv hK hP ha0.1 he34 rfl, (th_pre (av := [.ref a0, .int 2]) hK hP hok hnd hWT hE)⟩ rfl rfl hl.1 rfl (lv_room (Nat.le_of_ble_eq_true rfl)) dX11_word_32 ⟨Nat.le_of_ble_eq_true rfl, Nat.le_of_ble_eq_true rfl⟩) (fun r35 f35 H locs hr35 hok hP hS => ?_)
        exact W.iret (v := r35) hx hb hr (fun t ht hW => ⟨⟨r35, f35, rfl, trivial, hok, by rw [ht]; exact hP⟩, hS.F ht⟩) hS.2.2 dX11_word_35
    · refine lv_aload_n hx hb dX11_word_9 rfl (lv_at hl 0 rfl) ?_
      refine lv_iconst (v := 1) hx hb dX11_word_10 (by decide) ?_
      obtain ⟨y5_36, he36⟩ := ok_X11 hok ha0
      refine tc_i hAL hS hA (va_runV (As := [.int 1]) (rest := []) ⟨hx, hb, hml, hown, noTs⟩ (t_X11_fail l dC dI s.heap.size G cs tt mm a0 ha0 1) ⟨cbE 1 (wd_436 hE) (wd_115 hE) (wd_433 hE) rfl rfl (by decide +kernel) ⟨Nat.le_of_ble_eq_true rfl, Nat.le_of_ble_eq_true rfl⟩, (wd_435 hE), (wd_1 hE)⟩ ⟨PT.blind, th_recv hK hP ha0.1 he36 rfl, (th_pre (av := [.ref a0, .int 1]) hK hP hok hnd hWT hE)⟩ rfl rfl hl.1 rfl (lv_room (Nat.le_of_ble_eq_true rfl)) dX11_word_11 ⟨Nat.le_of_ble_eq_true rfl, Nat.le_of_ble_eq_true rfl⟩) (fun r37 f37 H locs hr37 hok hP hS => ?_)
      exact W.iret (v := r37) hx hb hr (fun t ht hW => ⟨⟨r37, f37, rfl, trivial, hok, by rw [ht]; exact hP⟩, hS.F ht⟩) hS.2.2 dX11_word_14

set_option maxHeartbeats 4000000 in
set_option maxRecDepth 100000 in
theorem t_X11_number (l : Launch) (dC : Nat → ClassId) (dI : Nat → Nat → Nat) (sz : Nat) (G : GT) (cs : Nat → ClassId) (tt mm : Nat) (a0 : Nat) (ha0 : Ty G a0 11) (v1 : Int32) (v2 : Int32) : Met l yX11_number [.code yX11_number cX11_number 3 (some .int)] ({ frames := 2, cells := 0, slots := 0, locals := 80 }) (PT [.ref a0, .int v1, .int v2] sz dC dI G cs tt mm) (va_Qi (fun (r : Int32) (u : Nat → va_E) => True) (BT dC dI G cs tt mm) (AT G sz)) 0 0 (AT G sz) := by
  refine Met.ofW (cc := cX11_number) (maxL := 3) (ret := (some .int)) (by decide) rfl ?_
  intro p e s m args below meth c s₁ B hml hv
  obtain ⟨rfl, hsz, ⟨f0, hok, hP⟩, hK, hnd, hWT, hE⟩ := hv
  have hx := B.exec
  have hb := B.bytes
  have hr := B.returns
  have hown : s.vm.findClass RX11 = some m.cls := findClass_of_methodNamed B.named
  have hlocks := B.notSynchronized
  subst hsz
  have hAL : ∀ a, a ∈ gL G → AT G s.heap.size a := fun a h => Or.inl h
  have hA : ∀ q : Nat, s.heap.size ≤ q → AT G s.heap.size q := fun q h => Or.inr h
  have hS : va_S (AT G s.heap.size) s.heap s.heap [] := va_S.rf
  have hl := lv_entry ([.ref a0, .int v1, .int v2]) (n := 3) (Nat.le_of_ble_eq_true rfl)
  rw [lg_entry_eq]
  generalize (lg_sl ([.ref a0, .int v1, .int v2]) ++ List.replicate (3 - (lg_sl ([.ref a0, .int v1, .int v2])).length) Slot.unset).toArray = ls at hl ⊢
  have hl : lv_has ls 3 [(0, .ref a0), (1, .int v1), (2, .int v2)] := hl
  refine lv_iload_n hx hb dX11_number_0 rfl (lv_at hl 2 rfl) ?_
  refine lv_if_ge (tgt := 10) hx hb dX11_number_1 (by decide) (fun c1 => ?_) (fun c1 => ?_)
  · refine lv_aload_n hx hb dX11_number_10 rfl (lv_at hl 0 rfl) ?_
    obtain ⟨y5_2, he2⟩ := ok_X11 hok ha0
    refine th_get hx hb (ly_X11 hE) hown hK hP ha0.1 he2 rfl 0 (by decide) (wd_359 hE) (fun _ h9 => h9) rfl dX11_number_11 ?_
    refine lv_iload_n hx hb dX11_number_14 rfl (lv_at hl 1 rfl) ?_
    refine lv_aload_n hx hb dX11_number_15 rfl (lv_at hl 0 rfl) ?_
    refine th_get hx hb (ly_X11 hE) hown hK hP ha0.1 he2 rfl 10 (by decide) (wd_369 hE) (fun _ h9 => h9) rfl dX11_number_16 ?_
    have he3 := ok_X7 hok (wt_X11_0 hWT ha0)
    refine tc_i hAL hS hA (va_runV (As := [.int v1, .ref (gR G a0 10)]) (rest := []) ⟨hx, hb, hml, hown, noTs⟩ (t_X7_readWord l dC dI s.heap.size G cs tt mm (gR G a0 0) ((wt_X11_0 hWT ha0)) v1 (gR G a0 10) ((wt_X11_10 hWT ha0))) ⟨cbE 2 (wd_817 hE) (wd_116 hE) (wd_814 hE) rfl rfl (by decide +kernel) ⟨Nat.le_of_ble_eq_true rfl, Nat.le_of_ble_eq_true rfl⟩, (wd_815 hE), (wd_816 hE)⟩ ⟨PT.blind, th_recv hK hP (wt_X11_0 hWT ha0).1 he3 rfl, (th_pre (av := [.ref (gR G a0 0), .int v1, .ref (gR G a0 10)]) hK hP hok hnd hWT hE)⟩ rfl rfl hl.1 rfl (lv_room (Nat.le_of_ble_eq_true rfl)) dX11_number_19 ⟨Nat.le_of_ble_eq_true rfl, Nat.le_of_ble_eq_true rfl⟩) (fun r4 f4 H locs hr4 hok hP hS => ?_)
    refine lv_if_ne (tgt := 31) hx hb dX11_number_22 (by decide) (fun c5 => ?_) (fun c5 => ?_)
    · refine lv_iload_n hx hb dX11_number_31 rfl (lv_at hl 2 rfl) ?_
      refine lv_aload_n hx hb dX11_number_32 rfl (lv_at hl 0 rfl) ?_
      obtain ⟨y5_6, he6⟩ := ok_X11 hok ha0
      refine th_get hx hb (ly_X11 hE) hown hK hP ha0.1 he6 rfl 10 (by decide) (wd_369 hE) (fun _ h9 => h9) rfl dX11_number_33 ?_
      obtain ⟨y2_7, y3_7, hy3_7, he7⟩ := ok_X10 hok (wt_X11_10 hWT ha0)
      refine vp_callSi (va_Run.run (va_runV (As := []) (rest := [.int v2]) ⟨hx, hb, hml, hown, noTs⟩ (t_X10_size l dC dI H.size G cs tt mm (gR G a0 10) ((wt_X11_10 hWT ha0))) ⟨cbE 0 (wd_666 hE) (wd_120 hE) (wd_834 hE) rfl rfl (by decide +kernel) ⟨Nat.le_of_ble_eq_true rfl, Nat.le_of_ble_eq_true rfl⟩, (wd_664 hE), (wd_665 hE)⟩ ⟨PT.blind, th_recv hK hP (wt_X11_10 hWT ha0).1 he7 rfl, (th_pre (av := [.ref (gR G a0 10)]) hK hP hok hnd hWT hE)⟩ rfl rfl hl.1 rfl (lv_room (Nat.le_of_ble_eq_true rfl)) dX11_number_36 ⟨Nat.le_of_ble_eq_true rfl, Nat.le_of_ble_eq_true rfl⟩)) (fun r8 hr8 => ?_)
      obtain ⟨hra8, hrb8⟩ := hr8
      refine lv_icmp_le (tgt := 50) hx hb dX11_number_39 (by decide) (fun c9 => ?_) (fun c9 => ?_)
      · refine lv_aload_n hx hb dX11_number_50 rfl (lv_at hl 0 rfl) ?_
        refine lv_aload_n hx hb dX11_number_51 rfl (lv_at hl 0 rfl) ?_
        refine th_get hx hb (ly_X11 hE) hown hK hP ha0.1 he6 rfl 10 (by decide) (wd_369 hE) (fun _ h9 => h9) rfl dX11_number_52 ?_
        refine lv_iload_n hx hb dX11_number_55 rfl (lv_at hl 2 rfl) ?_
        refine vp_callSi (va_Run.run (va_runV (As := [.int v2]) (rest := [.ref a0]) ⟨hx, hb, hml, hown, noTs⟩ (t_X10_numberAt l dC dI H.size G cs tt mm (gR G a0 10) ((wt_X11_10 hWT ha0)) v2) ⟨cbE 1 (wd_717 hE) (wd_120 hE) (wd_889 hE) rfl rfl (by decide +kernel) ⟨Nat.le_of_ble_eq_true rfl, Nat.le_of_ble_eq_true rfl⟩, (wd_715 hE), (wd_716 hE)⟩ ⟨PT.blind, th_recv hK hP (wt_X11_10 hWT ha0).1 he7 rfl, (th_pre (av := [.ref (gR G a0 10), .int v2]) hK hP hok hnd hWT hE)⟩ rfl rfl hl.1 rfl (lv_room (Nat.le_of_ble_eq_true rfl)) dX11_number_56 ⟨Nat.le_of_ble_eq_true rfl, Nat.le_of_ble_eq_true rfl⟩)) (fun r10 hr10 => ?_)
        refine tc_i hAL hS hA (va_runV (As := [.int r10]) (rest := []) ⟨hx, hb, hml, hown, noTs⟩ (t_X11_answer l dC dI H.size G cs tt mm a0 ha0 r10) ⟨cbE 1 (wd_748 hE) (wd_115 hE) (wd_745 hE) rfl rfl (by decide +kernel) ⟨Nat.le_of_ble_eq_true rfl, Nat.le_of_ble_eq_true rfl⟩, (wd_747 hE), (wd_23 hE)⟩ ⟨PT.blind, th_recv hK hP ha0.1 he6 rfl, (th_pre (av := [.ref a0, .int r10]) hK hP hok hnd hWT hE)⟩ rfl rfl hl.1 rfl (lv_room (Nat.le_of_ble_eq_true rfl)) dX11_number_59 ⟨Nat.le_of_ble_eq_true rfl, Nat.le_of_ble_eq_true rfl⟩) (fun r11 f11 H locs hr11 hok hP hS => ?_)
        exact W.iret (v := r11) hx hb hr (fun t ht hW => ⟨⟨r11, f11, rfl, trivial, hok, by rw [ht]; exact hP⟩, hS.F ht⟩) hS.2.2 dX11_number_62
      · refine lv_aload_n hx hb dX11_number_42 rfl (lv_at hl 0 rfl) ?_
        refine lv_iconst (v := 5) hx hb dX11_number_43 (by decide) ?_
        refine tc_i hAL hS hA (va_runV (As := [.int 5]) (rest := []) ⟨hx, hb, hml, hown, noTs⟩ (t_X11_fail l dC dI H.size G cs tt mm a0 ha0 5) ⟨cbE 1 (wd_436 hE) (wd_115 hE) (wd_433 hE) rfl rfl (by decide +kernel) ⟨Nat.le_of_ble_eq_true rfl, Nat.le_of_ble_eq_true rfl⟩, (wd_435 hE), (wd_1 hE)⟩ ⟨PT.blind, th_recv hK hP ha0.1 he6 rfl, (th_pre (av := [.ref a0, .int 5]) hK hP hok hnd hWT hE)⟩ rfl rfl hl.1 rfl (lv_room (Nat.le_of_ble_eq_true rfl)) dX11_number_44 ⟨Nat.le_of_ble_eq_true rfl, Nat.le_of_ble_eq_true rfl⟩) (fun r12 f12 H locs hr12 hok hP hS => ?_)
        refine lv_goto (tgt := 62) hx hb dX11_number_47 (by decide) ?_
        exact W.iret (v := r12) hx hb hr (fun t ht hW => ⟨⟨r12, f12, rfl, trivial, hok, by rw [ht]; exact hP⟩, hS.F ht⟩) hS.2.2 dX11_number_62
    · refine lv_aload_n hx hb dX11_number_25 rfl (lv_at hl 0 rfl) ?_
      refine lv_iconst (v := 2) hx hb dX11_number_26 (by decide) ?_
      obtain ⟨y5_13, he13⟩ := ok_X11 hok ha0
      refine tc_i hAL hS hA (va_runV (As := [.int 2]) (rest := []) ⟨hx, hb, hml, hown, noTs⟩ (t_X11_fail l dC dI H.size G cs tt mm a0 ha0 2) ⟨cbE 1 (wd_436 hE) (wd_115 hE) (wd_433 hE) rfl rfl (by decide +kernel) ⟨Nat.le_of_ble_eq_true rfl, Nat.le_of_ble_eq_true rfl⟩, (wd_435 hE), (wd_1 hE)⟩ ⟨PT.blind, th_recv hK hP ha0.1 he13 rfl, (th_pre (av := [.ref a0, .int 2]) hK hP hok hnd hWT hE)⟩ rfl rfl hl.1 rfl (lv_room (Nat.le_of_ble_eq_true rfl)) dX11_number_27 ⟨Nat.le_of_ble_eq_true rfl, Nat.le_of_ble_eq_true rfl⟩) (fun r14 f14 H locs hr14 hok hP hS => ?_)
      exact W.iret (v := r14) hx hb hr (fun t ht hW => ⟨⟨r14, f14, rfl, trivial, hok, by rw [ht]; exact hP⟩, hS.F ht⟩) hS.2.2 dX11_number_30
  · refine lv_aload_n hx hb dX11_number_4 rfl (lv_at hl 0 rfl) ?_
    refine lv_iconst (v := 1) hx hb dX11_number_5 (by decide) ?_
    obtain ⟨y5_15, he15⟩ := ok_X11 hok ha0
    refine tc_i hAL hS hA (va_runV (As := [.int 1]) (rest := []) ⟨hx, hb, hml, hown, noTs⟩ (t_X11_fail l dC dI s.heap.size G cs tt mm a0 ha0 1) ⟨cbE 1 (wd_436 hE) (wd_115 hE) (wd_433 hE) rfl rfl (by decide +kernel) ⟨Nat.le_of_ble_eq_true rfl, Nat.le_of_ble_eq_true rfl⟩, (wd_435 hE), (wd_1 hE)⟩ ⟨PT.blind, th_recv hK hP ha0.1 he15 rfl, (th_pre (av := [.ref a0, .int 1]) hK hP hok hnd hWT hE)⟩ rfl rfl hl.1 rfl (lv_room (Nat.le_of_ble_eq_true rfl)) dX11_number_6 ⟨Nat.le_of_ble_eq_true rfl, Nat.le_of_ble_eq_true rfl⟩) (fun r16 f16 H locs hr16 hok hP hS => ?_)
    exact W.iret (v := r16) hx hb hr (fun t ht hW => ⟨⟨r16, f16, rfl, trivial, hok, by rw [ht]; exact hP⟩, hS.F ht⟩) hS.2.2 dX11_number_9

set_option maxHeartbeats 4000000 in
set_option maxRecDepth 100000 in
theorem t_X11_step (l : Launch) (dC : Nat → ClassId) (dI : Nat → Nat → Nat) (sz : Nat) (G : GT) (cs : Nat → ClassId) (tt mm : Nat) (a0 : Nat) (ha0 : Ty G a0 11) (v1 : Int32) (v2 : Int32) : Met l yX11_step [.code yX11_step cX11_step 3 (some .int)] ({ frames := 2, cells := 0, slots := 0, locals := 80 }) (PT [.ref a0, .int v1, .int v2] sz dC dI G cs tt mm) (va_Qi (fun (r : Int32) (u : Nat → va_E) => True) (BT dC dI G cs tt mm) (AT G sz)) 0 0 (AT G sz) := by
  refine Met.ofW (cc := cX11_step) (maxL := 3) (ret := (some .int)) (by decide) rfl ?_
  intro p e s m args below meth c s₁ B hml hv
  obtain ⟨rfl, hsz, ⟨f0, hok, hP⟩, hK, hnd, hWT, hE⟩ := hv
  have hx := B.exec
  have hb := B.bytes
  have hr := B.returns
  have hown : s.vm.findClass RX11 = some m.cls := findClass_of_methodNamed B.named
  have hlocks := B.notSynchronized
  subst hsz
  have hAL : ∀ a, a ∈ gL G → AT G s.heap.size a := fun a h => Or.inl h
  have hA : ∀ q : Nat, s.heap.size ≤ q → AT G s.heap.size q := fun q h => Or.inr h
  have hS : va_S (AT G s.heap.size) s.heap s.heap [] := va_S.rf
  have hl := lv_entry ([.ref a0, .int v1, .int v2]) (n := 3) (Nat.le_of_ble_eq_true rfl)
  rw [lg_entry_eq]
  generalize (lg_sl ([.ref a0, .int v1, .int v2]) ++ List.replicate (3 - (lg_sl ([.ref a0, .int v1, .int v2])).length) Slot.unset).toArray = ls at hl ⊢
  have hl : lv_has ls 3 [(0, .ref a0), (1, .int v1), (2, .int v2)] := hl
  refine lv_iload_n hx hb dX11_step_0 rfl (lv_at hl 2 rfl) ?_
  refine lv_if_ge (tgt := 10) hx hb dX11_step_1 (by decide) (fun c1 => ?_) (fun c1 => ?_)
  · refine lv_aload_n hx hb dX11_step_10 rfl (lv_at hl 0 rfl) ?_
    obtain ⟨y5_2, he2⟩ := ok_X11 hok ha0
    refine th_get hx hb (ly_X11 hE) hown hK hP ha0.1 he2 rfl 0 (by decide) (wd_359 hE) (fun _ h9 => h9) rfl dX11_step_11 ?_
    refine lv_iload_n hx hb dX11_step_14 rfl (lv_at hl 1 rfl) ?_
    refine lv_aload_n hx hb dX11_step_15 rfl (lv_at hl 0 rfl) ?_
    refine th_get hx hb (ly_X11 hE) hown hK hP ha0.1 he2 rfl 10 (by decide) (wd_369 hE) (fun _ h9 => h9) rfl dX11_step_16 ?_
    have he3 := ok_X7 hok (wt_X11_0 hWT ha0)
    refine tc_i hAL hS hA (va_runV (As := [.int v1, .ref (gR G a0 10)]) (rest := []) ⟨hx, hb, hml, hown, noTs⟩ (t_X7_readWord l dC dI s.heap.size G cs tt mm (gR G a0 0) ((wt_X11_0 hWT ha0)) v1 (gR G a0 10) ((wt_X11_10 hWT ha0))) ⟨cbE 2 (wd_817 hE) (wd_116 hE) (wd_814 hE) rfl rfl (by decide +kernel) ⟨Nat.le_of_ble_eq_true rfl, Nat.le_of_ble_eq_true rfl⟩, (wd_815 hE), (wd_816 hE)⟩ ⟨PT.blind, th_recv hK hP (wt_X11_0 hWT ha0).1 he3 rfl, (th_pre (av := [.ref (gR G a0 0), .int v1, .ref (gR G a0 10)]) hK hP hok hnd hWT hE)⟩ rfl rfl hl.1 rfl (lv_room (Nat.le_of_ble_eq_true rfl)) dX11_step_19 ⟨Nat.le_of_ble_eq_true rfl, Nat.le_of_ble_eq_true rfl⟩) (fun r4 f4 H locs hr4 hok hP hS => ?_)
    refine lv_if_ne (tgt := 31) hx hb dX11_step_22 (by decide) (fun c5 => ?_) (fun c5 => ?_)
    · refine lv_iload_n hx hb dX11_step_31 rfl (lv_at hl 2 rfl) ?_
      refine lv_aload_n hx hb dX11_step_32 rfl (lv_at hl 0 rfl) ?_
      obtain ⟨y5_6, he6⟩ := ok_X11 hok ha0
      refine th_get hx hb (ly_X11 hE) hown hK hP ha0.1 he6 rfl 10 (by decide) (wd_369 hE) (fun _ h9 => h9) rfl dX11_step_33 ?_
      obtain ⟨y2_7, y3_7, hy3_7, he7⟩ := ok_X10 hok (wt_X11_10 hWT ha0)
      refine vp_callSi (va_Run.run (va_runV (As := []) (rest := [.int v2]) ⟨hx, hb, hml, hown, noTs⟩ (t_X10_size l dC dI H.size G cs tt mm (gR G a0 10) ((wt_X11_10 hWT ha0))) ⟨cbE 0 (wd_666 hE) (wd_120 hE) (wd_834 hE) rfl rfl (by decide +kernel) ⟨Nat.le_of_ble_eq_true rfl, Nat.le_of_ble_eq_true rfl⟩, (wd_664 hE), (wd_665 hE)⟩ ⟨PT.blind, th_recv hK hP (wt_X11_10 hWT ha0).1 he7 rfl, (th_pre (av := [.ref (gR G a0 10)]) hK hP hok hnd hWT hE)⟩ rfl rfl hl.1 rfl (lv_room (Nat.le_of_ble_eq_true rfl)) dX11_step_36 ⟨Nat.le_of_ble_eq_true rfl, Nat.le_of_ble_eq_true rfl⟩)) (fun r8 hr8 => ?_)
      obtain ⟨hra8, hrb8⟩ := hr8
      refine lv_icmp_lt (tgt := 50) hx hb dX11_step_39 (by decide) (fun c9 => ?_) (fun c9 => ?_)
      · refine lv_aload_n hx hb dX11_step_50 rfl (lv_at hl 0 rfl) ?_
        refine lv_aload_n hx hb dX11_step_51 rfl (lv_at hl 0 rfl) ?_
        refine th_get hx hb (ly_X11 hE) hown hK hP ha0.1 he6 rfl 10 (by decide) (wd_369 hE) (fun _ h9 => h9) rfl dX11_step_52 ?_
        refine lv_iload_n hx hb dX11_step_55 rfl (lv_at hl 2 rfl) ?_
        refine vp_callSi (va_Run.run (va_runV (As := [.int v2]) (rest := [.ref a0]) ⟨hx, hb, hml, hown, noTs⟩ (t_X10_stepAt l dC dI H.size G cs tt mm (gR G a0 10) ((wt_X11_10 hWT ha0)) v2) ⟨cbE 1 (wd_721 hE) (wd_120 hE) (wd_894 hE) rfl rfl (by decide +kernel) ⟨Nat.le_of_ble_eq_true rfl, Nat.le_of_ble_eq_true rfl⟩, (wd_719 hE), (wd_720 hE)⟩ ⟨PT.blind, th_recv hK hP (wt_X11_10 hWT ha0).1 he7 rfl, (th_pre (av := [.ref (gR G a0 10), .int v2]) hK hP hok hnd hWT hE)⟩ rfl rfl hl.1 rfl (lv_room (Nat.le_of_ble_eq_true rfl)) dX11_step_56 ⟨Nat.le_of_ble_eq_true rfl, Nat.le_of_ble_eq_true rfl⟩)) (fun r10 hr10 => ?_)
        refine tc_i hAL hS hA (va_runV (As := [.int r10]) (rest := []) ⟨hx, hb, hml, hown, noTs⟩ (t_X11_answer l dC dI H.size G cs tt mm a0 ha0 r10) ⟨cbE 1 (wd_748 hE) (wd_115 hE) (wd_745 hE) rfl rfl (by decide +kernel) ⟨Nat.le_of_ble_eq_true rfl, Nat.le_of_ble_eq_true rfl⟩, (wd_747 hE), (wd_23 hE)⟩ ⟨PT.blind, th_recv hK hP ha0.1 he6 rfl, (th_pre (av := [.ref a0, .int r10]) hK hP hok hnd hWT hE)⟩ rfl rfl hl.1 rfl (lv_room (Nat.le_of_ble_eq_true rfl)) dX11_step_59 ⟨Nat.le_of_ble_eq_true rfl, Nat.le_of_ble_eq_true rfl⟩) (fun r11 f11 H locs hr11 hok hP hS => ?_)
        exact W.iret (v := r11) hx hb hr (fun t ht hW => ⟨⟨r11, f11, rfl, trivial, hok, by rw [ht]; exact hP⟩, hS.F ht⟩) hS.2.2 dX11_step_62
      · refine lv_aload_n hx hb dX11_step_42 rfl (lv_at hl 0 rfl) ?_
        refine lv_iconst (v := 5) hx hb dX11_step_43 (by decide) ?_
        refine tc_i hAL hS hA (va_runV (As := [.int 5]) (rest := []) ⟨hx, hb, hml, hown, noTs⟩ (t_X11_fail l dC dI H.size G cs tt mm a0 ha0 5) ⟨cbE 1 (wd_436 hE) (wd_115 hE) (wd_433 hE) rfl rfl (by decide +kernel) ⟨Nat.le_of_ble_eq_true rfl, Nat.le_of_ble_eq_true rfl⟩, (wd_435 hE), (wd_1 hE)⟩ ⟨PT.blind, th_recv hK hP ha0.1 he6 rfl, (th_pre (av := [.ref a0, .int 5]) hK hP hok hnd hWT hE)⟩ rfl rfl hl.1 rfl (lv_room (Nat.le_of_ble_eq_true rfl)) dX11_step_44 ⟨Nat.le_of_ble_eq_true rfl, Nat.le_of_ble_eq_true rfl⟩) (fun r12 f12 H locs hr12 hok hP hS => ?_)
        refine lv_goto (tgt := 62) hx hb dX11_step_47 (by decide) ?_
        exact W.iret (v := r12) hx hb hr (fun t ht hW => ⟨⟨r12, f12, rfl, trivial, hok, by rw [ht]; exact hP⟩, hS.F ht⟩) hS.2.2 dX11_step_62
    · refine lv_aload_n hx hb dX11_step_25 rfl (lv_at hl 0 rfl) ?_
      refine lv_iconst (v := 2) hx hb dX11_step_26 (by decide) ?_
      obtain ⟨y5_13, he13⟩ := ok_X11 hok ha0
      refine tc_i hAL hS hA (va_runV (As := [.int 2]) (rest := []) ⟨hx, hb, hml, hown, noTs⟩ (t_X11_fail l dC dI H.size G cs tt mm a0 ha0 2) ⟨cbE 1 (wd_436 hE) (wd_115 hE) (wd_433 hE) rfl rfl (by decide +kernel) ⟨Nat.le_of_ble_eq_true rfl, Nat.le_of_ble_eq_true rfl⟩, (wd_435 hE), (wd_1 hE)⟩ ⟨PT.blind, th_recv hK hP ha0.1 he13 rfl, (th_pre (av := [.ref a0, .int 2]) hK hP hok hnd hWT hE)⟩ rfl rfl hl.1 rfl (lv_room (Nat.le_of_ble_eq_true rfl)) dX11_step_27 ⟨Nat.le_of_ble_eq_true rfl, Nat.le_of_ble_eq_true rfl⟩) (fun r14 f14 H locs hr14 hok hP hS => ?_)
      exact W.iret (v := r14) hx hb hr (fun t ht hW => ⟨⟨r14, f14, rfl, trivial, hok, by rw [ht]; exact hP⟩, hS.F ht⟩) hS.2.2 dX11_step_30
  · refine lv_aload_n hx hb dX11_step_4 rfl (lv_at hl 0 rfl) ?_
    refine lv_iconst (v := 1) hx hb dX11_step_5 (by decide) ?_
    obtain ⟨y5_15, he15⟩ := ok_X11 hok ha0
    refine tc_i hAL hS hA (va_runV (As := [.int 1]) (rest := []) ⟨hx, hb, hml, hown, noTs⟩ (t_X11_fail l dC dI s.heap.size G cs tt mm a0 ha0 1) ⟨cbE 1 (wd_436 hE) (wd_115 hE) (wd_433 hE) rfl rfl (by decide +kernel) ⟨Nat.le_of_ble_eq_true rfl, Nat.le_of_ble_eq_true rfl⟩, (wd_435 hE), (wd_1 hE)⟩ ⟨PT.blind, th_recv hK hP ha0.1 he15 rfl, (th_pre (av := [.ref a0, .int 1]) hK hP hok hnd hWT hE)⟩ rfl rfl hl.1 rfl (lv_room (Nat.le_of_ble_eq_true rfl)) dX11_step_6 ⟨Nat.le_of_ble_eq_true rfl, Nat.le_of_ble_eq_true rfl⟩) (fun r16 f16 H locs hr16 hok hP hS => ?_)
    exact W.iret (v := r16) hx hb hr (fun t ht hW => ⟨⟨r16, f16, rfl, trivial, hok, by rw [ht]; exact hP⟩, hS.F ht⟩) hS.2.2 dX11_step_9

set_option maxHeartbeats 4000000 in
set_option maxRecDepth 100000 in
theorem t_X11_readTwo (l : Launch) (dC : Nat → ClassId) (dI : Nat → Nat → Nat) (sz : Nat) (G : GT) (cs : Nat → ClassId) (tt mm : Nat) (a0 : Nat) (ha0 : Ty G a0 11) (v1 : Int32) (v2 : Int32) : Met l yX11_readTwo [.code yX11_readTwo cX11_readTwo 3 (some .boolean)] ({ frames := 2, cells := 0, slots := 0, locals := 80 }) (PT [.ref a0, .int v1, .int v2] sz dC dI G cs tt mm) (va_Qi (fun (r : Int32) (u : Nat → va_E) => r = 0 ∨ r = 1) (BT dC dI G cs tt mm) (AT G sz)) 0 0 (AT G sz) := by
  refine Met.ofW (cc := cX11_readTwo) (maxL := 3) (ret := (some .boolean)) (by decide) rfl ?_
  intro p e s m args below meth c s₁ B hml hv
  obtain ⟨rfl, hsz, ⟨f0, hok, hP⟩, hK, hnd, hWT, hE⟩ := hv
  have hx := B.exec
  have hb := B.bytes
  have hr := B.returns
  have hown : s.vm.findClass RX11 = some m.cls := findClass_of_methodNamed B.named
  have hlocks := B.notSynchronized
  subst hsz
  have hAL : ∀ a, a ∈ gL G → AT G s.heap.size a := fun a h => Or.inl h
  have hA : ∀ q : Nat, s.heap.size ≤ q → AT G s.heap.size q := fun q h => Or.inr h
  have hS : va_S (AT G s.heap.size) s.heap s.heap [] := va_S.rf
  have hl := lv_entry ([.ref a0, .int v1, .int v2]) (n := 3) (Nat.le_of_ble_eq_true rfl)
  rw [lg_entry_eq]
  generalize (lg_sl ([.ref a0, .int v1, .int v2]) ++ List.replicate (3 - (lg_sl ([.ref a0, .int v1, .int v2])).length) Slot.unset).toArray = ls at hl ⊢
  have hl : lv_has ls 3 [(0, .ref a0), (1, .int v1), (2, .int v2)] := hl
  refine lv_aload_n hx hb dX11_readTwo_0 rfl (lv_at hl 0 rfl) ?_
  obtain ⟨y5_1, he1⟩ := ok_X11 hok ha0
  refine th_get hx hb (ly_X11 hE) hown hK hP ha0.1 he1 rfl 0 (by decide) (wd_359 hE) (fun _ h9 => h9) rfl dX11_readTwo_1 ?_
  refine lv_iload_n hx hb dX11_readTwo_4 rfl (lv_at hl 1 rfl) ?_
  refine lv_aload_n hx hb dX11_readTwo_5 rfl (lv_at hl 0 rfl) ?_
  refine th_get hx hb (ly_X11 hE) hown hK hP ha0.1 he1 rfl 10 (by decide) (wd_369 hE) (fun _ h9 => h9) rfl dX11_readTwo_6 ?_
  have he2 := ok_X7 hok (wt_X11_0 hWT ha0)
  refine tc_i hAL hS hA (va_runV (As := [.int v1, .ref (gR G a0 10)]) (rest := []) ⟨hx, hb, hml, hown, noTs⟩ (t_X7_readWord l dC dI s.heap.size G cs tt mm (gR G a0 0) ((wt_X11_0 hWT ha0)) v1 (gR G a0 10) ((wt_X11_10 hWT ha0))) ⟨cbE 2 (wd_817 hE) (wd_116 hE) (wd_814 hE) rfl rfl (by decide +kernel) ⟨Nat.le_of_ble_eq_true rfl, Nat.le_of_ble_eq_true rfl⟩, (wd_815 hE), (wd_816 hE)⟩ ⟨PT.blind, th_recv hK hP (wt_X11_0 hWT ha0).1 he2 rfl, (th_pre (av := [.ref (gR G a0 0), .int v1, .ref (gR G a0 10)]) hK hP hok hnd hWT hE)⟩ rfl rfl hl.1 rfl (lv_room (Nat.le_of_ble_eq_true rfl)) dX11_readTwo_9 ⟨Nat.le_of_ble_eq_true rfl, Nat.le_of_ble_eq_true rfl⟩) (fun r3 f3 H locs hr3 hok hP hS => ?_)
  refine lv_if_eq (tgt := 34) hx hb dX11_readTwo_12 (by decide) (fun c4 => ?_) (fun c4 => ?_)
  · refine lv_iconst (v := 0) hx hb dX11_readTwo_34 (by decide) ?_
    exact W.zret (v := 0) hx hb hr rfl (fun t ht hW => ⟨⟨0, f3, rfl, Or.inl rfl, hok, by rw [ht]; exact hP⟩, hS.F ht⟩) hS.2.2 dX11_readTwo_35
  · refine lv_aload_n hx hb dX11_readTwo_15 rfl (lv_at hl 0 rfl) ?_
    obtain ⟨y5_5, he5⟩ := ok_X11 hok ha0
    refine th_get hx hb (ly_X11 hE) hown hK hP ha0.1 he5 rfl 0 (by decide) (wd_359 hE) (fun _ h9 => h9) rfl dX11_readTwo_16 ?_
    refine lv_iload_n hx hb dX11_readTwo_19 rfl (lv_at hl 2 rfl) ?_
    refine lv_aload_n hx hb dX11_readTwo_20 rfl (lv_at hl 0 rfl) ?_
    refine th_get hx hb (ly_X11 hE) hown hK hP ha0.1 he5 rfl 11 (by decide) (wd_370 hE) (fun _ h9 => h9) rfl dX11_readTwo_21 ?_
    have he6 := ok_X7 hok (wt_X11_0 hWT ha0)
    refine tc_i hAL hS hA (va_runV (As := [.int v2, .ref (gR G a0 11)]) (rest := []) ⟨hx, hb, hml, hown, noTs⟩ (t_X7_readWord l dC dI H.size G cs tt mm (gR G a0 0) ((wt_X11_0 hWT ha0)) v2 (gR G a0 11) ((wt_X11_11 hWT ha0))) ⟨cbE 2 (wd_817 hE) (wd_116 hE) (wd_814 hE) rfl rfl (by decide +kernel) ⟨Nat.le_of_ble_eq_true rfl, Nat.le_of_ble_eq_true rfl⟩, (wd_815 hE), (wd_816 hE)⟩ ⟨PT.blind, th_recv hK hP (wt_X11_0 hWT ha0).1 he6 rfl, (th_pre (av := [.ref (gR G a0 0), .int v2, .ref (gR G a0 11)]) hK hP hok hnd hWT hE)⟩ rfl rfl hl.1 rfl (lv_room (Nat.le_of_ble_eq_true rfl)) dX11_readTwo_24 ⟨Nat.le_of_ble_eq_true rfl, Nat.le_of_ble_eq_true rfl⟩) (fun r7 f7 H locs hr7 hok hP hS => ?_)
    refine lv_if_eq (tgt := 34) hx hb dX11_readTwo_27 (by decide) (fun c8 => ?_) (fun c8 => ?_)
    · refine lv_iconst (v := 0) hx hb dX11_readTwo_34 (by decide) ?_
      exact W.zret (v := 0) hx hb hr rfl (fun t ht hW => ⟨⟨0, f7, rfl, Or.inl rfl, hok, by rw [ht]; exact hP⟩, hS.F ht⟩) hS.2.2 dX11_readTwo_35
    · refine lv_iconst (v := 1) hx hb dX11_readTwo_30 (by decide) ?_
      refine lv_goto (tgt := 35) hx hb dX11_readTwo_31 (by decide) ?_
      exact W.zret (v := 1) hx hb hr rfl (fun t ht hW => ⟨⟨1, f7, rfl, Or.inr rfl, hok, by rw [ht]; exact hP⟩, hS.F ht⟩) hS.2.2 dX11_readTwo_35

set_option maxHeartbeats 4000000 in
set_option maxRecDepth 100000 in
theorem t_X11_readLoop (l : Launch) (dC : Nat → ClassId) (dI : Nat → Nat → Nat) (sz : Nat) (G : GT) (cs : Nat → ClassId) (tt mm : Nat) (a0 : Nat) (ha0 : Ty G a0 11) (v1 : Int32) : Met l yX11_readLoop [.code yX11_readLoop cX11_readLoop 2 (some .int)] ({ frames := 4, cells := 0, slots := 0, locals := 160 }) (PT [.ref a0, .int v1] sz dC dI G cs tt mm) (va_Qi (fun (r : Int32) (u : Nat → va_E) => True) (BT dC dI G cs tt mm) (AT G sz)) 0 0 (AT G sz) := by
  refine Met.ofW (cc := cX11_readLoop) (maxL := 2) (ret := (some .int)) (by decide) rfl ?_
  intro p e s m args below meth c s₁ B hml hv
  obtain ⟨rfl, hsz, ⟨f0, hok, hP⟩, hK, hnd, hWT, hE⟩ := hv
  have hx := B.exec
  have hb := B.bytes
  have hr := B.returns
  have hown : s.vm.findClass RX11 = some m.cls := findClass_of_methodNamed B.named
  have hlocks := B.notSynchronized
  subst hsz
  have hAL : ∀ a, a ∈ gL G → AT G s.heap.size a := fun a h => Or.inl h
  have hA : ∀ q : Nat, s.heap.size ≤ q → AT G s.heap.size q := fun q h => Or.inr h
  have hS : va_S (AT G s.heap.size) s.heap s.heap [] := va_S.rf
  have hl := lv_entry ([.ref a0, .int v1]) (n := 2) (Nat.le_of_ble_eq_true rfl)
  rw [lg_entry_eq]
  generalize (lg_sl ([.ref a0, .int v1]) ++ List.replicate (2 - (lg_sl ([.ref a0, .int v1])).length) Slot.unset).toArray = ls at hl ⊢
  have hl : lv_has ls 2 [(0, .ref a0), (1, .int v1)] := hl
  refine lv_aload_n hx hb dX11_readLoop_0 rfl (lv_at hl 0 rfl) ?_
  obtain ⟨y5_1, he1⟩ := ok_X11 hok ha0
  refine th_get hx hb (ly_X11 hE) hown hK hP ha0.1 he1 rfl 0 (by decide) (wd_359 hE) (fun _ h9 => h9) rfl dX11_readLoop_1 ?_
  refine lv_iload_n hx hb dX11_readLoop_4 rfl (lv_at hl 1 rfl) ?_
  refine lv_aload_n hx hb dX11_readLoop_5 rfl (lv_at hl 0 rfl) ?_
  refine th_get hx hb (ly_X11 hE) hown hK hP ha0.1 he1 rfl 10 (by decide) (wd_369 hE) (fun _ h9 => h9) rfl dX11_readLoop_6 ?_
  have he2 := ok_X7 hok (wt_X11_0 hWT ha0)
  refine tc_i hAL hS hA (va_runV (As := [.int v1, .ref (gR G a0 10)]) (rest := []) ⟨hx, hb, hml, hown, noTs⟩ (t_X7_readWord l dC dI s.heap.size G cs tt mm (gR G a0 0) ((wt_X11_0 hWT ha0)) v1 (gR G a0 10) ((wt_X11_10 hWT ha0))) ⟨cbE 2 (wd_817 hE) (wd_116 hE) (wd_814 hE) rfl rfl (by decide +kernel) ⟨Nat.le_of_ble_eq_true rfl, Nat.le_of_ble_eq_true rfl⟩, (wd_815 hE), (wd_816 hE)⟩ ⟨PT.blind, th_recv hK hP (wt_X11_0 hWT ha0).1 he2 rfl, (th_pre (av := [.ref (gR G a0 0), .int v1, .ref (gR G a0 10)]) hK hP hok hnd hWT hE)⟩ rfl rfl hl.1 rfl (lv_room (Nat.le_of_ble_eq_true rfl)) dX11_readLoop_9 ⟨Nat.le_of_ble_eq_true rfl, Nat.le_of_ble_eq_true rfl⟩) (fun r3 f3 H locs hr3 hok hP hS => ?_)
  refine lv_if_ne (tgt := 17) hx hb dX11_readLoop_12 (by decide) (fun c4 => ?_) (fun c4 => ?_)
  · refine lv_aload_n hx hb dX11_readLoop_17 rfl (lv_at hl 0 rfl) ?_
    obtain ⟨y5_5, he5⟩ := ok_X11 hok ha0
    refine th_get hx hb (ly_X11 hE) hown hK hP ha0.1 he5 rfl 0 (by decide) (wd_359 hE) (fun _ h9 => h9) rfl dX11_readLoop_18 ?_
    refine lv_aload_n hx hb dX11_readLoop_21 rfl (lv_at hl 0 rfl) ?_
    refine th_get hx hb (ly_X11 hE) hown hK hP ha0.1 he5 rfl 10 (by decide) (wd_369 hE) (fun _ h9 => h9) rfl dX11_readLoop_22 ?_
    have he6 := ok_X7 hok (wt_X11_0 hWT ha0)
    refine vp_callSi (va_Run.run (va_runV (As := [.ref (gR G a0 10)]) (rest := []) ⟨hx, hb, hml, hown, noTs⟩ (t_X7_isLoop l dC dI H.size G cs tt mm (gR G a0 0) ((wt_X11_0 hWT ha0)) (gR G a0 10) ((wt_X11_10 hWT ha0))) ⟨cbE 1 (wd_949 hE) (wd_116 hE) (wd_946 hE) rfl rfl (by decide +kernel) ⟨Nat.le_of_ble_eq_true rfl, Nat.le_of_ble_eq_true rfl⟩, (wd_947 hE), (wd_948 hE)⟩ ⟨PT.blind, th_recv hK hP (wt_X11_0 hWT ha0).1 he6 rfl, (th_pre (av := [.ref (gR G a0 0), .ref (gR G a0 10)]) hK hP hok hnd hWT hE)⟩ rfl rfl hl.1 rfl (lv_room (Nat.le_of_ble_eq_true rfl)) dX11_readLoop_25 ⟨Nat.le_of_ble_eq_true rfl, Nat.le_of_ble_eq_true rfl⟩)) (fun r7 hr7 => ?_)
    refine lv_if_eq (tgt := 35) hx hb dX11_readLoop_28 (by decide) (fun c8 => ?_) (fun c8 => ?_)
    · refine lv_iconst (v := 4) hx hb dX11_readLoop_35 (by decide) ?_
      exact W.iret (v := 4) hx hb hr (fun t ht hW => ⟨⟨4, f3, rfl, trivial, hok, by rw [ht]; exact hP⟩, hS.F ht⟩) hS.2.2 dX11_readLoop_36
    · refine lv_iconst (v := 0) hx hb dX11_readLoop_31 (by decide) ?_
      refine lv_goto (tgt := 36) hx hb dX11_readLoop_32 (by decide) ?_
      exact W.iret (v := 0) hx hb hr (fun t ht hW => ⟨⟨0, f3, rfl, trivial, hok, by rw [ht]; exact hP⟩, hS.F ht⟩) hS.2.2 dX11_readLoop_36
  · refine lv_iconst (v := 2) hx hb dX11_readLoop_15 (by decide) ?_
    exact W.iret (v := 2) hx hb hr (fun t ht hW => ⟨⟨2, f3, rfl, trivial, hok, by rw [ht]; exact hP⟩, hS.F ht⟩) hS.2.2 dX11_readLoop_16

set_option maxHeartbeats 4000000 in
set_option maxRecDepth 100000 in
theorem t_X11_cannotGrowFromLoop (l : Launch) (dC : Nat → ClassId) (dI : Nat → Nat → Nat) (sz : Nat) (G : GT) (cs : Nat → ClassId) (tt mm : Nat) (a0 : Nat) (ha0 : Ty G a0 11) (v1 : Int32) : Met l yX11_cannotGrowFromLoop [.code yX11_cannotGrowFromLoop cX11_cannotGrowFromLoop 3 (some .int)] ({ frames := 5, cells := 0, slots := 0, locals := 200 }) (PT [.ref a0, .int v1] sz dC dI G cs tt mm) (va_Qi (fun (r : Int32) (u : Nat → va_E) => True) (BT dC dI G cs tt mm) (AT G sz)) 0 0 (AT G sz) := by
  refine Met.ofW (cc := cX11_cannotGrowFromLoop) (maxL := 3) (ret := (some .int)) (by decide) rfl ?_
  intro p e s m args below meth c s₁ B hml hv
  obtain ⟨rfl, hsz, ⟨f0, hok, hP⟩, hK, hnd, hWT, hE⟩ := hv
  have hx := B.exec
  have hb := B.bytes
  have hr := B.returns
  have hown : s.vm.findClass RX11 = some m.cls := findClass_of_methodNamed B.named
  have hlocks := B.notSynchronized
  subst hsz
  have hAL : ∀ a, a ∈ gL G → AT G s.heap.size a := fun a h => Or.inl h
  have hA : ∀ q : Nat, s.heap.size ≤ q → AT G s.heap.size q := fun q h => Or.inr h
  have hS : va_S (AT G s.heap.size) s.heap s.heap [] := va_S.rf
  have hl := lv_entry ([.ref a0, .int v1]) (n := 3) (Nat.le_of_ble_eq_true rfl)
  rw [lg_entry_eq]
  generalize (lg_sl ([.ref a0, .int v1]) ++ List.replicate (3 - (lg_sl ([.ref a0, .int v1])).length) Slot.unset).toArray = ls at hl ⊢
  have hl : lv_has ls 3 [(0, .ref a0), (1, .int v1)] := hl
  refine lv_aload_n hx hb dX11_cannotGrowFromLoop_0 rfl (lv_at hl 0 rfl) ?_
  refine lv_iload_n hx hb dX11_cannotGrowFromLoop_1 rfl (lv_at hl 1 rfl) ?_
  obtain ⟨y5_1, he1⟩ := ok_X11 hok ha0
  refine tc_i hAL hS hA (va_runV (As := [.int v1]) (rest := []) ⟨hx, hb, hml, hown, noTs⟩ (t_X11_readLoop l dC dI s.heap.size G cs tt mm a0 ha0 v1) ⟨cbE 1 (wd_945 hE) (wd_115 hE) (wd_942 hE) rfl rfl (by decide +kernel) ⟨Nat.le_of_ble_eq_true rfl, Nat.le_of_ble_eq_true rfl⟩, (wd_944 hE), (wd_31 hE)⟩ ⟨PT.blind, th_recv hK hP ha0.1 he1 rfl, (th_pre (av := [.ref a0, .int v1]) hK hP hok hnd hWT hE)⟩ rfl rfl hl.1 rfl (lv_room (Nat.le_of_ble_eq_true rfl)) dX11_cannotGrowFromLoop_2 ⟨Nat.le_of_ble_eq_true rfl, Nat.le_of_ble_eq_true rfl⟩) (fun r2 f2 H locs hr2 hok hP hS => ?_)
  refine lv_istore_n (lv' := [(2, .int r2), (0, .ref a0), (1, .int v1)]) hx hb dX11_cannotGrowFromLoop_5 rfl hl (by decide) rfl (fun ls hl => ?_)
  refine lv_iload_n hx hb dX11_cannotGrowFromLoop_6 rfl (lv_at hl 0 rfl) ?_
  refine lv_iconst (v := 2) hx hb dX11_cannotGrowFromLoop_7 (by decide) ?_
  refine lv_icmp_eq (tgt := 25) hx hb dX11_cannotGrowFromLoop_8 (by decide) (fun c3 => ?_) (fun c3 => ?_)
  · refine lv_iload_n hx hb dX11_cannotGrowFromLoop_25 rfl (lv_at hl 0 rfl) ?_
    exact W.iret (v := r2) hx hb hr (fun t ht hW => ⟨⟨r2, f2, rfl, trivial, hok, by rw [ht]; exact hP⟩, hS.F ht⟩) hS.2.2 dX11_cannotGrowFromLoop_26
  · refine lv_aload_n hx hb dX11_cannotGrowFromLoop_11 rfl (lv_at hl 1 rfl) ?_
    obtain ⟨y5_4, he4⟩ := ok_X11 hok ha0
    refine th_get hx hb (ly_X11 hE) hown hK hP ha0.1 he4 rfl 0 (by decide) (wd_359 hE) (fun _ h9 => h9) rfl dX11_cannotGrowFromLoop_12 ?_
    have he5 := ok_X7 hok (wt_X11_0 hWT ha0)
    refine vp_callSi (va_Run.run (va_runV (As := []) (rest := []) ⟨hx, hb, hml, hown, noTs⟩ (t_X7_isFull l dC dI H.size G cs tt mm (gR G a0 0) ((wt_X11_0 hWT ha0))) ⟨cbE 0 (wd_633 hE) (wd_116 hE) (wd_899 hE) rfl rfl (by decide +kernel) ⟨Nat.le_of_ble_eq_true rfl, Nat.le_of_ble_eq_true rfl⟩, (wd_631 hE), (wd_632 hE)⟩ ⟨PT.blind, th_recv hK hP (wt_X11_0 hWT ha0).1 he5 rfl, (th_pre (av := [.ref (gR G a0 0)]) hK hP hok hnd hWT hE)⟩ rfl rfl hl.1 rfl (lv_room (Nat.le_of_ble_eq_true rfl)) dX11_cannotGrowFromLoop_15 ⟨Nat.le_of_ble_eq_true rfl, Nat.le_of_ble_eq_true rfl⟩)) (fun r6 hr6 => ?_)
    refine lv_if_eq (tgt := 25) hx hb dX11_cannotGrowFromLoop_18 (by decide) (fun c7 => ?_) (fun c7 => ?_)
    · refine lv_iload_n hx hb dX11_cannotGrowFromLoop_25 rfl (lv_at hl 0 rfl) ?_
      exact W.iret (v := r2) hx hb hr (fun t ht hW => ⟨⟨r2, f2, rfl, trivial, hok, by rw [ht]; exact hP⟩, hS.F ht⟩) hS.2.2 dX11_cannotGrowFromLoop_26
    · refine lv_iconst (v := 3) hx hb dX11_cannotGrowFromLoop_21 (by decide) ?_
      refine lv_goto (tgt := 26) hx hb dX11_cannotGrowFromLoop_22 (by decide) ?_
      exact W.iret (v := 3) hx hb hr (fun t ht hW => ⟨⟨3, f2, rfl, trivial, hok, by rw [ht]; exact hP⟩, hS.F ht⟩) hS.2.2 dX11_cannotGrowFromLoop_26

set_option maxHeartbeats 4000000 in
set_option maxRecDepth 100000 in
theorem t_X11_steps (l : Launch) (dC : Nat → ClassId) (dI : Nat → Nat → Nat) (sz : Nat) (G : GT) (cs : Nat → ClassId) (tt mm : Nat) (a0 : Nat) (ha0 : Ty G a0 11) (v1 : Int32) : Met l yX11_steps [.code yX11_steps cX11_steps 2 (some .int)] ({ frames := 5, cells := 0, slots := 0, locals := 200 }) (PT [.ref a0, .int v1] sz dC dI G cs tt mm) (va_Qi (fun (r : Int32) (u : Nat → va_E) => True) (BT dC dI G cs tt mm) (AT G sz)) 0 0 (AT G sz) := by
  refine Met.ofW (cc := cX11_steps) (maxL := 2) (ret := (some .int)) (by decide) rfl ?_
  intro p e s m args below meth c s₁ B hml hv
  obtain ⟨rfl, hsz, ⟨f0, hok, hP⟩, hK, hnd, hWT, hE⟩ := hv
  have hx := B.exec
  have hb := B.bytes
  have hr := B.returns
  have hown : s.vm.findClass RX11 = some m.cls := findClass_of_methodNamed B.named
  have hlocks := B.notSynchronized
  subst hsz
  have hAL : ∀ a, a ∈ gL G → AT G s.heap.size a := fun a h => Or.inl h
  have hA : ∀ q : Nat, s.heap.size ≤ q → AT G s.heap.size q := fun q h => Or.inr h
  have hS : va_S (AT G s.heap.size) s.heap s.heap [] := va_S.rf
  have hl := lv_entry ([.ref a0, .int v1]) (n := 2) (Nat.le_of_ble_eq_true rfl)
  rw [lg_entry_eq]
  generalize (lg_sl ([.ref a0, .int v1]) ++ List.replicate (2 - (lg_sl ([.ref a0, .int v1])).length) Slot.unset).toArray = ls at hl ⊢
  have hl : lv_has ls 2 [(0, .ref a0), (1, .int v1)] := hl
  refine lv_aload_n hx hb dX11_steps_0 rfl (lv_at hl 0 rfl) ?_
  obtain ⟨y5_1, he1⟩ := ok_X11 hok ha0
  refine th_get hx hb (ly_X11 hE) hown hK hP ha0.1 he1 rfl 0 (by decide) (wd_359 hE) (fun _ h9 => h9) rfl dX11_steps_1 ?_
  refine lv_iload_n hx hb dX11_steps_4 rfl (lv_at hl 1 rfl) ?_
  refine lv_aload_n hx hb dX11_steps_5 rfl (lv_at hl 0 rfl) ?_
  refine th_get hx hb (ly_X11 hE) hown hK hP ha0.1 he1 rfl 10 (by decide) (wd_369 hE) (fun _ h9 => h9) rfl dX11_steps_6 ?_
  have he2 := ok_X7 hok (wt_X11_0 hWT ha0)
  refine tc_i hAL hS hA (va_runV (As := [.int v1, .ref (gR G a0 10)]) (rest := []) ⟨hx, hb, hml, hown, noTs⟩ (t_X7_readWord l dC dI s.heap.size G cs tt mm (gR G a0 0) ((wt_X11_0 hWT ha0)) v1 (gR G a0 10) ((wt_X11_10 hWT ha0))) ⟨cbE 2 (wd_817 hE) (wd_116 hE) (wd_814 hE) rfl rfl (by decide +kernel) ⟨Nat.le_of_ble_eq_true rfl, Nat.le_of_ble_eq_true rfl⟩, (wd_815 hE), (wd_816 hE)⟩ ⟨PT.blind, th_recv hK hP (wt_X11_0 hWT ha0).1 he2 rfl, (th_pre (av := [.ref (gR G a0 0), .int v1, .ref (gR G a0 10)]) hK hP hok hnd hWT hE)⟩ rfl rfl hl.1 rfl (lv_room (Nat.le_of_ble_eq_true rfl)) dX11_steps_9 ⟨Nat.le_of_ble_eq_true rfl, Nat.le_of_ble_eq_true rfl⟩) (fun r3 f3 H locs hr3 hok hP hS => ?_)
  refine lv_if_ne (tgt := 21) hx hb dX11_steps_12 (by decide) (fun c4 => ?_) (fun c4 => ?_)
  · refine lv_aload_n hx hb dX11_steps_21 rfl (lv_at hl 0 rfl) ?_
    obtain ⟨y5_5, he5⟩ := ok_X11 hok ha0
    refine th_get hx hb (ly_X11 hE) hown hK hP ha0.1 he5 rfl 0 (by decide) (wd_359 hE) (fun _ h9 => h9) rfl dX11_steps_22 ?_
    refine lv_aload_n hx hb dX11_steps_25 rfl (lv_at hl 0 rfl) ?_
    refine th_get hx hb (ly_X11 hE) hown hK hP ha0.1 he5 rfl 10 (by decide) (wd_369 hE) (fun _ h9 => h9) rfl dX11_steps_26 ?_
    refine lv_aload_n hx hb dX11_steps_29 rfl (lv_at hl 0 rfl) ?_
    refine th_get hx hb (ly_X11 hE) hown hK hP ha0.1 he5 rfl 12 (by decide) (wd_371 hE) (fun _ h9 => h9) rfl dX11_steps_30 ?_
    refine tc_i hAL hS hA (va_runS (As := [.ref (gR G a0 0), .ref (gR G a0 10), .ref (gR G a0 12)]) (rest := []) ⟨hx, hb, hml, hown, noTs⟩ (t_X2_reduce l dC dI H.size G cs tt mm (gR G a0 0) ((wt_X11_0 hWT ha0)) (gR G a0 10) ((wt_X11_10 hWT ha0)) (gR G a0 12) ((wt_X11_12 hWT ha0))) ⟨cbE 3 (wd_837 hE) (wd_134 hE) (wd_835 hE) rfl rfl (by decide +kernel) ⟨Nat.le_of_ble_eq_true rfl, Nat.le_of_ble_eq_true rfl⟩, (wd_836 hE)⟩ ⟨PT.blind, (th_pre (av := [.ref (gR G a0 0), .ref (gR G a0 10), .ref (gR G a0 12)]) hK hP hok hnd hWT hE)⟩ rfl rfl hl.1 rfl (lv_room (Nat.le_of_ble_eq_true rfl)) dX11_steps_33 ⟨Nat.le_of_ble_eq_true rfl, Nat.le_of_ble_eq_true rfl⟩) (fun r6 f6 H locs hr6 hok hP hS => ?_)
    refine lv_pop hx hb dX11_steps_36 rfl ?_
    refine lv_aload_n hx hb dX11_steps_37 rfl (lv_at hl 0 rfl) ?_
    refine lv_aload_n hx hb dX11_steps_38 rfl (lv_at hl 0 rfl) ?_
    obtain ⟨y5_7, he7⟩ := ok_X11 hok ha0
    refine th_get hx hb (ly_X11 hE) hown hK hP ha0.1 he7 rfl 12 (by decide) (wd_371 hE) (fun _ h9 => h9) rfl dX11_steps_39 ?_
    obtain ⟨y2_8, y3_8, hy3_8, he8⟩ := ok_X10 hok (wt_X11_12 hWT ha0)
    refine vp_callSi (va_Run.run (va_runV (As := []) (rest := [.ref a0]) ⟨hx, hb, hml, hown, noTs⟩ (t_X10_size l dC dI H.size G cs tt mm (gR G a0 12) ((wt_X11_12 hWT ha0))) ⟨cbE 0 (wd_666 hE) (wd_120 hE) (wd_834 hE) rfl rfl (by decide +kernel) ⟨Nat.le_of_ble_eq_true rfl, Nat.le_of_ble_eq_true rfl⟩, (wd_664 hE), (wd_665 hE)⟩ ⟨PT.blind, th_recv hK hP (wt_X11_12 hWT ha0).1 he8 rfl, (th_pre (av := [.ref (gR G a0 12)]) hK hP hok hnd hWT hE)⟩ rfl rfl hl.1 rfl (lv_room (Nat.le_of_ble_eq_true rfl)) dX11_steps_42 ⟨Nat.le_of_ble_eq_true rfl, Nat.le_of_ble_eq_true rfl⟩)) (fun r9 hr9 => ?_)
    obtain ⟨hra9, hrb9⟩ := hr9
    refine tc_i hAL hS hA (va_runV (As := [.int r9]) (rest := []) ⟨hx, hb, hml, hown, noTs⟩ (t_X11_answer l dC dI H.size G cs tt mm a0 ha0 r9) ⟨cbE 1 (wd_748 hE) (wd_115 hE) (wd_745 hE) rfl rfl (by decide +kernel) ⟨Nat.le_of_ble_eq_true rfl, Nat.le_of_ble_eq_true rfl⟩, (wd_747 hE), (wd_23 hE)⟩ ⟨PT.blind, th_recv hK hP ha0.1 he7 rfl, (th_pre (av := [.ref a0, .int r9]) hK hP hok hnd hWT hE)⟩ rfl rfl hl.1 rfl (lv_room (Nat.le_of_ble_eq_true rfl)) dX11_steps_45 ⟨Nat.le_of_ble_eq_true rfl, Nat.le_of_ble_eq_true rfl⟩) (fun r10 f10 H locs hr10 hok hP hS => ?_)
    exact W.iret (v := r10) hx hb hr (fun t ht hW => ⟨⟨r10, f10, rfl, trivial, hok, by rw [ht]; exact hP⟩, hS.F ht⟩) hS.2.2 dX11_steps_48
  · refine lv_aload_n hx hb dX11_steps_15 rfl (lv_at hl 0 rfl) ?_
    refine lv_iconst (v := 2) hx hb dX11_steps_16 (by decide) ?_
    obtain ⟨y5_11, he11⟩ := ok_X11 hok ha0
    refine tc_i hAL hS hA (va_runV (As := [.int 2]) (rest := []) ⟨hx, hb, hml, hown, noTs⟩ (t_X11_fail l dC dI H.size G cs tt mm a0 ha0 2) ⟨cbE 1 (wd_436 hE) (wd_115 hE) (wd_433 hE) rfl rfl (by decide +kernel) ⟨Nat.le_of_ble_eq_true rfl, Nat.le_of_ble_eq_true rfl⟩, (wd_435 hE), (wd_1 hE)⟩ ⟨PT.blind, th_recv hK hP ha0.1 he11 rfl, (th_pre (av := [.ref a0, .int 2]) hK hP hok hnd hWT hE)⟩ rfl rfl hl.1 rfl (lv_room (Nat.le_of_ble_eq_true rfl)) dX11_steps_17 ⟨Nat.le_of_ble_eq_true rfl, Nat.le_of_ble_eq_true rfl⟩) (fun r12 f12 H locs hr12 hok hP hS => ?_)
    exact W.iret (v := r12) hx hb hr (fun t ht hW => ⟨⟨r12, f12, rfl, trivial, hok, by rw [ht]; exact hP⟩, hS.F ht⟩) hS.2.2 dX11_steps_20

set_option maxHeartbeats 4000000 in
set_option maxRecDepth 100000 in
theorem t_X11_readCore (l : Launch) (dC : Nat → ClassId) (dI : Nat → Nat → Nat) (sz : Nat) (G : GT) (cs : Nat → ClassId) (tt mm : Nat) (a0 : Nat) (ha0 : Ty G a0 11) (v1 : Int32) : Met l yX11_readCore [.code yX11_readCore cX11_readCore 3 (some .int)] ({ frames := 5, cells := 0, slots := 0, locals := 200 }) (PT [.ref a0, .int v1] sz dC dI G cs tt mm) (va_Qi (fun (r : Int32) (u : Nat → va_E) => True) (BT dC dI G cs tt mm) (AT G sz)) 0 0 (AT G sz) := by
  refine Met.ofW (cc := cX11_readCore) (maxL := 3) (ret := (some .int)) (by decide) rfl ?_
  intro p e s m args below meth c s₁ B hml hv
  obtain ⟨rfl, hsz, ⟨f0, hok, hP⟩, hK, hnd, hWT, hE⟩ := hv
  have hx := B.exec
  have hb := B.bytes
  have hr := B.returns
  have hown : s.vm.findClass RX11 = some m.cls := findClass_of_methodNamed B.named
  have hlocks := B.notSynchronized
  subst hsz
  have hAL : ∀ a, a ∈ gL G → AT G s.heap.size a := fun a h => Or.inl h
  have hA : ∀ q : Nat, s.heap.size ≤ q → AT G s.heap.size q := fun q h => Or.inr h
  have hS : va_S (AT G s.heap.size) s.heap s.heap [] := va_S.rf
  have hl := lv_entry ([.ref a0, .int v1]) (n := 3) (Nat.le_of_ble_eq_true rfl)
  rw [lg_entry_eq]
  generalize (lg_sl ([.ref a0, .int v1]) ++ List.replicate (3 - (lg_sl ([.ref a0, .int v1])).length) Slot.unset).toArray = ls at hl ⊢
  have hl : lv_has ls 3 [(0, .ref a0), (1, .int v1)] := hl
  refine lv_aload_n hx hb dX11_readCore_0 rfl (lv_at hl 0 rfl) ?_
  refine lv_iload_n hx hb dX11_readCore_1 rfl (lv_at hl 1 rfl) ?_
  obtain ⟨y5_1, he1⟩ := ok_X11 hok ha0
  refine tc_i hAL hS hA (va_runV (As := [.int v1]) (rest := []) ⟨hx, hb, hml, hown, noTs⟩ (t_X11_readLoop l dC dI s.heap.size G cs tt mm a0 ha0 v1) ⟨cbE 1 (wd_945 hE) (wd_115 hE) (wd_942 hE) rfl rfl (by decide +kernel) ⟨Nat.le_of_ble_eq_true rfl, Nat.le_of_ble_eq_true rfl⟩, (wd_944 hE), (wd_31 hE)⟩ ⟨PT.blind, th_recv hK hP ha0.1 he1 rfl, (th_pre (av := [.ref a0, .int v1]) hK hP hok hnd hWT hE)⟩ rfl rfl hl.1 rfl (lv_room (Nat.le_of_ble_eq_true rfl)) dX11_readCore_2 ⟨Nat.le_of_ble_eq_true rfl, Nat.le_of_ble_eq_true rfl⟩) (fun r2 f2 H locs hr2 hok hP hS => ?_)
  refine lv_istore_n (lv' := [(2, .int r2), (0, .ref a0), (1, .int v1)]) hx hb dX11_readCore_5 rfl hl (by decide) rfl (fun ls hl => ?_)
  refine lv_iload_n hx hb dX11_readCore_6 rfl (lv_at hl 0 rfl) ?_
  refine lv_if_ne (tgt := 29) hx hb dX11_readCore_7 (by decide) (fun c3 => ?_) (fun c3 => ?_)
  · refine lv_iload_n hx hb dX11_readCore_29 rfl (lv_at hl 0 rfl) ?_
    exact W.iret (v := r2) hx hb hr (fun t ht hW => ⟨⟨r2, f2, rfl, trivial, hok, by rw [ht]; exact hP⟩, hS.F ht⟩) hS.2.2 dX11_readCore_30
  · refine lv_aload_n hx hb dX11_readCore_10 rfl (lv_at hl 1 rfl) ?_
    obtain ⟨y5_4, he4⟩ := ok_X11 hok ha0
    refine th_get hx hb (ly_X11 hE) hown hK hP ha0.1 he4 rfl 0 (by decide) (wd_359 hE) (fun _ h9 => h9) rfl dX11_readCore_11 ?_
    refine lv_aload_n hx hb dX11_readCore_14 rfl (lv_at hl 1 rfl) ?_
    refine th_get hx hb (ly_X11 hE) hown hK hP ha0.1 he4 rfl 10 (by decide) (wd_369 hE) (fun _ h9 => h9) rfl dX11_readCore_15 ?_
    refine lv_aload_n hx hb dX11_readCore_18 rfl (lv_at hl 1 rfl) ?_
    refine th_get hx hb (ly_X11 hE) hown hK hP ha0.1 he4 rfl 12 (by decide) (wd_371 hE) (fun _ h9 => h9) rfl dX11_readCore_19 ?_
    refine lv_aload_n hx hb dX11_readCore_22 rfl (lv_at hl 1 rfl) ?_
    refine th_get hx hb (ly_X11 hE) hown hK hP ha0.1 he4 rfl 14 (by decide) (wd_373 hE) (fun _ h9 => h9) rfl dX11_readCore_23 ?_
    refine tc_v hAL hS hA (va_runS (As := [.ref (gR G a0 0), .ref (gR G a0 10), .ref (gR G a0 12), .ref (gR G a0 14)]) (rest := []) ⟨hx, hb, hml, hown, noTs⟩ (t_X2_shrink l dC dI H.size G cs tt mm (gR G a0 0) ((wt_X11_0 hWT ha0)) (gR G a0 10) ((wt_X11_10 hWT ha0)) (gR G a0 12) ((wt_X11_12 hWT ha0)) (gR G a0 14) ((wt_X11_14 hWT ha0))) ⟨cbE 4 (wd_962 hE) (wd_134 hE) (wd_960 hE) rfl rfl (by decide +kernel) ⟨Nat.le_of_ble_eq_true rfl, Nat.le_of_ble_eq_true rfl⟩, (wd_961 hE)⟩ ⟨PT.blind, (th_pre (av := [.ref (gR G a0 0), .ref (gR G a0 10), .ref (gR G a0 12), .ref (gR G a0 14)]) hK hP hok hnd hWT hE)⟩ rfl rfl hl.1 rfl (lv_room (Nat.le_of_ble_eq_true rfl)) dX11_readCore_26 ⟨Nat.le_of_ble_eq_true rfl, Nat.le_of_ble_eq_true rfl⟩) (fun f5 H locs hr5 hok hP hS => ?_)
    refine lv_iload_n hx hb dX11_readCore_29 rfl (lv_at hl 0 rfl) ?_
    exact W.iret (v := r2) hx hb hr (fun t ht hW => ⟨⟨r2, f5, rfl, trivial, hok, by rw [ht]; exact hP⟩, hS.F ht⟩) hS.2.2 dX11_readCore_30

set_option maxHeartbeats 4000000 in
set_option maxRecDepth 100000 in
theorem t_X11_length (l : Launch) (dC : Nat → ClassId) (dI : Nat → Nat → Nat) (sz : Nat) (G : GT) (cs : Nat → ClassId) (tt mm : Nat) (a0 : Nat) (ha0 : Ty G a0 11) (v1 : Int32) : Met l yX11_length [.code yX11_length cX11_length 3 (some .int)] ({ frames := 6, cells := 0, slots := 0, locals := 240 }) (PT [.ref a0, .int v1] sz dC dI G cs tt mm) (va_Qi (fun (r : Int32) (u : Nat → va_E) => True) (BT dC dI G cs tt mm) (AT G sz)) 0 0 (AT G sz) := by
  refine Met.ofW (cc := cX11_length) (maxL := 3) (ret := (some .int)) (by decide) rfl ?_
  intro p e s m args below meth c s₁ B hml hv
  obtain ⟨rfl, hsz, ⟨f0, hok, hP⟩, hK, hnd, hWT, hE⟩ := hv
  have hx := B.exec
  have hb := B.bytes
  have hr := B.returns
  have hown : s.vm.findClass RX11 = some m.cls := findClass_of_methodNamed B.named
  have hlocks := B.notSynchronized
  subst hsz
  have hAL : ∀ a, a ∈ gL G → AT G s.heap.size a := fun a h => Or.inl h
  have hA : ∀ q : Nat, s.heap.size ≤ q → AT G s.heap.size q := fun q h => Or.inr h
  have hS : va_S (AT G s.heap.size) s.heap s.heap [] := va_S.rf
  have hl := lv_entry ([.ref a0, .int v1]) (n := 3) (Nat.le_of_ble_eq_true rfl)
  rw [lg_entry_eq]
  generalize (lg_sl ([.ref a0, .int v1]) ++ List.replicate (3 - (lg_sl ([.ref a0, .int v1])).length) Slot.unset).toArray = ls at hl ⊢
  have hl : lv_has ls 3 [(0, .ref a0), (1, .int v1)] := hl
  refine lv_aload_n hx hb dX11_length_0 rfl (lv_at hl 0 rfl) ?_
  refine lv_iload_n hx hb dX11_length_1 rfl (lv_at hl 1 rfl) ?_
  obtain ⟨y5_1, he1⟩ := ok_X11 hok ha0
  refine tc_i hAL hS hA (va_runV (As := [.int v1]) (rest := []) ⟨hx, hb, hml, hown, noTs⟩ (t_X11_readCore l dC dI s.heap.size G cs tt mm a0 ha0 v1) ⟨cbE 1 (wd_1079 hE) (wd_115 hE) (wd_1076 hE) rfl rfl (by decide +kernel) ⟨Nat.le_of_ble_eq_true rfl, Nat.le_of_ble_eq_true rfl⟩, (wd_1078 hE), (wd_38 hE)⟩ ⟨PT.blind, th_recv hK hP ha0.1 he1 rfl, (th_pre (av := [.ref a0, .int v1]) hK hP hok hnd hWT hE)⟩ rfl rfl hl.1 rfl (lv_room (Nat.le_of_ble_eq_true rfl)) dX11_length_2 ⟨Nat.le_of_ble_eq_true rfl, Nat.le_of_ble_eq_true rfl⟩) (fun r2 f2 H locs hr2 hok hP hS => ?_)
  refine lv_istore_n (lv' := [(2, .int r2), (0, .ref a0), (1, .int v1)]) hx hb dX11_length_5 rfl hl (by decide) rfl (fun ls hl => ?_)
  refine lv_iload_n hx hb dX11_length_6 rfl (lv_at hl 0 rfl) ?_
  refine lv_if_eq (tgt := 18) hx hb dX11_length_7 (by decide) (fun c3 => ?_) (fun c3 => ?_)
  · refine lv_aload_n hx hb dX11_length_18 rfl (lv_at hl 1 rfl) ?_
    refine lv_aload_n hx hb dX11_length_19 rfl (lv_at hl 1 rfl) ?_
    obtain ⟨y5_4, he4⟩ := ok_X11 hok ha0
    refine th_get hx hb (ly_X11 hE) hown hK hP ha0.1 he4 rfl 12 (by decide) (wd_371 hE) (fun _ h9 => h9) rfl dX11_length_20 ?_
    obtain ⟨y2_5, y3_5, hy3_5, he5⟩ := ok_X10 hok (wt_X11_12 hWT ha0)
    refine vp_callSi (va_Run.run (va_runV (As := []) (rest := [.ref a0]) ⟨hx, hb, hml, hown, noTs⟩ (t_X10_size l dC dI H.size G cs tt mm (gR G a0 12) ((wt_X11_12 hWT ha0))) ⟨cbE 0 (wd_666 hE) (wd_120 hE) (wd_834 hE) rfl rfl (by decide +kernel) ⟨Nat.le_of_ble_eq_true rfl, Nat.le_of_ble_eq_true rfl⟩, (wd_664 hE), (wd_665 hE)⟩ ⟨PT.blind, th_recv hK hP (wt_X11_12 hWT ha0).1 he5 rfl, (th_pre (av := [.ref (gR G a0 12)]) hK hP hok hnd hWT hE)⟩ rfl rfl hl.1 rfl (lv_room (Nat.le_of_ble_eq_true rfl)) dX11_length_23 ⟨Nat.le_of_ble_eq_true rfl, Nat.le_of_ble_eq_true rfl⟩)) (fun r6 hr6 => ?_)
    obtain ⟨hra6, hrb6⟩ := hr6
    refine tc_i hAL hS hA (va_runV (As := [.int r6]) (rest := []) ⟨hx, hb, hml, hown, noTs⟩ (t_X11_answer l dC dI H.size G cs tt mm a0 ha0 r6) ⟨cbE 1 (wd_748 hE) (wd_115 hE) (wd_745 hE) rfl rfl (by decide +kernel) ⟨Nat.le_of_ble_eq_true rfl, Nat.le_of_ble_eq_true rfl⟩, (wd_747 hE), (wd_23 hE)⟩ ⟨PT.blind, th_recv hK hP ha0.1 he4 rfl, (th_pre (av := [.ref a0, .int r6]) hK hP hok hnd hWT hE)⟩ rfl rfl hl.1 rfl (lv_room (Nat.le_of_ble_eq_true rfl)) dX11_length_26 ⟨Nat.le_of_ble_eq_true rfl, Nat.le_of_ble_eq_true rfl⟩) (fun r7 f7 H locs hr7 hok hP hS => ?_)
    exact W.iret (v := r7) hx hb hr (fun t ht hW => ⟨⟨r7, f7, rfl, trivial, hok, by rw [ht]; exact hP⟩, hS.F ht⟩) hS.2.2 dX11_length_29
  · refine lv_aload_n hx hb dX11_length_10 rfl (lv_at hl 1 rfl) ?_
    refine lv_iload_n hx hb dX11_length_11 rfl (lv_at hl 0 rfl) ?_
    obtain ⟨y5_8, he8⟩ := ok_X11 hok ha0
    refine tc_i hAL hS hA (va_runV (As := [.int r2]) (rest := []) ⟨hx, hb, hml, hown, noTs⟩ (t_X11_fail l dC dI H.size G cs tt mm a0 ha0 r2) ⟨cbE 1 (wd_436 hE) (wd_115 hE) (wd_433 hE) rfl rfl (by decide +kernel) ⟨Nat.le_of_ble_eq_true rfl, Nat.le_of_ble_eq_true rfl⟩, (wd_435 hE), (wd_1 hE)⟩ ⟨PT.blind, th_recv hK hP ha0.1 he8 rfl, (th_pre (av := [.ref a0, .int r2]) hK hP hok hnd hWT hE)⟩ rfl rfl hl.1 rfl (lv_room (Nat.le_of_ble_eq_true rfl)) dX11_length_12 ⟨Nat.le_of_ble_eq_true rfl, Nat.le_of_ble_eq_true rfl⟩) (fun r9 f9 H locs hr9 hok hP hS => ?_)
    refine lv_goto (tgt := 29) hx hb dX11_length_15 (by decide) ?_
    exact W.iret (v := r9) hx hb hr (fun t ht hW => ⟨⟨r9, f9, rfl, trivial, hok, by rw [ht]; exact hP⟩, hS.F ht⟩) hS.2.2 dX11_length_29

set_option maxHeartbeats 4000000 in
set_option maxRecDepth 100000 in
theorem t_X11_readTwoLoops (l : Launch) (dC : Nat → ClassId) (dI : Nat → Nat → Nat) (sz : Nat) (G : GT) (cs : Nat → ClassId) (tt mm : Nat) (a0 : Nat) (ha0 : Ty G a0 11) (v1 : Int32) (v2 : Int32) : Met l yX11_readTwoLoops [.code yX11_readTwoLoops cX11_readTwoLoops 3 (some .int)] ({ frames := 4, cells := 0, slots := 0, locals := 160 }) (PT [.ref a0, .int v1, .int v2] sz dC dI G cs tt mm) (va_Qi (fun (r : Int32) (u : Nat → va_E) => True) (BT dC dI G cs tt mm) (AT G sz)) 0 0 (AT G sz) := by
  refine Met.ofW (cc := cX11_readTwoLoops) (maxL := 3) (ret := (some .int)) (by decide) rfl ?_
  intro p e s m args below meth c s₁ B hml hv
  obtain ⟨rfl, hsz, ⟨f0, hok, hP⟩, hK, hnd, hWT, hE⟩ := hv
  have hx := B.exec
  have hb := B.bytes
  have hr := B.returns
  have hown : s.vm.findClass RX11 = some m.cls := findClass_of_methodNamed B.named
  have hlocks := B.notSynchronized
  subst hsz
  have hAL : ∀ a, a ∈ gL G → AT G s.heap.size a := fun a h => Or.inl h
  have hA : ∀ q : Nat, s.heap.size ≤ q → AT G s.heap.size q := fun q h => Or.inr h
  have hS : va_S (AT G s.heap.size) s.heap s.heap [] := va_S.rf
  have hl := lv_entry ([.ref a0, .int v1, .int v2]) (n := 3) (Nat.le_of_ble_eq_true rfl)
  rw [lg_entry_eq]
  generalize (lg_sl ([.ref a0, .int v1, .int v2]) ++ List.replicate (3 - (lg_sl ([.ref a0, .int v1, .int v2])).length) Slot.unset).toArray = ls at hl ⊢
  have hl : lv_has ls 3 [(0, .ref a0), (1, .int v1), (2, .int v2)] := hl
  refine lv_aload_n hx hb dX11_readTwoLoops_0 rfl (lv_at hl 0 rfl) ?_
  refine lv_iload_n hx hb dX11_readTwoLoops_1 rfl (lv_at hl 1 rfl) ?_
  refine lv_iload_n hx hb dX11_readTwoLoops_2 rfl (lv_at hl 2 rfl) ?_
  obtain ⟨y5_1, he1⟩ := ok_X11 hok ha0
  refine tc_i hAL hS hA (va_runV (As := [.int v1, .int v2]) (rest := []) ⟨hx, hb, hml, hown, noTs⟩ (t_X11_readTwo l dC dI s.heap.size G cs tt mm a0 ha0 v1 v2) ⟨cbE 2 (wd_919 hE) (wd_115 hE) (wd_916 hE) rfl rfl (by decide +kernel) ⟨Nat.le_of_ble_eq_true rfl, Nat.le_of_ble_eq_true rfl⟩, (wd_918 hE), (wd_29 hE)⟩ ⟨PT.blind, th_recv hK hP ha0.1 he1 rfl, (th_pre (av := [.ref a0, .int v1, .int v2]) hK hP hok hnd hWT hE)⟩ rfl rfl hl.1 rfl (lv_room (Nat.le_of_ble_eq_true rfl)) dX11_readTwoLoops_3 ⟨Nat.le_of_ble_eq_true rfl, Nat.le_of_ble_eq_true rfl⟩) (fun r2 f2 H locs hr2 hok hP hS => ?_)
  refine lv_if_ne (tgt := 11) hx hb dX11_readTwoLoops_6 (by decide) (fun c3 => ?_) (fun c3 => ?_)
  · refine lv_aload_n hx hb dX11_readTwoLoops_11 rfl (lv_at hl 0 rfl) ?_
    obtain ⟨y5_4, he4⟩ := ok_X11 hok ha0
    refine th_get hx hb (ly_X11 hE) hown hK hP ha0.1 he4 rfl 0 (by decide) (wd_359 hE) (fun _ h9 => h9) rfl dX11_readTwoLoops_12 ?_
    refine lv_aload_n hx hb dX11_readTwoLoops_15 rfl (lv_at hl 0 rfl) ?_
    refine th_get hx hb (ly_X11 hE) hown hK hP ha0.1 he4 rfl 10 (by decide) (wd_369 hE) (fun _ h9 => h9) rfl dX11_readTwoLoops_16 ?_
    have he5 := ok_X7 hok (wt_X11_0 hWT ha0)
    refine vp_callSi (va_Run.run (va_runV (As := [.ref (gR G a0 10)]) (rest := []) ⟨hx, hb, hml, hown, noTs⟩ (t_X7_isLoop l dC dI H.size G cs tt mm (gR G a0 0) ((wt_X11_0 hWT ha0)) (gR G a0 10) ((wt_X11_10 hWT ha0))) ⟨cbE 1 (wd_949 hE) (wd_116 hE) (wd_946 hE) rfl rfl (by decide +kernel) ⟨Nat.le_of_ble_eq_true rfl, Nat.le_of_ble_eq_true rfl⟩, (wd_947 hE), (wd_948 hE)⟩ ⟨PT.blind, th_recv hK hP (wt_X11_0 hWT ha0).1 he5 rfl, (th_pre (av := [.ref (gR G a0 0), .ref (gR G a0 10)]) hK hP hok hnd hWT hE)⟩ rfl rfl hl.1 rfl (lv_room (Nat.le_of_ble_eq_true rfl)) dX11_readTwoLoops_19 ⟨Nat.le_of_ble_eq_true rfl, Nat.le_of_ble_eq_true rfl⟩)) (fun r6 hr6 => ?_)
    refine lv_if_eq (tgt := 43) hx hb dX11_readTwoLoops_22 (by decide) (fun c7 => ?_) (fun c7 => ?_)
    · refine lv_iconst (v := 4) hx hb dX11_readTwoLoops_43 (by decide) ?_
      exact W.iret (v := 4) hx hb hr (fun t ht hW => ⟨⟨4, f2, rfl, trivial, hok, by rw [ht]; exact hP⟩, hS.F ht⟩) hS.2.2 dX11_readTwoLoops_44
    · refine lv_aload_n hx hb dX11_readTwoLoops_25 rfl (lv_at hl 0 rfl) ?_
      refine th_get hx hb (ly_X11 hE) hown hK hP ha0.1 he4 rfl 0 (by decide) (wd_359 hE) (fun _ h9 => h9) rfl dX11_readTwoLoops_26 ?_
      refine lv_aload_n hx hb dX11_readTwoLoops_29 rfl (lv_at hl 0 rfl) ?_
      refine th_get hx hb (ly_X11 hE) hown hK hP ha0.1 he4 rfl 11 (by decide) (wd_370 hE) (fun _ h9 => h9) rfl dX11_readTwoLoops_30 ?_
      refine vp_callSi (va_Run.run (va_runV (As := [.ref (gR G a0 11)]) (rest := []) ⟨hx, hb, hml, hown, noTs⟩ (t_X7_isLoop l dC dI H.size G cs tt mm (gR G a0 0) ((wt_X11_0 hWT ha0)) (gR G a0 11) ((wt_X11_11 hWT ha0))) ⟨cbE 1 (wd_949 hE) (wd_116 hE) (wd_946 hE) rfl rfl (by decide +kernel) ⟨Nat.le_of_ble_eq_true rfl, Nat.le_of_ble_eq_true rfl⟩, (wd_947 hE), (wd_948 hE)⟩ ⟨PT.blind, th_recv hK hP (wt_X11_0 hWT ha0).1 he5 rfl, (th_pre (av := [.ref (gR G a0 0), .ref (gR G a0 11)]) hK hP hok hnd hWT hE)⟩ rfl rfl hl.1 rfl (lv_room (Nat.le_of_ble_eq_true rfl)) dX11_readTwoLoops_33 ⟨Nat.le_of_ble_eq_true rfl, Nat.le_of_ble_eq_true rfl⟩)) (fun r8 hr8 => ?_)
      refine lv_if_eq (tgt := 43) hx hb dX11_readTwoLoops_36 (by decide) (fun c9 => ?_) (fun c9 => ?_)
      · refine lv_iconst (v := 4) hx hb dX11_readTwoLoops_43 (by decide) ?_
        exact W.iret (v := 4) hx hb hr (fun t ht hW => ⟨⟨4, f2, rfl, trivial, hok, by rw [ht]; exact hP⟩, hS.F ht⟩) hS.2.2 dX11_readTwoLoops_44
      · refine lv_iconst (v := 0) hx hb dX11_readTwoLoops_39 (by decide) ?_
        refine lv_goto (tgt := 44) hx hb dX11_readTwoLoops_40 (by decide) ?_
        exact W.iret (v := 0) hx hb hr (fun t ht hW => ⟨⟨0, f2, rfl, trivial, hok, by rw [ht]; exact hP⟩, hS.F ht⟩) hS.2.2 dX11_readTwoLoops_44
  · refine lv_iconst (v := 2) hx hb dX11_readTwoLoops_9 (by decide) ?_
    exact W.iret (v := 2) hx hb hr (fun t ht hW => ⟨⟨2, f2, rfl, trivial, hok, by rw [ht]; exact hP⟩, hS.F ht⟩) hS.2.2 dX11_readTwoLoops_10

set_option maxHeartbeats 4000000 in
set_option maxRecDepth 100000 in
theorem t_X11_net (l : Launch) (dC : Nat → ClassId) (dI : Nat → Nat → Nat) (sz : Nat) (G : GT) (cs : Nat → ClassId) (tt mm : Nat) (a0 : Nat) (ha0 : Ty G a0 11) (v1 : Int32) (v2 : Int32) : Met l yX11_net [.code yX11_net cX11_net 6 (some .int)] ({ frames := 2, cells := 0, slots := 0, locals := 80 }) (PT [.ref a0, .int v1, .int v2] sz dC dI G cs tt mm) (va_Qi (fun (r : Int32) (u : Nat → va_E) => True) (BT dC dI G cs tt mm) (AT G sz)) 0 0 (AT G sz) := by
  refine Met.ofW (cc := cX11_net) (maxL := 6) (ret := (some .int)) (by decide) rfl ?_
  intro p e s m args below meth c s₁ B hml hv
  obtain ⟨rfl, hsz, ⟨f0, hok, hP⟩, hK, hnd, hWT, hE⟩ := hv
  have hx := B.exec
  have hb := B.bytes
  have hr := B.returns
  have hown : s.vm.findClass RX11 = some m.cls := findClass_of_methodNamed B.named
  have hlocks := B.notSynchronized
  subst hsz
  have hAL : ∀ a, a ∈ gL G → AT G s.heap.size a := fun a h => Or.inl h
  have hA : ∀ q : Nat, s.heap.size ≤ q → AT G s.heap.size q := fun q h => Or.inr h
  have hS : va_S (AT G s.heap.size) s.heap s.heap [] := va_S.rf
  have hl := lv_entry ([.ref a0, .int v1, .int v2]) (n := 6) (Nat.le_of_ble_eq_true rfl)
  rw [lg_entry_eq]
  generalize (lg_sl ([.ref a0, .int v1, .int v2]) ++ List.replicate (6 - (lg_sl ([.ref a0, .int v1, .int v2])).length) Slot.unset).toArray = ls at hl ⊢
  have hl : lv_has ls 6 [(0, .ref a0), (1, .int v1), (2, .int v2)] := hl
  refine lv_aload_n hx hb dX11_net_0 rfl (lv_at hl 0 rfl) ?_
  obtain ⟨y5_1, he1⟩ := ok_X11 hok ha0
  refine th_get hx hb (ly_X11 hE) hown hK hP ha0.1 he1 rfl 0 (by decide) (wd_359 hE) (fun _ h9 => h9) rfl dX11_net_1 ?_
  refine lv_iload_n hx hb dX11_net_4 rfl (lv_at hl 2 rfl) ?_
  have he2 := ok_X7 hok (wt_X11_0 hWT ha0)
  refine vp_callSi (va_Run.run (va_runV (As := [.int v2]) (rest := []) ⟨hx, hb, hml, hown, noTs⟩ (t_X7_hasEdge l dC dI s.heap.size G cs tt mm (gR G a0 0) ((wt_X11_0 hWT ha0)) v2) ⟨cbE 1 (wd_673 hE) (wd_116 hE) (wd_802 hE) rfl rfl (by decide +kernel) ⟨Nat.le_of_ble_eq_true rfl, Nat.le_of_ble_eq_true rfl⟩, (wd_671 hE), (wd_672 hE)⟩ ⟨PT.blind, th_recv hK hP (wt_X11_0 hWT ha0).1 he2 rfl, (th_pre (av := [.ref (gR G a0 0), .int v2]) hK hP hok hnd hWT hE)⟩ rfl rfl hl.1 rfl (lv_room (Nat.le_of_ble_eq_true rfl)) dX11_net_5 ⟨Nat.le_of_ble_eq_true rfl, Nat.le_of_ble_eq_true rfl⟩)) (fun r3 hr3 => ?_)
  refine lv_if_eq (tgt := 26) hx hb dX11_net_8 (by decide) (fun c4 => ?_) (fun c4 => ?_)
  · refine lv_aload_n hx hb dX11_net_26 rfl (lv_at hl 0 rfl) ?_
    refine lv_iconst (v := 2) hx hb dX11_net_27 (by decide) ?_
    refine tc_i hAL hS hA (va_runV (As := [.int 2]) (rest := []) ⟨hx, hb, hml, hown, noTs⟩ (t_X11_fail l dC dI s.heap.size G cs tt mm a0 ha0 2) ⟨cbE 1 (wd_436 hE) (wd_115 hE) (wd_433 hE) rfl rfl (by decide +kernel) ⟨Nat.le_of_ble_eq_true rfl, Nat.le_of_ble_eq_true rfl⟩, (wd_435 hE), (wd_1 hE)⟩ ⟨PT.blind, th_recv hK hP ha0.1 he1 rfl, (th_pre (av := [.ref a0, .int 2]) hK hP hok hnd hWT hE)⟩ rfl rfl hl.1 rfl (lv_room (Nat.le_of_ble_eq_true rfl)) dX11_net_28 ⟨Nat.le_of_ble_eq_true rfl, Nat.le_of_ble_eq_true rfl⟩) (fun r5 f5 H locs hr5 hok hP hS => ?_)
    exact W.iret (v := r5) hx hb hr (fun t ht hW => ⟨⟨r5, f5, rfl, trivial, hok, by rw [ht]; exact hP⟩, hS.F ht⟩) hS.2.2 dX11_net_31
  · refine lv_aload_n hx hb dX11_net_11 rfl (lv_at hl 0 rfl) ?_
    refine th_get hx hb (ly_X11 hE) hown hK hP ha0.1 he1 rfl 0 (by decide) (wd_359 hE) (fun _ h9 => h9) rfl dX11_net_12 ?_
    refine lv_iload_n hx hb dX11_net_15 rfl (lv_at hl 1 rfl) ?_
    refine lv_aload_n hx hb dX11_net_16 rfl (lv_at hl 0 rfl) ?_
    refine th_get hx hb (ly_X11 hE) hown hK hP ha0.1 he1 rfl 10 (by decide) (wd_369 hE) (fun _ h9 => h9) rfl dX11_net_17 ?_
    refine tc_i hAL hS hA (va_runV (As := [.int v1, .ref (gR G a0 10)]) (rest := []) ⟨hx, hb, hml, hown, noTs⟩ (t_X7_readWord l dC dI s.heap.size G cs tt mm (gR G a0 0) ((wt_X11_0 hWT ha0)) v1 (gR G a0 10) ((wt_X11_10 hWT ha0))) ⟨cbE 2 (wd_817 hE) (wd_116 hE) (wd_814 hE) rfl rfl (by decide +kernel) ⟨Nat.le_of_ble_eq_true rfl, Nat.le_of_ble_eq_true rfl⟩, (wd_815 hE), (wd_816 hE)⟩ ⟨PT.blind, th_recv hK hP (wt_X11_0 hWT ha0).1 he2 rfl, (th_pre (av := [.ref (gR G a0 0), .int v1, .ref (gR G a0 10)]) hK hP hok hnd hWT hE)⟩ rfl rfl hl.1 rfl (lv_room (Nat.le_of_ble_eq_true rfl)) dX11_net_20 ⟨Nat.le_of_ble_eq_true rfl, Nat.le_of_ble_eq_true rfl⟩) (fun r6 f6 H locs hr6 hok hP hS => ?_)
    refine lv_if_ne (tgt := 32) hx hb dX11_net_23 (by decide) (fun c7 => ?_) (fun c7 => ?_)
    · refine lv_iconst (v := 0) hx hb dX11_net_32 (by decide) ?_
      refine lv_istore_n (lv' := [(3, .int 0), (0, .ref a0), (1, .int v1), (2, .int v2)]) hx hb dX11_net_33 rfl hl (by decide) rfl (fun ls hl => ?_)
      refine lv_iconst (v := 0) hx hb dX11_net_34 (by decide) ?_
      refine lv_istore (lv' := [(4, .int 0), (3, .int 0), (0, .ref a0), (1, .int v1), (2, .int v2)]) hx hb dX11_net_35 hl (by decide) rfl (fun ls hl => ?_)
      refine w_ind (I := fun n f H locs ls => OKT G cs tt mm f ∧ va_P (dC, dI) vwCl (va_pl (gL G) f) H ∧ va_S (AT G s.heap.size) s.heap H locs ∧ ∃ (w3_8 : Int32) (w4_8 : Int32), n = (2147483647 - w4_8.toInt).toNat ∧ 0 ≤ w4_8 ∧ lv_has ls 6 [(0, .ref a0), (1, .int v1), (2, .int v2), (3, .int w3_8), (4, .int w4_8)]) (fun n f8 H locs ls hI ih8 => ?_) _ f6 _ _ _ ⟨hok, hP, hS, 0, 0, rfl, (by first | omega | (simp only [i_lt, i_le, i_eq, ti_m9, ti_m1, ti_0, ti_1, ti_2, ti_3, ti_4, ti_5, ti_6, ti_7, ti_9, ti_12, ti_20, ti_99, ti_700, ti_24, ti_72, ti_8, ti_128, ti_97, ti_122, ti_48, ti_57, ti_59, ti_60, ti_61, ti_62, ti_10, ti_33, ti_51, ti_32, ti_119] at c4 c7 ⊢; omega)), lv_sub hl [2, 3, 4, 1, 0] rfl⟩
      obtain ⟨hok, hP, hS, w3_8, w4_8, hmu8, hlo8, hl⟩ := hI
      subst hmu8
      refine lv_iload hx hb dX11_net_37 (lv_at hl 4 rfl) ?_
      refine lv_aload_n hx hb dX11_net_39 rfl (lv_at hl 0 rfl) ?_
      obtain ⟨y5_9, he9⟩ := ok_X11 hok ha0
      refine th_get hx hb (ly_X11 hE) hown hK hP ha0.1 he9 rfl 10 (by decide) (wd_369 hE) (fun _ h9 => h9) rfl dX11_net_40 ?_
      obtain ⟨y2_10, y3_10, hy3_10, he10⟩ := ok_X10 hok (wt_X11_10 hWT ha0)
      refine vp_callSi (va_Run.run (va_runV (As := []) (rest := [.int w4_8]) ⟨hx, hb, hml, hown, noTs⟩ (t_X10_size l dC dI H.size G cs tt mm (gR G a0 10) ((wt_X11_10 hWT ha0))) ⟨cbE 0 (wd_666 hE) (wd_120 hE) (wd_834 hE) rfl rfl (by decide +kernel) ⟨Nat.le_of_ble_eq_true rfl, Nat.le_of_ble_eq_true rfl⟩, (wd_664 hE), (wd_665 hE)⟩ ⟨PT.blind, th_recv hK hP (wt_X11_10 hWT ha0).1 he10 rfl, (th_pre (av := [.ref (gR G a0 10)]) hK hP hok hnd hWT hE)⟩ rfl rfl hl.1 rfl (lv_room (Nat.le_of_ble_eq_true rfl)) dX11_net_43 ⟨Nat.le_of_ble_eq_true rfl, Nat.le_of_ble_eq_true rfl⟩)) (fun r11 hr11 => ?_)
      obtain ⟨hra11, hrb11⟩ := hr11
      refine lv_icmp_ge (tgt := 90) hx hb dX11_net_46 (by decide) (fun c12 => ?_) (fun c12 => ?_)
      · refine lv_aload_n hx hb dX11_net_90 rfl (lv_at hl 0 rfl) ?_
        refine lv_iload_n hx hb dX11_net_91 rfl (lv_at hl 3 rfl) ?_
        refine tc_i hAL hS hA (va_runV (As := [.int w3_8]) (rest := []) ⟨hx, hb, hml, hown, noTs⟩ (t_X11_answer l dC dI H.size G cs tt mm a0 ha0 w3_8) ⟨cbE 1 (wd_748 hE) (wd_115 hE) (wd_745 hE) rfl rfl (by decide +kernel) ⟨Nat.le_of_ble_eq_true rfl, Nat.le_of_ble_eq_true rfl⟩, (wd_747 hE), (wd_23 hE)⟩ ⟨PT.blind, th_recv hK hP ha0.1 he9 rfl, (th_pre (av := [.ref a0, .int w3_8]) hK hP hok hnd hWT hE)⟩ rfl rfl hl.1 rfl (lv_room (Nat.le_of_ble_eq_true rfl)) dX11_net_92 ⟨Nat.le_of_ble_eq_true rfl, Nat.le_of_ble_eq_true rfl⟩) (fun r13 f13 H locs hr13 hok hP hS => ?_)
        exact W.iret (v := r13) hx hb hr (fun t ht hW => ⟨⟨r13, f13, rfl, trivial, hok, by rw [ht]; exact hP⟩, hS.F ht⟩) hS.2.2 dX11_net_95
      · refine lv_aload_n hx hb dX11_net_49 rfl (lv_at hl 0 rfl) ?_
        refine th_get hx hb (ly_X11 hE) hown hK hP ha0.1 he9 rfl 10 (by decide) (wd_369 hE) (fun _ h9 => h9) rfl dX11_net_50 ?_
        refine lv_iload hx hb dX11_net_53 (lv_at hl 4 rfl) ?_
        refine vp_callSi (va_Run.run (va_runV (As := [.int w4_8]) (rest := []) ⟨hx, hb, hml, hown, noTs⟩ (t_X10_stepAt l dC dI H.size G cs tt mm (gR G a0 10) ((wt_X11_10 hWT ha0)) w4_8) ⟨cbE 1 (wd_721 hE) (wd_120 hE) (wd_894 hE) rfl rfl (by decide +kernel) ⟨Nat.le_of_ble_eq_true rfl, Nat.le_of_ble_eq_true rfl⟩, (wd_719 hE), (wd_720 hE)⟩ ⟨PT.blind, th_recv hK hP (wt_X11_10 hWT ha0).1 he10 rfl, (th_pre (av := [.ref (gR G a0 10), .int w4_8]) hK hP hok hnd hWT hE)⟩ rfl rfl hl.1 rfl (lv_room (Nat.le_of_ble_eq_true rfl)) dX11_net_55 ⟨Nat.le_of_ble_eq_true rfl, Nat.le_of_ble_eq_true rfl⟩)) (fun r14 hr14 => ?_)
        refine lv_istore (lv' := [(5, .int r14), (0, .ref a0), (1, .int v1), (2, .int v2), (3, .int w3_8), (4, .int w4_8)]) hx hb dX11_net_58 hl (by decide) rfl (fun ls hl => ?_)
        refine lv_iload hx hb dX11_net_60 (lv_at hl 0 rfl) ?_
        refine lv_iconst (v := 1) hx hb dX11_net_62 (by decide) ?_
        refine lv_ishr hx hb dX11_net_63 ?_
        refine lv_topi (fun x15 _ => ?_)
        refine lv_iload_n hx hb dX11_net_64 rfl (lv_at hl 3 rfl) ?_
        refine lv_icmp_ne (tgt := 84) hx hb dX11_net_65 (by decide) (fun c16 => ?_) (fun c16 => ?_)
        · obtain ⟨z17, ez17⟩ : ∃ z : Int32, z = w4_8 + 1 := ⟨_, rfl⟩
          refine lv_iinc (v := z17) (lv' := [(4, .int z17), (5, .int r14), (0, .ref a0), (1, .int v1), (2, .int v2), (3, .int w3_8)]) hx hb dX11_net_84 hl (k := 5) rfl (by rw [ez17]; rfl) (by decide) rfl (fun ls hl => ?_)
          have ic17 : z17.toInt = w4_8.toInt + 1 := by rw [ez17]; exact ic_up (by have := i_rng r3; have := i_rng r6; have := i_rng r11; have := i_rng w4_8; have := i_rng x15; have := i_rng v2; simp only [i_lt, i_le, i_eq, ti_m9, ti_m1, ti_0, ti_1, ti_2, ti_3, ti_4, ti_5, ti_6, ti_7, ti_9, ti_12, ti_20, ti_99, ti_700, ti_24, ti_72, ti_8, ti_128, ti_97, ti_122, ti_48, ti_57, ti_59, ti_60, ti_61, ti_62, ti_10, ti_33, ti_51, ti_32, ti_119] at c4 c7 hlo8 hra11 hrb11 c12 c16 ⊢; omega)
          refine lv_goto (tgt := 37) hx hb dX11_net_87 (by decide) ?_
          exact ih8 _ f8 _ _ _ (by first | omega | (simp only [i_lt, i_le, i_eq, ti_m9, ti_m1, ti_0, ti_1, ti_2, ti_3, ti_4, ti_5, ti_6, ti_7, ti_9, ti_12, ti_20, ti_99, ti_700, ti_24, ti_72, ti_8, ti_128, ti_97, ti_122, ti_48, ti_57, ti_59, ti_60, ti_61, ti_62, ti_10, ti_33, ti_51, ti_32, ti_119, ic17] at c4 c7 hlo8 hra11 hrb11 c12 c16 ic17 ⊢; omega)) ⟨hok, hP, hS, w3_8, z17, rfl, (by first | omega | (simp only [i_lt, i_le, i_eq, ti_m9, ti_m1, ti_0, ti_1, ti_2, ti_3, ti_4, ti_5, ti_6, ti_7, ti_9, ti_12, ti_20, ti_99, ti_700, ti_24, ti_72, ti_8, ti_128, ti_97, ti_122, ti_48, ti_57, ti_59, ti_60, ti_61, ti_62, ti_10, ti_33, ti_51, ti_32, ti_119, ic17] at c4 c7 hlo8 hra11 hrb11 c12 c16 ⊢; omega)), lv_sub hl [2, 3, 4, 5, 0] rfl⟩
        · refine lv_iload_n hx hb dX11_net_68 rfl (lv_at hl 4 rfl) ?_
          refine lv_iload hx hb dX11_net_69 (lv_at hl 0 rfl) ?_
          refine vp_callSi (va_Run.run (va_runS (As := [.int r14]) (rest := [.int w3_8]) ⟨hx, hb, hml, hown, noTs⟩ (t_X11_isBackwards l dC dI H.size G cs tt mm r14) ⟨cbE 1 (wd_680 hE) (wd_115 hE) (wd_1190 hE) rfl rfl (by decide +kernel) ⟨Nat.le_of_ble_eq_true rfl, Nat.le_of_ble_eq_true rfl⟩, (wd_679 hE)⟩ ⟨PT.blind, (th_pre (av := [.int r14]) hK hP hok hnd hWT hE)⟩ rfl rfl hl.1 rfl (lv_room (Nat.le_of_ble_eq_true rfl)) dX11_net_71 ⟨Nat.le_of_ble_eq_true rfl, Nat.le_of_ble_eq_true rfl⟩)) (fun r18 hr18 => ?_)
          refine lv_if_eq (tgt := 81) hx hb dX11_net_74 (by decide) (fun c19 => ?_) (fun c19 => ?_)
          · refine lv_iconst (v := 1) hx hb dX11_net_81 (by decide) ?_
            refine lv_iadd hx hb dX11_net_82 ?_
            refine lv_topi (fun x20 _ => ?_)
            refine lv_istore_n (lv' := [(3, .int x20), (5, .int r14), (0, .ref a0), (1, .int v1), (2, .int v2), (4, .int w4_8)]) hx hb dX11_net_83 rfl hl (by decide) rfl (fun ls hl => ?_)
            obtain ⟨z21, ez21⟩ : ∃ z : Int32, z = w4_8 + 1 := ⟨_, rfl⟩
            refine lv_iinc (v := z21) (lv' := [(4, .int z21), (3, .int x20), (5, .int r14), (0, .ref a0), (1, .int v1), (2, .int v2)]) hx hb dX11_net_84 hl (k := 5) rfl (by rw [ez21]; rfl) (by decide) rfl (fun ls hl => ?_)
            have ic21 : z21.toInt = w4_8.toInt + 1 := by rw [ez21]; exact ic_up (by have := i_rng r3; have := i_rng r6; have := i_rng r11; have := i_rng w4_8; have := i_rng x15; have := i_rng v2; have := i_rng r18; simp only [i_lt, i_le, i_eq, ti_m9, ti_m1, ti_0, ti_1, ti_2, ti_3, ti_4, ti_5, ti_6, ti_7, ti_9, ti_12, ti_20, ti_99, ti_700, ti_24, ti_72, ti_8, ti_128, ti_97, ti_122, ti_48, ti_57, ti_59, ti_60, ti_61, ti_62, ti_10, ti_33, ti_51, ti_32, ti_119] at c4 c7 hlo8 hra11 hrb11 c12 c16 c19 ⊢; omega)
            refine lv_goto (tgt := 37) hx hb dX11_net_87 (by decide) ?_
            exact ih8 _ f8 _ _ _ (by first | omega | (simp only [i_lt, i_le, i_eq, ti_m9, ti_m1, ti_0, ti_1, ti_2, ti_3, ti_4, ti_5, ti_6, ti_7, ti_9, ti_12, ti_20, ti_99, ti_700, ti_24, ti_72, ti_8, ti_128, ti_97, ti_122, ti_48, ti_57, ti_59, ti_60, ti_61, ti_62, ti_10, ti_33, ti_51, ti_32, ti_119, ic21] at c4 c7 hlo8 hra11 hrb11 c12 c16 c19 ic21 ⊢; omega)) ⟨hok, hP, hS, x20, z21, rfl, (by first | omega | (simp only [i_lt, i_le, i_eq, ti_m9, ti_m1, ti_0, ti_1, ti_2, ti_3, ti_4, ti_5, ti_6, ti_7, ti_9, ti_12, ti_20, ti_99, ti_700, ti_24, ti_72, ti_8, ti_128, ti_97, ti_122, ti_48, ti_57, ti_59, ti_60, ti_61, ti_62, ti_10, ti_33, ti_51, ti_32, ti_119, ic21] at c4 c7 hlo8 hra11 hrb11 c12 c16 c19 ⊢; omega)), lv_sub hl [3, 4, 5, 1, 0] rfl⟩
          · refine lv_iconst (v := -1) hx hb dX11_net_77 (by decide) ?_
            refine lv_goto (tgt := 82) hx hb dX11_net_78 (by decide) ?_
            refine lv_iadd hx hb dX11_net_82 ?_
            refine lv_topi (fun x22 _ => ?_)
            refine lv_istore_n (lv' := [(3, .int x22), (5, .int r14), (0, .ref a0), (1, .int v1), (2, .int v2), (4, .int w4_8)]) hx hb dX11_net_83 rfl hl (by decide) rfl (fun ls hl => ?_)
            obtain ⟨z23, ez23⟩ : ∃ z : Int32, z = w4_8 + 1 := ⟨_, rfl⟩
            refine lv_iinc (v := z23) (lv' := [(4, .int z23), (3, .int x22), (5, .int r14), (0, .ref a0), (1, .int v1), (2, .int v2)]) hx hb dX11_net_84 hl (k := 5) rfl (by rw [ez23]; rfl) (by decide) rfl (fun ls hl => ?_)
            have ic23 : z23.toInt = w4_8.toInt + 1 := by rw [ez23]; exact ic_up (by have := i_rng r3; have := i_rng r6; have := i_rng r11; have := i_rng w4_8; have := i_rng x15; have := i_rng v2; have := i_rng r18; simp only [i_lt, i_le, i_eq, ti_m9, ti_m1, ti_0, ti_1, ti_2, ti_3, ti_4, ti_5, ti_6, ti_7, ti_9, ti_12, ti_20, ti_99, ti_700, ti_24, ti_72, ti_8, ti_128, ti_97, ti_122, ti_48, ti_57, ti_59, ti_60, ti_61, ti_62, ti_10, ti_33, ti_51, ti_32, ti_119] at c4 c7 hlo8 hra11 hrb11 c12 c16 c19 ⊢; omega)
            refine lv_goto (tgt := 37) hx hb dX11_net_87 (by decide) ?_
            exact ih8 _ f8 _ _ _ (by first | omega | (simp only [i_lt, i_le, i_eq, ti_m9, ti_m1, ti_0, ti_1, ti_2, ti_3, ti_4, ti_5, ti_6, ti_7, ti_9, ti_12, ti_20, ti_99, ti_700, ti_24, ti_72, ti_8, ti_128, ti_97, ti_122, ti_48, ti_57, ti_59, ti_60, ti_61, ti_62, ti_10, ti_33, ti_51, ti_32, ti_119, ic23] at c4 c7 hlo8 hra11 hrb11 c12 c16 c19 ic23 ⊢; omega)) ⟨hok, hP, hS, x22, z23, rfl, (by first | omega | (simp only [i_lt, i_le, i_eq, ti_m9, ti_m1, ti_0, ti_1, ti_2, ti_3, ti_4, ti_5, ti_6, ti_7, ti_9, ti_12, ti_20, ti_99, ti_700, ti_24, ti_72, ti_8, ti_128, ti_97, ti_122, ti_48, ti_57, ti_59, ti_60, ti_61, ti_62, ti_10, ti_33, ti_51, ti_32, ti_119, ic23] at c4 c7 hlo8 hra11 hrb11 c12 c16 c19 ⊢; omega)), lv_sub hl [3, 4, 5, 1, 0] rfl⟩
    · refine lv_aload_n hx hb dX11_net_26 rfl (lv_at hl 0 rfl) ?_
      refine lv_iconst (v := 2) hx hb dX11_net_27 (by decide) ?_
      obtain ⟨y5_24, he24⟩ := ok_X11 hok ha0
      refine tc_i hAL hS hA (va_runV (As := [.int 2]) (rest := []) ⟨hx, hb, hml, hown, noTs⟩ (t_X11_fail l dC dI H.size G cs tt mm a0 ha0 2) ⟨cbE 1 (wd_436 hE) (wd_115 hE) (wd_433 hE) rfl rfl (by decide +kernel) ⟨Nat.le_of_ble_eq_true rfl, Nat.le_of_ble_eq_true rfl⟩, (wd_435 hE), (wd_1 hE)⟩ ⟨PT.blind, th_recv hK hP ha0.1 he24 rfl, (th_pre (av := [.ref a0, .int 2]) hK hP hok hnd hWT hE)⟩ rfl rfl hl.1 rfl (lv_room (Nat.le_of_ble_eq_true rfl)) dX11_net_28 ⟨Nat.le_of_ble_eq_true rfl, Nat.le_of_ble_eq_true rfl⟩) (fun r25 f25 H locs hr25 hok hP hS => ?_)
      exact W.iret (v := r25) hx hb hr (fun t ht hW => ⟨⟨r25, f25, rfl, trivial, hok, by rw [ht]; exact hP⟩, hS.F ht⟩) hS.2.2 dX11_net_31

set_option maxHeartbeats 4000000 in
set_option maxRecDepth 100000 in
theorem t_X11_swaps (l : Launch) (dC : Nat → ClassId) (dI : Nat → Nat → Nat) (sz : Nat) (G : GT) (cs : Nat → ClassId) (tt mm : Nat) (a0 : Nat) (ha0 : Ty G a0 11) (v1 : Int32) (v2 : Int32) : Met l yX11_swaps [.code yX11_swaps cX11_swaps 4 (some .int)] ({ frames := 5, cells := 0, slots := 0, locals := 200 }) (PT [.ref a0, .int v1, .int v2] sz dC dI G cs tt mm) (va_Qi (fun (r : Int32) (u : Nat → va_E) => True) (BT dC dI G cs tt mm) (AT G sz)) 0 0 (AT G sz) := by
  refine Met.ofW (cc := cX11_swaps) (maxL := 4) (ret := (some .int)) (by decide) rfl ?_
  intro p e s m args below meth c s₁ B hml hv
  obtain ⟨rfl, hsz, ⟨f0, hok, hP⟩, hK, hnd, hWT, hE⟩ := hv
  have hx := B.exec
  have hb := B.bytes
  have hr := B.returns
  have hown : s.vm.findClass RX11 = some m.cls := findClass_of_methodNamed B.named
  have hlocks := B.notSynchronized
  subst hsz
  have hAL : ∀ a, a ∈ gL G → AT G s.heap.size a := fun a h => Or.inl h
  have hA : ∀ q : Nat, s.heap.size ≤ q → AT G s.heap.size q := fun q h => Or.inr h
  have hS : va_S (AT G s.heap.size) s.heap s.heap [] := va_S.rf
  have hl := lv_entry ([.ref a0, .int v1, .int v2]) (n := 4) (Nat.le_of_ble_eq_true rfl)
  rw [lg_entry_eq]
  generalize (lg_sl ([.ref a0, .int v1, .int v2]) ++ List.replicate (4 - (lg_sl ([.ref a0, .int v1, .int v2])).length) Slot.unset).toArray = ls at hl ⊢
  have hl : lv_has ls 4 [(0, .ref a0), (1, .int v1), (2, .int v2)] := hl
  refine lv_aload_n hx hb dX11_swaps_0 rfl (lv_at hl 0 rfl) ?_
  refine lv_iload_n hx hb dX11_swaps_1 rfl (lv_at hl 1 rfl) ?_
  refine lv_iload_n hx hb dX11_swaps_2 rfl (lv_at hl 2 rfl) ?_
  obtain ⟨y5_1, he1⟩ := ok_X11 hok ha0
  refine tc_i hAL hS hA (va_runV (As := [.int v1, .int v2]) (rest := []) ⟨hx, hb, hml, hown, noTs⟩ (t_X11_readTwoLoops l dC dI s.heap.size G cs tt mm a0 ha0 v1 v2) ⟨cbE 2 (wd_1101 hE) (wd_115 hE) (wd_1098 hE) rfl rfl (by decide +kernel) ⟨Nat.le_of_ble_eq_true rfl, Nat.le_of_ble_eq_true rfl⟩, (wd_1100 hE), (wd_39 hE)⟩ ⟨PT.blind, th_recv hK hP ha0.1 he1 rfl, (th_pre (av := [.ref a0, .int v1, .int v2]) hK hP hok hnd hWT hE)⟩ rfl rfl hl.1 rfl (lv_room (Nat.le_of_ble_eq_true rfl)) dX11_swaps_3 ⟨Nat.le_of_ble_eq_true rfl, Nat.le_of_ble_eq_true rfl⟩) (fun r2 f2 H locs hr2 hok hP hS => ?_)
  refine lv_istore_n (lv' := [(3, .int r2), (0, .ref a0), (1, .int v1), (2, .int v2)]) hx hb dX11_swaps_6 rfl hl (by decide) rfl (fun ls hl => ?_)
  refine lv_iload_n hx hb dX11_swaps_7 rfl (lv_at hl 0 rfl) ?_
  refine lv_if_eq (tgt := 17) hx hb dX11_swaps_8 (by decide) (fun c3 => ?_) (fun c3 => ?_)
  · refine lv_aload_n hx hb dX11_swaps_17 rfl (lv_at hl 1 rfl) ?_
    obtain ⟨y5_4, he4⟩ := ok_X11 hok ha0
    refine th_get hx hb (ly_X11 hE) hown hK hP ha0.1 he4 rfl 10 (by decide) (wd_369 hE) (fun _ h9 => h9) rfl dX11_swaps_18 ?_
    obtain ⟨y2_5, y3_5, hy3_5, he5⟩ := ok_X10 hok (wt_X11_10 hWT ha0)
    refine vp_callSi (va_Run.run (va_runV (As := []) (rest := []) ⟨hx, hb, hml, hown, noTs⟩ (t_X10_begin l dC dI H.size G cs tt mm (gR G a0 10) ((wt_X11_10 hWT ha0))) ⟨cbE 0 (wd_713 hE) (wd_120 hE) (wd_824 hE) rfl rfl (by decide +kernel) ⟨Nat.le_of_ble_eq_true rfl, Nat.le_of_ble_eq_true rfl⟩, (wd_711 hE), (wd_712 hE)⟩ ⟨PT.blind, th_recv hK hP (wt_X11_10 hWT ha0).1 he5 rfl, (th_pre (av := [.ref (gR G a0 10)]) hK hP hok hnd hWT hE)⟩ rfl rfl hl.1 rfl (lv_room (Nat.le_of_ble_eq_true rfl)) dX11_swaps_21 ⟨Nat.le_of_ble_eq_true rfl, Nat.le_of_ble_eq_true rfl⟩)) (fun r6 hr6 => ?_)
    refine lv_aload_n hx hb dX11_swaps_24 rfl (lv_at hl 1 rfl) ?_
    refine th_get hx hb (ly_X11 hE) hown hK hP ha0.1 he4 rfl 11 (by decide) (wd_370 hE) (fun _ h9 => h9) rfl dX11_swaps_25 ?_
    obtain ⟨y2_7, y3_7, hy3_7, he7⟩ := ok_X10 hok (wt_X11_11 hWT ha0)
    refine vp_callSi (va_Run.run (va_runV (As := []) (rest := [.int r6]) ⟨hx, hb, hml, hown, noTs⟩ (t_X10_begin l dC dI H.size G cs tt mm (gR G a0 11) ((wt_X11_11 hWT ha0))) ⟨cbE 0 (wd_713 hE) (wd_120 hE) (wd_824 hE) rfl rfl (by decide +kernel) ⟨Nat.le_of_ble_eq_true rfl, Nat.le_of_ble_eq_true rfl⟩, (wd_711 hE), (wd_712 hE)⟩ ⟨PT.blind, th_recv hK hP (wt_X11_11 hWT ha0).1 he7 rfl, (th_pre (av := [.ref (gR G a0 11)]) hK hP hok hnd hWT hE)⟩ rfl rfl hl.1 rfl (lv_room (Nat.le_of_ble_eq_true rfl)) dX11_swaps_28 ⟨Nat.le_of_ble_eq_true rfl, Nat.le_of_ble_eq_true rfl⟩)) (fun r8 hr8 => ?_)
    refine lv_icmp_eq (tgt := 40) hx hb dX11_swaps_31 (by decide) (fun c9 => ?_) (fun c9 => ?_)
    · refine lv_aload_n hx hb dX11_swaps_40 rfl (lv_at hl 1 rfl) ?_
      refine th_get hx hb (ly_X11 hE) hown hK hP ha0.1 he4 rfl 0 (by decide) (wd_359 hE) (fun _ h9 => h9) rfl dX11_swaps_41 ?_
      refine lv_aload_n hx hb dX11_swaps_44 rfl (lv_at hl 1 rfl) ?_
      refine th_get hx hb (ly_X11 hE) hown hK hP ha0.1 he4 rfl 10 (by decide) (wd_369 hE) (fun _ h9 => h9) rfl dX11_swaps_45 ?_
      refine lv_aload_n hx hb dX11_swaps_48 rfl (lv_at hl 1 rfl) ?_
      refine th_get hx hb (ly_X11 hE) hown hK hP ha0.1 he4 rfl 11 (by decide) (wd_370 hE) (fun _ h9 => h9) rfl dX11_swaps_49 ?_
      refine lv_aload_n hx hb dX11_swaps_52 rfl (lv_at hl 1 rfl) ?_
      refine th_get hx hb (ly_X11 hE) hown hK hP ha0.1 he4 rfl 12 (by decide) (wd_371 hE) (fun _ h9 => h9) rfl dX11_swaps_53 ?_
      refine tc_v hAL hS hA (va_runS (As := [.ref (gR G a0 0), .ref (gR G a0 10), .ref (gR G a0 11), .ref (gR G a0 12)]) (rest := []) ⟨hx, hb, hml, hown, noTs⟩ (t_X2_product l dC dI H.size G cs tt mm (gR G a0 0) ((wt_X11_0 hWT ha0)) (gR G a0 10) ((wt_X11_10 hWT ha0)) (gR G a0 11) ((wt_X11_11 hWT ha0)) (gR G a0 12) ((wt_X11_12 hWT ha0))) ⟨cbE 4 (wd_922 hE) (wd_134 hE) (wd_920 hE) rfl rfl (by decide +kernel) ⟨Nat.le_of_ble_eq_true rfl, Nat.le_of_ble_eq_true rfl⟩, (wd_921 hE)⟩ ⟨PT.blind, (th_pre (av := [.ref (gR G a0 0), .ref (gR G a0 10), .ref (gR G a0 11), .ref (gR G a0 12)]) hK hP hok hnd hWT hE)⟩ rfl rfl hl.1 rfl (lv_room (Nat.le_of_ble_eq_true rfl)) dX11_swaps_56 ⟨Nat.le_of_ble_eq_true rfl, Nat.le_of_ble_eq_true rfl⟩) (fun f10 H locs hr10 hok hP hS => ?_)
      refine lv_aload_n hx hb dX11_swaps_59 rfl (lv_at hl 1 rfl) ?_
      obtain ⟨y5_11, he11⟩ := ok_X11 hok ha0
      refine th_get hx hb (ly_X11 hE) hown hK hP ha0.1 he11 rfl 0 (by decide) (wd_359 hE) (fun _ h9 => h9) rfl dX11_swaps_60 ?_
      refine lv_aload_n hx hb dX11_swaps_63 rfl (lv_at hl 1 rfl) ?_
      refine th_get hx hb (ly_X11 hE) hown hK hP ha0.1 he11 rfl 11 (by decide) (wd_370 hE) (fun _ h9 => h9) rfl dX11_swaps_64 ?_
      refine lv_aload_n hx hb dX11_swaps_67 rfl (lv_at hl 1 rfl) ?_
      refine th_get hx hb (ly_X11 hE) hown hK hP ha0.1 he11 rfl 10 (by decide) (wd_369 hE) (fun _ h9 => h9) rfl dX11_swaps_68 ?_
      refine lv_aload_n hx hb dX11_swaps_71 rfl (lv_at hl 1 rfl) ?_
      refine th_get hx hb (ly_X11 hE) hown hK hP ha0.1 he11 rfl 13 (by decide) (wd_372 hE) (fun _ h9 => h9) rfl dX11_swaps_72 ?_
      refine tc_v hAL hS hA (va_runS (As := [.ref (gR G a0 0), .ref (gR G a0 11), .ref (gR G a0 10), .ref (gR G a0 13)]) (rest := []) ⟨hx, hb, hml, hown, noTs⟩ (t_X2_product l dC dI H.size G cs tt mm (gR G a0 0) ((wt_X11_0 hWT ha0)) (gR G a0 11) ((wt_X11_11 hWT ha0)) (gR G a0 10) ((wt_X11_10 hWT ha0)) (gR G a0 13) ((wt_X11_13 hWT ha0))) ⟨cbE 4 (wd_922 hE) (wd_134 hE) (wd_920 hE) rfl rfl (by decide +kernel) ⟨Nat.le_of_ble_eq_true rfl, Nat.le_of_ble_eq_true rfl⟩, (wd_921 hE)⟩ ⟨PT.blind, (th_pre (av := [.ref (gR G a0 0), .ref (gR G a0 11), .ref (gR G a0 10), .ref (gR G a0 13)]) hK hP hok hnd hWT hE)⟩ rfl rfl hl.1 rfl (lv_room (Nat.le_of_ble_eq_true rfl)) dX11_swaps_75 ⟨Nat.le_of_ble_eq_true rfl, Nat.le_of_ble_eq_true rfl⟩) (fun f12 H locs hr12 hok hP hS => ?_)
      refine lv_aload_n hx hb dX11_swaps_78 rfl (lv_at hl 1 rfl) ?_
      refine lv_aload_n hx hb dX11_swaps_79 rfl (lv_at hl 1 rfl) ?_
      obtain ⟨y5_13, he13⟩ := ok_X11 hok ha0
      refine th_get hx hb (ly_X11 hE) hown hK hP ha0.1 he13 rfl 12 (by decide) (wd_371 hE) (fun _ h9 => h9) rfl dX11_swaps_80 ?_
      refine lv_aload_n hx hb dX11_swaps_83 rfl (lv_at hl 1 rfl) ?_
      refine th_get hx hb (ly_X11 hE) hown hK hP ha0.1 he13 rfl 13 (by decide) (wd_372 hE) (fun _ h9 => h9) rfl dX11_swaps_84 ?_
      obtain ⟨y2_14, y3_14, hy3_14, he14⟩ := ok_X10 hok (wt_X11_12 hWT ha0)
      refine vp_callSi (va_Run.run (va_runV (As := [.ref (gR G a0 13)]) (rest := [.ref a0]) ⟨hx, hb, hml, hown, noTs⟩ (t_X10_sameAs l dC dI H.size G cs tt mm (gR G a0 12) ((wt_X11_12 hWT ha0)) (gR G a0 13) ((wt_X11_13 hWT ha0))) ⟨cbE 1 (wd_877 hE) (wd_120 hE) (wd_874 hE) rfl rfl (by decide +kernel) ⟨Nat.le_of_ble_eq_true rfl, Nat.le_of_ble_eq_true rfl⟩, (wd_875 hE), (wd_876 hE)⟩ ⟨PT.blind, th_recv hK hP (wt_X11_12 hWT ha0).1 he14 rfl, (th_pre (av := [.ref (gR G a0 12), .ref (gR G a0 13)]) hK hP hok hnd hWT hE)⟩ rfl rfl hl.1 rfl (lv_room (Nat.le_of_ble_eq_true rfl)) dX11_swaps_87 ⟨Nat.le_of_ble_eq_true rfl, Nat.le_of_ble_eq_true rfl⟩)) (fun r15 hr15 => ?_)
      refine vp_callSi (va_Run.run (va_runS (As := [.int r15]) (rest := [.ref a0]) ⟨hx, hb, hml, hown, noTs⟩ (t_X11_bit l dC dI H.size G cs tt mm r15) ⟨cbE 1 (wd_669 hE) (wd_115 hE) (wd_884 hE) rfl rfl (by decide +kernel) ⟨Nat.le_of_ble_eq_true rfl, Nat.le_of_ble_eq_true rfl⟩, (wd_668 hE)⟩ ⟨PT.blind, (th_pre (av := [.int r15]) hK hP hok hnd hWT hE)⟩ rfl rfl hl.1 rfl (lv_room (Nat.le_of_ble_eq_true rfl)) dX11_swaps_90 ⟨Nat.le_of_ble_eq_true rfl, Nat.le_of_ble_eq_true rfl⟩)) (fun r16 hr16 => ?_)
      refine tc_i hAL hS hA (va_runV (As := [.int r16]) (rest := []) ⟨hx, hb, hml, hown, noTs⟩ (t_X11_answer l dC dI H.size G cs tt mm a0 ha0 r16) ⟨cbE 1 (wd_748 hE) (wd_115 hE) (wd_745 hE) rfl rfl (by decide +kernel) ⟨Nat.le_of_ble_eq_true rfl, Nat.le_of_ble_eq_true rfl⟩, (wd_747 hE), (wd_23 hE)⟩ ⟨PT.blind, th_recv hK hP ha0.1 he13 rfl, (th_pre (av := [.ref a0, .int r16]) hK hP hok hnd hWT hE)⟩ rfl rfl hl.1 rfl (lv_room (Nat.le_of_ble_eq_true rfl)) dX11_swaps_93 ⟨Nat.le_of_ble_eq_true rfl, Nat.le_of_ble_eq_true rfl⟩) (fun r17 f17 H locs hr17 hok hP hS => ?_)
      exact W.iret (v := r17) hx hb hr (fun t ht hW => ⟨⟨r17, f17, rfl, trivial, hok, by rw [ht]; exact hP⟩, hS.F ht⟩) hS.2.2 dX11_swaps_96
    · refine lv_aload_n hx hb dX11_swaps_34 rfl (lv_at hl 1 rfl) ?_
      refine lv_iconst (v := 4) hx hb dX11_swaps_35 (by decide) ?_
      refine tc_i hAL hS hA (va_runV (As := [.int 4]) (rest := []) ⟨hx, hb, hml, hown, noTs⟩ (t_X11_fail l dC dI H.size G cs tt mm a0 ha0 4) ⟨cbE 1 (wd_436 hE) (wd_115 hE) (wd_433 hE) rfl rfl (by decide +kernel) ⟨Nat.le_of_ble_eq_true rfl, Nat.le_of_ble_eq_true rfl⟩, (wd_435 hE), (wd_1 hE)⟩ ⟨PT.blind, th_recv hK hP ha0.1 he4 rfl, (th_pre (av := [.ref a0, .int 4]) hK hP hok hnd hWT hE)⟩ rfl rfl hl.1 rfl (lv_room (Nat.le_of_ble_eq_true rfl)) dX11_swaps_36 ⟨Nat.le_of_ble_eq_true rfl, Nat.le_of_ble_eq_true rfl⟩) (fun r18 f18 H locs hr18 hok hP hS => ?_)
      exact W.iret (v := r18) hx hb hr (fun t ht hW => ⟨⟨r18, f18, rfl, trivial, hok, by rw [ht]; exact hP⟩, hS.F ht⟩) hS.2.2 dX11_swaps_39
  · refine lv_aload_n hx hb dX11_swaps_11 rfl (lv_at hl 1 rfl) ?_
    refine lv_iload_n hx hb dX11_swaps_12 rfl (lv_at hl 0 rfl) ?_
    obtain ⟨y5_19, he19⟩ := ok_X11 hok ha0
    refine tc_i hAL hS hA (va_runV (As := [.int r2]) (rest := []) ⟨hx, hb, hml, hown, noTs⟩ (t_X11_fail l dC dI H.size G cs tt mm a0 ha0 r2) ⟨cbE 1 (wd_436 hE) (wd_115 hE) (wd_433 hE) rfl rfl (by decide +kernel) ⟨Nat.le_of_ble_eq_true rfl, Nat.le_of_ble_eq_true rfl⟩, (wd_435 hE), (wd_1 hE)⟩ ⟨PT.blind, th_recv hK hP ha0.1 he19 rfl, (th_pre (av := [.ref a0, .int r2]) hK hP hok hnd hWT hE)⟩ rfl rfl hl.1 rfl (lv_room (Nat.le_of_ble_eq_true rfl)) dX11_swaps_13 ⟨Nat.le_of_ble_eq_true rfl, Nat.le_of_ble_eq_true rfl⟩) (fun r20 f20 H locs hr20 hok hP hS => ?_)
    exact W.iret (v := r20) hx hb hr (fun t ht hW => ⟨⟨r20, f20, rfl, trivial, hok, by rw [ht]; exact hP⟩, hS.F ht⟩) hS.2.2 dX11_swaps_16

set_option maxHeartbeats 4000000 in
set_option maxRecDepth 100000 in
theorem t_X11_readWay (l : Launch) (dC : Nat → ClassId) (dI : Nat → Nat → Nat) (sz : Nat) (G : GT) (cs : Nat → ClassId) (tt mm : Nat) (a0 : Nat) (ha0 : Ty G a0 11) (v1 : Int32) (v2 : Int32) : Met l yX11_readWay [.code yX11_readWay cX11_readWay 3 (some .int)] ({ frames := 5, cells := 0, slots := 0, locals := 200 }) (PT [.ref a0, .int v1, .int v2] sz dC dI G cs tt mm) (va_Qi (fun (r : Int32) (u : Nat → va_E) => True) (BT dC dI G cs tt mm) (AT G sz)) 0 0 (AT G sz) := by
  refine Met.ofW (cc := cX11_readWay) (maxL := 3) (ret := (some .int)) (by decide) rfl ?_
  intro p e s m args below meth c s₁ B hml hv
  obtain ⟨rfl, hsz, ⟨f0, hok, hP⟩, hK, hnd, hWT, hE⟩ := hv
  have hx := B.exec
  have hb := B.bytes
  have hr := B.returns
  have hown : s.vm.findClass RX11 = some m.cls := findClass_of_methodNamed B.named
  have hlocks := B.notSynchronized
  subst hsz
  have hAL : ∀ a, a ∈ gL G → AT G s.heap.size a := fun a h => Or.inl h
  have hA : ∀ q : Nat, s.heap.size ≤ q → AT G s.heap.size q := fun q h => Or.inr h
  have hS : va_S (AT G s.heap.size) s.heap s.heap [] := va_S.rf
  have hl := lv_entry ([.ref a0, .int v1, .int v2]) (n := 3) (Nat.le_of_ble_eq_true rfl)
  rw [lg_entry_eq]
  generalize (lg_sl ([.ref a0, .int v1, .int v2]) ++ List.replicate (3 - (lg_sl ([.ref a0, .int v1, .int v2])).length) Slot.unset).toArray = ls at hl ⊢
  have hl : lv_has ls 3 [(0, .ref a0), (1, .int v1), (2, .int v2)] := hl
  refine lv_aload_n hx hb dX11_readWay_0 rfl (lv_at hl 0 rfl) ?_
  refine lv_iload_n hx hb dX11_readWay_1 rfl (lv_at hl 1 rfl) ?_
  refine lv_iload_n hx hb dX11_readWay_2 rfl (lv_at hl 2 rfl) ?_
  obtain ⟨y5_1, he1⟩ := ok_X11 hok ha0
  refine tc_i hAL hS hA (va_runV (As := [.int v1, .int v2]) (rest := []) ⟨hx, hb, hml, hown, noTs⟩ (t_X11_readTwo l dC dI s.heap.size G cs tt mm a0 ha0 v1 v2) ⟨cbE 2 (wd_919 hE) (wd_115 hE) (wd_916 hE) rfl rfl (by decide +kernel) ⟨Nat.le_of_ble_eq_true rfl, Nat.le_of_ble_eq_true rfl⟩, (wd_918 hE), (wd_29 hE)⟩ ⟨PT.blind, th_recv hK hP ha0.1 he1 rfl, (th_pre (av := [.ref a0, .int v1, .int v2]) hK hP hok hnd hWT hE)⟩ rfl rfl hl.1 rfl (lv_room (Nat.le_of_ble_eq_true rfl)) dX11_readWay_3 ⟨Nat.le_of_ble_eq_true rfl, Nat.le_of_ble_eq_true rfl⟩) (fun r2 f2 H locs hr2 hok hP hS => ?_)
  refine lv_if_ne (tgt := 11) hx hb dX11_readWay_6 (by decide) (fun c3 => ?_) (fun c3 => ?_)
  · refine lv_aload_n hx hb dX11_readWay_11 rfl (lv_at hl 0 rfl) ?_
    obtain ⟨y5_4, he4⟩ := ok_X11 hok ha0
    refine th_get hx hb (ly_X11 hE) hown hK hP ha0.1 he4 rfl 10 (by decide) (wd_369 hE) (fun _ h9 => h9) rfl dX11_readWay_12 ?_
    obtain ⟨y2_5, y3_5, hy3_5, he5⟩ := ok_X10 hok (wt_X11_10 hWT ha0)
    refine vp_callSi (va_Run.run (va_runV (As := []) (rest := []) ⟨hx, hb, hml, hown, noTs⟩ (t_X10_begin l dC dI H.size G cs tt mm (gR G a0 10) ((wt_X11_10 hWT ha0))) ⟨cbE 0 (wd_713 hE) (wd_120 hE) (wd_824 hE) rfl rfl (by decide +kernel) ⟨Nat.le_of_ble_eq_true rfl, Nat.le_of_ble_eq_true rfl⟩, (wd_711 hE), (wd_712 hE)⟩ ⟨PT.blind, th_recv hK hP (wt_X11_10 hWT ha0).1 he5 rfl, (th_pre (av := [.ref (gR G a0 10)]) hK hP hok hnd hWT hE)⟩ rfl rfl hl.1 rfl (lv_room (Nat.le_of_ble_eq_true rfl)) dX11_readWay_15 ⟨Nat.le_of_ble_eq_true rfl, Nat.le_of_ble_eq_true rfl⟩)) (fun r6 hr6 => ?_)
    refine lv_aload_n hx hb dX11_readWay_18 rfl (lv_at hl 0 rfl) ?_
    refine th_get hx hb (ly_X11 hE) hown hK hP ha0.1 he4 rfl 11 (by decide) (wd_370 hE) (fun _ h9 => h9) rfl dX11_readWay_19 ?_
    obtain ⟨y2_7, y3_7, hy3_7, he7⟩ := ok_X10 hok (wt_X11_11 hWT ha0)
    refine vp_callSi (va_Run.run (va_runV (As := []) (rest := [.int r6]) ⟨hx, hb, hml, hown, noTs⟩ (t_X10_begin l dC dI H.size G cs tt mm (gR G a0 11) ((wt_X11_11 hWT ha0))) ⟨cbE 0 (wd_713 hE) (wd_120 hE) (wd_824 hE) rfl rfl (by decide +kernel) ⟨Nat.le_of_ble_eq_true rfl, Nat.le_of_ble_eq_true rfl⟩, (wd_711 hE), (wd_712 hE)⟩ ⟨PT.blind, th_recv hK hP (wt_X11_11 hWT ha0).1 he7 rfl, (th_pre (av := [.ref (gR G a0 11)]) hK hP hok hnd hWT hE)⟩ rfl rfl hl.1 rfl (lv_room (Nat.le_of_ble_eq_true rfl)) dX11_readWay_22 ⟨Nat.le_of_ble_eq_true rfl, Nat.le_of_ble_eq_true rfl⟩)) (fun r8 hr8 => ?_)
    refine lv_icmp_eq (tgt := 30) hx hb dX11_readWay_25 (by decide) (fun c9 => ?_) (fun c9 => ?_)
    · refine lv_aload_n hx hb dX11_readWay_30 rfl (lv_at hl 0 rfl) ?_
      refine th_get hx hb (ly_X11 hE) hown hK hP ha0.1 he4 rfl 0 (by decide) (wd_359 hE) (fun _ h9 => h9) rfl dX11_readWay_31 ?_
      refine lv_aload_n hx hb dX11_readWay_34 rfl (lv_at hl 0 rfl) ?_
      refine th_get hx hb (ly_X11 hE) hown hK hP ha0.1 he4 rfl 10 (by decide) (wd_369 hE) (fun _ h9 => h9) rfl dX11_readWay_35 ?_
      refine lv_aload_n hx hb dX11_readWay_38 rfl (lv_at hl 0 rfl) ?_
      refine th_get hx hb (ly_X11 hE) hown hK hP ha0.1 he4 rfl 12 (by decide) (wd_371 hE) (fun _ h9 => h9) rfl dX11_readWay_39 ?_
      refine tc_v hAL hS hA (va_runS (As := [.ref (gR G a0 0), .ref (gR G a0 10), .ref (gR G a0 12)]) (rest := []) ⟨hx, hb, hml, hown, noTs⟩ (t_X2_turn l dC dI H.size G cs tt mm (gR G a0 0) ((wt_X11_0 hWT ha0)) (gR G a0 10) ((wt_X11_10 hWT ha0)) (gR G a0 12) ((wt_X11_12 hWT ha0))) ⟨cbE 3 (wd_929 hE) (wd_134 hE) (wd_927 hE) rfl rfl (by decide +kernel) ⟨Nat.le_of_ble_eq_true rfl, Nat.le_of_ble_eq_true rfl⟩, (wd_928 hE)⟩ ⟨PT.blind, (th_pre (av := [.ref (gR G a0 0), .ref (gR G a0 10), .ref (gR G a0 12)]) hK hP hok hnd hWT hE)⟩ rfl rfl hl.1 rfl (lv_room (Nat.le_of_ble_eq_true rfl)) dX11_readWay_42 ⟨Nat.le_of_ble_eq_true rfl, Nat.le_of_ble_eq_true rfl⟩) (fun f10 H locs hr10 hok hP hS => ?_)
      refine lv_aload_n hx hb dX11_readWay_45 rfl (lv_at hl 0 rfl) ?_
      obtain ⟨y5_11, he11⟩ := ok_X11 hok ha0
      refine th_get hx hb (ly_X11 hE) hown hK hP ha0.1 he11 rfl 0 (by decide) (wd_359 hE) (fun _ h9 => h9) rfl dX11_readWay_46 ?_
      refine lv_aload_n hx hb dX11_readWay_49 rfl (lv_at hl 0 rfl) ?_
      refine th_get hx hb (ly_X11 hE) hown hK hP ha0.1 he11 rfl 12 (by decide) (wd_371 hE) (fun _ h9 => h9) rfl dX11_readWay_50 ?_
      refine lv_aload_n hx hb dX11_readWay_53 rfl (lv_at hl 0 rfl) ?_
      refine th_get hx hb (ly_X11 hE) hown hK hP ha0.1 he11 rfl 11 (by decide) (wd_370 hE) (fun _ h9 => h9) rfl dX11_readWay_54 ?_
      refine tc_i hAL hS hA (va_runS (As := [.ref (gR G a0 0), .ref (gR G a0 12), .ref (gR G a0 11)]) (rest := []) ⟨hx, hb, hml, hown, noTs⟩ (t_X2_append l dC dI H.size G cs tt mm (gR G a0 0) ((wt_X11_0 hWT ha0)) (gR G a0 12) ((wt_X11_12 hWT ha0)) (gR G a0 11) ((wt_X11_11 hWT ha0))) ⟨cbE 3 (wd_842 hE) (wd_134 hE) (wd_954 hE) rfl rfl (by decide +kernel) ⟨Nat.le_of_ble_eq_true rfl, Nat.le_of_ble_eq_true rfl⟩, (wd_841 hE)⟩ ⟨PT.blind, (th_pre (av := [.ref (gR G a0 0), .ref (gR G a0 12), .ref (gR G a0 11)]) hK hP hok hnd hWT hE)⟩ rfl rfl hl.1 rfl (lv_room (Nat.le_of_ble_eq_true rfl)) dX11_readWay_57 ⟨Nat.le_of_ble_eq_true rfl, Nat.le_of_ble_eq_true rfl⟩) (fun r12 f12 H locs hr12 hok hP hS => ?_)
      refine lv_pop hx hb dX11_readWay_60 rfl ?_
      refine lv_iconst (v := 0) hx hb dX11_readWay_61 (by decide) ?_
      exact W.iret (v := 0) hx hb hr (fun t ht hW => ⟨⟨0, f12, rfl, trivial, hok, by rw [ht]; exact hP⟩, hS.F ht⟩) hS.2.2 dX11_readWay_62
    · refine lv_iconst (v := 4) hx hb dX11_readWay_28 (by decide) ?_
      exact W.iret (v := 4) hx hb hr (fun t ht hW => ⟨⟨4, f2, rfl, trivial, hok, by rw [ht]; exact hP⟩, hS.F ht⟩) hS.2.2 dX11_readWay_29
  · refine lv_iconst (v := 2) hx hb dX11_readWay_9 (by decide) ?_
    exact W.iret (v := 2) hx hb hr (fun t ht hW => ⟨⟨2, f2, rfl, trivial, hok, by rw [ht]; exact hP⟩, hS.F ht⟩) hS.2.2 dX11_readWay_10

set_option maxHeartbeats 4000000 in
set_option maxRecDepth 100000 in
theorem t_X11_apart (l : Launch) (dC : Nat → ClassId) (dI : Nat → Nat → Nat) (sz : Nat) (G : GT) (cs : Nat → ClassId) (tt mm : Nat) (a0 : Nat) (ha0 : Ty G a0 11) (v1 : Int32) (v2 : Int32) : Met l yX11_apart [.code yX11_apart cX11_apart 4 (some .int)] ({ frames := 6, cells := 0, slots := 0, locals := 240 }) (PT [.ref a0, .int v1, .int v2] sz dC dI G cs tt mm) (va_Qi (fun (r : Int32) (u : Nat → va_E) => True) (BT dC dI G cs tt mm) (AT G sz)) 0 0 (AT G sz) := by
  refine Met.ofW (cc := cX11_apart) (maxL := 4) (ret := (some .int)) (by decide) rfl ?_
  intro p e s m args below meth c s₁ B hml hv
  obtain ⟨rfl, hsz, ⟨f0, hok, hP⟩, hK, hnd, hWT, hE⟩ := hv
  have hx := B.exec
  have hb := B.bytes
  have hr := B.returns
  have hown : s.vm.findClass RX11 = some m.cls := findClass_of_methodNamed B.named
  have hlocks := B.notSynchronized
  subst hsz
  have hAL : ∀ a, a ∈ gL G → AT G s.heap.size a := fun a h => Or.inl h
  have hA : ∀ q : Nat, s.heap.size ≤ q → AT G s.heap.size q := fun q h => Or.inr h
  have hS : va_S (AT G s.heap.size) s.heap s.heap [] := va_S.rf
  have hl := lv_entry ([.ref a0, .int v1, .int v2]) (n := 4) (Nat.le_of_ble_eq_true rfl)
  rw [lg_entry_eq]
  generalize (lg_sl ([.ref a0, .int v1, .int v2]) ++ List.replicate (4 - (lg_sl ([.ref a0, .int v1, .int v2])).length) Slot.unset).toArray = ls at hl ⊢
  have hl : lv_has ls 4 [(0, .ref a0), (1, .int v1), (2, .int v2)] := hl
  refine lv_aload_n hx hb dX11_apart_0 rfl (lv_at hl 0 rfl) ?_
  refine lv_iload_n hx hb dX11_apart_1 rfl (lv_at hl 1 rfl) ?_
  refine lv_iload_n hx hb dX11_apart_2 rfl (lv_at hl 2 rfl) ?_
  obtain ⟨y5_1, he1⟩ := ok_X11 hok ha0
  refine tc_i hAL hS hA (va_runV (As := [.int v1, .int v2]) (rest := []) ⟨hx, hb, hml, hown, noTs⟩ (t_X11_readWay l dC dI s.heap.size G cs tt mm a0 ha0 v1 v2) ⟨cbE 2 (wd_1254 hE) (wd_115 hE) (wd_1251 hE) rfl rfl (by decide +kernel) ⟨Nat.le_of_ble_eq_true rfl, Nat.le_of_ble_eq_true rfl⟩, (wd_1253 hE), (wd_48 hE)⟩ ⟨PT.blind, th_recv hK hP ha0.1 he1 rfl, (th_pre (av := [.ref a0, .int v1, .int v2]) hK hP hok hnd hWT hE)⟩ rfl rfl hl.1 rfl (lv_room (Nat.le_of_ble_eq_true rfl)) dX11_apart_3 ⟨Nat.le_of_ble_eq_true rfl, Nat.le_of_ble_eq_true rfl⟩) (fun r2 f2 H locs hr2 hok hP hS => ?_)
  refine lv_istore_n (lv' := [(3, .int r2), (0, .ref a0), (1, .int v1), (2, .int v2)]) hx hb dX11_apart_6 rfl hl (by decide) rfl (fun ls hl => ?_)
  refine lv_iload_n hx hb dX11_apart_7 rfl (lv_at hl 0 rfl) ?_
  refine lv_if_eq (tgt := 19) hx hb dX11_apart_8 (by decide) (fun c3 => ?_) (fun c3 => ?_)
  · refine lv_aload_n hx hb dX11_apart_19 rfl (lv_at hl 1 rfl) ?_
    refine lv_aload_n hx hb dX11_apart_20 rfl (lv_at hl 1 rfl) ?_
    obtain ⟨y5_4, he4⟩ := ok_X11 hok ha0
    refine th_get hx hb (ly_X11 hE) hown hK hP ha0.1 he4 rfl 12 (by decide) (wd_371 hE) (fun _ h9 => h9) rfl dX11_apart_21 ?_
    obtain ⟨y2_5, y3_5, hy3_5, he5⟩ := ok_X10 hok (wt_X11_12 hWT ha0)
    refine vp_callSi (va_Run.run (va_runV (As := []) (rest := [.ref a0]) ⟨hx, hb, hml, hown, noTs⟩ (t_X10_size l dC dI H.size G cs tt mm (gR G a0 12) ((wt_X11_12 hWT ha0))) ⟨cbE 0 (wd_666 hE) (wd_120 hE) (wd_834 hE) rfl rfl (by decide +kernel) ⟨Nat.le_of_ble_eq_true rfl, Nat.le_of_ble_eq_true rfl⟩, (wd_664 hE), (wd_665 hE)⟩ ⟨PT.blind, th_recv hK hP (wt_X11_12 hWT ha0).1 he5 rfl, (th_pre (av := [.ref (gR G a0 12)]) hK hP hok hnd hWT hE)⟩ rfl rfl hl.1 rfl (lv_room (Nat.le_of_ble_eq_true rfl)) dX11_apart_24 ⟨Nat.le_of_ble_eq_true rfl, Nat.le_of_ble_eq_true rfl⟩)) (fun r6 hr6 => ?_)
    obtain ⟨hra6, hrb6⟩ := hr6
    refine tc_i hAL hS hA (va_runV (As := [.int r6]) (rest := []) ⟨hx, hb, hml, hown, noTs⟩ (t_X11_answer l dC dI H.size G cs tt mm a0 ha0 r6) ⟨cbE 1 (wd_748 hE) (wd_115 hE) (wd_745 hE) rfl rfl (by decide +kernel) ⟨Nat.le_of_ble_eq_true rfl, Nat.le_of_ble_eq_true rfl⟩, (wd_747 hE), (wd_23 hE)⟩ ⟨PT.blind, th_recv hK hP ha0.1 he4 rfl, (th_pre (av := [.ref a0, .int r6]) hK hP hok hnd hWT hE)⟩ rfl rfl hl.1 rfl (lv_room (Nat.le_of_ble_eq_true rfl)) dX11_apart_27 ⟨Nat.le_of_ble_eq_true rfl, Nat.le_of_ble_eq_true rfl⟩) (fun r7 f7 H locs hr7 hok hP hS => ?_)
    exact W.iret (v := r7) hx hb hr (fun t ht hW => ⟨⟨r7, f7, rfl, trivial, hok, by rw [ht]; exact hP⟩, hS.F ht⟩) hS.2.2 dX11_apart_30
  · refine lv_aload_n hx hb dX11_apart_11 rfl (lv_at hl 1 rfl) ?_
    refine lv_iload_n hx hb dX11_apart_12 rfl (lv_at hl 0 rfl) ?_
    obtain ⟨y5_8, he8⟩ := ok_X11 hok ha0
    refine tc_i hAL hS hA (va_runV (As := [.int r2]) (rest := []) ⟨hx, hb, hml, hown, noTs⟩ (t_X11_fail l dC dI H.size G cs tt mm a0 ha0 r2) ⟨cbE 1 (wd_436 hE) (wd_115 hE) (wd_433 hE) rfl rfl (by decide +kernel) ⟨Nat.le_of_ble_eq_true rfl, Nat.le_of_ble_eq_true rfl⟩, (wd_435 hE), (wd_1 hE)⟩ ⟨PT.blind, th_recv hK hP ha0.1 he8 rfl, (th_pre (av := [.ref a0, .int r2]) hK hP hok hnd hWT hE)⟩ rfl rfl hl.1 rfl (lv_room (Nat.le_of_ble_eq_true rfl)) dX11_apart_13 ⟨Nat.le_of_ble_eq_true rfl, Nat.le_of_ble_eq_true rfl⟩) (fun r9 f9 H locs hr9 hok hP hS => ?_)
    refine lv_goto (tgt := 30) hx hb dX11_apart_16 (by decide) ?_
    exact W.iret (v := r9) hx hb hr (fun t ht hW => ⟨⟨r9, f9, rfl, trivial, hok, by rw [ht]; exact hP⟩, hS.F ht⟩) hS.2.2 dX11_apart_30

set_option maxHeartbeats 4000000 in
set_option maxRecDepth 100000 in
theorem t_X11_moves (l : Launch) (dC : Nat → ClassId) (dI : Nat → Nat → Nat) (sz : Nat) (G : GT) (cs : Nat → ClassId) (tt mm : Nat) (a0 : Nat) (ha0 : Ty G a0 11) (v1 : Int32) (v2 : Int32) : Met l yX11_moves [.code yX11_moves cX11_moves 3 (some .int)] ({ frames := 5, cells := 0, slots := 0, locals := 200 }) (PT [.ref a0, .int v1, .int v2] sz dC dI G cs tt mm) (va_Qi (fun (r : Int32) (u : Nat → va_E) => True) (BT dC dI G cs tt mm) (AT G sz)) 0 0 (AT G sz) := by
  refine Met.ofW (cc := cX11_moves) (maxL := 3) (ret := (some .int)) (by decide) rfl ?_
  intro p e s m args below meth c s₁ B hml hv
  obtain ⟨rfl, hsz, ⟨f0, hok, hP⟩, hK, hnd, hWT, hE⟩ := hv
  have hx := B.exec
  have hb := B.bytes
  have hr := B.returns
  have hown : s.vm.findClass RX11 = some m.cls := findClass_of_methodNamed B.named
  have hlocks := B.notSynchronized
  subst hsz
  have hAL : ∀ a, a ∈ gL G → AT G s.heap.size a := fun a h => Or.inl h
  have hA : ∀ q : Nat, s.heap.size ≤ q → AT G s.heap.size q := fun q h => Or.inr h
  have hS : va_S (AT G s.heap.size) s.heap s.heap [] := va_S.rf
  have hl := lv_entry ([.ref a0, .int v1, .int v2]) (n := 3) (Nat.le_of_ble_eq_true rfl)
  rw [lg_entry_eq]
  generalize (lg_sl ([.ref a0, .int v1, .int v2]) ++ List.replicate (3 - (lg_sl ([.ref a0, .int v1, .int v2])).length) Slot.unset).toArray = ls at hl ⊢
  have hl : lv_has ls 3 [(0, .ref a0), (1, .int v1), (2, .int v2)] := hl
  refine lv_aload_n hx hb dX11_moves_0 rfl (lv_at hl 0 rfl) ?_
  refine lv_iload_n hx hb dX11_moves_1 rfl (lv_at hl 1 rfl) ?_
  refine lv_iload_n hx hb dX11_moves_2 rfl (lv_at hl 2 rfl) ?_
  obtain ⟨y5_1, he1⟩ := ok_X11 hok ha0
  refine tc_i hAL hS hA (va_runV (As := [.int v1, .int v2]) (rest := []) ⟨hx, hb, hml, hown, noTs⟩ (t_X11_readTwo l dC dI s.heap.size G cs tt mm a0 ha0 v1 v2) ⟨cbE 2 (wd_919 hE) (wd_115 hE) (wd_916 hE) rfl rfl (by decide +kernel) ⟨Nat.le_of_ble_eq_true rfl, Nat.le_of_ble_eq_true rfl⟩, (wd_918 hE), (wd_29 hE)⟩ ⟨PT.blind, th_recv hK hP ha0.1 he1 rfl, (th_pre (av := [.ref a0, .int v1, .int v2]) hK hP hok hnd hWT hE)⟩ rfl rfl hl.1 rfl (lv_room (Nat.le_of_ble_eq_true rfl)) dX11_moves_3 ⟨Nat.le_of_ble_eq_true rfl, Nat.le_of_ble_eq_true rfl⟩) (fun r2 f2 H locs hr2 hok hP hS => ?_)
  refine lv_if_ne (tgt := 15) hx hb dX11_moves_6 (by decide) (fun c3 => ?_) (fun c3 => ?_)
  · refine lv_aload_n hx hb dX11_moves_15 rfl (lv_at hl 0 rfl) ?_
    obtain ⟨y5_4, he4⟩ := ok_X11 hok ha0
    refine th_get hx hb (ly_X11 hE) hown hK hP ha0.1 he4 rfl 0 (by decide) (wd_359 hE) (fun _ h9 => h9) rfl dX11_moves_16 ?_
    refine lv_aload_n hx hb dX11_moves_19 rfl (lv_at hl 0 rfl) ?_
    refine th_get hx hb (ly_X11 hE) hown hK hP ha0.1 he4 rfl 10 (by decide) (wd_369 hE) (fun _ h9 => h9) rfl dX11_moves_20 ?_
    have he5 := ok_X7 hok (wt_X11_0 hWT ha0)
    refine vp_callSi (va_Run.run (va_runV (As := [.ref (gR G a0 10)]) (rest := []) ⟨hx, hb, hml, hown, noTs⟩ (t_X7_isLoop l dC dI H.size G cs tt mm (gR G a0 0) ((wt_X11_0 hWT ha0)) (gR G a0 10) ((wt_X11_10 hWT ha0))) ⟨cbE 1 (wd_949 hE) (wd_116 hE) (wd_946 hE) rfl rfl (by decide +kernel) ⟨Nat.le_of_ble_eq_true rfl, Nat.le_of_ble_eq_true rfl⟩, (wd_947 hE), (wd_948 hE)⟩ ⟨PT.blind, th_recv hK hP (wt_X11_0 hWT ha0).1 he5 rfl, (th_pre (av := [.ref (gR G a0 0), .ref (gR G a0 10)]) hK hP hok hnd hWT hE)⟩ rfl rfl hl.1 rfl (lv_room (Nat.le_of_ble_eq_true rfl)) dX11_moves_23 ⟨Nat.le_of_ble_eq_true rfl, Nat.le_of_ble_eq_true rfl⟩)) (fun r6 hr6 => ?_)
    refine lv_if_eq (tgt := 46) hx hb dX11_moves_26 (by decide) (fun c7 => ?_) (fun c7 => ?_)
    · refine lv_aload_n hx hb dX11_moves_46 rfl (lv_at hl 0 rfl) ?_
      refine lv_iconst (v := 4) hx hb dX11_moves_47 (by decide) ?_
      refine tc_i hAL hS hA (va_runV (As := [.int 4]) (rest := []) ⟨hx, hb, hml, hown, noTs⟩ (t_X11_fail l dC dI H.size G cs tt mm a0 ha0 4) ⟨cbE 1 (wd_436 hE) (wd_115 hE) (wd_433 hE) rfl rfl (by decide +kernel) ⟨Nat.le_of_ble_eq_true rfl, Nat.le_of_ble_eq_true rfl⟩, (wd_435 hE), (wd_1 hE)⟩ ⟨PT.blind, th_recv hK hP ha0.1 he4 rfl, (th_pre (av := [.ref a0, .int 4]) hK hP hok hnd hWT hE)⟩ rfl rfl hl.1 rfl (lv_room (Nat.le_of_ble_eq_true rfl)) dX11_moves_48 ⟨Nat.le_of_ble_eq_true rfl, Nat.le_of_ble_eq_true rfl⟩) (fun r8 f8 H locs hr8 hok hP hS => ?_)
      exact W.iret (v := r8) hx hb hr (fun t ht hW => ⟨⟨r8, f8, rfl, trivial, hok, by rw [ht]; exact hP⟩, hS.F ht⟩) hS.2.2 dX11_moves_51
    · refine lv_aload_n hx hb dX11_moves_29 rfl (lv_at hl 0 rfl) ?_
      refine th_get hx hb (ly_X11 hE) hown hK hP ha0.1 he4 rfl 10 (by decide) (wd_369 hE) (fun _ h9 => h9) rfl dX11_moves_30 ?_
      obtain ⟨y2_9, y3_9, hy3_9, he9⟩ := ok_X10 hok (wt_X11_10 hWT ha0)
      refine vp_callSi (va_Run.run (va_runV (As := []) (rest := []) ⟨hx, hb, hml, hown, noTs⟩ (t_X10_begin l dC dI H.size G cs tt mm (gR G a0 10) ((wt_X11_10 hWT ha0))) ⟨cbE 0 (wd_713 hE) (wd_120 hE) (wd_824 hE) rfl rfl (by decide +kernel) ⟨Nat.le_of_ble_eq_true rfl, Nat.le_of_ble_eq_true rfl⟩, (wd_711 hE), (wd_712 hE)⟩ ⟨PT.blind, th_recv hK hP (wt_X11_10 hWT ha0).1 he9 rfl, (th_pre (av := [.ref (gR G a0 10)]) hK hP hok hnd hWT hE)⟩ rfl rfl hl.1 rfl (lv_room (Nat.le_of_ble_eq_true rfl)) dX11_moves_33 ⟨Nat.le_of_ble_eq_true rfl, Nat.le_of_ble_eq_true rfl⟩)) (fun r10 hr10 => ?_)
      refine lv_aload_n hx hb dX11_moves_36 rfl (lv_at hl 0 rfl) ?_
      refine th_get hx hb (ly_X11 hE) hown hK hP ha0.1 he4 rfl 11 (by decide) (wd_370 hE) (fun _ h9 => h9) rfl dX11_moves_37 ?_
      obtain ⟨y2_11, y3_11, hy3_11, he11⟩ := ok_X10 hok (wt_X11_11 hWT ha0)
      refine vp_callSi (va_Run.run (va_runV (As := []) (rest := [.int r10]) ⟨hx, hb, hml, hown, noTs⟩ (t_X10_begin l dC dI H.size G cs tt mm (gR G a0 11) ((wt_X11_11 hWT ha0))) ⟨cbE 0 (wd_713 hE) (wd_120 hE) (wd_824 hE) rfl rfl (by decide +kernel) ⟨Nat.le_of_ble_eq_true rfl, Nat.le_of_ble_eq_true rfl⟩, (wd_711 hE), (wd_712 hE)⟩ ⟨PT.blind, th_recv hK hP (wt_X11_11 hWT ha0).1 he11 rfl, (th_pre (av := [.ref (gR G a0 11)]) hK hP hok hnd hWT hE)⟩ rfl rfl hl.1 rfl (lv_room (Nat.le_of_ble_eq_true rfl)) dX11_moves_40 ⟨Nat.le_of_ble_eq_true rfl, Nat.le_of_ble_eq_true rfl⟩)) (fun r12 hr12 => ?_)
      refine lv_icmp_eq (tgt := 52) hx hb dX11_moves_43 (by decide) (fun c13 => ?_) (fun c13 => ?_)
      · refine lv_aload_n hx hb dX11_moves_52 rfl (lv_at hl 0 rfl) ?_
        refine th_get hx hb (ly_X11 hE) hown hK hP ha0.1 he4 rfl 0 (by decide) (wd_359 hE) (fun _ h9 => h9) rfl dX11_moves_53 ?_
        refine lv_aload_n hx hb dX11_moves_56 rfl (lv_at hl 0 rfl) ?_
        refine th_get hx hb (ly_X11 hE) hown hK hP ha0.1 he4 rfl 11 (by decide) (wd_370 hE) (fun _ h9 => h9) rfl dX11_moves_57 ?_
        refine lv_aload_n hx hb dX11_moves_60 rfl (lv_at hl 0 rfl) ?_
        refine th_get hx hb (ly_X11 hE) hown hK hP ha0.1 he4 rfl 12 (by decide) (wd_371 hE) (fun _ h9 => h9) rfl dX11_moves_61 ?_
        refine tc_v hAL hS hA (va_runS (As := [.ref (gR G a0 0), .ref (gR G a0 11), .ref (gR G a0 12)]) (rest := []) ⟨hx, hb, hml, hown, noTs⟩ (t_X2_turn l dC dI H.size G cs tt mm (gR G a0 0) ((wt_X11_0 hWT ha0)) (gR G a0 11) ((wt_X11_11 hWT ha0)) (gR G a0 12) ((wt_X11_12 hWT ha0))) ⟨cbE 3 (wd_929 hE) (wd_134 hE) (wd_927 hE) rfl rfl (by decide +kernel) ⟨Nat.le_of_ble_eq_true rfl, Nat.le_of_ble_eq_true rfl⟩, (wd_928 hE)⟩ ⟨PT.blind, (th_pre (av := [.ref (gR G a0 0), .ref (gR G a0 11), .ref (gR G a0 12)]) hK hP hok hnd hWT hE)⟩ rfl rfl hl.1 rfl (lv_room (Nat.le_of_ble_eq_true rfl)) dX11_moves_64 ⟨Nat.le_of_ble_eq_true rfl, Nat.le_of_ble_eq_true rfl⟩) (fun f14 H locs hr14 hok hP hS => ?_)
        refine lv_aload_n hx hb dX11_moves_67 rfl (lv_at hl 0 rfl) ?_
        obtain ⟨y5_15, he15⟩ := ok_X11 hok ha0
        refine th_get hx hb (ly_X11 hE) hown hK hP ha0.1 he15 rfl 0 (by decide) (wd_359 hE) (fun _ h9 => h9) rfl dX11_moves_68 ?_
        refine lv_aload_n hx hb dX11_moves_71 rfl (lv_at hl 0 rfl) ?_
        refine th_get hx hb (ly_X11 hE) hown hK hP ha0.1 he15 rfl 12 (by decide) (wd_371 hE) (fun _ h9 => h9) rfl dX11_moves_72 ?_
        refine lv_aload_n hx hb dX11_moves_75 rfl (lv_at hl 0 rfl) ?_
        refine th_get hx hb (ly_X11 hE) hown hK hP ha0.1 he15 rfl 10 (by decide) (wd_369 hE) (fun _ h9 => h9) rfl dX11_moves_76 ?_
        refine tc_i hAL hS hA (va_runS (As := [.ref (gR G a0 0), .ref (gR G a0 12), .ref (gR G a0 10)]) (rest := []) ⟨hx, hb, hml, hown, noTs⟩ (t_X2_append l dC dI H.size G cs tt mm (gR G a0 0) ((wt_X11_0 hWT ha0)) (gR G a0 12) ((wt_X11_12 hWT ha0)) (gR G a0 10) ((wt_X11_10 hWT ha0))) ⟨cbE 3 (wd_842 hE) (wd_134 hE) (wd_954 hE) rfl rfl (by decide +kernel) ⟨Nat.le_of_ble_eq_true rfl, Nat.le_of_ble_eq_true rfl⟩, (wd_841 hE)⟩ ⟨PT.blind, (th_pre (av := [.ref (gR G a0 0), .ref (gR G a0 12), .ref (gR G a0 10)]) hK hP hok hnd hWT hE)⟩ rfl rfl hl.1 rfl (lv_room (Nat.le_of_ble_eq_true rfl)) dX11_moves_79 ⟨Nat.le_of_ble_eq_true rfl, Nat.le_of_ble_eq_true rfl⟩) (fun r16 f16 H locs hr16 hok hP hS => ?_)
        refine lv_pop hx hb dX11_moves_82 rfl ?_
        refine lv_aload_n hx hb dX11_moves_83 rfl (lv_at hl 0 rfl) ?_
        obtain ⟨y5_17, he17⟩ := ok_X11 hok ha0
        refine th_get hx hb (ly_X11 hE) hown hK hP ha0.1 he17 rfl 0 (by decide) (wd_359 hE) (fun _ h9 => h9) rfl dX11_moves_84 ?_
        refine lv_aload_n hx hb dX11_moves_87 rfl (lv_at hl 0 rfl) ?_
        refine th_get hx hb (ly_X11 hE) hown hK hP ha0.1 he17 rfl 12 (by decide) (wd_371 hE) (fun _ h9 => h9) rfl dX11_moves_88 ?_
        refine lv_aload_n hx hb dX11_moves_91 rfl (lv_at hl 0 rfl) ?_
        refine th_get hx hb (ly_X11 hE) hown hK hP ha0.1 he17 rfl 11 (by decide) (wd_370 hE) (fun _ h9 => h9) rfl dX11_moves_92 ?_
        refine tc_i hAL hS hA (va_runS (As := [.ref (gR G a0 0), .ref (gR G a0 12), .ref (gR G a0 11)]) (rest := []) ⟨hx, hb, hml, hown, noTs⟩ (t_X2_append l dC dI H.size G cs tt mm (gR G a0 0) ((wt_X11_0 hWT ha0)) (gR G a0 12) ((wt_X11_12 hWT ha0)) (gR G a0 11) ((wt_X11_11 hWT ha0))) ⟨cbE 3 (wd_842 hE) (wd_134 hE) (wd_954 hE) rfl rfl (by decide +kernel) ⟨Nat.le_of_ble_eq_true rfl, Nat.le_of_ble_eq_true rfl⟩, (wd_841 hE)⟩ ⟨PT.blind, (th_pre (av := [.ref (gR G a0 0), .ref (gR G a0 12), .ref (gR G a0 11)]) hK hP hok hnd hWT hE)⟩ rfl rfl hl.1 rfl (lv_room (Nat.le_of_ble_eq_true rfl)) dX11_moves_95 ⟨Nat.le_of_ble_eq_true rfl, Nat.le_of_ble_eq_true rfl⟩) (fun r18 f18 H locs hr18 hok hP hS => ?_)
        refine lv_pop hx hb dX11_moves_98 rfl ?_
        refine lv_aload_n hx hb dX11_moves_99 rfl (lv_at hl 0 rfl) ?_
        refine lv_aload_n hx hb dX11_moves_100 rfl (lv_at hl 0 rfl) ?_
        obtain ⟨y5_19, he19⟩ := ok_X11 hok ha0
        refine th_get hx hb (ly_X11 hE) hown hK hP ha0.1 he19 rfl 12 (by decide) (wd_371 hE) (fun _ h9 => h9) rfl dX11_moves_101 ?_
        obtain ⟨y2_20, y3_20, hy3_20, he20⟩ := ok_X10 hok (wt_X11_12 hWT ha0)
        refine vp_callSi (va_Run.run (va_runV (As := []) (rest := [.ref a0]) ⟨hx, hb, hml, hown, noTs⟩ (t_X10_size l dC dI H.size G cs tt mm (gR G a0 12) ((wt_X11_12 hWT ha0))) ⟨cbE 0 (wd_666 hE) (wd_120 hE) (wd_834 hE) rfl rfl (by decide +kernel) ⟨Nat.le_of_ble_eq_true rfl, Nat.le_of_ble_eq_true rfl⟩, (wd_664 hE), (wd_665 hE)⟩ ⟨PT.blind, th_recv hK hP (wt_X11_12 hWT ha0).1 he20 rfl, (th_pre (av := [.ref (gR G a0 12)]) hK hP hok hnd hWT hE)⟩ rfl rfl hl.1 rfl (lv_room (Nat.le_of_ble_eq_true rfl)) dX11_moves_104 ⟨Nat.le_of_ble_eq_true rfl, Nat.le_of_ble_eq_true rfl⟩)) (fun r21 hr21 => ?_)
        obtain ⟨hra21, hrb21⟩ := hr21
        refine tc_i hAL hS hA (va_runV (As := [.int r21]) (rest := []) ⟨hx, hb, hml, hown, noTs⟩ (t_X11_answer l dC dI H.size G cs tt mm a0 ha0 r21) ⟨cbE 1 (wd_748 hE) (wd_115 hE) (wd_745 hE) rfl rfl (by decide +kernel) ⟨Nat.le_of_ble_eq_true rfl, Nat.le_of_ble_eq_true rfl⟩, (wd_747 hE), (wd_23 hE)⟩ ⟨PT.blind, th_recv hK hP ha0.1 he19 rfl, (th_pre (av := [.ref a0, .int r21]) hK hP hok hnd hWT hE)⟩ rfl rfl hl.1 rfl (lv_room (Nat.le_of_ble_eq_true rfl)) dX11_moves_107 ⟨Nat.le_of_ble_eq_true rfl, Nat.le_of_ble_eq_true rfl⟩) (fun r22 f22 H locs hr22 hok hP hS => ?_)
        exact W.iret (v := r22) hx hb hr (fun t ht hW => ⟨⟨r22, f22, rfl, trivial, hok, by rw [ht]; exact hP⟩, hS.F ht⟩) hS.2.2 dX11_moves_110
      · refine lv_aload_n hx hb dX11_moves_46 rfl (lv_at hl 0 rfl) ?_
        refine lv_iconst (v := 4) hx hb dX11_moves_47 (by decide) ?_
        refine tc_i hAL hS hA (va_runV (As := [.int 4]) (rest := []) ⟨hx, hb, hml, hown, noTs⟩ (t_X11_fail l dC dI H.size G cs tt mm a0 ha0 4) ⟨cbE 1 (wd_436 hE) (wd_115 hE) (wd_433 hE) rfl rfl (by decide +kernel) ⟨Nat.le_of_ble_eq_true rfl, Nat.le_of_ble_eq_true rfl⟩, (wd_435 hE), (wd_1 hE)⟩ ⟨PT.blind, th_recv hK hP ha0.1 he4 rfl, (th_pre (av := [.ref a0, .int 4]) hK hP hok hnd hWT hE)⟩ rfl rfl hl.1 rfl (lv_room (Nat.le_of_ble_eq_true rfl)) dX11_moves_48 ⟨Nat.le_of_ble_eq_true rfl, Nat.le_of_ble_eq_true rfl⟩) (fun r23 f23 H locs hr23 hok hP hS => ?_)
        exact W.iret (v := r23) hx hb hr (fun t ht hW => ⟨⟨r23, f23, rfl, trivial, hok, by rw [ht]; exact hP⟩, hS.F ht⟩) hS.2.2 dX11_moves_51
  · refine lv_aload_n hx hb dX11_moves_9 rfl (lv_at hl 0 rfl) ?_
    refine lv_iconst (v := 2) hx hb dX11_moves_10 (by decide) ?_
    obtain ⟨y5_24, he24⟩ := ok_X11 hok ha0
    refine tc_i hAL hS hA (va_runV (As := [.int 2]) (rest := []) ⟨hx, hb, hml, hown, noTs⟩ (t_X11_fail l dC dI H.size G cs tt mm a0 ha0 2) ⟨cbE 1 (wd_436 hE) (wd_115 hE) (wd_433 hE) rfl rfl (by decide +kernel) ⟨Nat.le_of_ble_eq_true rfl, Nat.le_of_ble_eq_true rfl⟩, (wd_435 hE), (wd_1 hE)⟩ ⟨PT.blind, th_recv hK hP ha0.1 he24 rfl, (th_pre (av := [.ref a0, .int 2]) hK hP hok hnd hWT hE)⟩ rfl rfl hl.1 rfl (lv_room (Nat.le_of_ble_eq_true rfl)) dX11_moves_11 ⟨Nat.le_of_ble_eq_true rfl, Nat.le_of_ble_eq_true rfl⟩) (fun r25 f25 H locs hr25 hok hP hS => ?_)
    exact W.iret (v := r25) hx hb hr (fun t ht hW => ⟨⟨r25, f25, rfl, trivial, hok, by rw [ht]; exact hP⟩, hS.F ht⟩) hS.2.2 dX11_moves_14

set_option maxHeartbeats 4000000 in
set_option maxRecDepth 100000 in
theorem t_X11_way (l : Launch) (dC : Nat → ClassId) (dI : Nat → Nat → Nat) (sz : Nat) (G : GT) (cs : Nat → ClassId) (tt mm : Nat) (a0 : Nat) (ha0 : Ty G a0 11) (v1 : Int32) (v2 : Int32) (v3 : Int32) : Met l yX11_way [.code yX11_way cX11_way 5 (some .int)] ({ frames := 6, cells := 0, slots := 0, locals := 240 }) (PT [.ref a0, .int v1, .int v2, .int v3] sz dC dI G cs tt mm) (va_Qi (fun (r : Int32) (u : Nat → va_E) => True) (BT dC dI G cs tt mm) (AT G sz)) 0 0 (AT G sz) := by
  refine Met.ofW (cc := cX11_way) (maxL := 5) (ret := (some .int)) (by decide) rfl ?_
  intro p e s m args below meth c s₁ B hml hv
  obtain ⟨rfl, hsz, ⟨f0, hok, hP⟩, hK, hnd, hWT, hE⟩ := hv
  have hx := B.exec
  have hb := B.bytes
  have hr := B.returns
  have hown : s.vm.findClass RX11 = some m.cls := findClass_of_methodNamed B.named
  have hlocks := B.notSynchronized
  subst hsz
  have hAL : ∀ a, a ∈ gL G → AT G s.heap.size a := fun a h => Or.inl h
  have hA : ∀ q : Nat, s.heap.size ≤ q → AT G s.heap.size q := fun q h => Or.inr h
  have hS : va_S (AT G s.heap.size) s.heap s.heap [] := va_S.rf
  have hl := lv_entry ([.ref a0, .int v1, .int v2, .int v3]) (n := 5) (Nat.le_of_ble_eq_true rfl)
  rw [lg_entry_eq]
  generalize (lg_sl ([.ref a0, .int v1, .int v2, .int v3]) ++ List.replicate (5 - (lg_sl ([.ref a0, .int v1, .int v2, .int v3])).length) Slot.unset).toArray = ls at hl ⊢
  have hl : lv_has ls 5 [(0, .ref a0), (1, .int v1), (2, .int v2), (3, .int v3)] := hl
  refine lv_iload_n hx hb dX11_way_0 rfl (lv_at hl 3 rfl) ?_
  refine lv_if_ge (tgt := 10) hx hb dX11_way_1 (by decide) (fun c1 => ?_) (fun c1 => ?_)
  · refine lv_aload_n hx hb dX11_way_10 rfl (lv_at hl 0 rfl) ?_
    refine lv_iload_n hx hb dX11_way_11 rfl (lv_at hl 1 rfl) ?_
    refine lv_iload_n hx hb dX11_way_12 rfl (lv_at hl 2 rfl) ?_
    obtain ⟨y5_2, he2⟩ := ok_X11 hok ha0
    refine tc_i hAL hS hA (va_runV (As := [.int v1, .int v2]) (rest := []) ⟨hx, hb, hml, hown, noTs⟩ (t_X11_readWay l dC dI s.heap.size G cs tt mm a0 ha0 v1 v2) ⟨cbE 2 (wd_1254 hE) (wd_115 hE) (wd_1251 hE) rfl rfl (by decide +kernel) ⟨Nat.le_of_ble_eq_true rfl, Nat.le_of_ble_eq_true rfl⟩, (wd_1253 hE), (wd_48 hE)⟩ ⟨PT.blind, th_recv hK hP ha0.1 he2 rfl, (th_pre (av := [.ref a0, .int v1, .int v2]) hK hP hok hnd hWT hE)⟩ rfl rfl hl.1 rfl (lv_room (Nat.le_of_ble_eq_true rfl)) dX11_way_13 ⟨Nat.le_of_ble_eq_true rfl, Nat.le_of_ble_eq_true rfl⟩) (fun r3 f3 H locs hr3 hok hP hS => ?_)
    refine lv_istore (lv' := [(4, .int r3), (0, .ref a0), (1, .int v1), (2, .int v2), (3, .int v3)]) hx hb dX11_way_16 hl (by decide) rfl (fun ls hl => ?_)
    refine lv_iload hx hb dX11_way_18 (lv_at hl 0 rfl) ?_
    refine lv_if_eq (tgt := 30) hx hb dX11_way_20 (by decide) (fun c4 => ?_) (fun c4 => ?_)
    · refine lv_iload_n hx hb dX11_way_30 rfl (lv_at hl 4 rfl) ?_
      refine lv_aload_n hx hb dX11_way_31 rfl (lv_at hl 1 rfl) ?_
      obtain ⟨y5_5, he5⟩ := ok_X11 hok ha0
      refine th_get hx hb (ly_X11 hE) hown hK hP ha0.1 he5 rfl 12 (by decide) (wd_371 hE) (fun _ h9 => h9) rfl dX11_way_32 ?_
      obtain ⟨y2_6, y3_6, hy3_6, he6⟩ := ok_X10 hok (wt_X11_12 hWT ha0)
      refine vp_callSi (va_Run.run (va_runV (As := []) (rest := [.int v3]) ⟨hx, hb, hml, hown, noTs⟩ (t_X10_size l dC dI H.size G cs tt mm (gR G a0 12) ((wt_X11_12 hWT ha0))) ⟨cbE 0 (wd_666 hE) (wd_120 hE) (wd_834 hE) rfl rfl (by decide +kernel) ⟨Nat.le_of_ble_eq_true rfl, Nat.le_of_ble_eq_true rfl⟩, (wd_664 hE), (wd_665 hE)⟩ ⟨PT.blind, th_recv hK hP (wt_X11_12 hWT ha0).1 he6 rfl, (th_pre (av := [.ref (gR G a0 12)]) hK hP hok hnd hWT hE)⟩ rfl rfl hl.1 rfl (lv_room (Nat.le_of_ble_eq_true rfl)) dX11_way_35 ⟨Nat.le_of_ble_eq_true rfl, Nat.le_of_ble_eq_true rfl⟩)) (fun r7 hr7 => ?_)
      obtain ⟨hra7, hrb7⟩ := hr7
      refine lv_icmp_le (tgt := 47) hx hb dX11_way_38 (by decide) (fun c8 => ?_) (fun c8 => ?_)
      · refine lv_aload_n hx hb dX11_way_47 rfl (lv_at hl 1 rfl) ?_
        refine lv_iload_n hx hb dX11_way_48 rfl (lv_at hl 4 rfl) ?_
        refine lv_if_ne (tgt := 62) hx hb dX11_way_49 (by decide) (fun c9 => ?_) (fun c9 => ?_)
        · refine lv_aload_n hx hb dX11_way_62 rfl (lv_at hl 1 rfl) ?_
          refine th_get hx hb (ly_X11 hE) hown hK hP ha0.1 he5 rfl 0 (by decide) (wd_359 hE) (fun _ h9 => h9) rfl dX11_way_63 ?_
          refine lv_aload_n hx hb dX11_way_66 rfl (lv_at hl 1 rfl) ?_
          refine th_get hx hb (ly_X11 hE) hown hK hP ha0.1 he5 rfl 12 (by decide) (wd_371 hE) (fun _ h9 => h9) rfl dX11_way_67 ?_
          refine lv_iload_n hx hb dX11_way_70 rfl (lv_at hl 4 rfl) ?_
          refine lv_iconst (v := 1) hx hb dX11_way_71 (by decide) ?_
          refine lv_isub hx hb dX11_way_72 ?_
          refine lv_topi (fun x10 _ => ?_)
          refine vp_callSi (va_Run.run (va_runV (As := [.int x10]) (rest := [.ref (gR G a0 0), .ref a0]) ⟨hx, hb, hml, hown, noTs⟩ (t_X10_stepAt l dC dI H.size G cs tt mm (gR G a0 12) ((wt_X11_12 hWT ha0)) x10) ⟨cbE 1 (wd_721 hE) (wd_120 hE) (wd_894 hE) rfl rfl (by decide +kernel) ⟨Nat.le_of_ble_eq_true rfl, Nat.le_of_ble_eq_true rfl⟩, (wd_719 hE), (wd_720 hE)⟩ ⟨PT.blind, th_recv hK hP (wt_X11_12 hWT ha0).1 he6 rfl, (th_pre (av := [.ref (gR G a0 12), .int x10]) hK hP hok hnd hWT hE)⟩ rfl rfl hl.1 rfl (lv_room (Nat.le_of_ble_eq_true rfl)) dX11_way_73 ⟨Nat.le_of_ble_eq_true rfl, Nat.le_of_ble_eq_true rfl⟩)) (fun r11 hr11 => ?_)
          have he12 := ok_X7 hok (wt_X11_0 hWT ha0)
          refine vp_callSi (va_Run.run (va_runV (As := [.int r11]) (rest := [.ref a0]) ⟨hx, hb, hml, hown, noTs⟩ (t_X7_toVertex l dC dI H.size G cs tt mm (gR G a0 0) ((wt_X11_0 hWT ha0)) r11) ⟨cbE 1 (wd_692 hE) (wd_116 hE) (wd_1263 hE) rfl rfl (by decide +kernel) ⟨Nat.le_of_ble_eq_true rfl, Nat.le_of_ble_eq_true rfl⟩, (wd_690 hE), (wd_691 hE)⟩ ⟨PT.blind, th_recv hK hP (wt_X11_0 hWT ha0).1 he12 rfl, (th_pre (av := [.ref (gR G a0 0), .int r11]) hK hP hok hnd hWT hE)⟩ rfl rfl hl.1 rfl (lv_room (Nat.le_of_ble_eq_true rfl)) dX11_way_76 ⟨Nat.le_of_ble_eq_true rfl, Nat.le_of_ble_eq_true rfl⟩)) (fun r13 hr13 => ?_)
          refine tc_i hAL hS hA (va_runV (As := [.int r13]) (rest := []) ⟨hx, hb, hml, hown, noTs⟩ (t_X11_answer l dC dI H.size G cs tt mm a0 ha0 r13) ⟨cbE 1 (wd_748 hE) (wd_115 hE) (wd_745 hE) rfl rfl (by decide +kernel) ⟨Nat.le_of_ble_eq_true rfl, Nat.le_of_ble_eq_true rfl⟩, (wd_747 hE), (wd_23 hE)⟩ ⟨PT.blind, th_recv hK hP ha0.1 he5 rfl, (th_pre (av := [.ref a0, .int r13]) hK hP hok hnd hWT hE)⟩ rfl rfl hl.1 rfl (lv_room (Nat.le_of_ble_eq_true rfl)) dX11_way_79 ⟨Nat.le_of_ble_eq_true rfl, Nat.le_of_ble_eq_true rfl⟩) (fun r14 f14 H locs hr14 hok hP hS => ?_)
          exact W.iret (v := r14) hx hb hr (fun t ht hW => ⟨⟨r14, f14, rfl, trivial, hok, by rw [ht]; exact hP⟩, hS.F ht⟩) hS.2.2 dX11_way_82
        · refine lv_aload_n hx hb dX11_way_52 rfl (lv_at hl 1 rfl) ?_
          refine th_get hx hb (ly_X11 hE) hown hK hP ha0.1 he5 rfl 12 (by decide) (wd_371 hE) (fun _ h9 => h9) rfl dX11_way_53 ?_
          refine vp_callSi (va_Run.run (va_runV (As := []) (rest := [.ref a0]) ⟨hx, hb, hml, hown, noTs⟩ (t_X10_begin l dC dI H.size G cs tt mm (gR G a0 12) ((wt_X11_12 hWT ha0))) ⟨cbE 0 (wd_713 hE) (wd_120 hE) (wd_824 hE) rfl rfl (by decide +kernel) ⟨Nat.le_of_ble_eq_true rfl, Nat.le_of_ble_eq_true rfl⟩, (wd_711 hE), (wd_712 hE)⟩ ⟨PT.blind, th_recv hK hP (wt_X11_12 hWT ha0).1 he6 rfl, (th_pre (av := [.ref (gR G a0 12)]) hK hP hok hnd hWT hE)⟩ rfl rfl hl.1 rfl (lv_room (Nat.le_of_ble_eq_true rfl)) dX11_way_56 ⟨Nat.le_of_ble_eq_true rfl, Nat.le_of_ble_eq_true rfl⟩)) (fun r15 hr15 => ?_)
          refine lv_goto (tgt := 79) hx hb dX11_way_59 (by decide) ?_
          refine tc_i hAL hS hA (va_runV (As := [.int r15]) (rest := []) ⟨hx, hb, hml, hown, noTs⟩ (t_X11_answer l dC dI H.size G cs tt mm a0 ha0 r15) ⟨cbE 1 (wd_748 hE) (wd_115 hE) (wd_745 hE) rfl rfl (by decide +kernel) ⟨Nat.le_of_ble_eq_true rfl, Nat.le_of_ble_eq_true rfl⟩, (wd_747 hE), (wd_23 hE)⟩ ⟨PT.blind, th_recv hK hP ha0.1 he5 rfl, (th_pre (av := [.ref a0, .int r15]) hK hP hok hnd hWT hE)⟩ rfl rfl hl.1 rfl (lv_room (Nat.le_of_ble_eq_true rfl)) dX11_way_79 ⟨Nat.le_of_ble_eq_true rfl, Nat.le_of_ble_eq_true rfl⟩) (fun r16 f16 H locs hr16 hok hP hS => ?_)
          exact W.iret (v := r16) hx hb hr (fun t ht hW => ⟨⟨r16, f16, rfl, trivial, hok, by rw [ht]; exact hP⟩, hS.F ht⟩) hS.2.2 dX11_way_82
      · refine lv_aload_n hx hb dX11_way_41 rfl (lv_at hl 1 rfl) ?_
        refine lv_iconst (v := 5) hx hb dX11_way_42 (by decide) ?_
        refine tc_i hAL hS hA (va_runV (As := [.int 5]) (rest := []) ⟨hx, hb, hml, hown, noTs⟩ (t_X11_fail l dC dI H.size G cs tt mm a0 ha0 5) ⟨cbE 1 (wd_436 hE) (wd_115 hE) (wd_433 hE) rfl rfl (by decide +kernel) ⟨Nat.le_of_ble_eq_true rfl, Nat.le_of_ble_eq_true rfl⟩, (wd_435 hE), (wd_1 hE)⟩ ⟨PT.blind, th_recv hK hP ha0.1 he5 rfl, (th_pre (av := [.ref a0, .int 5]) hK hP hok hnd hWT hE)⟩ rfl rfl hl.1 rfl (lv_room (Nat.le_of_ble_eq_true rfl)) dX11_way_43 ⟨Nat.le_of_ble_eq_true rfl, Nat.le_of_ble_eq_true rfl⟩) (fun r17 f17 H locs hr17 hok hP hS => ?_)
        exact W.iret (v := r17) hx hb hr (fun t ht hW => ⟨⟨r17, f17, rfl, trivial, hok, by rw [ht]; exact hP⟩, hS.F ht⟩) hS.2.2 dX11_way_46
    · refine lv_aload_n hx hb dX11_way_23 rfl (lv_at hl 1 rfl) ?_
      refine lv_iload hx hb dX11_way_24 (lv_at hl 0 rfl) ?_
      obtain ⟨y5_18, he18⟩ := ok_X11 hok ha0
      refine tc_i hAL hS hA (va_runV (As := [.int r3]) (rest := []) ⟨hx, hb, hml, hown, noTs⟩ (t_X11_fail l dC dI H.size G cs tt mm a0 ha0 r3) ⟨cbE 1 (wd_436 hE) (wd_115 hE) (wd_433 hE) rfl rfl (by decide +kernel) ⟨Nat.le_of_ble_eq_true rfl, Nat.le_of_ble_eq_true rfl⟩, (wd_435 hE), (wd_1 hE)⟩ ⟨PT.blind, th_recv hK hP ha0.1 he18 rfl, (th_pre (av := [.ref a0, .int r3]) hK hP hok hnd hWT hE)⟩ rfl rfl hl.1 rfl (lv_room (Nat.le_of_ble_eq_true rfl)) dX11_way_26 ⟨Nat.le_of_ble_eq_true rfl, Nat.le_of_ble_eq_true rfl⟩) (fun r19 f19 H locs hr19 hok hP hS => ?_)
      exact W.iret (v := r19) hx hb hr (fun t ht hW => ⟨⟨r19, f19, rfl, trivial, hok, by rw [ht]; exact hP⟩, hS.F ht⟩) hS.2.2 dX11_way_29
  · refine lv_aload_n hx hb dX11_way_4 rfl (lv_at hl 0 rfl) ?_
    refine lv_iconst (v := 1) hx hb dX11_way_5 (by decide) ?_
    obtain ⟨y5_20, he20⟩ := ok_X11 hok ha0
    refine tc_i hAL hS hA (va_runV (As := [.int 1]) (rest := []) ⟨hx, hb, hml, hown, noTs⟩ (t_X11_fail l dC dI s.heap.size G cs tt mm a0 ha0 1) ⟨cbE 1 (wd_436 hE) (wd_115 hE) (wd_433 hE) rfl rfl (by decide +kernel) ⟨Nat.le_of_ble_eq_true rfl, Nat.le_of_ble_eq_true rfl⟩, (wd_435 hE), (wd_1 hE)⟩ ⟨PT.blind, th_recv hK hP ha0.1 he20 rfl, (th_pre (av := [.ref a0, .int 1]) hK hP hok hnd hWT hE)⟩ rfl rfl hl.1 rfl (lv_room (Nat.le_of_ble_eq_true rfl)) dX11_way_6 ⟨Nat.le_of_ble_eq_true rfl, Nat.le_of_ble_eq_true rfl⟩) (fun r21 f21 H locs hr21 hok hP hS => ?_)
    exact W.iret (v := r21) hx hb hr (fun t ht hW => ⟨⟨r21, f21, rfl, trivial, hok, by rw [ht]; exact hP⟩, hS.F ht⟩) hS.2.2 dX11_way_9

set_option maxHeartbeats 4000000 in
set_option maxRecDepth 100000 in
theorem t_X11_answerLong (l : Launch) (dC : Nat → ClassId) (dI : Nat → Nat → Nat) (sz : Nat) (G : GT) (cs : Nat → ClassId) (tt mm : Nat) (a0 : Nat) (ha0 : Ty G a0 11) (v1 : Int64) : Met l yX11_answerLong [.code yX11_answerLong cX11_answerLong 3 (some .long)] ({ frames := 0, cells := 0, slots := 0, locals := 0 }) (PT [.ref a0, .long v1] sz dC dI G cs tt mm) (va_Ql (fun (r : Int64) (u : Nat → va_E) => True) (BT dC dI G cs tt mm) (AT G sz)) 0 0 (AT G sz) := by
  refine Met.ofW (cc := cX11_answerLong) (maxL := 3) (ret := (some .long)) (by decide) rfl ?_
  intro p e s m args below meth c s₁ B hml hv
  obtain ⟨rfl, hsz, ⟨f0, hok, hP⟩, hK, hnd, hWT, hE⟩ := hv
  have hx := B.exec
  have hb := B.bytes
  have hr := B.returns
  have hown : s.vm.findClass RX11 = some m.cls := findClass_of_methodNamed B.named
  have hlocks := B.notSynchronized
  subst hsz
  have hAL : ∀ a, a ∈ gL G → AT G s.heap.size a := fun a h => Or.inl h
  have hA : ∀ q : Nat, s.heap.size ≤ q → AT G s.heap.size q := fun q h => Or.inr h
  have hS : va_S (AT G s.heap.size) s.heap s.heap [] := va_S.rf
  have hl := lv_entry ([.ref a0, .long v1]) (n := 3) (Nat.le_of_ble_eq_true rfl)
  rw [lg_entry_eq]
  generalize (lg_sl ([.ref a0, .long v1]) ++ List.replicate (3 - (lg_sl ([.ref a0, .long v1])).length) Slot.unset).toArray = ls at hl ⊢
  have hl : lv_has ls 3 [(0, .ref a0), (1, .long v1)] := hl
  refine lv_aload_n hx hb dX11_answerLong_0 rfl (lv_at hl 0 rfl) ?_
  refine lv_iconst (v := 0) hx hb dX11_answerLong_1 (by decide) ?_
  obtain ⟨y5_1, he1⟩ := ok_X11 hok ha0
  refine th_put (v := .int 0) (ty := .int) hx hb (ly_X11 hE) tyX11 tyX11_ok nmX11 hown hK hP hnd hAL hS ha0.1 he1 rfl 5 (by decide) (wd_364 hE) (fun _ h9 => h9) rfl (by decide +kernel) rfl rfl (Nat.le_of_ble_eq_true rfl) (up_X11 hok ha0 ⟨0, rfl⟩) dX11_answerLong_2 (fun f2 H locs hfa2 hfo2 hok hP hS => ?_)
  refine lv_lload_n hx hb dX11_answerLong_5 rfl (lv_at hl 1 rfl) ?_
  exact W.lret (v := v1) hx hb hr (fun t ht hW => ⟨⟨v1, f2, rfl, trivial, hok, by rw [ht]; exact hP⟩, hS.F ht⟩) hS.2.2 dX11_answerLong_6

set_option maxHeartbeats 4000000 in
set_option maxRecDepth 100000 in
theorem t_X11_axis (l : Launch) (dC : Nat → ClassId) (dI : Nat → Nat → Nat) (sz : Nat) (G : GT) (cs : Nat → ClassId) (tt mm : Nat) (a0 : Nat) (ha0 : Ty G a0 11) (v1 : Int32) (v2 : Int32) : Met l yX11_axis [.code yX11_axis cX11_axis 4 (some .int)] ({ frames := 6, cells := 0, slots := 0, locals := 240 }) (PT [.ref a0, .int v1, .int v2] sz dC dI G cs tt mm) (va_Qi (fun (r : Int32) (u : Nat → va_E) => True) (BT dC dI G cs tt mm) (AT G sz)) 0 0 (AT G sz) := by
  refine Met.ofW (cc := cX11_axis) (maxL := 4) (ret := (some .int)) (by decide) rfl ?_
  intro p e s m args below meth c s₁ B hml hv
  obtain ⟨rfl, hsz, ⟨f0, hok, hP⟩, hK, hnd, hWT, hE⟩ := hv
  have hx := B.exec
  have hb := B.bytes
  have hr := B.returns
  have hown : s.vm.findClass RX11 = some m.cls := findClass_of_methodNamed B.named
  have hlocks := B.notSynchronized
  subst hsz
  have hAL : ∀ a, a ∈ gL G → AT G s.heap.size a := fun a h => Or.inl h
  have hA : ∀ q : Nat, s.heap.size ≤ q → AT G s.heap.size q := fun q h => Or.inr h
  have hS : va_S (AT G s.heap.size) s.heap s.heap [] := va_S.rf
  have hl := lv_entry ([.ref a0, .int v1, .int v2]) (n := 4) (Nat.le_of_ble_eq_true rfl)
  rw [lg_entry_eq]
  generalize (lg_sl ([.ref a0, .int v1, .int v2]) ++ List.replicate (4 - (lg_sl ([.ref a0, .int v1, .int v2])).length) Slot.unset).toArray = ls at hl ⊢
  have hl : lv_has ls 4 [(0, .ref a0), (1, .int v1), (2, .int v2)] := hl
  refine lv_iload_n hx hb dX11_axis_0 rfl (lv_at hl 2 rfl) ?_
  refine lv_if_ge (tgt := 10) hx hb dX11_axis_1 (by decide) (fun c1 => ?_) (fun c1 => ?_)
  · refine lv_aload_n hx hb dX11_axis_10 rfl (lv_at hl 0 rfl) ?_
    refine lv_iload_n hx hb dX11_axis_11 rfl (lv_at hl 1 rfl) ?_
    obtain ⟨y5_2, he2⟩ := ok_X11 hok ha0
    refine tc_i hAL hS hA (va_runV (As := [.int v1]) (rest := []) ⟨hx, hb, hml, hown, noTs⟩ (t_X11_readCore l dC dI s.heap.size G cs tt mm a0 ha0 v1) ⟨cbE 1 (wd_1079 hE) (wd_115 hE) (wd_1076 hE) rfl rfl (by decide +kernel) ⟨Nat.le_of_ble_eq_true rfl, Nat.le_of_ble_eq_true rfl⟩, (wd_1078 hE), (wd_38 hE)⟩ ⟨PT.blind, th_recv hK hP ha0.1 he2 rfl, (th_pre (av := [.ref a0, .int v1]) hK hP hok hnd hWT hE)⟩ rfl rfl hl.1 rfl (lv_room (Nat.le_of_ble_eq_true rfl)) dX11_axis_12 ⟨Nat.le_of_ble_eq_true rfl, Nat.le_of_ble_eq_true rfl⟩) (fun r3 f3 H locs hr3 hok hP hS => ?_)
    refine lv_istore_n (lv' := [(3, .int r3), (0, .ref a0), (1, .int v1), (2, .int v2)]) hx hb dX11_axis_15 rfl hl (by decide) rfl (fun ls hl => ?_)
    refine lv_iload_n hx hb dX11_axis_16 rfl (lv_at hl 0 rfl) ?_
    refine lv_if_eq (tgt := 26) hx hb dX11_axis_17 (by decide) (fun c4 => ?_) (fun c4 => ?_)
    · refine lv_aload_n hx hb dX11_axis_26 rfl (lv_at hl 1 rfl) ?_
      obtain ⟨y5_5, he5⟩ := ok_X11 hok ha0
      refine th_get hx hb (ly_X11 hE) hown hK hP ha0.1 he5 rfl 12 (by decide) (wd_371 hE) (fun _ h9 => h9) rfl dX11_axis_27 ?_
      obtain ⟨y2_6, y3_6, hy3_6, he6⟩ := ok_X10 hok (wt_X11_12 hWT ha0)
      refine vp_callSi (va_Run.run (va_runV (As := []) (rest := []) ⟨hx, hb, hml, hown, noTs⟩ (t_X10_size l dC dI H.size G cs tt mm (gR G a0 12) ((wt_X11_12 hWT ha0))) ⟨cbE 0 (wd_666 hE) (wd_120 hE) (wd_834 hE) rfl rfl (by decide +kernel) ⟨Nat.le_of_ble_eq_true rfl, Nat.le_of_ble_eq_true rfl⟩, (wd_664 hE), (wd_665 hE)⟩ ⟨PT.blind, th_recv hK hP (wt_X11_12 hWT ha0).1 he6 rfl, (th_pre (av := [.ref (gR G a0 12)]) hK hP hok hnd hWT hE)⟩ rfl rfl hl.1 rfl (lv_room (Nat.le_of_ble_eq_true rfl)) dX11_axis_30 ⟨Nat.le_of_ble_eq_true rfl, Nat.le_of_ble_eq_true rfl⟩)) (fun r7 hr7 => ?_)
      obtain ⟨hra7, hrb7⟩ := hr7
      refine lv_if_ne (tgt := 42) hx hb dX11_axis_33 (by decide) (fun c8 => ?_) (fun c8 => ?_)
      · refine lv_aload_n hx hb dX11_axis_42 rfl (lv_at hl 1 rfl) ?_
        refine lv_aload_n hx hb dX11_axis_43 rfl (lv_at hl 1 rfl) ?_
        refine th_get hx hb (ly_X11 hE) hown hK hP ha0.1 he5 rfl 0 (by decide) (wd_359 hE) (fun _ h9 => h9) rfl dX11_axis_44 ?_
        refine lv_aload_n hx hb dX11_axis_47 rfl (lv_at hl 1 rfl) ?_
        refine th_get hx hb (ly_X11 hE) hown hK hP ha0.1 he5 rfl 12 (by decide) (wd_371 hE) (fun _ h9 => h9) rfl dX11_axis_48 ?_
        refine lv_iload_n hx hb dX11_axis_51 rfl (lv_at hl 3 rfl) ?_
        refine lv_aload_n hx hb dX11_axis_52 rfl (lv_at hl 1 rfl) ?_
        refine th_get hx hb (ly_X11 hE) hown hK hP ha0.1 he5 rfl 12 (by decide) (wd_371 hE) (fun _ h9 => h9) rfl dX11_axis_53 ?_
        refine vp_callSi (va_Run.run (va_runV (As := []) (rest := [.int v2, .ref (gR G a0 12), .ref (gR G a0 0), .ref a0]) ⟨hx, hb, hml, hown, noTs⟩ (t_X10_size l dC dI H.size G cs tt mm (gR G a0 12) ((wt_X11_12 hWT ha0))) ⟨cbE 0 (wd_666 hE) (wd_120 hE) (wd_834 hE) rfl rfl (by decide +kernel) ⟨Nat.le_of_ble_eq_true rfl, Nat.le_of_ble_eq_true rfl⟩, (wd_664 hE), (wd_665 hE)⟩ ⟨PT.blind, th_recv hK hP (wt_X11_12 hWT ha0).1 he6 rfl, (th_pre (av := [.ref (gR G a0 12)]) hK hP hok hnd hWT hE)⟩ rfl rfl hl.1 rfl (lv_room (Nat.le_of_ble_eq_true rfl)) dX11_axis_56 ⟨Nat.le_of_ble_eq_true rfl, Nat.le_of_ble_eq_true rfl⟩)) (fun r9 hr9 => ?_)
        obtain ⟨hra9, hrb9⟩ := hr9
        refine vp_callSi (va_Run.run (va_runS (As := [.int v2, .int r9]) (rest := [.ref (gR G a0 12), .ref (gR G a0 0), .ref a0]) ⟨hx, hb, hml, hown, noTs⟩ (t_X11_rest l dC dI H.size G cs tt mm v2 r9) ⟨cbE 2 (wd_617 hE) (wd_115 hE) (wd_900 hE) rfl rfl (by decide +kernel) ⟨Nat.le_of_ble_eq_true rfl, Nat.le_of_ble_eq_true rfl⟩, (wd_616 hE)⟩ ⟨PT.blind, (th_pre (av := [.int v2, .int r9]) hK hP hok hnd hWT hE)⟩ rfl rfl hl.1 rfl (lv_room (Nat.le_of_ble_eq_true rfl)) dX11_axis_59 ⟨Nat.le_of_ble_eq_true rfl, Nat.le_of_ble_eq_true rfl⟩)) (fun r10 hr10 => ?_)
        refine vp_callSi (va_Run.run (va_runV (As := [.int r10]) (rest := [.ref (gR G a0 0), .ref a0]) ⟨hx, hb, hml, hown, noTs⟩ (t_X10_stepAt l dC dI H.size G cs tt mm (gR G a0 12) ((wt_X11_12 hWT ha0)) r10) ⟨cbE 1 (wd_721 hE) (wd_120 hE) (wd_894 hE) rfl rfl (by decide +kernel) ⟨Nat.le_of_ble_eq_true rfl, Nat.le_of_ble_eq_true rfl⟩, (wd_719 hE), (wd_720 hE)⟩ ⟨PT.blind, th_recv hK hP (wt_X11_12 hWT ha0).1 he6 rfl, (th_pre (av := [.ref (gR G a0 12), .int r10]) hK hP hok hnd hWT hE)⟩ rfl rfl hl.1 rfl (lv_room (Nat.le_of_ble_eq_true rfl)) dX11_axis_62 ⟨Nat.le_of_ble_eq_true rfl, Nat.le_of_ble_eq_true rfl⟩)) (fun r11 hr11 => ?_)
        have he12 := ok_X7 hok (wt_X11_0 hWT ha0)
        refine vp_callSi (va_Run.run (va_runV (As := [.int r11]) (rest := [.ref a0]) ⟨hx, hb, hml, hown, noTs⟩ (t_X7_fromVertex l dC dI H.size G cs tt mm (gR G a0 0) ((wt_X11_0 hWT ha0)) r11) ⟨cbE 1 (wd_677 hE) (wd_116 hE) (wd_1282 hE) rfl rfl (by decide +kernel) ⟨Nat.le_of_ble_eq_true rfl, Nat.le_of_ble_eq_true rfl⟩, (wd_675 hE), (wd_676 hE)⟩ ⟨PT.blind, th_recv hK hP (wt_X11_0 hWT ha0).1 he12 rfl, (th_pre (av := [.ref (gR G a0 0), .int r11]) hK hP hok hnd hWT hE)⟩ rfl rfl hl.1 rfl (lv_room (Nat.le_of_ble_eq_true rfl)) dX11_axis_65 ⟨Nat.le_of_ble_eq_true rfl, Nat.le_of_ble_eq_true rfl⟩)) (fun r13 hr13 => ?_)
        refine tc_i hAL hS hA (va_runV (As := [.int r13]) (rest := []) ⟨hx, hb, hml, hown, noTs⟩ (t_X11_answer l dC dI H.size G cs tt mm a0 ha0 r13) ⟨cbE 1 (wd_748 hE) (wd_115 hE) (wd_745 hE) rfl rfl (by decide +kernel) ⟨Nat.le_of_ble_eq_true rfl, Nat.le_of_ble_eq_true rfl⟩, (wd_747 hE), (wd_23 hE)⟩ ⟨PT.blind, th_recv hK hP ha0.1 he5 rfl, (th_pre (av := [.ref a0, .int r13]) hK hP hok hnd hWT hE)⟩ rfl rfl hl.1 rfl (lv_room (Nat.le_of_ble_eq_true rfl)) dX11_axis_68 ⟨Nat.le_of_ble_eq_true rfl, Nat.le_of_ble_eq_true rfl⟩) (fun r14 f14 H locs hr14 hok hP hS => ?_)
        exact W.iret (v := r14) hx hb hr (fun t ht hW => ⟨⟨r14, f14, rfl, trivial, hok, by rw [ht]; exact hP⟩, hS.F ht⟩) hS.2.2 dX11_axis_71
      · refine lv_aload_n hx hb dX11_axis_36 rfl (lv_at hl 1 rfl) ?_
        refine lv_iconst (v := 5) hx hb dX11_axis_37 (by decide) ?_
        refine tc_i hAL hS hA (va_runV (As := [.int 5]) (rest := []) ⟨hx, hb, hml, hown, noTs⟩ (t_X11_fail l dC dI H.size G cs tt mm a0 ha0 5) ⟨cbE 1 (wd_436 hE) (wd_115 hE) (wd_433 hE) rfl rfl (by decide +kernel) ⟨Nat.le_of_ble_eq_true rfl, Nat.le_of_ble_eq_true rfl⟩, (wd_435 hE), (wd_1 hE)⟩ ⟨PT.blind, th_recv hK hP ha0.1 he5 rfl, (th_pre (av := [.ref a0, .int 5]) hK hP hok hnd hWT hE)⟩ rfl rfl hl.1 rfl (lv_room (Nat.le_of_ble_eq_true rfl)) dX11_axis_38 ⟨Nat.le_of_ble_eq_true rfl, Nat.le_of_ble_eq_true rfl⟩) (fun r15 f15 H locs hr15 hok hP hS => ?_)
        exact W.iret (v := r15) hx hb hr (fun t ht hW => ⟨⟨r15, f15, rfl, trivial, hok, by rw [ht]; exact hP⟩, hS.F ht⟩) hS.2.2 dX11_axis_41
    · refine lv_aload_n hx hb dX11_axis_20 rfl (lv_at hl 1 rfl) ?_
      refine lv_iload_n hx hb dX11_axis_21 rfl (lv_at hl 0 rfl) ?_
      obtain ⟨y5_16, he16⟩ := ok_X11 hok ha0
      refine tc_i hAL hS hA (va_runV (As := [.int r3]) (rest := []) ⟨hx, hb, hml, hown, noTs⟩ (t_X11_fail l dC dI H.size G cs tt mm a0 ha0 r3) ⟨cbE 1 (wd_436 hE) (wd_115 hE) (wd_433 hE) rfl rfl (by decide +kernel) ⟨Nat.le_of_ble_eq_true rfl, Nat.le_of_ble_eq_true rfl⟩, (wd_435 hE), (wd_1 hE)⟩ ⟨PT.blind, th_recv hK hP ha0.1 he16 rfl, (th_pre (av := [.ref a0, .int r3]) hK hP hok hnd hWT hE)⟩ rfl rfl hl.1 rfl (lv_room (Nat.le_of_ble_eq_true rfl)) dX11_axis_22 ⟨Nat.le_of_ble_eq_true rfl, Nat.le_of_ble_eq_true rfl⟩) (fun r17 f17 H locs hr17 hok hP hS => ?_)
      exact W.iret (v := r17) hx hb hr (fun t ht hW => ⟨⟨r17, f17, rfl, trivial, hok, by rw [ht]; exact hP⟩, hS.F ht⟩) hS.2.2 dX11_axis_25
  · refine lv_aload_n hx hb dX11_axis_4 rfl (lv_at hl 0 rfl) ?_
    refine lv_iconst (v := 1) hx hb dX11_axis_5 (by decide) ?_
    obtain ⟨y5_18, he18⟩ := ok_X11 hok ha0
    refine tc_i hAL hS hA (va_runV (As := [.int 1]) (rest := []) ⟨hx, hb, hml, hown, noTs⟩ (t_X11_fail l dC dI s.heap.size G cs tt mm a0 ha0 1) ⟨cbE 1 (wd_436 hE) (wd_115 hE) (wd_433 hE) rfl rfl (by decide +kernel) ⟨Nat.le_of_ble_eq_true rfl, Nat.le_of_ble_eq_true rfl⟩, (wd_435 hE), (wd_1 hE)⟩ ⟨PT.blind, th_recv hK hP ha0.1 he18 rfl, (th_pre (av := [.ref a0, .int 1]) hK hP hok hnd hWT hE)⟩ rfl rfl hl.1 rfl (lv_room (Nat.le_of_ble_eq_true rfl)) dX11_axis_6 ⟨Nat.le_of_ble_eq_true rfl, Nat.le_of_ble_eq_true rfl⟩) (fun r19 f19 H locs hr19 hok hP hS => ?_)
    exact W.iret (v := r19) hx hb hr (fun t ht hW => ⟨⟨r19, f19, rfl, trivial, hok, by rw [ht]; exact hP⟩, hS.F ht⟩) hS.2.2 dX11_axis_9

set_option maxHeartbeats 4000000 in
set_option maxRecDepth 100000 in
theorem t_X11_near (l : Launch) (dC : Nat → ClassId) (dI : Nat → Nat → Nat) (sz : Nat) (G : GT) (cs : Nat → ClassId) (tt mm : Nat) (a0 : Nat) (ha0 : Ty G a0 11) (v1 : Int32) (v2 : Int32) : Met l yX11_near [.code yX11_near cX11_near 5 (some .int)] ({ frames := 6, cells := 0, slots := 0, locals := 240 }) (PT [.ref a0, .int v1, .int v2] sz dC dI G cs tt mm) (va_Qi (fun (r : Int32) (u : Nat → va_E) => True) (BT dC dI G cs tt mm) (AT G sz)) 0 0 (AT G sz) := by
  refine Met.ofW (cc := cX11_near) (maxL := 5) (ret := (some .int)) (by decide) rfl ?_
  intro p e s m args below meth c s₁ B hml hv
  obtain ⟨rfl, hsz, ⟨f0, hok, hP⟩, hK, hnd, hWT, hE⟩ := hv
  have hx := B.exec
  have hb := B.bytes
  have hr := B.returns
  have hown : s.vm.findClass RX11 = some m.cls := findClass_of_methodNamed B.named
  have hlocks := B.notSynchronized
  subst hsz
  have hAL : ∀ a, a ∈ gL G → AT G s.heap.size a := fun a h => Or.inl h
  have hA : ∀ q : Nat, s.heap.size ≤ q → AT G s.heap.size q := fun q h => Or.inr h
  have hS : va_S (AT G s.heap.size) s.heap s.heap [] := va_S.rf
  have hl := lv_entry ([.ref a0, .int v1, .int v2]) (n := 5) (Nat.le_of_ble_eq_true rfl)
  rw [lg_entry_eq]
  generalize (lg_sl ([.ref a0, .int v1, .int v2]) ++ List.replicate (5 - (lg_sl ([.ref a0, .int v1, .int v2])).length) Slot.unset).toArray = ls at hl ⊢
  have hl : lv_has ls 5 [(0, .ref a0), (1, .int v1), (2, .int v2)] := hl
  refine lv_iload_n hx hb dX11_near_0 rfl (lv_at hl 2 rfl) ?_
  refine lv_if_lt (tgt := 10) hx hb dX11_near_1 (by decide) (fun c1 => ?_) (fun c1 => ?_)
  · refine lv_aload_n hx hb dX11_near_10 rfl (lv_at hl 0 rfl) ?_
    refine lv_iconst (v := 1) hx hb dX11_near_11 (by decide) ?_
    obtain ⟨y5_2, he2⟩ := ok_X11 hok ha0
    refine tc_i hAL hS hA (va_runV (As := [.int 1]) (rest := []) ⟨hx, hb, hml, hown, noTs⟩ (t_X11_fail l dC dI s.heap.size G cs tt mm a0 ha0 1) ⟨cbE 1 (wd_436 hE) (wd_115 hE) (wd_433 hE) rfl rfl (by decide +kernel) ⟨Nat.le_of_ble_eq_true rfl, Nat.le_of_ble_eq_true rfl⟩, (wd_435 hE), (wd_1 hE)⟩ ⟨PT.blind, th_recv hK hP ha0.1 he2 rfl, (th_pre (av := [.ref a0, .int 1]) hK hP hok hnd hWT hE)⟩ rfl rfl hl.1 rfl (lv_room (Nat.le_of_ble_eq_true rfl)) dX11_near_12 ⟨Nat.le_of_ble_eq_true rfl, Nat.le_of_ble_eq_true rfl⟩) (fun r3 f3 H locs hr3 hok hP hS => ?_)
    exact W.iret (v := r3) hx hb hr (fun t ht hW => ⟨⟨r3, f3, rfl, trivial, hok, by rw [ht]; exact hP⟩, hS.F ht⟩) hS.2.2 dX11_near_15
  · refine lv_iload_n hx hb dX11_near_4 rfl (lv_at hl 2 rfl) ?_
    refine lv_bipush (v := 99) hx hb dX11_near_5 (by decide) ?_
    refine lv_icmp_le (tgt := 16) hx hb dX11_near_7 (by decide) (fun c4 => ?_) (fun c4 => ?_)
    · refine lv_aload_n hx hb dX11_near_16 rfl (lv_at hl 0 rfl) ?_
      obtain ⟨y5_5, he5⟩ := ok_X11 hok ha0
      refine th_get hx hb (ly_X11 hE) hown hK hP ha0.1 he5 rfl 0 (by decide) (wd_359 hE) (fun _ h9 => h9) rfl dX11_near_17 ?_
      refine lv_iload_n hx hb dX11_near_20 rfl (lv_at hl 1 rfl) ?_
      have he6 := ok_X7 hok (wt_X11_0 hWT ha0)
      refine vp_callSi (va_Run.run (va_runV (As := [.int v1]) (rest := []) ⟨hx, hb, hml, hown, noTs⟩ (t_X7_hasWord l dC dI s.heap.size G cs tt mm (gR G a0 0) ((wt_X11_0 hWT ha0)) v1) ⟨cbE 1 (wd_708 hE) (wd_116 hE) (wd_1034 hE) rfl rfl (by decide +kernel) ⟨Nat.le_of_ble_eq_true rfl, Nat.le_of_ble_eq_true rfl⟩, (wd_706 hE), (wd_707 hE)⟩ ⟨PT.blind, th_recv hK hP (wt_X11_0 hWT ha0).1 he6 rfl, (th_pre (av := [.ref (gR G a0 0), .int v1]) hK hP hok hnd hWT hE)⟩ rfl rfl hl.1 rfl (lv_room (Nat.le_of_ble_eq_true rfl)) dX11_near_21 ⟨Nat.le_of_ble_eq_true rfl, Nat.le_of_ble_eq_true rfl⟩)) (fun r7 hr7 => ?_)
      refine lv_if_ne (tgt := 33) hx hb dX11_near_24 (by decide) (fun c8 => ?_) (fun c8 => ?_)
      · refine lv_iconst (v := 0) hx hb dX11_near_33 (by decide) ?_
        refine lv_istore_n (lv' := [(3, .int 0), (0, .ref a0), (1, .int v1), (2, .int v2)]) hx hb dX11_near_34 rfl hl (by decide) rfl (fun ls hl => ?_)
        refine lv_iconst (v := 0) hx hb dX11_near_35 (by decide) ?_
        refine lv_istore (lv' := [(4, .int 0), (3, .int 0), (0, .ref a0), (1, .int v1), (2, .int v2)]) hx hb dX11_near_36 hl (by decide) rfl (fun ls hl => ?_)
        refine w_ind (I := fun n f H locs ls => OKT G cs tt mm f ∧ va_P (dC, dI) vwCl (va_pl (gL G) f) H ∧ va_S (AT G s.heap.size) s.heap H locs ∧ ∃ (w3_9 : Int32) (w4_9 : Int32), n = (2147483647 - w4_9.toInt).toNat ∧ 0 ≤ w4_9 ∧ lv_has ls 5 [(0, .ref a0), (1, .int v1), (2, .int v2), (3, .int w3_9), (4, .int w4_9)]) (fun n f9 H locs ls hI ih9 => ?_) _ f0 _ _ _ ⟨hok, hP, hS, 0, 0, rfl, (by first | omega | (simp only [i_lt, i_le, i_eq, ti_m9, ti_m1, ti_0, ti_1, ti_2, ti_3, ti_4, ti_5, ti_6, ti_7, ti_9, ti_12, ti_20, ti_99, ti_700, ti_24, ti_72, ti_8, ti_128, ti_97, ti_122, ti_48, ti_57, ti_59, ti_60, ti_61, ti_62, ti_10, ti_33, ti_51, ti_32, ti_119] at c1 c4 c8 ⊢; omega)), lv_sub hl [2, 3, 4, 1, 0] rfl⟩
        obtain ⟨hok, hP, hS, w3_9, w4_9, hmu9, hlo9, hl⟩ := hI
        subst hmu9
        refine lv_iload hx hb dX11_near_38 (lv_at hl 4 rfl) ?_
        refine lv_aload_n hx hb dX11_near_40 rfl (lv_at hl 0 rfl) ?_
        obtain ⟨y5_10, he10⟩ := ok_X11 hok ha0
        refine th_get hx hb (ly_X11 hE) hown hK hP ha0.1 he10 rfl 0 (by decide) (wd_359 hE) (fun _ h9 => h9) rfl dX11_near_41 ?_
        have he11 := ok_X7 hok (wt_X11_0 hWT ha0)
        refine vp_callSi (va_Run.run (va_runV (As := []) (rest := [.int w4_9]) ⟨hx, hb, hml, hown, noTs⟩ (t_X7_words l dC dI H.size G cs tt mm (gR G a0 0) ((wt_X11_0 hWT ha0))) ⟨cbE 0 (wd_700 hE) (wd_116 hE) (wd_744 hE) rfl rfl (by decide +kernel) ⟨Nat.le_of_ble_eq_true rfl, Nat.le_of_ble_eq_true rfl⟩, (wd_698 hE), (wd_699 hE)⟩ ⟨PT.blind, th_recv hK hP (wt_X11_0 hWT ha0).1 he11 rfl, (th_pre (av := [.ref (gR G a0 0)]) hK hP hok hnd hWT hE)⟩ rfl rfl hl.1 rfl (lv_room (Nat.le_of_ble_eq_true rfl)) dX11_near_44 ⟨Nat.le_of_ble_eq_true rfl, Nat.le_of_ble_eq_true rfl⟩)) (fun r12 hr12 => ?_)
        refine lv_icmp_ge (tgt := 84) hx hb dX11_near_47 (by decide) (fun c13 => ?_) (fun c13 => ?_)
        · refine lv_aload_n hx hb dX11_near_84 rfl (lv_at hl 0 rfl) ?_
          refine lv_iload_n hx hb dX11_near_85 rfl (lv_at hl 3 rfl) ?_
          refine tc_i hAL hS hA (va_runV (As := [.int w3_9]) (rest := []) ⟨hx, hb, hml, hown, noTs⟩ (t_X11_answer l dC dI H.size G cs tt mm a0 ha0 w3_9) ⟨cbE 1 (wd_748 hE) (wd_115 hE) (wd_745 hE) rfl rfl (by decide +kernel) ⟨Nat.le_of_ble_eq_true rfl, Nat.le_of_ble_eq_true rfl⟩, (wd_747 hE), (wd_23 hE)⟩ ⟨PT.blind, th_recv hK hP ha0.1 he10 rfl, (th_pre (av := [.ref a0, .int w3_9]) hK hP hok hnd hWT hE)⟩ rfl rfl hl.1 rfl (lv_room (Nat.le_of_ble_eq_true rfl)) dX11_near_86 ⟨Nat.le_of_ble_eq_true rfl, Nat.le_of_ble_eq_true rfl⟩) (fun r14 f14 H locs hr14 hok hP hS => ?_)
          exact W.iret (v := r14) hx hb hr (fun t ht hW => ⟨⟨r14, f14, rfl, trivial, hok, by rw [ht]; exact hP⟩, hS.F ht⟩) hS.2.2 dX11_near_89
        · refine lv_aload_n hx hb dX11_near_50 rfl (lv_at hl 0 rfl) ?_
          refine lv_iload_n hx hb dX11_near_51 rfl (lv_at hl 1 rfl) ?_
          refine lv_iload hx hb dX11_near_52 (lv_at hl 4 rfl) ?_
          refine tc_i hAL hS hA (va_runV (As := [.int v1, .int w4_9]) (rest := []) ⟨hx, hb, hml, hown, noTs⟩ (t_X11_readWay l dC dI H.size G cs tt mm a0 ha0 v1 w4_9) ⟨cbE 2 (wd_1254 hE) (wd_115 hE) (wd_1251 hE) rfl rfl (by decide +kernel) ⟨Nat.le_of_ble_eq_true rfl, Nat.le_of_ble_eq_true rfl⟩, (wd_1253 hE), (wd_48 hE)⟩ ⟨PT.blind, th_recv hK hP ha0.1 he10 rfl, (th_pre (av := [.ref a0, .int v1, .int w4_9]) hK hP hok hnd hWT hE)⟩ rfl rfl hl.1 rfl (lv_room (Nat.le_of_ble_eq_true rfl)) dX11_near_54 ⟨Nat.le_of_ble_eq_true rfl, Nat.le_of_ble_eq_true rfl⟩) (fun r15 f15 H locs hr15 hok hP hS => ?_)
          refine lv_if_ne (tgt := 78) hx hb dX11_near_57 (by decide) (fun c16 => ?_) (fun c16 => ?_)
          · obtain ⟨z17, ez17⟩ : ∃ z : Int32, z = w4_9 + 1 := ⟨_, rfl⟩
            refine lv_iinc (v := z17) (lv' := [(4, .int z17), (0, .ref a0), (1, .int v1), (2, .int v2), (3, .int w3_9)]) hx hb dX11_near_78 hl (k := 4) rfl (by rw [ez17]; rfl) (by decide) rfl (fun ls hl => ?_)
            have ic17 : z17.toInt = w4_9.toInt + 1 := by rw [ez17]; exact ic_up (by have := i_rng v2; have := i_rng r7; have := i_rng w4_9; have := i_rng r12; have := i_rng r15; simp only [i_lt, i_le, i_eq, ti_m9, ti_m1, ti_0, ti_1, ti_2, ti_3, ti_4, ti_5, ti_6, ti_7, ti_9, ti_12, ti_20, ti_99, ti_700, ti_24, ti_72, ti_8, ti_128, ti_97, ti_122, ti_48, ti_57, ti_59, ti_60, ti_61, ti_62, ti_10, ti_33, ti_51, ti_32, ti_119] at c1 c4 c8 hlo9 c13 c16 ⊢; omega)
            refine lv_goto (tgt := 38) hx hb dX11_near_81 (by decide) ?_
            exact ih9 _ f15 _ _ _ (by first | omega | (simp only [i_lt, i_le, i_eq, ti_m9, ti_m1, ti_0, ti_1, ti_2, ti_3, ti_4, ti_5, ti_6, ti_7, ti_9, ti_12, ti_20, ti_99, ti_700, ti_24, ti_72, ti_8, ti_128, ti_97, ti_122, ti_48, ti_57, ti_59, ti_60, ti_61, ti_62, ti_10, ti_33, ti_51, ti_32, ti_119, ic17] at c1 c4 c8 hlo9 c13 c16 ic17 ⊢; omega)) ⟨hok, hP, hS, w3_9, z17, rfl, (by first | omega | (simp only [i_lt, i_le, i_eq, ti_m9, ti_m1, ti_0, ti_1, ti_2, ti_3, ti_4, ti_5, ti_6, ti_7, ti_9, ti_12, ti_20, ti_99, ti_700, ti_24, ti_72, ti_8, ti_128, ti_97, ti_122, ti_48, ti_57, ti_59, ti_60, ti_61, ti_62, ti_10, ti_33, ti_51, ti_32, ti_119, ic17] at c1 c4 c8 hlo9 c13 c16 ⊢; omega)), lv_sub hl [1, 2, 3, 4, 0] rfl⟩
          · refine lv_aload_n hx hb dX11_near_60 rfl (lv_at hl 0 rfl) ?_
            obtain ⟨y5_18, he18⟩ := ok_X11 hok ha0
            refine th_get hx hb (ly_X11 hE) hown hK hP ha0.1 he18 rfl 12 (by decide) (wd_371 hE) (fun _ h9 => h9) rfl dX11_near_61 ?_
            obtain ⟨y2_19, y3_19, hy3_19, he19⟩ := ok_X10 hok (wt_X11_12 hWT ha0)
            refine vp_callSi (va_Run.run (va_runV (As := []) (rest := []) ⟨hx, hb, hml, hown, noTs⟩ (t_X10_size l dC dI H.size G cs tt mm (gR G a0 12) ((wt_X11_12 hWT ha0))) ⟨cbE 0 (wd_666 hE) (wd_120 hE) (wd_834 hE) rfl rfl (by decide +kernel) ⟨Nat.le_of_ble_eq_true rfl, Nat.le_of_ble_eq_true rfl⟩, (wd_664 hE), (wd_665 hE)⟩ ⟨PT.blind, th_recv hK hP (wt_X11_12 hWT ha0).1 he19 rfl, (th_pre (av := [.ref (gR G a0 12)]) hK hP hok hnd hWT hE)⟩ rfl rfl hl.1 rfl (lv_room (Nat.le_of_ble_eq_true rfl)) dX11_near_64 ⟨Nat.le_of_ble_eq_true rfl, Nat.le_of_ble_eq_true rfl⟩)) (fun r20 hr20 => ?_)
            obtain ⟨hra20, hrb20⟩ := hr20
            refine lv_iload_n hx hb dX11_near_67 rfl (lv_at hl 2 rfl) ?_
            refine lv_icmp_gt (tgt := 78) hx hb dX11_near_68 (by decide) (fun c21 => ?_) (fun c21 => ?_)
            · obtain ⟨z22, ez22⟩ : ∃ z : Int32, z = w4_9 + 1 := ⟨_, rfl⟩
              refine lv_iinc (v := z22) (lv' := [(4, .int z22), (0, .ref a0), (1, .int v1), (2, .int v2), (3, .int w3_9)]) hx hb dX11_near_78 hl (k := 4) rfl (by rw [ez22]; rfl) (by decide) rfl (fun ls hl => ?_)
              have ic22 : z22.toInt = w4_9.toInt + 1 := by rw [ez22]; exact ic_up (by have := i_rng v2; have := i_rng r7; have := i_rng w4_9; have := i_rng r12; have := i_rng r15; have := i_rng r20; simp only [i_lt, i_le, i_eq, ti_m9, ti_m1, ti_0, ti_1, ti_2, ti_3, ti_4, ti_5, ti_6, ti_7, ti_9, ti_12, ti_20, ti_99, ti_700, ti_24, ti_72, ti_8, ti_128, ti_97, ti_122, ti_48, ti_57, ti_59, ti_60, ti_61, ti_62, ti_10, ti_33, ti_51, ti_32, ti_119] at c1 c4 c8 hlo9 c13 c16 hra20 hrb20 c21 ⊢; omega)
              refine lv_goto (tgt := 38) hx hb dX11_near_81 (by decide) ?_
              exact ih9 _ f15 _ _ _ (by first | omega | (simp only [i_lt, i_le, i_eq, ti_m9, ti_m1, ti_0, ti_1, ti_2, ti_3, ti_4, ti_5, ti_6, ti_7, ti_9, ti_12, ti_20, ti_99, ti_700, ti_24, ti_72, ti_8, ti_128, ti_97, ti_122, ti_48, ti_57, ti_59, ti_60, ti_61, ti_62, ti_10, ti_33, ti_51, ti_32, ti_119, ic22] at c1 c4 c8 hlo9 c13 c16 hra20 hrb20 c21 ic22 ⊢; omega)) ⟨hok, hP, hS, w3_9, z22, rfl, (by first | omega | (simp only [i_lt, i_le, i_eq, ti_m9, ti_m1, ti_0, ti_1, ti_2, ti_3, ti_4, ti_5, ti_6, ti_7, ti_9, ti_12, ti_20, ti_99, ti_700, ti_24, ti_72, ti_8, ti_128, ti_97, ti_122, ti_48, ti_57, ti_59, ti_60, ti_61, ti_62, ti_10, ti_33, ti_51, ti_32, ti_119, ic22] at c1 c4 c8 hlo9 c13 c16 hra20 hrb20 c21 ⊢; omega)), lv_sub hl [1, 2, 3, 4, 0] rfl⟩
            · refine lv_iload_n hx hb dX11_near_71 rfl (lv_at hl 3 rfl) ?_
              refine lv_iconst (v := 1) hx hb dX11_near_72 (by decide) ?_
              refine lv_iload hx hb dX11_near_73 (lv_at hl 4 rfl) ?_
              refine lv_ishl hx hb dX11_near_75 ?_
              refine lv_topi (fun x23 _ => ?_)
              refine lv_ior hx hb dX11_near_76 ?_
              refine lv_topi (fun x24 _ => ?_)
              refine lv_istore_n (lv' := [(3, .int x24), (0, .ref a0), (1, .int v1), (2, .int v2), (4, .int w4_9)]) hx hb dX11_near_77 rfl hl (by decide) rfl (fun ls hl => ?_)
              obtain ⟨z25, ez25⟩ : ∃ z : Int32, z = w4_9 + 1 := ⟨_, rfl⟩
              refine lv_iinc (v := z25) (lv' := [(4, .int z25), (3, .int x24), (0, .ref a0), (1, .int v1), (2, .int v2)]) hx hb dX11_near_78 hl (k := 4) rfl (by rw [ez25]; rfl) (by decide) rfl (fun ls hl => ?_)
              have ic25 : z25.toInt = w4_9.toInt + 1 := by rw [ez25]; exact ic_up (by have := i_rng v2; have := i_rng r7; have := i_rng w4_9; have := i_rng r12; have := i_rng r15; have := i_rng r20; simp only [i_lt, i_le, i_eq, ti_m9, ti_m1, ti_0, ti_1, ti_2, ti_3, ti_4, ti_5, ti_6, ti_7, ti_9, ti_12, ti_20, ti_99, ti_700, ti_24, ti_72, ti_8, ti_128, ti_97, ti_122, ti_48, ti_57, ti_59, ti_60, ti_61, ti_62, ti_10, ti_33, ti_51, ti_32, ti_119] at c1 c4 c8 hlo9 c13 c16 hra20 hrb20 c21 ⊢; omega)
              refine lv_goto (tgt := 38) hx hb dX11_near_81 (by decide) ?_
              exact ih9 _ f15 _ _ _ (by first | omega | (simp only [i_lt, i_le, i_eq, ti_m9, ti_m1, ti_0, ti_1, ti_2, ti_3, ti_4, ti_5, ti_6, ti_7, ti_9, ti_12, ti_20, ti_99, ti_700, ti_24, ti_72, ti_8, ti_128, ti_97, ti_122, ti_48, ti_57, ti_59, ti_60, ti_61, ti_62, ti_10, ti_33, ti_51, ti_32, ti_119, ic25] at c1 c4 c8 hlo9 c13 c16 hra20 hrb20 c21 ic25 ⊢; omega)) ⟨hok, hP, hS, x24, z25, rfl, (by first | omega | (simp only [i_lt, i_le, i_eq, ti_m9, ti_m1, ti_0, ti_1, ti_2, ti_3, ti_4, ti_5, ti_6, ti_7, ti_9, ti_12, ti_20, ti_99, ti_700, ti_24, ti_72, ti_8, ti_128, ti_97, ti_122, ti_48, ti_57, ti_59, ti_60, ti_61, ti_62, ti_10, ti_33, ti_51, ti_32, ti_119, ic25] at c1 c4 c8 hlo9 c13 c16 hra20 hrb20 c21 ⊢; omega)), lv_sub hl [2, 3, 4, 1, 0] rfl⟩
      · refine lv_aload_n hx hb dX11_near_27 rfl (lv_at hl 0 rfl) ?_
        refine lv_iconst (v := 2) hx hb dX11_near_28 (by decide) ?_
        refine tc_i hAL hS hA (va_runV (As := [.int 2]) (rest := []) ⟨hx, hb, hml, hown, noTs⟩ (t_X11_fail l dC dI s.heap.size G cs tt mm a0 ha0 2) ⟨cbE 1 (wd_436 hE) (wd_115 hE) (wd_433 hE) rfl rfl (by decide +kernel) ⟨Nat.le_of_ble_eq_true rfl, Nat.le_of_ble_eq_true rfl⟩, (wd_435 hE), (wd_1 hE)⟩ ⟨PT.blind, th_recv hK hP ha0.1 he5 rfl, (th_pre (av := [.ref a0, .int 2]) hK hP hok hnd hWT hE)⟩ rfl rfl hl.1 rfl (lv_room (Nat.le_of_ble_eq_true rfl)) dX11_near_29 ⟨Nat.le_of_ble_eq_true rfl, Nat.le_of_ble_eq_true rfl⟩) (fun r26 f26 H locs hr26 hok hP hS => ?_)
        exact W.iret (v := r26) hx hb hr (fun t ht hW => ⟨⟨r26, f26, rfl, trivial, hok, by rw [ht]; exact hP⟩, hS.F ht⟩) hS.2.2 dX11_near_32
    · refine lv_aload_n hx hb dX11_near_10 rfl (lv_at hl 0 rfl) ?_
      refine lv_iconst (v := 1) hx hb dX11_near_11 (by decide) ?_
      obtain ⟨y5_27, he27⟩ := ok_X11 hok ha0
      refine tc_i hAL hS hA (va_runV (As := [.int 1]) (rest := []) ⟨hx, hb, hml, hown, noTs⟩ (t_X11_fail l dC dI s.heap.size G cs tt mm a0 ha0 1) ⟨cbE 1 (wd_436 hE) (wd_115 hE) (wd_433 hE) rfl rfl (by decide +kernel) ⟨Nat.le_of_ble_eq_true rfl, Nat.le_of_ble_eq_true rfl⟩, (wd_435 hE), (wd_1 hE)⟩ ⟨PT.blind, th_recv hK hP ha0.1 he27 rfl, (th_pre (av := [.ref a0, .int 1]) hK hP hok hnd hWT hE)⟩ rfl rfl hl.1 rfl (lv_room (Nat.le_of_ble_eq_true rfl)) dX11_near_12 ⟨Nat.le_of_ble_eq_true rfl, Nat.le_of_ble_eq_true rfl⟩) (fun r28 f28 H locs hr28 hok hP hS => ?_)
      exact W.iret (v := r28) hx hb hr (fun t ht hW => ⟨⟨r28, f28, rfl, trivial, hok, by rw [ht]; exact hP⟩, hS.F ht⟩) hS.2.2 dX11_near_15

set_option maxHeartbeats 4000000 in
set_option maxRecDepth 100000 in
theorem t_X11_meet (l : Launch) (dC : Nat → ClassId) (dI : Nat → Nat → Nat) (sz : Nat) (G : GT) (cs : Nat → ClassId) (tt mm : Nat) (a0 : Nat) (ha0 : Ty G a0 11) (v1 : Int32) : Met l yX11_meet [.code yX11_meet cX11_meet 4 (some .int)] ({ frames := 2, cells := 0, slots := 0, locals := 80 }) (PT [.ref a0, .int v1] sz dC dI G cs tt mm) (va_Qi (fun (r : Int32) (u : Nat → va_E) => True) (BT dC dI G cs tt mm) (AT G sz)) 0 0 (AT G sz) := by
  refine Met.ofW (cc := cX11_meet) (maxL := 4) (ret := (some .int)) (by decide) rfl ?_
  intro p e s m args below meth c s₁ B hml hv
  obtain ⟨rfl, hsz, ⟨f0, hok, hP⟩, hK, hnd, hWT, hE⟩ := hv
  have hx := B.exec
  have hb := B.bytes
  have hr := B.returns
  have hown : s.vm.findClass RX11 = some m.cls := findClass_of_methodNamed B.named
  have hlocks := B.notSynchronized
  subst hsz
  have hAL : ∀ a, a ∈ gL G → AT G s.heap.size a := fun a h => Or.inl h
  have hA : ∀ q : Nat, s.heap.size ≤ q → AT G s.heap.size q := fun q h => Or.inr h
  have hS : va_S (AT G s.heap.size) s.heap s.heap [] := va_S.rf
  have hl := lv_entry ([.ref a0, .int v1]) (n := 4) (Nat.le_of_ble_eq_true rfl)
  rw [lg_entry_eq]
  generalize (lg_sl ([.ref a0, .int v1]) ++ List.replicate (4 - (lg_sl ([.ref a0, .int v1])).length) Slot.unset).toArray = ls at hl ⊢
  have hl : lv_has ls 4 [(0, .ref a0), (1, .int v1)] := hl
  refine lv_aload_n hx hb dX11_meet_0 rfl (lv_at hl 0 rfl) ?_
  obtain ⟨y5_1, he1⟩ := ok_X11 hok ha0
  refine th_get hx hb (ly_X11 hE) hown hK hP ha0.1 he1 rfl 0 (by decide) (wd_359 hE) (fun _ h9 => h9) rfl dX11_meet_1 ?_
  refine lv_iload_n hx hb dX11_meet_4 rfl (lv_at hl 1 rfl) ?_
  have he2 := ok_X7 hok (wt_X11_0 hWT ha0)
  refine vp_callSi (va_Run.run (va_runV (As := [.int v1]) (rest := []) ⟨hx, hb, hml, hown, noTs⟩ (t_X7_hasVertex l dC dI s.heap.size G cs tt mm (gR G a0 0) ((wt_X11_0 hWT ha0)) v1) ⟨cbE 1 (wd_606 hE) (wd_116 hE) (wd_796 hE) rfl rfl (by decide +kernel) ⟨Nat.le_of_ble_eq_true rfl, Nat.le_of_ble_eq_true rfl⟩, (wd_604 hE), (wd_605 hE)⟩ ⟨PT.blind, th_recv hK hP (wt_X11_0 hWT ha0).1 he2 rfl, (th_pre (av := [.ref (gR G a0 0), .int v1]) hK hP hok hnd hWT hE)⟩ rfl rfl hl.1 rfl (lv_room (Nat.le_of_ble_eq_true rfl)) dX11_meet_5 ⟨Nat.le_of_ble_eq_true rfl, Nat.le_of_ble_eq_true rfl⟩)) (fun r3 hr3 => ?_)
  refine lv_if_ne (tgt := 17) hx hb dX11_meet_8 (by decide) (fun c4 => ?_) (fun c4 => ?_)
  · refine lv_iconst (v := 0) hx hb dX11_meet_17 (by decide) ?_
    refine lv_istore_n (lv' := [(2, .int 0), (0, .ref a0), (1, .int v1)]) hx hb dX11_meet_18 rfl hl (by decide) rfl (fun ls hl => ?_)
    refine lv_iconst (v := 0) hx hb dX11_meet_19 (by decide) ?_
    refine lv_istore_n (lv' := [(3, .int 0), (2, .int 0), (0, .ref a0), (1, .int v1)]) hx hb dX11_meet_20 rfl hl (by decide) rfl (fun ls hl => ?_)
    refine w_ind (I := fun n f H locs ls => OKT G cs tt mm f ∧ va_P (dC, dI) vwCl (va_pl (gL G) f) H ∧ va_S (AT G s.heap.size) s.heap H locs ∧ ∃ (w2_5 : Int32) (w3_5 : Int32), n = (2147483647 - w3_5.toInt).toNat ∧ 0 ≤ w3_5 ∧ lv_has ls 4 [(0, .ref a0), (1, .int v1), (2, .int w2_5), (3, .int w3_5)]) (fun n f5 H locs ls hI ih5 => ?_) _ f0 _ _ _ ⟨hok, hP, hS, 0, 0, rfl, (by first | omega | (simp only [i_lt, i_le, i_eq, ti_m9, ti_m1, ti_0, ti_1, ti_2, ti_3, ti_4, ti_5, ti_6, ti_7, ti_9, ti_12, ti_20, ti_99, ti_700, ti_24, ti_72, ti_8, ti_128, ti_97, ti_122, ti_48, ti_57, ti_59, ti_60, ti_61, ti_62, ti_10, ti_33, ti_51, ti_32, ti_119] at c4 ⊢; omega)), lv_sub hl [2, 3, 1, 0] rfl⟩
    obtain ⟨hok, hP, hS, w2_5, w3_5, hmu5, hlo5, hl⟩ := hI
    subst hmu5
    refine lv_iload_n hx hb dX11_meet_21 rfl (lv_at hl 3 rfl) ?_
    refine lv_aload_n hx hb dX11_meet_22 rfl (lv_at hl 0 rfl) ?_
    obtain ⟨y5_6, he6⟩ := ok_X11 hok ha0
    refine th_get hx hb (ly_X11 hE) hown hK hP ha0.1 he6 rfl 0 (by decide) (wd_359 hE) (fun _ h9 => h9) rfl dX11_meet_23 ?_
    have he7 := ok_X7 hok (wt_X11_0 hWT ha0)
    refine vp_callSi (va_Run.run (va_runV (As := []) (rest := [.int w3_5]) ⟨hx, hb, hml, hown, noTs⟩ (t_X7_stepKinds l dC dI H.size G cs tt mm (gR G a0 0) ((wt_X11_0 hWT ha0))) ⟨cbE 0 (wd_783 hE) (wd_116 hE) (wd_1311 hE) rfl rfl (by decide +kernel) ⟨Nat.le_of_ble_eq_true rfl, Nat.le_of_ble_eq_true rfl⟩, (wd_781 hE), (wd_782 hE)⟩ ⟨PT.blind, th_recv hK hP (wt_X11_0 hWT ha0).1 he7 rfl, (th_pre (av := [.ref (gR G a0 0)]) hK hP hok hnd hWT hE)⟩ rfl rfl hl.1 rfl (lv_room (Nat.le_of_ble_eq_true rfl)) dX11_meet_26 ⟨Nat.le_of_ble_eq_true rfl, Nat.le_of_ble_eq_true rfl⟩)) (fun r8 hr8 => ?_)
    refine lv_icmp_ge (tgt := 65) hx hb dX11_meet_29 (by decide) (fun c9 => ?_) (fun c9 => ?_)
    · refine lv_aload_n hx hb dX11_meet_65 rfl (lv_at hl 0 rfl) ?_
      refine lv_iload_n hx hb dX11_meet_66 rfl (lv_at hl 2 rfl) ?_
      refine tc_i hAL hS hA (va_runV (As := [.int w2_5]) (rest := []) ⟨hx, hb, hml, hown, noTs⟩ (t_X11_answer l dC dI H.size G cs tt mm a0 ha0 w2_5) ⟨cbE 1 (wd_748 hE) (wd_115 hE) (wd_745 hE) rfl rfl (by decide +kernel) ⟨Nat.le_of_ble_eq_true rfl, Nat.le_of_ble_eq_true rfl⟩, (wd_747 hE), (wd_23 hE)⟩ ⟨PT.blind, th_recv hK hP ha0.1 he6 rfl, (th_pre (av := [.ref a0, .int w2_5]) hK hP hok hnd hWT hE)⟩ rfl rfl hl.1 rfl (lv_room (Nat.le_of_ble_eq_true rfl)) dX11_meet_67 ⟨Nat.le_of_ble_eq_true rfl, Nat.le_of_ble_eq_true rfl⟩) (fun r10 f10 H locs hr10 hok hP hS => ?_)
      exact W.iret (v := r10) hx hb hr (fun t ht hW => ⟨⟨r10, f10, rfl, trivial, hok, by rw [ht]; exact hP⟩, hS.F ht⟩) hS.2.2 dX11_meet_70
    · refine lv_iload_n hx hb dX11_meet_32 rfl (lv_at hl 2 rfl) ?_
      refine lv_aload_n hx hb dX11_meet_33 rfl (lv_at hl 0 rfl) ?_
      refine th_get hx hb (ly_X11 hE) hown hK hP ha0.1 he6 rfl 0 (by decide) (wd_359 hE) (fun _ h9 => h9) rfl dX11_meet_34 ?_
      refine lv_iload_n hx hb dX11_meet_37 rfl (lv_at hl 3 rfl) ?_
      refine vp_callSi (va_Run.run (va_runV (As := [.int w3_5]) (rest := [.int w2_5]) ⟨hx, hb, hml, hown, noTs⟩ (t_X7_fromVertex l dC dI H.size G cs tt mm (gR G a0 0) ((wt_X11_0 hWT ha0)) w3_5) ⟨cbE 1 (wd_677 hE) (wd_116 hE) (wd_1282 hE) rfl rfl (by decide +kernel) ⟨Nat.le_of_ble_eq_true rfl, Nat.le_of_ble_eq_true rfl⟩, (wd_675 hE), (wd_676 hE)⟩ ⟨PT.blind, th_recv hK hP (wt_X11_0 hWT ha0).1 he7 rfl, (th_pre (av := [.ref (gR G a0 0), .int w3_5]) hK hP hok hnd hWT hE)⟩ rfl rfl hl.1 rfl (lv_room (Nat.le_of_ble_eq_true rfl)) dX11_meet_38 ⟨Nat.le_of_ble_eq_true rfl, Nat.le_of_ble_eq_true rfl⟩)) (fun r11 hr11 => ?_)
      refine lv_iload_n hx hb dX11_meet_41 rfl (lv_at hl 1 rfl) ?_
      refine lv_icmp_ne (tgt := 56) hx hb dX11_meet_42 (by decide) (fun c12 => ?_) (fun c12 => ?_)
      · refine lv_iconst (v := 0) hx hb dX11_meet_56 (by decide) ?_
        refine lv_iadd hx hb dX11_meet_57 ?_
        refine lv_topi (fun x13 _ => ?_)
        refine lv_istore_n (lv' := [(2, .int x13), (0, .ref a0), (1, .int v1), (3, .int w3_5)]) hx hb dX11_meet_58 rfl hl (by decide) rfl (fun ls hl => ?_)
        obtain ⟨z14, ez14⟩ : ∃ z : Int32, z = w3_5 + 1 := ⟨_, rfl⟩
        refine lv_iinc (v := z14) (lv' := [(3, .int z14), (2, .int x13), (0, .ref a0), (1, .int v1)]) hx hb dX11_meet_59 hl (k := 3) rfl (by rw [ez14]; rfl) (by decide) rfl (fun ls hl => ?_)
        have ic14 : z14.toInt = w3_5.toInt + 1 := by rw [ez14]; exact ic_up (by have := i_rng r3; have := i_rng w3_5; have := i_rng r8; have := i_rng r11; have := i_rng v1; simp only [i_lt, i_le, i_eq, ti_m9, ti_m1, ti_0, ti_1, ti_2, ti_3, ti_4, ti_5, ti_6, ti_7, ti_9, ti_12, ti_20, ti_99, ti_700, ti_24, ti_72, ti_8, ti_128, ti_97, ti_122, ti_48, ti_57, ti_59, ti_60, ti_61, ti_62, ti_10, ti_33, ti_51, ti_32, ti_119] at c4 hlo5 c9 c12 ⊢; omega)
        refine lv_goto (tgt := 21) hx hb dX11_meet_62 (by decide) ?_
        exact ih5 _ f5 _ _ _ (by first | omega | (simp only [i_lt, i_le, i_eq, ti_m9, ti_m1, ti_0, ti_1, ti_2, ti_3, ti_4, ti_5, ti_6, ti_7, ti_9, ti_12, ti_20, ti_99, ti_700, ti_24, ti_72, ti_8, ti_128, ti_97, ti_122, ti_48, ti_57, ti_59, ti_60, ti_61, ti_62, ti_10, ti_33, ti_51, ti_32, ti_119, ic14] at c4 hlo5 c9 c12 ic14 ⊢; omega)) ⟨hok, hP, hS, x13, z14, rfl, (by first | omega | (simp only [i_lt, i_le, i_eq, ti_m9, ti_m1, ti_0, ti_1, ti_2, ti_3, ti_4, ti_5, ti_6, ti_7, ti_9, ti_12, ti_20, ti_99, ti_700, ti_24, ti_72, ti_8, ti_128, ti_97, ti_122, ti_48, ti_57, ti_59, ti_60, ti_61, ti_62, ti_10, ti_33, ti_51, ti_32, ti_119, ic14] at c4 hlo5 c9 c12 ⊢; omega)), lv_sub hl [2, 3, 1, 0] rfl⟩
      · refine lv_aload_n hx hb dX11_meet_45 rfl (lv_at hl 0 rfl) ?_
        refine th_get hx hb (ly_X11 hE) hown hK hP ha0.1 he6 rfl 0 (by decide) (wd_359 hE) (fun _ h9 => h9) rfl dX11_meet_46 ?_
        refine lv_iload_n hx hb dX11_meet_49 rfl (lv_at hl 3 rfl) ?_
        refine vp_callSi (va_Run.run (va_runV (As := [.int w3_5]) (rest := [.int w2_5]) ⟨hx, hb, hml, hown, noTs⟩ (t_X7_fromIndex l dC dI H.size G cs tt mm (gR G a0 0) ((wt_X11_0 hWT ha0)) w3_5) ⟨cbE 1 (wd_855 hE) (wd_116 hE) (wd_1312 hE) rfl rfl (by decide +kernel) ⟨Nat.le_of_ble_eq_true rfl, Nat.le_of_ble_eq_true rfl⟩, (wd_853 hE), (wd_854 hE)⟩ ⟨PT.blind, th_recv hK hP (wt_X11_0 hWT ha0).1 he7 rfl, (th_pre (av := [.ref (gR G a0 0), .int w3_5]) hK hP hok hnd hWT hE)⟩ rfl rfl hl.1 rfl (lv_room (Nat.le_of_ble_eq_true rfl)) dX11_meet_50 ⟨Nat.le_of_ble_eq_true rfl, Nat.le_of_ble_eq_true rfl⟩)) (fun r15 hr15 => ?_)
        refine lv_goto (tgt := 57) hx hb dX11_meet_53 (by decide) ?_
        refine lv_iadd hx hb dX11_meet_57 ?_
        refine lv_topi (fun x16 _ => ?_)
        refine lv_istore_n (lv' := [(2, .int x16), (0, .ref a0), (1, .int v1), (3, .int w3_5)]) hx hb dX11_meet_58 rfl hl (by decide) rfl (fun ls hl => ?_)
        obtain ⟨z17, ez17⟩ : ∃ z : Int32, z = w3_5 + 1 := ⟨_, rfl⟩
        refine lv_iinc (v := z17) (lv' := [(3, .int z17), (2, .int x16), (0, .ref a0), (1, .int v1)]) hx hb dX11_meet_59 hl (k := 3) rfl (by rw [ez17]; rfl) (by decide) rfl (fun ls hl => ?_)
        have ic17 : z17.toInt = w3_5.toInt + 1 := by rw [ez17]; exact ic_up (by have := i_rng r3; have := i_rng w3_5; have := i_rng r8; have := i_rng r11; have := i_rng v1; simp only [i_lt, i_le, i_eq, ti_m9, ti_m1, ti_0, ti_1, ti_2, ti_3, ti_4, ti_5, ti_6, ti_7, ti_9, ti_12, ti_20, ti_99, ti_700, ti_24, ti_72, ti_8, ti_128, ti_97, ti_122, ti_48, ti_57, ti_59, ti_60, ti_61, ti_62, ti_10, ti_33, ti_51, ti_32, ti_119] at c4 hlo5 c9 c12 ⊢; omega)
        refine lv_goto (tgt := 21) hx hb dX11_meet_62 (by decide) ?_
        exact ih5 _ f5 _ _ _ (by first | omega | (simp only [i_lt, i_le, i_eq, ti_m9, ti_m1, ti_0, ti_1, ti_2, ti_3, ti_4, ti_5, ti_6, ti_7, ti_9, ti_12, ti_20, ti_99, ti_700, ti_24, ti_72, ti_8, ti_128, ti_97, ti_122, ti_48, ti_57, ti_59, ti_60, ti_61, ti_62, ti_10, ti_33, ti_51, ti_32, ti_119, ic17] at c4 hlo5 c9 c12 ic17 ⊢; omega)) ⟨hok, hP, hS, x16, z17, rfl, (by first | omega | (simp only [i_lt, i_le, i_eq, ti_m9, ti_m1, ti_0, ti_1, ti_2, ti_3, ti_4, ti_5, ti_6, ti_7, ti_9, ti_12, ti_20, ti_99, ti_700, ti_24, ti_72, ti_8, ti_128, ti_97, ti_122, ti_48, ti_57, ti_59, ti_60, ti_61, ti_62, ti_10, ti_33, ti_51, ti_32, ti_119, ic17] at c4 hlo5 c9 c12 ⊢; omega)), lv_sub hl [2, 3, 1, 0] rfl⟩
  · refine lv_aload_n hx hb dX11_meet_11 rfl (lv_at hl 0 rfl) ?_
    refine lv_iconst (v := 2) hx hb dX11_meet_12 (by decide) ?_
    refine tc_i hAL hS hA (va_runV (As := [.int 2]) (rest := []) ⟨hx, hb, hml, hown, noTs⟩ (t_X11_fail l dC dI s.heap.size G cs tt mm a0 ha0 2) ⟨cbE 1 (wd_436 hE) (wd_115 hE) (wd_433 hE) rfl rfl (by decide +kernel) ⟨Nat.le_of_ble_eq_true rfl, Nat.le_of_ble_eq_true rfl⟩, (wd_435 hE), (wd_1 hE)⟩ ⟨PT.blind, th_recv hK hP ha0.1 he1 rfl, (th_pre (av := [.ref a0, .int 2]) hK hP hok hnd hWT hE)⟩ rfl rfl hl.1 rfl (lv_room (Nat.le_of_ble_eq_true rfl)) dX11_meet_13 ⟨Nat.le_of_ble_eq_true rfl, Nat.le_of_ble_eq_true rfl⟩) (fun r18 f18 H locs hr18 hok hP hS => ?_)
    exact W.iret (v := r18) hx hb hr (fun t ht hW => ⟨⟨r18, f18, rfl, trivial, hok, by rw [ht]; exact hP⟩, hS.F ht⟩) hS.2.2 dX11_meet_16

set_option maxHeartbeats 4000000 in
set_option maxRecDepth 100000 in
theorem t_X11_out (l : Launch) (dC : Nat → ClassId) (dI : Nat → Nat → Nat) (sz : Nat) (G : GT) (cs : Nat → ClassId) (tt mm : Nat) (a0 : Nat) (ha0 : Ty G a0 11) (v1 : Int32) : Met l yX11_out [.code yX11_out cX11_out 2 (some .int)] ({ frames := 1, cells := 0, slots := 0, locals := 40 }) (PT [.ref a0, .int v1] sz dC dI G cs tt mm) (va_Qi (fun (r : Int32) (u : Nat → va_E) => True) (BT dC dI G cs tt mm) (AT G sz)) 0 0 (AT G sz) := by
  refine Met.ofW (cc := cX11_out) (maxL := 2) (ret := (some .int)) (by decide) rfl ?_
  intro p e s m args below meth c s₁ B hml hv
  obtain ⟨rfl, hsz, ⟨f0, hok, hP⟩, hK, hnd, hWT, hE⟩ := hv
  have hx := B.exec
  have hb := B.bytes
  have hr := B.returns
  have hown : s.vm.findClass RX11 = some m.cls := findClass_of_methodNamed B.named
  have hlocks := B.notSynchronized
  subst hsz
  have hAL : ∀ a, a ∈ gL G → AT G s.heap.size a := fun a h => Or.inl h
  have hA : ∀ q : Nat, s.heap.size ≤ q → AT G s.heap.size q := fun q h => Or.inr h
  have hS : va_S (AT G s.heap.size) s.heap s.heap [] := va_S.rf
  have hl := lv_entry ([.ref a0, .int v1]) (n := 2) (Nat.le_of_ble_eq_true rfl)
  rw [lg_entry_eq]
  generalize (lg_sl ([.ref a0, .int v1]) ++ List.replicate (2 - (lg_sl ([.ref a0, .int v1])).length) Slot.unset).toArray = ls at hl ⊢
  have hl : lv_has ls 2 [(0, .ref a0), (1, .int v1)] := hl
  refine lv_iload_n hx hb dX11_out_0 rfl (lv_at hl 1 rfl) ?_
  refine lv_if_ge (tgt := 10) hx hb dX11_out_1 (by decide) (fun c1 => ?_) (fun c1 => ?_)
  · refine lv_iload_n hx hb dX11_out_10 rfl (lv_at hl 1 rfl) ?_
    refine lv_aload_n hx hb dX11_out_11 rfl (lv_at hl 0 rfl) ?_
    obtain ⟨y5_2, he2⟩ := ok_X11 hok ha0
    refine th_get hx hb (ly_X11 hE) hown hK hP ha0.1 he2 rfl 9 (by decide) (wd_368 hE) (fun _ h9 => h9) rfl dX11_out_12 ?_
    obtain ⟨y1_3, he3⟩ := ok_X8 hok (wt_X11_9 hWT ha0)
    refine vp_callSi (va_Run.run (va_runV (As := []) (rest := [.int v1]) ⟨hx, hb, hml, hown, noTs⟩ (t_X8_size l dC dI s.heap.size G cs tt mm (gR G a0 9) ((wt_X11_9 hWT ha0))) ⟨cbE 0 (wd_1343 hE) (wd_121 hE) (wd_1340 hE) rfl rfl (by decide +kernel) ⟨Nat.le_of_ble_eq_true rfl, Nat.le_of_ble_eq_true rfl⟩, (wd_1341 hE), (wd_1342 hE)⟩ ⟨PT.blind, th_recv hK hP (wt_X11_9 hWT ha0).1 he3 rfl, (th_pre (av := [.ref (gR G a0 9)]) hK hP hok hnd hWT hE)⟩ rfl rfl hl.1 rfl (lv_room (Nat.le_of_ble_eq_true rfl)) dX11_out_15 ⟨Nat.le_of_ble_eq_true rfl, Nat.le_of_ble_eq_true rfl⟩)) (fun r4 hr4 => ?_)
    refine lv_icmp_lt (tgt := 29) hx hb dX11_out_18 (by decide) (fun c5 => ?_) (fun c5 => ?_)
    · refine lv_aload_n hx hb dX11_out_29 rfl (lv_at hl 0 rfl) ?_
      refine lv_aload_n hx hb dX11_out_30 rfl (lv_at hl 0 rfl) ?_
      refine th_get hx hb (ly_X11 hE) hown hK hP ha0.1 he2 rfl 9 (by decide) (wd_368 hE) (fun _ h9 => h9) rfl dX11_out_31 ?_
      refine lv_iload_n hx hb dX11_out_34 rfl (lv_at hl 1 rfl) ?_
      refine vp_callSi (va_Run.run (va_runV (As := [.int v1]) (rest := [.ref a0]) ⟨hx, hb, hml, hown, noTs⟩ (t_X8_byteAt l dC dI s.heap.size G cs tt mm (gR G a0 9) ((wt_X11_9 hWT ha0)) v1) ⟨cbE 1 (wd_1347 hE) (wd_121 hE) (wd_1344 hE) rfl rfl (by decide +kernel) ⟨Nat.le_of_ble_eq_true rfl, Nat.le_of_ble_eq_true rfl⟩, (wd_1345 hE), (wd_1346 hE)⟩ ⟨PT.blind, th_recv hK hP (wt_X11_9 hWT ha0).1 he3 rfl, (th_pre (av := [.ref (gR G a0 9), .int v1]) hK hP hok hnd hWT hE)⟩ rfl rfl hl.1 rfl (lv_room (Nat.le_of_ble_eq_true rfl)) dX11_out_35 ⟨Nat.le_of_ble_eq_true rfl, Nat.le_of_ble_eq_true rfl⟩)) (fun r6 hr6 => ?_)
      refine tc_i hAL hS hA (va_runV (As := [.int r6]) (rest := []) ⟨hx, hb, hml, hown, noTs⟩ (t_X11_answer l dC dI s.heap.size G cs tt mm a0 ha0 r6) ⟨cbE 1 (wd_748 hE) (wd_115 hE) (wd_745 hE) rfl rfl (by decide +kernel) ⟨Nat.le_of_ble_eq_true rfl, Nat.le_of_ble_eq_true rfl⟩, (wd_747 hE), (wd_23 hE)⟩ ⟨PT.blind, th_recv hK hP ha0.1 he2 rfl, (th_pre (av := [.ref a0, .int r6]) hK hP hok hnd hWT hE)⟩ rfl rfl hl.1 rfl (lv_room (Nat.le_of_ble_eq_true rfl)) dX11_out_38 ⟨Nat.le_of_ble_eq_true rfl, Nat.le_of_ble_eq_true rfl⟩) (fun r7 f7 H locs hr7 hok hP hS => ?_)
      exact W.iret (v := r7) hx hb hr (fun t ht hW => ⟨⟨r7, f7, rfl, trivial, hok, by rw [ht]; exact hP⟩, hS.F ht⟩) hS.2.2 dX11_out_41
    · refine lv_aload_n hx hb dX11_out_21 rfl (lv_at hl 0 rfl) ?_
      refine lv_iconst (v := 5) hx hb dX11_out_22 (by decide) ?_
      refine tc_i hAL hS hA (va_runV (As := [.int 5]) (rest := []) ⟨hx, hb, hml, hown, noTs⟩ (t_X11_fail l dC dI s.heap.size G cs tt mm a0 ha0 5) ⟨cbE 1 (wd_436 hE) (wd_115 hE) (wd_433 hE) rfl rfl (by decide +kernel) ⟨Nat.le_of_ble_eq_true rfl, Nat.le_of_ble_eq_true rfl⟩, (wd_435 hE), (wd_1 hE)⟩ ⟨PT.blind, th_recv hK hP ha0.1 he2 rfl, (th_pre (av := [.ref a0, .int 5]) hK hP hok hnd hWT hE)⟩ rfl rfl hl.1 rfl (lv_room (Nat.le_of_ble_eq_true rfl)) dX11_out_23 ⟨Nat.le_of_ble_eq_true rfl, Nat.le_of_ble_eq_true rfl⟩) (fun r8 f8 H locs hr8 hok hP hS => ?_)
      refine lv_goto (tgt := 41) hx hb dX11_out_26 (by decide) ?_
      exact W.iret (v := r8) hx hb hr (fun t ht hW => ⟨⟨r8, f8, rfl, trivial, hok, by rw [ht]; exact hP⟩, hS.F ht⟩) hS.2.2 dX11_out_41
  · refine lv_aload_n hx hb dX11_out_4 rfl (lv_at hl 0 rfl) ?_
    refine lv_iconst (v := 1) hx hb dX11_out_5 (by decide) ?_
    obtain ⟨y5_9, he9⟩ := ok_X11 hok ha0
    refine tc_i hAL hS hA (va_runV (As := [.int 1]) (rest := []) ⟨hx, hb, hml, hown, noTs⟩ (t_X11_fail l dC dI s.heap.size G cs tt mm a0 ha0 1) ⟨cbE 1 (wd_436 hE) (wd_115 hE) (wd_433 hE) rfl rfl (by decide +kernel) ⟨Nat.le_of_ble_eq_true rfl, Nat.le_of_ble_eq_true rfl⟩, (wd_435 hE), (wd_1 hE)⟩ ⟨PT.blind, th_recv hK hP ha0.1 he9 rfl, (th_pre (av := [.ref a0, .int 1]) hK hP hok hnd hWT hE)⟩ rfl rfl hl.1 rfl (lv_room (Nat.le_of_ble_eq_true rfl)) dX11_out_6 ⟨Nat.le_of_ble_eq_true rfl, Nat.le_of_ble_eq_true rfl⟩) (fun r10 f10 H locs hr10 hok hP hS => ?_)
    exact W.iret (v := r10) hx hb hr (fun t ht hW => ⟨⟨r10, f10, rfl, trivial, hok, by rw [ht]; exact hP⟩, hS.F ht⟩) hS.2.2 dX11_out_9
