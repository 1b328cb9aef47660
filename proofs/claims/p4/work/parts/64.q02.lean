set_option maxHeartbeats 4000000 in
set_option maxRecDepth 100000 in
theorem q_X10_lastNumber (l : Launch) (dC : Nat → ClassId) (dI : Nat → Nat → Nat) (sz : Nat) (cs : Nat → ClassId) (b : Nat → Nat) (u : RS) (cw : Nat) (hF23 : rF u 23 = nI cw) (hp0 : cw ≤ 72) : Met l yX10_lastNumber [.code yX10_lastNumber cX10_lastNumber 1 (some .int)] ({ frames := 0, cells := 0, slots := 0, locals := 0 }) (PQ [.ref (b 8)] sz dC dI cs b u) (vp_Si (fun (r : Int32) => True)) 0 0 (fun _ => False) := by
  refine Met.ofW (cc := cX10_lastNumber) (maxL := 1) (ret := (some .int)) (by decide) rfl ?_
  intro p e s m args below meth c s₁ B hml hv
  obtain ⟨rfl, hsz, hP, hK, hJ, hE⟩ := hv
  have hx := B.exec
  have hb := B.bytes
  have hr := B.returns
  have hown : s.vm.findClass RX10 = some m.cls := findClass_of_methodNamed B.named
  have hlocks := B.notSynchronized
  subst hsz
  have hl := lv_entry ([.ref (b 8)]) (n := 1) (Nat.le_of_ble_eq_true rfl)
  rw [lg_entry_eq]
  generalize (lg_sl ([.ref (b 8)]) ++ List.replicate (1 - (lg_sl ([.ref (b 8)])).length) Slot.unset).toArray = ls at hl ⊢
  have hl : lv_has ls 1 [(0, .ref (b 8))] := hl
  refine lv_aload_n hx hb dX10_lastNumber_0 rfl (lv_at hl 0 rfl) ?_
  refine q_get (v := .int (nI cw)) hx hb 8 (by decide) rfl (ly_X10 hE) hown hK hP rfl 3 (by decide) (wd_217 hE) (fun _ h9 => h9) (congrArg (fun z : Int32 => some (Value.int z)) hF23) dX10_lastNumber_1 ?_
  refine lv_if_lt (tgt := 19) hx hb dX10_lastNumber_4 (by decide) (fun c2 => False.elim (by have c2 := (b_lt (nI_toInt (n := cw) (by omega)) (show Int32.toInt 0 = 0 from rfl)).mp c2; omega)) (fun c2 => ?_)
  have c2 := mt (b_lt (nI_toInt (n := cw) (by omega)) (show Int32.toInt 0 = 0 from rfl)).mpr c2
  refine lv_aload_n hx hb dX10_lastNumber_7 rfl (lv_at hl 0 rfl) ?_
  refine q_get (v := .int (nI cw)) hx hb 8 (by decide) rfl (ly_X10 hE) hown hK hP rfl 3 (by decide) (wd_217 hE) (fun _ h9 => h9) (congrArg (fun z : Int32 => some (Value.int z)) hF23) dX10_lastNumber_8 ?_
  refine lv_aload_n hx hb dX10_lastNumber_11 rfl (lv_at hl 0 rfl) ?_
  refine q_get (v := .ref (b 9)) hx hb 8 (by decide) rfl (ly_X10 hE) hown hK hP rfl 0 (by decide) (wd_214 hE) (fun _ h9 => h9) rfl dX10_lastNumber_12 ?_
  refine q_alen (j := 9) (t0 := 0) (v := 73) hx hb hK hP (by decide) rfl rfl rfl dX10_lastNumber_15 ?_
  refine lv_icmp_lt (tgt := 23) hx hb dX10_lastNumber_16 (by decide) (fun c3 => ?_) (fun c3 => False.elim (by have c3 := mt (b_lt (nI_toInt (n := cw) (by omega)) (show Int32.toInt 73 = 73 from rfl)).mpr c3; omega))
  have c3 := (b_lt (nI_toInt (n := cw) (by omega)) (show Int32.toInt 73 = 73 from rfl)).mp c3
  refine lv_aload_n hx hb dX10_lastNumber_23 rfl (lv_at hl 0 rfl) ?_
  refine q_get (v := .ref (b 9)) hx hb 8 (by decide) rfl (ly_X10 hE) hown hK hP rfl 0 (by decide) (wd_214 hE) (fun _ h9 => h9) rfl dX10_lastNumber_24 ?_
  refine lv_aload_n hx hb dX10_lastNumber_27 rfl (lv_at hl 0 rfl) ?_
  refine q_get (v := .int (nI cw)) hx hb 8 (by decide) rfl (ly_X10 hE) hown hK hP rfl 3 (by decide) (wd_217 hE) (fun _ h9 => h9) (congrArg (fun z : Int32 => some (Value.int z)) hF23) dX10_lastNumber_28 ?_
  obtain ⟨y4, hy4⟩ : ∃ z : Int32, rA u 9 cw = z := ⟨_, rfl⟩
  refine q_iald (j := 9) (k := cw) (n := 73) (x := y4) hx hb hK hP (by decide) rfl (by omega) (by decide) hy4 dX10_lastNumber_31 ?_
  exact W.iret (v := y4) hx hb hr (fun t ht hW => ⟨y4, rfl, trivial, ht⟩) (fun _ h => absurd h List.not_mem_nil) dX10_lastNumber_32
set_option maxHeartbeats 4000000 in
set_option maxRecDepth 100000 in
theorem q_X10_putNumber (l : Launch) (dC : Nat → ClassId) (dI : Nat → Nat → Nat) (sz : Nat) (cs : Nat → ClassId) (b : Nat → Nat) (u : RS) (k : Nat) (x : Int32) (cw : Nat) (hF23 : rF u 23 = nI cw) (hp0 : cw ≤ 72) (hp1 : k = cw) : Met l yX10_putNumber [.code yX10_putNumber cX10_putNumber 3 none] ({ frames := 0, cells := 0, slots := 0, locals := 0 }) (PQ [.ref (b 8), .int (nI k), .int x] sz dC dI cs b u) (va_Qv (fun (u' : RS) => FR [9] [] false u u') (BQ dC dI cs b) (AQ b sz)) 0 0 (AQ b sz) := by
  refine Met.ofW (cc := cX10_putNumber) (maxL := 3) (ret := none) (by decide) rfl ?_
  intro p e s m args below meth c s₁ B hml hv
  obtain ⟨rfl, hsz, hP, hK, hJ, hE⟩ := hv
  have hx := B.exec
  have hb := B.bytes
  have hr := B.returns
  have hown : s.vm.findClass RX10 = some m.cls := findClass_of_methodNamed B.named
  have hlocks := B.notSynchronized
  subst hsz
  have hAL : ∀ i, i < 12 → AQ b s.heap.size (b i) := fun i h => Or.inl ⟨i, h, rfl⟩
  have hA : ∀ q : Nat, s.heap.size ≤ q → AQ b s.heap.size q := fun q h => Or.inr h
  have hS : va_S (AQ b s.heap.size) s.heap s.heap [] := va_S.rf
  have hfr : FR [9] [] false u u := FR.refl
  have hl := lv_entry ([.ref (b 8), .int (nI k), .int x]) (n := 3) (Nat.le_of_ble_eq_true rfl)
  rw [lg_entry_eq]
  generalize (lg_sl ([.ref (b 8), .int (nI k), .int x]) ++ List.replicate (3 - (lg_sl ([.ref (b 8), .int (nI k), .int x])).length) Slot.unset).toArray = ls at hl ⊢
  have hl : lv_has ls 3 [(0, .ref (b 8)), (1, .int (nI k)), (2, .int x)] := hl
  refine lv_iload_n hx hb dX10_putNumber_0 rfl (lv_at hl 1 rfl) ?_
  refine lv_if_lt (tgt := 28) hx hb dX10_putNumber_1 (by decide) (fun c3 => False.elim (by have c3 := (b_lt (nI_toInt (n := k) (by omega)) (show Int32.toInt 0 = 0 from rfl)).mp c3; omega)) (fun c3 => ?_)
  have c3 := mt (b_lt (nI_toInt (n := k) (by omega)) (show Int32.toInt 0 = 0 from rfl)).mpr c3
  refine lv_iload_n hx hb dX10_putNumber_4 rfl (lv_at hl 1 rfl) ?_
  refine lv_aload_n hx hb dX10_putNumber_5 rfl (lv_at hl 0 rfl) ?_
  refine q_get (v := .int (nI cw)) hx hb 8 (by decide) rfl (ly_X10 hE) hown hK hP rfl 3 (by decide) (wd_217 hE) (fun _ h9 => h9) (congrArg (fun z : Int32 => some (Value.int z)) hF23) dX10_putNumber_6 ?_
  refine lv_icmp_gt (tgt := 28) hx hb dX10_putNumber_9 (by decide) (fun c4 => False.elim (by have c4 := (b_lt (nI_toInt (n := cw) (by omega)) (nI_toInt (n := k) (by omega))).mp c4; omega)) (fun c4 => ?_)
  have c4 := mt (b_lt (nI_toInt (n := cw) (by omega)) (nI_toInt (n := k) (by omega))).mpr c4
  refine lv_iload_n hx hb dX10_putNumber_12 rfl (lv_at hl 1 rfl) ?_
  refine lv_aload_n hx hb dX10_putNumber_13 rfl (lv_at hl 0 rfl) ?_
  refine q_get (v := .ref (b 9)) hx hb 8 (by decide) rfl (ly_X10 hE) hown hK hP rfl 0 (by decide) (wd_214 hE) (fun _ h9 => h9) rfl dX10_putNumber_14 ?_
  refine q_alen (j := 9) (t0 := 0) (v := 73) hx hb hK hP (by decide) rfl rfl rfl dX10_putNumber_17 ?_
  refine lv_icmp_ge (tgt := 28) hx hb dX10_putNumber_18 (by decide) (fun c5 => False.elim (by have c5 := (b_le (show Int32.toInt 73 = 73 from rfl) (nI_toInt (n := k) (by omega))).mp c5; omega)) (fun c5 => ?_)
  have c5 := mt (b_le (show Int32.toInt 73 = 73 from rfl) (nI_toInt (n := k) (by omega))).mpr c5
  refine lv_aload_n hx hb dX10_putNumber_21 rfl (lv_at hl 0 rfl) ?_
  refine q_get (v := .ref (b 9)) hx hb 8 (by decide) rfl (ly_X10 hE) hown hK hP rfl 0 (by decide) (wd_214 hE) (fun _ h9 => h9) rfl dX10_putNumber_22 ?_
  refine lv_iload_n hx hb dX10_putNumber_25 rfl (lv_at hl 1 rfl) ?_
  refine lv_iload_n hx hb dX10_putNumber_26 rfl (lv_at hl 2 rfl) ?_
  obtain ⟨g7, hg7⟩ : ∃ g, rA u 9 = g := ⟨_, rfl⟩
  refine q_iast (j := 9) (k := k) (n := 73) (x := x) hx hb hK hP hJ hAL hS (by decide) (fun _ => rfl) hg7 (by omega) (by decide) dX10_putNumber_27 (fun u6 H locs hs6 hq6 hP hS => ?_)
  obtain ⟨w6, hw6⟩ : ∃ g, g = upd g7 k x := ⟨_, rfl⟩
  rw [← hw6] at hs6
  have hF8x := (hq6.2.1 23 List.not_mem_nil).trans hF23
  have hfr := FR.step hfr hq6 (by decide) (fun _ h => absurd h List.not_mem_nil) (fun h => rfl)
  exact W.vret hx hb hr (fun t ht hW => ⟨⟨u6, rfl, hfr, (show va_P (dC, dI) vwCl (qW cs b u6) t.heap by rw [ht]; exact hP)⟩, hS.F ht⟩) hS.2.2 dX10_putNumber_28
set_option maxHeartbeats 4000000 in
set_option maxRecDepth 100000 in
theorem q_X11_rest (l : Launch) (dC : Nat → ClassId) (dI : Nat → Nat → Nat) (sz : Nat) (cs : Nat → ClassId) (b : Nat → Nat) (u : RS) (x : Nat) (y : Nat) (hp0 : 1 ≤ y) (hp1 : x < 100000) (hp2 : y < 100000) : Met l yX11_rest [.code yX11_rest cX11_rest 3 (some .int)] ({ frames := 0, cells := 0, slots := 0, locals := 0 }) (PQ [.int (nI x), .int (nI y)] sz dC dI cs b u) (vp_Si (fun (r : Int32) => r = nI (x % y))) 0 0 (fun _ => False) := by
  refine Met.ofW (cc := cX11_rest) (maxL := 3) (ret := (some .int)) (by decide) rfl ?_
  intro p e s m args below meth c s₁ B hml hv
  obtain ⟨rfl, hsz, hP, hK, hJ, hE⟩ := hv
  have hx := B.exec
  have hb := B.bytes
  have hr := B.returns
  have hown : s.vm.findClass RX11 = some m.cls := findClass_of_methodNamed B.named
  have hlocks := B.notSynchronized
  subst hsz
  have hl := lv_entry ([.int (nI x), .int (nI y)]) (n := 3) (Nat.le_of_ble_eq_true rfl)
  rw [lg_entry_eq]
  generalize (lg_sl ([.int (nI x), .int (nI y)]) ++ List.replicate (3 - (lg_sl ([.int (nI x), .int (nI y)])).length) Slot.unset).toArray = ls at hl ⊢
  have hl : lv_has ls 3 [(0, .int (nI x)), (1, .int (nI y))] := hl
  refine lv_iload_n hx hb dX11_rest_0 rfl (lv_at hl 1 rfl) ?_
  refine lv_iconst (v := 1) hx hb dX11_rest_1 (by decide) ?_
  refine lv_icmp_ge (tgt := 7) hx hb dX11_rest_2 (by decide) (fun c4 => ?_) (fun c4 => False.elim (by have c4 := mt (b_le (show Int32.toInt 1 = 1 from rfl) (nI_toInt (n := y) (by omega))).mpr c4; omega))
  have c4 := (b_le (show Int32.toInt 1 = 1 from rfl) (nI_toInt (n := y) (by omega))).mp c4
  refine lv_iload_n hx hb dX11_rest_7 rfl (lv_at hl 0 rfl) ?_
  refine lv_iload_n hx hb dX11_rest_8 rfl (lv_at hl 1 rfl) ?_
  refine lv_irem hx hb dX11_rest_9 (nI_ne0 (n := y) (by omega) (by omega)) ?_
  refine W.eq (g2 := F0 m 10 ls [.int (nI (x % y))]) (congrArg (fun z : Int32 => F0 m 10 ls (.int z :: [])) (pk_rem (a := x) (d := y) (by omega) (by omega) (by omega))) ?_
  have hmd5 := Nat.mod_lt x (show 0 < y by omega)
  refine lv_istore_n (lv' := [(2, .int (nI (x % y))), (0, .int (nI x)), (1, .int (nI y))]) hx hb dX11_rest_10 rfl hl (by decide) rfl (fun ls hl => ?_)
  refine lv_iload_n hx hb dX11_rest_11 rfl (lv_at hl 0 rfl) ?_
  refine lv_if_ge (tgt := 21) hx hb dX11_rest_12 (by decide) (fun c6 => ?_) (fun c6 => False.elim (by have c6 := mt (b_le (show Int32.toInt 0 = 0 from rfl) (nI_toInt (n := x % y) (by omega))).mpr c6; omega))
  have c6 := (b_le (show Int32.toInt 0 = 0 from rfl) (nI_toInt (n := x % y) (by omega))).mp c6
  refine lv_iload_n hx hb dX11_rest_21 rfl (lv_at hl 0 rfl) ?_
  exact W.iret (v := nI (x % y)) hx hb hr (fun t ht hW => ⟨nI (x % y), rfl, (by first | rfl | omega | (congr 1; omega) | assumption), ht⟩) (fun _ h => absurd h List.not_mem_nil) dX11_rest_22
set_option maxHeartbeats 4000000 in
set_option maxRecDepth 100000 in
theorem q_X11_rest_a (l : Launch) (dC : Nat → ClassId) (dI : Nat → Nat → Nat) (sz : Nat) (cs : Nat → ClassId) (b : Nat → Nat) (u : RS) (x : Int32) (y : Int32) : Met l yX11_rest [.code yX11_rest cX11_rest 3 (some .int)] ({ frames := 0, cells := 0, slots := 0, locals := 0 }) (PQ [.int x, .int y] sz dC dI cs b u) (vp_Si (fun (r : Int32) => True)) 0 0 (fun _ => False) := by
  refine Met.ofW (cc := cX11_rest) (maxL := 3) (ret := (some .int)) (by decide) rfl ?_
  intro p e s m args below meth c s₁ B hml hv
  obtain ⟨rfl, hsz, hP, hK, hJ, hE⟩ := hv
  have hx := B.exec
  have hb := B.bytes
  have hr := B.returns
  have hown : s.vm.findClass RX11 = some m.cls := findClass_of_methodNamed B.named
  have hlocks := B.notSynchronized
  subst hsz
  have hl := lv_entry ([.int x, .int y]) (n := 3) (Nat.le_of_ble_eq_true rfl)
  rw [lg_entry_eq]
  generalize (lg_sl ([.int x, .int y]) ++ List.replicate (3 - (lg_sl ([.int x, .int y])).length) Slot.unset).toArray = ls at hl ⊢
  have hl : lv_has ls 3 [(0, .int x), (1, .int y)] := hl
  refine lv_iload_n hx hb dX11_rest_0 rfl (lv_at hl 1 rfl) ?_
  refine lv_iconst (v := 1) hx hb dX11_rest_1 (by decide) ?_
  refine lv_icmp_ge (tgt := 7) hx hb dX11_rest_2 (by decide) (fun c1 => ?_) (fun c1 => ?_)
  · have c1 := (b_le (show Int32.toInt 1 = 1 from rfl) (rfl : Int32.toInt y = _)).mp c1
    refine lv_iload_n hx hb dX11_rest_7 rfl (lv_at hl 0 rfl) ?_
    refine lv_iload_n hx hb dX11_rest_8 rfl (lv_at hl 1 rfl) ?_
    refine lv_irem hx hb dX11_rest_9 (by intro h0; have h1 := congrArg Int32.toInt h0; have h2 : Int32.toInt 0 = 0 := rfl; omega) ?_
    refine lv_topi (fun x2 ex2 => ?_)
    refine lv_istore_n (lv' := [(2, .int x2), (0, .int x), (1, .int y)]) hx hb dX11_rest_10 rfl hl (by decide) rfl (fun ls hl => ?_)
    refine lv_iload_n hx hb dX11_rest_11 rfl (lv_at hl 0 rfl) ?_
    refine lv_if_ge (tgt := 21) hx hb dX11_rest_12 (by decide) (fun c3 => ?_) (fun c3 => ?_)
    · have c3 := (b_le (show Int32.toInt 0 = 0 from rfl) (rfl : Int32.toInt x2 = _)).mp c3
      refine lv_iload_n hx hb dX11_rest_21 rfl (lv_at hl 0 rfl) ?_
      exact W.iret (v := x2) hx hb hr (fun t ht hW => ⟨x2, rfl, trivial, ht⟩) (fun _ h => absurd h List.not_mem_nil) dX11_rest_22
    · have c3 := mt (b_le (show Int32.toInt 0 = 0 from rfl) (rfl : Int32.toInt x2 = _)).mpr c3
      refine lv_iload_n hx hb dX11_rest_15 rfl (lv_at hl 0 rfl) ?_
      refine lv_iload_n hx hb dX11_rest_16 rfl (lv_at hl 2 rfl) ?_
      refine lv_iadd hx hb dX11_rest_17 ?_
      refine lv_topi (fun x4 ex4 => ?_)
      refine lv_goto (tgt := 22) hx hb dX11_rest_18 (by decide) ?_
      exact W.iret (v := x4) hx hb hr (fun t ht hW => ⟨x4, rfl, trivial, ht⟩) (fun _ h => absurd h List.not_mem_nil) dX11_rest_22
  · have c1 := mt (b_le (show Int32.toInt 1 = 1 from rfl) (rfl : Int32.toInt y = _)).mpr c1
    refine lv_iconst (v := 0) hx hb dX11_rest_5 (by decide) ?_
    exact W.iret (v := 0) hx hb hr (fun t ht hW => ⟨0, rfl, trivial, ht⟩) (fun _ h => absurd h List.not_mem_nil) dX11_rest_6
set_option maxHeartbeats 4000000 in
set_option maxRecDepth 100000 in
theorem q_X11_share (l : Launch) (dC : Nat → ClassId) (dI : Nat → Nat → Nat) (sz : Nat) (cs : Nat → ClassId) (b : Nat → Nat) (u : RS) (x : Nat) (y : Nat) (hp0 : 1 ≤ y) (hp1 : x < 100000) (hp2 : y < 100000) : Met l yX11_share [.code yX11_share cX11_share 2 (some .int)] ({ frames := 0, cells := 0, slots := 0, locals := 0 }) (PQ [.int (nI x), .int (nI y)] sz dC dI cs b u) (vp_Si (fun (r : Int32) => r = nI (x / y))) 0 0 (fun _ => False) := by
  refine Met.ofW (cc := cX11_share) (maxL := 2) (ret := (some .int)) (by decide) rfl ?_
  intro p e s m args below meth c s₁ B hml hv
  obtain ⟨rfl, hsz, hP, hK, hJ, hE⟩ := hv
  have hx := B.exec
  have hb := B.bytes
  have hr := B.returns
  have hown : s.vm.findClass RX11 = some m.cls := findClass_of_methodNamed B.named
  have hlocks := B.notSynchronized
  subst hsz
  have hl := lv_entry ([.int (nI x), .int (nI y)]) (n := 2) (Nat.le_of_ble_eq_true rfl)
  rw [lg_entry_eq]
  generalize (lg_sl ([.int (nI x), .int (nI y)]) ++ List.replicate (2 - (lg_sl ([.int (nI x), .int (nI y)])).length) Slot.unset).toArray = ls at hl ⊢
  have hl : lv_has ls 2 [(0, .int (nI x)), (1, .int (nI y))] := hl
  refine lv_iload_n hx hb dX11_share_0 rfl (lv_at hl 1 rfl) ?_
  refine lv_iconst (v := 1) hx hb dX11_share_1 (by decide) ?_
  refine lv_icmp_ge (tgt := 9) hx hb dX11_share_2 (by decide) (fun c4 => ?_) (fun c4 => False.elim (by have c4 := mt (b_le (show Int32.toInt 1 = 1 from rfl) (nI_toInt (n := y) (by omega))).mpr c4; omega))
  have c4 := (b_le (show Int32.toInt 1 = 1 from rfl) (nI_toInt (n := y) (by omega))).mp c4
  refine lv_iload_n hx hb dX11_share_9 rfl (lv_at hl 0 rfl) ?_
  refine lv_iload_n hx hb dX11_share_10 rfl (lv_at hl 1 rfl) ?_
  refine lv_idiv hx hb dX11_share_11 (nI_ne0 (n := y) (by omega) (by omega)) ?_
  refine W.eq (g2 := F0 m 12 ls [.int (nI (x / y))]) (congrArg (fun z : Int32 => F0 m 12 ls (.int z :: [])) (pk_div (a := x) (d := y) (by omega) (by omega) (by omega))) ?_
  have hmd5 := Nat.div_le_self x y
  exact W.iret (v := nI (x / y)) hx hb hr (fun t ht hW => ⟨nI (x / y), rfl, (by first | rfl | omega | (congr 1; omega) | assumption), ht⟩) (fun _ h => absurd h List.not_mem_nil) dX11_share_12
set_option maxHeartbeats 4000000 in
set_option maxRecDepth 100000 in
theorem q_X11_share_m (l : Launch) (dC : Nat → ClassId) (dI : Nat → Nat → Nat) (sz : Nat) (cs : Nat → ClassId) (b : Nat → Nat) (u : RS) (x : Int32) : Met l yX11_share [.code yX11_share cX11_share 2 (some .int)] ({ frames := 0, cells := 0, slots := 0, locals := 0 }) (PQ [.int x, .int (-1)] sz dC dI cs b u) (vp_Si (fun (r : Int32) => r = 0)) 0 0 (fun _ => False) := by
  refine Met.ofW (cc := cX11_share) (maxL := 2) (ret := (some .int)) (by decide) rfl ?_
  intro p e s m args below meth c s₁ B hml hv
  obtain ⟨rfl, hsz, hP, hK, hJ, hE⟩ := hv
  have hx := B.exec
  have hb := B.bytes
  have hr := B.returns
  have hown : s.vm.findClass RX11 = some m.cls := findClass_of_methodNamed B.named
  have hlocks := B.notSynchronized
  subst hsz
  have hl := lv_entry ([.int x, .int (-1)]) (n := 2) (Nat.le_of_ble_eq_true rfl)
  rw [lg_entry_eq]
  generalize (lg_sl ([.int x, .int (-1)]) ++ List.replicate (2 - (lg_sl ([.int x, .int (-1)])).length) Slot.unset).toArray = ls at hl ⊢
  have hl : lv_has ls 2 [(0, .int x), (1, .int (-1))] := hl
  refine lv_iload_n hx hb dX11_share_0 rfl (lv_at hl 1 rfl) ?_
  refine lv_iconst (v := 1) hx hb dX11_share_1 (by decide) ?_
  refine lv_icmp_ge (tgt := 9) hx hb dX11_share_2 (by decide) (fun c1 => absurd c1 (by decide)) (fun c1 => ?_)
  refine lv_iconst (v := 0) hx hb dX11_share_5 (by decide) ?_
  refine lv_goto (tgt := 12) hx hb dX11_share_6 (by decide) ?_
  exact W.iret (v := 0) hx hb hr (fun t ht hW => ⟨0, rfl, (by first | rfl | omega | (congr 1; omega) | assumption), ht⟩) (fun _ h => absurd h List.not_mem_nil) dX11_share_12
set_option maxHeartbeats 4000000 in
set_option maxRecDepth 100000 in
theorem q_X11_bit_0 (l : Launch) (dC : Nat → ClassId) (dI : Nat → Nat → Nat) (sz : Nat) (cs : Nat → ClassId) (b : Nat → Nat) (u : RS) : Met l yX11_bit [.code yX11_bit cX11_bit 1 (some .int)] ({ frames := 0, cells := 0, slots := 0, locals := 0 }) (PQ [.int 0] sz dC dI cs b u) (vp_Si (fun (r : Int32) => r = 0)) 0 0 (fun _ => False) := by
  refine Met.ofW (cc := cX11_bit) (maxL := 1) (ret := (some .int)) (by decide) rfl ?_
  intro p e s m args below meth c s₁ B hml hv
  obtain ⟨rfl, hsz, hP, hK, hJ, hE⟩ := hv
  have hx := B.exec
  have hb := B.bytes
  have hr := B.returns
  have hown : s.vm.findClass RX11 = some m.cls := findClass_of_methodNamed B.named
  have hlocks := B.notSynchronized
  subst hsz
  have hl := lv_entry ([.int 0]) (n := 1) (Nat.le_of_ble_eq_true rfl)
  rw [lg_entry_eq]
  generalize (lg_sl ([.int 0]) ++ List.replicate (1 - (lg_sl ([.int 0])).length) Slot.unset).toArray = ls at hl ⊢
  have hl : lv_has ls 1 [(0, .int 0)] := hl
  refine lv_iload_n hx hb dX11_bit_0 rfl (lv_at hl 0 rfl) ?_
  refine lv_if_eq (tgt := 8) hx hb dX11_bit_1 (by decide) (fun c1 => ?_) (fun c1 => absurd c1 (by decide))
  refine lv_iconst (v := 0) hx hb dX11_bit_8 (by decide) ?_
  exact W.iret (v := 0) hx hb hr (fun t ht hW => ⟨0, rfl, (by first | rfl | omega | (congr 1; omega) | assumption), ht⟩) (fun _ h => absurd h List.not_mem_nil) dX11_bit_9
set_option maxHeartbeats 4000000 in
set_option maxRecDepth 100000 in
theorem q_X11_bit_1 (l : Launch) (dC : Nat → ClassId) (dI : Nat → Nat → Nat) (sz : Nat) (cs : Nat → ClassId) (b : Nat → Nat) (u : RS) : Met l yX11_bit [.code yX11_bit cX11_bit 1 (some .int)] ({ frames := 0, cells := 0, slots := 0, locals := 0 }) (PQ [.int 1] sz dC dI cs b u) (vp_Si (fun (r : Int32) => r = 1)) 0 0 (fun _ => False) := by
  refine Met.ofW (cc := cX11_bit) (maxL := 1) (ret := (some .int)) (by decide) rfl ?_
  intro p e s m args below meth c s₁ B hml hv
  obtain ⟨rfl, hsz, hP, hK, hJ, hE⟩ := hv
  have hx := B.exec
  have hb := B.bytes
  have hr := B.returns
  have hown : s.vm.findClass RX11 = some m.cls := findClass_of_methodNamed B.named
  have hlocks := B.notSynchronized
  subst hsz
  have hl := lv_entry ([.int 1]) (n := 1) (Nat.le_of_ble_eq_true rfl)
  rw [lg_entry_eq]
  generalize (lg_sl ([.int 1]) ++ List.replicate (1 - (lg_sl ([.int 1])).length) Slot.unset).toArray = ls at hl ⊢
  have hl : lv_has ls 1 [(0, .int 1)] := hl
  refine lv_iload_n hx hb dX11_bit_0 rfl (lv_at hl 0 rfl) ?_
  refine lv_if_eq (tgt := 8) hx hb dX11_bit_1 (by decide) (fun c1 => absurd c1 (by decide)) (fun c1 => ?_)
  refine lv_iconst (v := 1) hx hb dX11_bit_4 (by decide) ?_
  refine lv_goto (tgt := 9) hx hb dX11_bit_5 (by decide) ?_
  exact W.iret (v := 1) hx hb hr (fun t ht hW => ⟨1, rfl, (by first | rfl | omega | (congr 1; omega) | assumption), ht⟩) (fun _ h => absurd h List.not_mem_nil) dX11_bit_9
set_option maxHeartbeats 4000000 in
set_option maxRecDepth 100000 in
theorem q_X10_addLast (l : Launch) (dC : Nat → ClassId) (dI : Nat → Nat → Nat) (sz : Nat) (cs : Nat → ClassId) (b : Nat → Nat) (u : RS) (x : Int32) (y : Int32) (cw : Nat) (hF23 : rF u 23 = nI cw) (hp0 : cw ≤ 72) : Met l yX10_addLast [.code yX10_addLast cX10_addLast 3 none] ({ frames := 1, cells := 0, slots := 0, locals := 40 }) (PQ [.ref (b 8), .int x, .int y] sz dC dI cs b u) (va_Qv (fun (u' : RS) => FR [9] [] false u u') (BQ dC dI cs b) (AQ b sz)) 0 0 (AQ b sz) := by
  refine Met.ofW (cc := cX10_addLast) (maxL := 3) (ret := none) (by decide) rfl ?_
  intro p e s m args below meth c s₁ B hml hv
  obtain ⟨rfl, hsz, hP, hK, hJ, hE⟩ := hv
  have hx := B.exec
  have hb := B.bytes
  have hr := B.returns
  have hown : s.vm.findClass RX10 = some m.cls := findClass_of_methodNamed B.named
  have hlocks := B.notSynchronized
  subst hsz
  have hAL : ∀ i, i < 12 → AQ b s.heap.size (b i) := fun i h => Or.inl ⟨i, h, rfl⟩
  have hA : ∀ q : Nat, s.heap.size ≤ q → AQ b s.heap.size q := fun q h => Or.inr h
  have hS : va_S (AQ b s.heap.size) s.heap s.heap [] := va_S.rf
  have hfr : FR [9] [] false u u := FR.refl
  have hl := lv_entry ([.ref (b 8), .int x, .int y]) (n := 3) (Nat.le_of_ble_eq_true rfl)
  rw [lg_entry_eq]
  generalize (lg_sl ([.ref (b 8), .int x, .int y]) ++ List.replicate (3 - (lg_sl ([.ref (b 8), .int x, .int y])).length) Slot.unset).toArray = ls at hl ⊢
  have hl : lv_has ls 3 [(0, .ref (b 8)), (1, .int x), (2, .int y)] := hl
  refine lv_aload_n hx hb dX10_addLast_0 rfl (lv_at hl 0 rfl) ?_
  refine lv_aload_n hx hb dX10_addLast_1 rfl (lv_at hl 0 rfl) ?_
  refine q_get (v := .int (nI cw)) hx hb 8 (by decide) rfl (ly_X10 hE) hown hK hP rfl 3 (by decide) (wd_217 hE) (fun _ h9 => h9) (congrArg (fun z : Int32 => some (Value.int z)) hF23) dX10_addLast_2 ?_
  refine lv_aload_n hx hb dX10_addLast_5 rfl (lv_at hl 0 rfl) ?_
  refine vp_callSi (va_Run.run (va_runV (As := []) (rest := [.int (nI cw), .ref (b 8)]) ⟨hx, hb, hml, hown, noTs⟩ (q_X10_lastNumber l dC dI s.heap.size cs b u cw hF23 (by first | assumption | omega | rfl | (congr 1; omega))) ⟨cbE 0 (wd_649 hE) (wd_120 hE) (wd_646 hE) rfl rfl (by decide +kernel) ⟨Nat.le_of_ble_eq_true rfl, Nat.le_of_ble_eq_true rfl⟩, (wd_647 hE), (wd_648 hE)⟩ ⟨PQ.blind, q_recv 8 (by decide) rfl hK hP rfl, (q_pre (av := [.ref (b 8)]) hK hP hJ hE)⟩ rfl rfl hl.1 rfl (lv_room (Nat.le_of_ble_eq_true rfl)) dX10_addLast_6 ⟨Nat.le_of_ble_eq_true rfl, Nat.le_of_ble_eq_true rfl⟩)) (fun r2 hr2 => ?_)
  refine lv_iload_n hx hb dX10_addLast_9 rfl (lv_at hl 1 rfl) ?_
  refine lv_iadd hx hb dX10_addLast_10 ?_
  refine lv_topi (fun x3 ex3 => ?_)
  refine lv_iload_n hx hb dX10_addLast_11 rfl (lv_at hl 2 rfl) ?_
  refine vp_callSi (va_Run.run (va_runSN (As := [.int x3, .int y]) (rest := [.int (nI cw), .ref (b 8)]) ⟨hx, hb, hml, hown, noTs⟩ (q_X11_rest_a l dC dI s.heap.size cs b u x3 y) ⟨cnE 2 (wd_617 hE) (wd_115 hE) (wd_650 hE) rfl rfl (by decide +kernel) ⟨Nat.le_of_ble_eq_true rfl, Nat.le_of_ble_eq_true rfl⟩, (wd_616 hE), trivial⟩ ⟨PQ.blind, (q_pre (av := [.int x3, .int y]) hK hP hJ hE)⟩ rfl rfl hl.1 rfl (lv_room (Nat.le_of_ble_eq_true rfl)) dX10_addLast_12 ⟨Nat.le_of_ble_eq_true rfl, Nat.le_of_ble_eq_true rfl⟩)) (fun r4 hr4 => ?_)
  refine qc_v hAL hS hA (va_runV (As := [.int (nI cw), .int r4]) (rest := []) ⟨hx, hb, hml, hown, noTs⟩ (q_X10_putNumber l dC dI s.heap.size cs b u cw r4 cw hF23 (by first | assumption | omega | rfl | (congr 1; omega)) (by first | assumption | omega | rfl | (congr 1; omega))) ⟨cbE 2 (wd_654 hE) (wd_120 hE) (wd_651 hE) rfl rfl (by decide +kernel) ⟨Nat.le_of_ble_eq_true rfl, Nat.le_of_ble_eq_true rfl⟩, (wd_652 hE), (wd_653 hE)⟩ ⟨PQ.blind, q_recv 8 (by decide) rfl hK hP rfl, (q_pre (av := [.ref (b 8), .int (nI cw), .int r4]) hK hP hJ hE)⟩ rfl rfl hl.1 rfl (lv_room (Nat.le_of_ble_eq_true rfl)) dX10_addLast_15 ⟨Nat.le_of_ble_eq_true rfl, Nat.le_of_ble_eq_true rfl⟩) (fun u5 H locs hpo5 hP hS => ?_)
  have hq5 := hpo5
  have hF6x := (hq5.2.1 23 List.not_mem_nil).trans hF23
  have hfr := FR.step hfr hq5 (by decide) (fun _ h => absurd h List.not_mem_nil) (fun h => rfl)
  exact W.vret hx hb hr (fun t ht hW => ⟨⟨u5, rfl, hfr, (show va_P (dC, dI) vwCl (qW cs b u5) t.heap by rw [ht]; exact hP)⟩, hS.F ht⟩) hS.2.2 dX10_addLast_18
set_option maxHeartbeats 4000000 in
set_option maxRecDepth 100000 in
theorem q_X10_push (l : Launch) (dC : Nat → ClassId) (dI : Nat → Nat → Nat) (sz : Nat) (cs : Nat → ClassId) (b : Nat → Nat) (u : RS) (x : Int32) (y : Int32) (cw : Nat) (hF23 : rF u 23 = nI cw) (hp0 : cw ≤ 71) : Met l yX10_push [.code yX10_push cX10_push 3 none] ({ frames := 0, cells := 0, slots := 0, locals := 0 }) (PQ [.ref (b 8), .int x, .int y] sz dC dI cs b u) (va_Qv (fun (u' : RS) => (rF u' 23 = nI (cw + 1)) ∧ FR [9, 10] [23] false u u') (BQ dC dI cs b) (AQ b sz)) 0 0 (AQ b sz) := by
  refine Met.ofW (cc := cX10_push) (maxL := 3) (ret := none) (by decide) rfl ?_
  intro p e s m args below meth c s₁ B hml hv
  obtain ⟨rfl, hsz, hP, hK, hJ, hE⟩ := hv
  have hx := B.exec
  have hb := B.bytes
  have hr := B.returns
  have hown : s.vm.findClass RX10 = some m.cls := findClass_of_methodNamed B.named
  have hlocks := B.notSynchronized
  subst hsz
  have hAL : ∀ i, i < 12 → AQ b s.heap.size (b i) := fun i h => Or.inl ⟨i, h, rfl⟩
  have hA : ∀ q : Nat, s.heap.size ≤ q → AQ b s.heap.size q := fun q h => Or.inr h
  have hS : va_S (AQ b s.heap.size) s.heap s.heap [] := va_S.rf
  have hfr : FR [9, 10] [23] false u u := FR.refl
  have hl := lv_entry ([.ref (b 8), .int x, .int y]) (n := 3) (Nat.le_of_ble_eq_true rfl)
  rw [lg_entry_eq]
  generalize (lg_sl ([.ref (b 8), .int x, .int y]) ++ List.replicate (3 - (lg_sl ([.ref (b 8), .int x, .int y])).length) Slot.unset).toArray = ls at hl ⊢
  have hl : lv_has ls 3 [(0, .ref (b 8)), (1, .int x), (2, .int y)] := hl
  refine lv_aload_n hx hb dX10_push_0 rfl (lv_at hl 0 rfl) ?_
  refine q_get (v := .int (nI cw)) hx hb 8 (by decide) rfl (ly_X10 hE) hown hK hP rfl 3 (by decide) (wd_217 hE) (fun _ h9 => h9) (congrArg (fun z : Int32 => some (Value.int z)) hF23) dX10_push_1 ?_
  refine lv_if_lt (tgt := 63) hx hb dX10_push_4 (by decide) (fun c2 => False.elim (by have c2 := (b_lt (nI_toInt (n := cw) (by omega)) (show Int32.toInt 0 = 0 from rfl)).mp c2; omega)) (fun c2 => ?_)
  have c2 := mt (b_lt (nI_toInt (n := cw) (by omega)) (show Int32.toInt 0 = 0 from rfl)).mpr c2
  refine lv_aload_n hx hb dX10_push_7 rfl (lv_at hl 0 rfl) ?_
  refine q_get (v := .int (nI cw)) hx hb 8 (by decide) rfl (ly_X10 hE) hown hK hP rfl 3 (by decide) (wd_217 hE) (fun _ h9 => h9) (congrArg (fun z : Int32 => some (Value.int z)) hF23) dX10_push_8 ?_
  refine lv_aload_n hx hb dX10_push_11 rfl (lv_at hl 0 rfl) ?_
  refine q_get (v := .ref (b 10)) hx hb 8 (by decide) rfl (ly_X10 hE) hown hK hP rfl 1 (by decide) (wd_215 hE) (fun _ h9 => h9) rfl dX10_push_12 ?_
  refine q_alen (j := 10) (t0 := 0) (v := 72) hx hb hK hP (by decide) rfl rfl rfl dX10_push_15 ?_
  refine lv_icmp_ge (tgt := 63) hx hb dX10_push_16 (by decide) (fun c3 => False.elim (by have c3 := (b_le (show Int32.toInt 72 = 72 from rfl) (nI_toInt (n := cw) (by omega))).mp c3; omega)) (fun c3 => ?_)
  have c3 := mt (b_le (show Int32.toInt 72 = 72 from rfl) (nI_toInt (n := cw) (by omega))).mpr c3
  refine lv_aload_n hx hb dX10_push_19 rfl (lv_at hl 0 rfl) ?_
  refine q_get (v := .int (nI cw)) hx hb 8 (by decide) rfl (ly_X10 hE) hown hK hP rfl 3 (by decide) (wd_217 hE) (fun _ h9 => h9) (congrArg (fun z : Int32 => some (Value.int z)) hF23) dX10_push_20 ?_
  refine lv_iconst (v := 1) hx hb dX10_push_23 (by decide) ?_
  refine lv_iadd hx hb dX10_push_24 ?_
  refine W.eq (g2 := F0 m 25 ls [.int (nI (cw + 1))]) (congrArg (fun z : Int32 => F0 m 25 ls (.int z :: [])) (nI_add cw 1)) ?_
  refine lv_aload_n hx hb dX10_push_25 rfl (lv_at hl 0 rfl) ?_
  refine q_get (v := .ref (b 9)) hx hb 8 (by decide) rfl (ly_X10 hE) hown hK hP rfl 0 (by decide) (wd_214 hE) (fun _ h9 => h9) rfl dX10_push_26 ?_
  refine q_alen (j := 9) (t0 := 0) (v := 73) hx hb hK hP (by decide) rfl rfl rfl dX10_push_29 ?_
  refine lv_icmp_ge (tgt := 63) hx hb dX10_push_30 (by decide) (fun c4 => False.elim (by have c4 := (b_le (show Int32.toInt 73 = 73 from rfl) (nI_toInt (n := cw + 1) (by omega))).mp c4; omega)) (fun c4 => ?_)
  have c4 := mt (b_le (show Int32.toInt 73 = 73 from rfl) (nI_toInt (n := cw + 1) (by omega))).mpr c4
  refine lv_aload_n hx hb dX10_push_33 rfl (lv_at hl 0 rfl) ?_
  refine q_get (v := .ref (b 10)) hx hb 8 (by decide) rfl (ly_X10 hE) hown hK hP rfl 1 (by decide) (wd_215 hE) (fun _ h9 => h9) rfl dX10_push_34 ?_
  refine lv_aload_n hx hb dX10_push_37 rfl (lv_at hl 0 rfl) ?_
  refine q_get (v := .int (nI cw)) hx hb 8 (by decide) rfl (ly_X10 hE) hown hK hP rfl 3 (by decide) (wd_217 hE) (fun _ h9 => h9) (congrArg (fun z : Int32 => some (Value.int z)) hF23) dX10_push_38 ?_
  refine lv_iload_n hx hb dX10_push_41 rfl (lv_at hl 1 rfl) ?_
  obtain ⟨g6, hg6⟩ : ∃ g, rA u 10 = g := ⟨_, rfl⟩
  refine q_iast (j := 10) (k := cw) (n := 72) (x := x) hx hb hK hP hJ hAL hS (by decide) (fun _ => rfl) hg6 (by omega) (by decide) dX10_push_42 (fun u5 H locs hs5 hq5 hP hS => ?_)
  obtain ⟨w5, hw5⟩ : ∃ g, g = upd g6 cw x := ⟨_, rfl⟩
  rw [← hw5] at hs5
  have hF7x := (hq5.2.1 23 List.not_mem_nil).trans hF23
  have hfr := FR.step hfr hq5 (by decide) (fun _ h => absurd h List.not_mem_nil) (fun h => rfl)
  refine lv_aload_n hx hb dX10_push_43 rfl (lv_at hl 0 rfl) ?_
  refine lv_dup hx hb dX10_push_44 rfl ?_
  refine q_get (v := .int (nI cw)) hx hb 8 (by decide) rfl (ly_X10 hE) hown hK hP rfl 3 (by decide) (wd_217 hE) (fun _ h9 => h9) (congrArg (fun z : Int32 => some (Value.int z)) hF7x) dX10_push_45 ?_
  refine lv_iconst (v := 1) hx hb dX10_push_48 (by decide) ?_
  refine lv_iadd hx hb dX10_push_49 ?_
  refine W.eq (g2 := F0 m 50 ls [.int (nI (cw + 1)), .ref (b 8)]) (congrArg (fun z : Int32 => F0 m 50 ls (.int z :: [.ref (b 8)])) (nI_add cw 1)) ?_
  refine q_put (v := nI (cw + 1)) (ty := .int) hx hb 8 23 (by decide) (ly_X10 hE) tyX10 tyX10_ok nmX10 hown hK hP hJ hAL hS rfl 3 (by decide) (wd_217 hE) (fun _ h9 => h9) rfl (by decide +kernel) rfl rfl rfl rfl (qE_put8 (by decide) (by decide)) (Nat.le_of_ble_eq_true rfl) dX10_push_50 (fun u8 H locs hf8 hq8 hP hS => ?_)
  have hA9 := (hq8.1 10 List.not_mem_nil).trans hs5
  have hfr := FR.step hfr hq8 (fun _ h => absurd h List.not_mem_nil) (by decide) (fun h => rfl)
  refine lv_aload_n hx hb dX10_push_53 rfl (lv_at hl 0 rfl) ?_
  refine q_get (v := .ref (b 9)) hx hb 8 (by decide) rfl (ly_X10 hE) hown hK hP rfl 0 (by decide) (wd_214 hE) (fun _ h9 => h9) rfl dX10_push_54 ?_
  refine lv_aload_n hx hb dX10_push_57 rfl (lv_at hl 0 rfl) ?_
  refine q_get (v := .int (nI (cw + 1))) hx hb 8 (by decide) rfl (ly_X10 hE) hown hK hP rfl 3 (by decide) (wd_217 hE) (fun _ h9 => h9) (congrArg (fun z : Int32 => some (Value.int z)) hf8) dX10_push_58 ?_
  refine lv_iload_n hx hb dX10_push_61 rfl (lv_at hl 2 rfl) ?_
  obtain ⟨g11, hg11⟩ : ∃ g, rA u8 9 = g := ⟨_, rfl⟩
  refine q_iast (j := 9) (k := cw + 1) (n := 73) (x := y) hx hb hK hP hJ hAL hS (by decide) (fun _ => rfl) hg11 (by omega) (by decide) dX10_push_62 (fun u10 H locs hs10 hq10 hP hS => ?_)
  obtain ⟨w10, hw10⟩ : ∃ g, g = upd g11 (cw + 1) y := ⟨_, rfl⟩
  rw [← hw10] at hs10
  have hA12 := (hq10.1 10 (by decide)).trans hA9
  have hF13x := (hq10.2.1 23 List.not_mem_nil).trans hf8
  have hfr := FR.step hfr hq10 (by decide) (fun _ h => absurd h List.not_mem_nil) (fun h => rfl)
  exact W.vret hx hb hr (fun t ht hW => ⟨⟨u10, rfl, ⟨(by first | (rw [hF13x]; done) | (rw [hF13x]; first | assumption | omega | rfl | (congr 1; omega))), hfr⟩, (show va_P (dC, dI) vwCl (qW cs b u10) t.heap by rw [ht]; exact hP)⟩, hS.F ht⟩) hS.2.2 dX10_push_63
set_option maxHeartbeats 4000000 in
set_option maxRecDepth 100000 in
theorem q_X7_writeWord (l : Launch) (dC : Nat → ClassId) (dI : Nat → Nat → Nat) (sz : Nat) (cs : Nat → ClassId) (b : Nat → Nat) (u : RS) (dg : Nat → Int32) (hAc7 : rA u 7 = dg) (v : Nat) (cw : Nat) (hF23 : rF u 23 = nI cw) (hp0 : v ≤ 9) (hp1 : dg 2 = nI (v + 1)) (hp2 : cw ≤ 72) : Met l yX7_writeWord [.code yX7_writeWord cX7_writeWord 5 none] ({ frames := 1, cells := 0, slots := 0, locals := 40 }) (PQ [.ref (b 6), .int (nI v), .ref (b 8)] sz dC dI cs b u) (va_Qv (fun (u' : RS) => (∀ k, k < 33 → (rA u' 7) k = dg k) ∧ FR [7] [] false u u') (BQ dC dI cs b) (AQ b sz)) 0 0 (AQ b sz) := by
  refine Met.ofW (cc := cX7_writeWord) (maxL := 5) (ret := none) (by decide) rfl ?_
  intro p e s m args below meth c s₁ B hml hv
  obtain ⟨rfl, hsz, hP, hK, hJ, hE⟩ := hv
  have hx := B.exec
  have hb := B.bytes
  have hr := B.returns
  have hown : s.vm.findClass RX7 = some m.cls := findClass_of_methodNamed B.named
  have hlocks := B.notSynchronized
  subst hsz
  have hAL : ∀ i, i < 12 → AQ b s.heap.size (b i) := fun i h => Or.inl ⟨i, h, rfl⟩
  have hA : ∀ q : Nat, s.heap.size ≤ q → AQ b s.heap.size q := fun q h => Or.inr h
  have hS : va_S (AQ b s.heap.size) s.heap s.heap [] := va_S.rf
  have hfr : FR [7] [] false u u := FR.refl
  have hl := lv_entry ([.ref (b 6), .int (nI v), .ref (b 8)]) (n := 5) (Nat.le_of_ble_eq_true rfl)
  rw [lg_entry_eq]
  generalize (lg_sl ([.ref (b 6), .int (nI v), .ref (b 8)]) ++ List.replicate (5 - (lg_sl ([.ref (b 6), .int (nI v), .ref (b 8)])).length) Slot.unset).toArray = ls at hl ⊢
  have hl : lv_has ls 5 [(0, .ref (b 6)), (1, .int (nI v)), (2, .ref (b 8))] := hl
  refine lv_aload_n hx hb dX7_writeWord_0 rfl (lv_at hl 0 rfl) ?_
  refine lv_iload_n hx hb dX7_writeWord_1 rfl (lv_at hl 1 rfl) ?_
  refine vp_callSi (va_Run.run (va_runV (As := [.int (nI v)]) (rest := []) ⟨hx, hb, hml, hown, noTs⟩ (q_X7_hasWord l dC dI s.heap.size cs b u dg hAc7 v (v + 1) (by first | assumption | omega | rfl | (congr 1; omega)) (by first | assumption | omega | rfl | (congr 1; omega)) (by first | assumption | omega | rfl | (congr 1; omega))) ⟨cbE 1 (wd_708 hE) (wd_116 hE) (wd_705 hE) rfl rfl (by decide +kernel) ⟨Nat.le_of_ble_eq_true rfl, Nat.le_of_ble_eq_true rfl⟩, (wd_706 hE), (wd_707 hE)⟩ ⟨PQ.blind, q_recv 6 (by decide) rfl hK hP rfl, (q_pre (av := [.ref (b 6), .int (nI v)]) hK hP hJ hE)⟩ rfl rfl hl.1 rfl (lv_room (Nat.le_of_ble_eq_true rfl)) dX7_writeWord_2 ⟨Nat.le_of_ble_eq_true rfl, Nat.le_of_ble_eq_true rfl⟩)) (fun r4 hr4 => ?_)
  subst hr4
  refine lv_if_eq (tgt := 17) hx hb dX7_writeWord_5 (by decide) (fun c5 => absurd c5 (by decide)) (fun c5 => ?_)
  refine lv_aload_n hx hb dX7_writeWord_8 rfl (lv_at hl 2 rfl) ?_
  refine vp_callSi (va_Run.run (va_runV (As := []) (rest := []) ⟨hx, hb, hml, hown, noTs⟩ (q_X10_size l dC dI s.heap.size cs b u cw hF23) ⟨cbE 0 (wd_666 hE) (wd_120 hE) (wd_709 hE) rfl rfl (by decide +kernel) ⟨Nat.le_of_ble_eq_true rfl, Nat.le_of_ble_eq_true rfl⟩, (wd_664 hE), (wd_665 hE)⟩ ⟨PQ.blind, q_recv 8 (by decide) rfl hK hP rfl, (q_pre (av := [.ref (b 8)]) hK hP hJ hE)⟩ rfl rfl hl.1 rfl (lv_room (Nat.le_of_ble_eq_true rfl)) dX7_writeWord_9 ⟨Nat.le_of_ble_eq_true rfl, Nat.le_of_ble_eq_true rfl⟩)) (fun r6 hr6 => ?_)
  subst hr6
  refine lv_bipush (v := 24) hx hb dX7_writeWord_12 (by decide) ?_
  refine lv_icmp_le (tgt := 18) hx hb dX7_writeWord_14 (by decide) (fun c7 => ?_) (fun c7 => ?_)
  · have c7 := (b_le (nI_toInt (n := cw) (by omega)) (show Int32.toInt 24 = 24 from rfl)).mp c7
    refine lv_bipush (v := 33) hx hb dX7_writeWord_18 (by decide) ?_
    refine lv_bipush (v := 51) hx hb dX7_writeWord_20 (by decide) ?_
    refine lv_iload_n hx hb dX7_writeWord_22 rfl (lv_at hl 1 rfl) ?_
    refine lv_imul hx hb dX7_writeWord_23 ?_
    refine W.eq (g2 := F0 m 24 ls [.int (nI (51 * v)), .int 33]) (congrArg (fun z : Int32 => F0 m 24 ls (.int z :: [.int 33])) (pk_mul 51 v)) ?_
    refine lv_iadd hx hb dX7_writeWord_24 ?_
    refine W.eq (g2 := F0 m 25 ls [.int (nI (33 + (51 * v)))]) (congrArg (fun z : Int32 => F0 m 25 ls (.int z :: [])) (nI_add 33 (51 * v))) ?_
    refine lv_istore_n (lv' := [(3, .int (nI (33 + (51 * v)))), (0, .ref (b 6)), (1, .int (nI v)), (2, .ref (b 8))]) hx hb dX7_writeWord_25 rfl hl (by decide) rfl (fun ls hl => ?_)
    refine lv_aload_n hx hb dX7_writeWord_26 rfl (lv_at hl 1 rfl) ?_
    refine lv_iload_n hx hb dX7_writeWord_27 rfl (lv_at hl 0 rfl) ?_
    refine lv_aload_n hx hb dX7_writeWord_28 rfl (lv_at hl 3 rfl) ?_
    refine vp_callSi (va_Run.run (va_runV (As := []) (rest := [.int (nI (33 + (51 * v))), .ref (b 6)]) ⟨hx, hb, hml, hown, noTs⟩ (q_X10_begin l dC dI s.heap.size cs b u) ⟨cbE 0 (wd_713 hE) (wd_120 hE) (wd_710 hE) rfl rfl (by decide +kernel) ⟨Nat.le_of_ble_eq_true rfl, Nat.le_of_ble_eq_true rfl⟩, (wd_711 hE), (wd_712 hE)⟩ ⟨PQ.blind, q_recv 8 (by decide) rfl hK hP rfl, (q_pre (av := [.ref (b 8)]) hK hP hJ hE)⟩ rfl rfl hl.1 rfl (lv_room (Nat.le_of_ble_eq_true rfl)) dX7_writeWord_29 ⟨Nat.le_of_ble_eq_true rfl, Nat.le_of_ble_eq_true rfl⟩)) (fun r8 hr8 => ?_)
    refine qc_v hAL hS hA (va_runV (As := [.int (nI (33 + (51 * v))), .int r8]) (rest := []) ⟨hx, hb, hml, hown, noTs⟩ (q_X7_put l dC dI s.heap.size cs b u dg hAc7 (33 + (51 * v)) r8 (by first | assumption | omega | rfl | (congr 1; omega))) ⟨cbE 2 (wd_590 hE) (wd_116 hE) (wd_587 hE) rfl rfl (by decide +kernel) ⟨Nat.le_of_ble_eq_true rfl, Nat.le_of_ble_eq_true rfl⟩, (wd_589 hE), (wd_14 hE)⟩ ⟨PQ.blind, q_recv 6 (by decide) rfl hK hP rfl, (q_pre (av := [.ref (b 6), .int (nI (33 + (51 * v))), .int r8]) hK hP hJ hE)⟩ rfl rfl hl.1 rfl (lv_room (Nat.le_of_ble_eq_true rfl)) dX7_writeWord_32 ⟨Nat.le_of_ble_eq_true rfl, Nat.le_of_ble_eq_true rfl⟩) (fun u9 H locs hpo9 hP hS => ?_)
    obtain ⟨h9_0, hq9⟩ := hpo9
    obtain ⟨w10, hA10⟩ : ∃ g, rA u9 7 = g := ⟨_, rfl⟩
    rw [hA10] at h9_0
    have hF11x := (hq9.2.1 23 List.not_mem_nil).trans hF23
    have hfr := FR.step hfr hq9 (by decide) (fun _ h => absurd h List.not_mem_nil) (fun h => rfl)
    have P1 := h9_0
    refine lv_aload_n hx hb dX7_writeWord_35 rfl (lv_at hl 1 rfl) ?_
    refine lv_iload_n hx hb dX7_writeWord_36 rfl (lv_at hl 0 rfl) ?_
    refine lv_iconst (v := 1) hx hb dX7_writeWord_37 (by decide) ?_
    refine lv_iadd hx hb dX7_writeWord_38 ?_
    refine W.eq (g2 := F0 m 39 ls [.int (nI ((33 + (51 * v)) + 1)), .ref (b 6)]) (congrArg (fun z : Int32 => F0 m 39 ls (.int z :: [.ref (b 6)])) (nI_add (33 + (51 * v)) 1)) ?_
    refine lv_aload_n hx hb dX7_writeWord_39 rfl (lv_at hl 3 rfl) ?_
    refine vp_callSi (va_Run.run (va_runV (As := []) (rest := [.int (nI ((33 + (51 * v)) + 1)), .ref (b 6)]) ⟨hx, hb, hml, hown, noTs⟩ (q_X10_size l dC dI H.size cs b u9 cw hF11x) ⟨cbE 0 (wd_666 hE) (wd_120 hE) (wd_709 hE) rfl rfl (by decide +kernel) ⟨Nat.le_of_ble_eq_true rfl, Nat.le_of_ble_eq_true rfl⟩, (wd_664 hE), (wd_665 hE)⟩ ⟨PQ.blind, q_recv 8 (by decide) rfl hK hP rfl, (q_pre (av := [.ref (b 8)]) hK hP hJ hE)⟩ rfl rfl hl.1 rfl (lv_room (Nat.le_of_ble_eq_true rfl)) dX7_writeWord_40 ⟨Nat.le_of_ble_eq_true rfl, Nat.le_of_ble_eq_true rfl⟩)) (fun r12 hr12 => ?_)
    subst hr12
    refine qc_v hAL hS hA (va_runV (As := [.int (nI ((33 + (51 * v)) + 1)), .int (nI cw)]) (rest := []) ⟨hx, hb, hml, hown, noTs⟩ (q_X7_put l dC dI H.size cs b u9 w10 hA10 ((33 + (51 * v)) + 1) (nI cw) (by first | assumption | omega | rfl | (congr 1; omega))) ⟨cbE 2 (wd_590 hE) (wd_116 hE) (wd_587 hE) rfl rfl (by decide +kernel) ⟨Nat.le_of_ble_eq_true rfl, Nat.le_of_ble_eq_true rfl⟩, (wd_589 hE), (wd_14 hE)⟩ ⟨PQ.blind, q_recv 6 (by decide) rfl hK hP rfl, (q_pre (av := [.ref (b 6), .int (nI ((33 + (51 * v)) + 1)), .int (nI cw)]) hK hP hJ hE)⟩ rfl rfl hl.1 rfl (lv_room (Nat.le_of_ble_eq_true rfl)) dX7_writeWord_43 ⟨Nat.le_of_ble_eq_true rfl, Nat.le_of_ble_eq_true rfl⟩) (fun u13 H locs hpo13 hP hS => ?_)
    obtain ⟨h13_0, hq13⟩ := hpo13
    obtain ⟨w14, hA14⟩ : ∃ g, rA u13 7 = g := ⟨_, rfl⟩
    rw [hA14] at h13_0
    have hF15x := (hq13.2.1 23 List.not_mem_nil).trans hF11x
    have hfr := FR.step hfr hq13 (by decide) (fun _ h => absurd h List.not_mem_nil) (fun h => rfl)
    have P2 := h13_0
    refine lv_aload_n hx hb dX7_writeWord_46 rfl (lv_at hl 1 rfl) ?_
    refine lv_iload_n hx hb dX7_writeWord_47 rfl (lv_at hl 0 rfl) ?_
    refine lv_iconst (v := 2) hx hb dX7_writeWord_48 (by decide) ?_
    refine lv_iadd hx hb dX7_writeWord_49 ?_
    refine W.eq (g2 := F0 m 50 ls [.int (nI ((33 + (51 * v)) + 2)), .ref (b 6)]) (congrArg (fun z : Int32 => F0 m 50 ls (.int z :: [.ref (b 6)])) (nI_add (33 + (51 * v)) 2)) ?_
    refine lv_aload_n hx hb dX7_writeWord_50 rfl (lv_at hl 3 rfl) ?_
    refine lv_iconst (v := 0) hx hb dX7_writeWord_51 (by decide) ?_
    refine vp_callSi (va_Run.run (va_runV (As := [.int (nI 0)]) (rest := [.int (nI ((33 + (51 * v)) + 2)), .ref (b 6)]) ⟨hx, hb, hml, hown, noTs⟩ (q_X10_numberAt l dC dI H.size cs b u13 0 cw hF15x (by first | assumption | omega | rfl | (congr 1; omega)) (by first | assumption | omega | rfl | (congr 1; omega))) ⟨cbE 1 (wd_717 hE) (wd_120 hE) (wd_714 hE) rfl rfl (by decide +kernel) ⟨Nat.le_of_ble_eq_true rfl, Nat.le_of_ble_eq_true rfl⟩, (wd_715 hE), (wd_716 hE)⟩ ⟨PQ.blind, q_recv 8 (by decide) rfl hK hP rfl, (q_pre (av := [.ref (b 8), .int (nI 0)]) hK hP hJ hE)⟩ rfl rfl hl.1 rfl (lv_room (Nat.le_of_ble_eq_true rfl)) dX7_writeWord_52 ⟨Nat.le_of_ble_eq_true rfl, Nat.le_of_ble_eq_true rfl⟩)) (fun r16 hr16 => ?_)
    refine qc_v hAL hS hA (va_runV (As := [.int (nI ((33 + (51 * v)) + 2)), .int r16]) (rest := []) ⟨hx, hb, hml, hown, noTs⟩ (q_X7_put l dC dI H.size cs b u13 w14 hA14 ((33 + (51 * v)) + 2) r16 (by first | assumption | omega | rfl | (congr 1; omega))) ⟨cbE 2 (wd_590 hE) (wd_116 hE) (wd_587 hE) rfl rfl (by decide +kernel) ⟨Nat.le_of_ble_eq_true rfl, Nat.le_of_ble_eq_true rfl⟩, (wd_589 hE), (wd_14 hE)⟩ ⟨PQ.blind, q_recv 6 (by decide) rfl hK hP rfl, (q_pre (av := [.ref (b 6), .int (nI ((33 + (51 * v)) + 2)), .int r16]) hK hP hJ hE)⟩ rfl rfl hl.1 rfl (lv_room (Nat.le_of_ble_eq_true rfl)) dX7_writeWord_55 ⟨Nat.le_of_ble_eq_true rfl, Nat.le_of_ble_eq_true rfl⟩) (fun u17 H locs hpo17 hP hS => ?_)
    obtain ⟨h17_0, hq17⟩ := hpo17
    obtain ⟨w18, hA18⟩ : ∃ g, rA u17 7 = g := ⟨_, rfl⟩
    rw [hA18] at h17_0
    have hF19x := (hq17.2.1 23 List.not_mem_nil).trans hF15x
    have hfr := FR.step hfr hq17 (by decide) (fun _ h => absurd h List.not_mem_nil) (fun h => rfl)
    have P3 := h17_0
    refine lv_iconst (v := 0) hx hb dX7_writeWord_58 (by decide) ?_
    refine lv_istore (lv' := [(4, .int 0), (3, .int (nI (33 + (51 * v)))), (0, .ref (b 6)), (1, .int (nI v)), (2, .ref (b 8))]) hx hb dX7_writeWord_59 hl (by decide) rfl (fun ls hl => ?_)
    refine q_ind (I := fun n u_ H locs ls => va_P (dC, dI) vwCl (qW cs b u_) H ∧ va_S (AQ b s.heap.size) s.heap H locs ∧ FR [7] [] false u u_ ∧ ∃ (i_20 : Nat) (d1_20 : Nat → Int32), n = cw - i_20 ∧ (i_20 ≤ cw) ∧ (∀ k, k < 33 → d1_20 k = dg k) ∧ (rA u_ 7 = d1_20) ∧ lv_has ls 5 [(0, .ref (b 6)), (1, .int (nI v)), (2, .ref (b 8)), (3, .int (nI (33 + (51 * v)))), (4, .int (nI i_20))]) (fun n u20 H locs ls hI ih20 => ?_) _ u17 _ _ _ ⟨hP, hS, hfr, 0, w18, rfl, (by first | assumption | omega | rfl | (congr 1; omega)), (by intro k hk; rw [P3, pk_un (by omega), P2, pk_un (by omega), P1, pk_un (by omega)]), hA18, lv_sub hl [2, 3, 4, 1, 0] rfl⟩
    obtain ⟨hP, hS, hfr, i_20, d1_20, hmu20, hL20_0, hL20_1, hL20_2, hl⟩ := hI
    have hF21x := (hfr.2.1 23 List.not_mem_nil).trans hF23
    subst hmu20
    refine lv_iload hx hb dX7_writeWord_61 (lv_at hl 4 rfl) ?_
    refine lv_aload_n hx hb dX7_writeWord_63 rfl (lv_at hl 2 rfl) ?_
    refine vp_callSi (va_Run.run (va_runV (As := []) (rest := [.int (nI i_20)]) ⟨hx, hb, hml, hown, noTs⟩ (q_X10_size l dC dI H.size cs b u20 cw hF21x) ⟨cbE 0 (wd_666 hE) (wd_120 hE) (wd_709 hE) rfl rfl (by decide +kernel) ⟨Nat.le_of_ble_eq_true rfl, Nat.le_of_ble_eq_true rfl⟩, (wd_664 hE), (wd_665 hE)⟩ ⟨PQ.blind, q_recv 8 (by decide) rfl hK hP rfl, (q_pre (av := [.ref (b 8)]) hK hP hJ hE)⟩ rfl rfl hl.1 rfl (lv_room (Nat.le_of_ble_eq_true rfl)) dX7_writeWord_64 ⟨Nat.le_of_ble_eq_true rfl, Nat.le_of_ble_eq_true rfl⟩)) (fun r22 hr22 => ?_)
    subst hr22
    refine lv_icmp_ge (tgt := 114) hx hb dX7_writeWord_67 (by decide) (fun c23 => ?_) (fun c23 => ?_)
    · have c23 := (b_le (nI_toInt (n := cw) (by omega)) (nI_toInt (n := i_20) (by omega))).mp c23
      have LW := hL20_1
      exact W.vret hx hb hr (fun t ht hW => ⟨⟨u20, rfl, ⟨(by first | (rw [hL20_2]; done) | (rw [hL20_2]; first | (intro k _; rfl) | (intro k hk; exact LW k hk))), hfr⟩, (show va_P (dC, dI) vwCl (qW cs b u20) t.heap by rw [ht]; exact hP)⟩, hS.F ht⟩) hS.2.2 dX7_writeWord_114
    · have c23 := mt (b_le (nI_toInt (n := cw) (by omega)) (nI_toInt (n := i_20) (by omega))).mpr c23
      refine lv_aload_n hx hb dX7_writeWord_70 rfl (lv_at hl 0 rfl) ?_
      refine lv_iload_n hx hb dX7_writeWord_71 rfl (lv_at hl 3 rfl) ?_
      refine lv_iconst (v := 3) hx hb dX7_writeWord_72 (by decide) ?_
      refine lv_iadd hx hb dX7_writeWord_73 ?_
      refine W.eq (g2 := F0 m 74 ls [.int (nI ((33 + (51 * v)) + 3)), .ref (b 6)]) (congrArg (fun z : Int32 => F0 m 74 ls (.int z :: [.ref (b 6)])) (nI_add (33 + (51 * v)) 3)) ?_
      refine lv_iconst (v := 2) hx hb dX7_writeWord_74 (by decide) ?_
      refine lv_iload hx hb dX7_writeWord_75 (lv_at hl 4 rfl) ?_
      refine lv_imul hx hb dX7_writeWord_77 ?_
      refine W.eq (g2 := F0 m 78 ls [.int (nI (2 * i_20)), .int (nI ((33 + (51 * v)) + 3)), .ref (b 6)]) (congrArg (fun z : Int32 => F0 m 78 ls (.int z :: [.int (nI ((33 + (51 * v)) + 3)), .ref (b 6)])) (pk_mul 2 i_20)) ?_
      refine lv_iadd hx hb dX7_writeWord_78 ?_
      refine W.eq (g2 := F0 m 79 ls [.int (nI (((33 + (51 * v)) + 3) + (2 * i_20))), .ref (b 6)]) (congrArg (fun z : Int32 => F0 m 79 ls (.int z :: [.ref (b 6)])) (nI_add ((33 + (51 * v)) + 3) (2 * i_20))) ?_
      refine lv_aload_n hx hb dX7_writeWord_79 rfl (lv_at hl 2 rfl) ?_
      refine lv_iload hx hb dX7_writeWord_80 (lv_at hl 4 rfl) ?_
      refine vp_callSi (va_Run.run (va_runV (As := [.int (nI i_20)]) (rest := [.int (nI (((33 + (51 * v)) + 3) + (2 * i_20))), .ref (b 6)]) ⟨hx, hb, hml, hown, noTs⟩ (q_X10_stepAt l dC dI H.size cs b u20 i_20 cw hF21x (by first | assumption | omega | rfl | (congr 1; omega)) (by first | assumption | omega | rfl | (congr 1; omega))) ⟨cbE 1 (wd_721 hE) (wd_120 hE) (wd_718 hE) rfl rfl (by decide +kernel) ⟨Nat.le_of_ble_eq_true rfl, Nat.le_of_ble_eq_true rfl⟩, (wd_719 hE), (wd_720 hE)⟩ ⟨PQ.blind, q_recv 8 (by decide) rfl hK hP rfl, (q_pre (av := [.ref (b 8), .int (nI i_20)]) hK hP hJ hE)⟩ rfl rfl hl.1 rfl (lv_room (Nat.le_of_ble_eq_true rfl)) dX7_writeWord_82 ⟨Nat.le_of_ble_eq_true rfl, Nat.le_of_ble_eq_true rfl⟩)) (fun r24 hr24 => ?_)
      refine qc_v hAL hS hA (va_runV (As := [.int (nI (((33 + (51 * v)) + 3) + (2 * i_20))), .int r24]) (rest := []) ⟨hx, hb, hml, hown, noTs⟩ (q_X7_put l dC dI H.size cs b u20 d1_20 hL20_2 (((33 + (51 * v)) + 3) + (2 * i_20)) r24 (by first | assumption | omega | rfl | (congr 1; omega))) ⟨cbE 2 (wd_590 hE) (wd_116 hE) (wd_587 hE) rfl rfl (by decide +kernel) ⟨Nat.le_of_ble_eq_true rfl, Nat.le_of_ble_eq_true rfl⟩, (wd_589 hE), (wd_14 hE)⟩ ⟨PQ.blind, q_recv 6 (by decide) rfl hK hP rfl, (q_pre (av := [.ref (b 6), .int (nI (((33 + (51 * v)) + 3) + (2 * i_20))), .int r24]) hK hP hJ hE)⟩ rfl rfl hl.1 rfl (lv_room (Nat.le_of_ble_eq_true rfl)) dX7_writeWord_85 ⟨Nat.le_of_ble_eq_true rfl, Nat.le_of_ble_eq_true rfl⟩) (fun u25 H locs hpo25 hP hS => ?_)
      obtain ⟨h25_0, hq25⟩ := hpo25
      obtain ⟨w26, hA26⟩ : ∃ g, rA u25 7 = g := ⟨_, rfl⟩
      rw [hA26] at h25_0
      have hF27x := (hq25.2.1 23 List.not_mem_nil).trans hF21x
      have hfr := FR.step hfr hq25 (by decide) (fun _ h => absurd h List.not_mem_nil) (fun h => rfl)
      have P4 := h25_0
      refine lv_aload_n hx hb dX7_writeWord_88 rfl (lv_at hl 0 rfl) ?_
      refine lv_iload_n hx hb dX7_writeWord_89 rfl (lv_at hl 3 rfl) ?_
      refine lv_iconst (v := 4) hx hb dX7_writeWord_90 (by decide) ?_
      refine lv_iadd hx hb dX7_writeWord_91 ?_
      refine W.eq (g2 := F0 m 92 ls [.int (nI ((33 + (51 * v)) + 4)), .ref (b 6)]) (congrArg (fun z : Int32 => F0 m 92 ls (.int z :: [.ref (b 6)])) (nI_add (33 + (51 * v)) 4)) ?_
      refine lv_iconst (v := 2) hx hb dX7_writeWord_92 (by decide) ?_
      refine lv_iload hx hb dX7_writeWord_93 (lv_at hl 4 rfl) ?_
      refine lv_imul hx hb dX7_writeWord_95 ?_
      refine W.eq (g2 := F0 m 96 ls [.int (nI (2 * i_20)), .int (nI ((33 + (51 * v)) + 4)), .ref (b 6)]) (congrArg (fun z : Int32 => F0 m 96 ls (.int z :: [.int (nI ((33 + (51 * v)) + 4)), .ref (b 6)])) (pk_mul 2 i_20)) ?_
      refine lv_iadd hx hb dX7_writeWord_96 ?_
      refine W.eq (g2 := F0 m 97 ls [.int (nI (((33 + (51 * v)) + 4) + (2 * i_20))), .ref (b 6)]) (congrArg (fun z : Int32 => F0 m 97 ls (.int z :: [.ref (b 6)])) (nI_add ((33 + (51 * v)) + 4) (2 * i_20))) ?_
      refine lv_aload_n hx hb dX7_writeWord_97 rfl (lv_at hl 2 rfl) ?_
      refine lv_iload hx hb dX7_writeWord_98 (lv_at hl 4 rfl) ?_
      refine lv_iconst (v := 1) hx hb dX7_writeWord_100 (by decide) ?_
      refine lv_iadd hx hb dX7_writeWord_101 ?_
      refine W.eq (g2 := F0 m 102 ls [.int (nI (i_20 + 1)), .ref (b 8), .int (nI (((33 + (51 * v)) + 4) + (2 * i_20))), .ref (b 6)]) (congrArg (fun z : Int32 => F0 m 102 ls (.int z :: [.ref (b 8), .int (nI (((33 + (51 * v)) + 4) + (2 * i_20))), .ref (b 6)])) (nI_add i_20 1)) ?_
      refine vp_callSi (va_Run.run (va_runV (As := [.int (nI (i_20 + 1))]) (rest := [.int (nI (((33 + (51 * v)) + 4) + (2 * i_20))), .ref (b 6)]) ⟨hx, hb, hml, hown, noTs⟩ (q_X10_numberAt l dC dI H.size cs b u25 (i_20 + 1) cw hF27x (by first | assumption | omega | rfl | (congr 1; omega)) (by first | assumption | omega | rfl | (congr 1; omega))) ⟨cbE 1 (wd_717 hE) (wd_120 hE) (wd_714 hE) rfl rfl (by decide +kernel) ⟨Nat.le_of_ble_eq_true rfl, Nat.le_of_ble_eq_true rfl⟩, (wd_715 hE), (wd_716 hE)⟩ ⟨PQ.blind, q_recv 8 (by decide) rfl hK hP rfl, (q_pre (av := [.ref (b 8), .int (nI (i_20 + 1))]) hK hP hJ hE)⟩ rfl rfl hl.1 rfl (lv_room (Nat.le_of_ble_eq_true rfl)) dX7_writeWord_102 ⟨Nat.le_of_ble_eq_true rfl, Nat.le_of_ble_eq_true rfl⟩)) (fun r28 hr28 => ?_)
      refine qc_v hAL hS hA (va_runV (As := [.int (nI (((33 + (51 * v)) + 4) + (2 * i_20))), .int r28]) (rest := []) ⟨hx, hb, hml, hown, noTs⟩ (q_X7_put l dC dI H.size cs b u25 w26 hA26 (((33 + (51 * v)) + 4) + (2 * i_20)) r28 (by first | assumption | omega | rfl | (congr 1; omega))) ⟨cbE 2 (wd_590 hE) (wd_116 hE) (wd_587 hE) rfl rfl (by decide +kernel) ⟨Nat.le_of_ble_eq_true rfl, Nat.le_of_ble_eq_true rfl⟩, (wd_589 hE), (wd_14 hE)⟩ ⟨PQ.blind, q_recv 6 (by decide) rfl hK hP rfl, (q_pre (av := [.ref (b 6), .int (nI (((33 + (51 * v)) + 4) + (2 * i_20))), .int r28]) hK hP hJ hE)⟩ rfl rfl hl.1 rfl (lv_room (Nat.le_of_ble_eq_true rfl)) dX7_writeWord_105 ⟨Nat.le_of_ble_eq_true rfl, Nat.le_of_ble_eq_true rfl⟩) (fun u29 H locs hpo29 hP hS => ?_)
      obtain ⟨h29_0, hq29⟩ := hpo29
      obtain ⟨w30, hA30⟩ : ∃ g, rA u29 7 = g := ⟨_, rfl⟩
      rw [hA30] at h29_0
      have hF31x := (hq29.2.1 23 List.not_mem_nil).trans hF27x
      have hfr := FR.step hfr hq29 (by decide) (fun _ h => absurd h List.not_mem_nil) (fun h => rfl)
      have P5 := h29_0
      refine lv_iinc (v := nI (i_20 + 1)) (lv' := [(4, .int (nI (i_20 + 1))), (0, .ref (b 6)), (1, .int (nI v)), (2, .ref (b 8)), (3, .int (nI (33 + (51 * v))))]) hx hb dX7_writeWord_108 hl (k := 4) rfl (nI_1 i_20) (by decide) rfl (fun ls hl => ?_)
      refine lv_goto (tgt := 61) hx hb dX7_writeWord_111 (by decide) ?_
      exact ih20 _ u29 _ _ _ (by omega) ⟨hP, hS, hfr, (i_20 + 1), w30, rfl, (by first | assumption | omega | rfl | (congr 1; omega)), (by intro k hk; rw [P5, pk_un (by omega), P4, pk_un (by omega)]; exact hL20_1 k hk), hA30, lv_sub hl [1, 2, 3, 4, 0] rfl⟩
  · have c7 := mt (b_le (nI_toInt (n := cw) (by omega)) (show Int32.toInt 24 = 24 from rfl)).mpr c7
    exact W.vret hx hb hr (fun t ht hW => ⟨⟨u, rfl, ⟨(by first | (rw [hAc7]; done) | (rw [hAc7]; first | (intro k _; rfl) | (intro k hk; exact LW k hk))), hfr⟩, (show va_P (dC, dI) vwCl (qW cs b u) t.heap by rw [ht]; exact hP)⟩, hS.F ht⟩) hS.2.2 dX7_writeWord_17
set_option maxHeartbeats 4000000 in
set_option maxRecDepth 100000 in
theorem q_X7_addWord (l : Launch) (dC : Nat → ClassId) (dI : Nat → Nat → Nat) (sz : Nat) (cs : Nat → ClassId) (b : Nat → Nat) (u : RS) (dg : Nat → Int32) (hAc7 : rA u 7 = dg) (gg : PGr) (cw : Nat) (hF23 : rF u 23 = nI cw) (hp0 : DG dg gg) (hp1 : pW gg ≤ 9) (hp2 : cw ≤ 72) : Met l yX7_addWord [.code yX7_addWord cX7_addWord 3 (some .int)] ({ frames := 2, cells := 0, slots := 0, locals := 80 }) (PQ [.ref (b 6), .ref (b 8)] sz dC dI cs b u) (va_Qi (fun (r : Int32) (u' : RS) => (True) ∧ (DG (rA u' 7) (gW gg)) ∧ FR [7] [] false u u') (BQ dC dI cs b) (AQ b sz)) 0 0 (AQ b sz) := by
  refine Met.ofW (cc := cX7_addWord) (maxL := 3) (ret := (some .int)) (by decide) rfl ?_
  intro p e s m args below meth c s₁ B hml hv
  obtain ⟨rfl, hsz, hP, hK, hJ, hE⟩ := hv
  have hx := B.exec
  have hb := B.bytes
  have hr := B.returns
  have hown : s.vm.findClass RX7 = some m.cls := findClass_of_methodNamed B.named
  have hlocks := B.notSynchronized
  subst hsz
  have hAL : ∀ i, i < 12 → AQ b s.heap.size (b i) := fun i h => Or.inl ⟨i, h, rfl⟩
  have hA : ∀ q : Nat, s.heap.size ≤ q → AQ b s.heap.size q := fun q h => Or.inr h
  have hS : va_S (AQ b s.heap.size) s.heap s.heap [] := va_S.rf
  have hfr : FR [7] [] false u u := FR.refl
  have hl := lv_entry ([.ref (b 6), .ref (b 8)]) (n := 3) (Nat.le_of_ble_eq_true rfl)
  rw [lg_entry_eq]
  generalize (lg_sl ([.ref (b 6), .ref (b 8)]) ++ List.replicate (3 - (lg_sl ([.ref (b 6), .ref (b 8)])).length) Slot.unset).toArray = ls at hl ⊢
  have hl : lv_has ls 3 [(0, .ref (b 6)), (1, .ref (b 8))] := hl
  have d6 := hp0.2.1
  have e6 := hp0.2.2.2.1
  have w10 := hp0.2.2.2.2.2.1
  refine lv_aload_n hx hb dX7_addWord_0 rfl (lv_at hl 0 rfl) ?_
  refine vp_callSi (va_Run.run (va_runV (As := []) (rest := []) ⟨hx, hb, hml, hown, noTs⟩ (q_X7_words l dC dI s.heap.size cs b u dg hAc7) ⟨cbE 0 (wd_700 hE) (wd_116 hE) (wd_697 hE) rfl rfl (by decide +kernel) ⟨Nat.le_of_ble_eq_true rfl, Nat.le_of_ble_eq_true rfl⟩, (wd_698 hE), (wd_699 hE)⟩ ⟨PQ.blind, q_recv 6 (by decide) rfl hK hP rfl, (q_pre (av := [.ref (b 6)]) hK hP hJ hE)⟩ rfl rfl hl.1 rfl (lv_room (Nat.le_of_ble_eq_true rfl)) dX7_addWord_1 ⟨Nat.le_of_ble_eq_true rfl, Nat.le_of_ble_eq_true rfl⟩)) (fun r4 hr4 => ?_)
  have hr4 := hr4.trans (hp0.2.2.2.2.1)
  subst hr4
  refine lv_istore_n (lv' := [(2, .int (nI (pW gg))), (0, .ref (b 6)), (1, .ref (b 8))]) hx hb dX7_addWord_4 rfl hl (by decide) rfl (fun ls hl => ?_)
  refine lv_iload_n hx hb dX7_addWord_5 rfl (lv_at hl 0 rfl) ?_
  refine lv_bipush (v := 10) hx hb dX7_addWord_6 (by decide) ?_
  refine lv_icmp_lt (tgt := 13) hx hb dX7_addWord_8 (by decide) (fun c5 => ?_) (fun c5 => False.elim (by have c5 := mt (b_lt (nI_toInt (n := pW gg) (by omega)) (show Int32.toInt 10 = 10 from rfl)).mpr c5; omega))
  have c5 := (b_lt (nI_toInt (n := pW gg) (by omega)) (show Int32.toInt 10 = 10 from rfl)).mp c5
  refine lv_aload_n hx hb dX7_addWord_13 rfl (lv_at hl 1 rfl) ?_
  refine lv_iconst (v := 2) hx hb dX7_addWord_14 (by decide) ?_
  refine lv_iload_n hx hb dX7_addWord_15 rfl (lv_at hl 0 rfl) ?_
  refine lv_iconst (v := 1) hx hb dX7_addWord_16 (by decide) ?_
  refine lv_iadd hx hb dX7_addWord_17 ?_
  refine W.eq (g2 := F0 m 18 ls [.int (nI ((pW gg) + 1)), .int 2, .ref (b 6)]) (congrArg (fun z : Int32 => F0 m 18 ls (.int z :: [.int 2, .ref (b 6)])) (nI_add (pW gg) 1)) ?_
  refine qc_v hAL hS hA (va_runV (As := [.int (nI 2), .int (nI ((pW gg) + 1))]) (rest := []) ⟨hx, hb, hml, hown, noTs⟩ (q_X7_put l dC dI s.heap.size cs b u dg hAc7 2 (nI ((pW gg) + 1)) (by first | assumption | omega | rfl | (congr 1; omega))) ⟨cbE 2 (wd_590 hE) (wd_116 hE) (wd_587 hE) rfl rfl (by decide +kernel) ⟨Nat.le_of_ble_eq_true rfl, Nat.le_of_ble_eq_true rfl⟩, (wd_589 hE), (wd_14 hE)⟩ ⟨PQ.blind, q_recv 6 (by decide) rfl hK hP rfl, (q_pre (av := [.ref (b 6), .int (nI 2), .int (nI ((pW gg) + 1))]) hK hP hJ hE)⟩ rfl rfl hl.1 rfl (lv_room (Nat.le_of_ble_eq_true rfl)) dX7_addWord_18 ⟨Nat.le_of_ble_eq_true rfl, Nat.le_of_ble_eq_true rfl⟩) (fun u6 H locs hpo6 hP hS => ?_)
  obtain ⟨h6_0, hq6⟩ := hpo6
  obtain ⟨w7, hA7⟩ : ∃ g, rA u6 7 = g := ⟨_, rfl⟩
  rw [hA7] at h6_0
  have hF8x := (hq6.2.1 23 List.not_mem_nil).trans hF23
  have hfr := FR.step hfr hq6 (by decide) (fun _ h => absurd h List.not_mem_nil) (fun h => rfl)
  have P1 := h6_0
  refine lv_aload_n hx hb dX7_addWord_21 rfl (lv_at hl 1 rfl) ?_
  refine lv_iload_n hx hb dX7_addWord_22 rfl (lv_at hl 0 rfl) ?_
  refine lv_aload_n hx hb dX7_addWord_23 rfl (lv_at hl 2 rfl) ?_
  refine qc_v hAL hS hA (va_runV (As := [.int (nI (pW gg)), .ref (b 8)]) (rest := []) ⟨hx, hb, hml, hown, noTs⟩ (q_X7_writeWord l dC dI H.size cs b u6 w7 hA7 (pW gg) cw hF8x (by first | assumption | omega | rfl | (congr 1; omega)) (by rw [P1]; exact pk_us) (by first | assumption | omega | rfl | (congr 1; omega))) ⟨cbE 2 (wd_704 hE) (wd_116 hE) (wd_701 hE) rfl rfl (by decide +kernel) ⟨Nat.le_of_ble_eq_true rfl, Nat.le_of_ble_eq_true rfl⟩, (wd_702 hE), (wd_703 hE)⟩ ⟨PQ.blind, q_recv 6 (by decide) rfl hK hP rfl, (q_pre (av := [.ref (b 6), .int (nI (pW gg)), .ref (b 8)]) hK hP hJ hE)⟩ rfl rfl hl.1 rfl (lv_room (Nat.le_of_ble_eq_true rfl)) dX7_addWord_24 ⟨Nat.le_of_ble_eq_true rfl, Nat.le_of_ble_eq_true rfl⟩) (fun u9 H locs hpo9 hP hS => ?_)
  obtain ⟨h9_0, hq9⟩ := hpo9
  obtain ⟨w10, hA10⟩ : ∃ g, rA u9 7 = g := ⟨_, rfl⟩
  rw [hA10] at h9_0
  have hF11x := (hq9.2.1 23 List.not_mem_nil).trans hF8x
  have hfr := FR.step hfr hq9 (by decide) (fun _ h => absurd h List.not_mem_nil) (fun h => rfl)
  have P2 := h9_0
  refine lv_iload_n hx hb dX7_addWord_27 rfl (lv_at hl 0 rfl) ?_
  exact W.iret (v := nI (pW gg)) hx hb hr (fun t ht hW => ⟨⟨nI (pW gg), u9, rfl, ⟨trivial, (by first | (rw [hA10]; done) | (rw [hA10]; exact dg_w hp0 hp1 (by rw [P2 2 (by omega), P1]; exact pk_us) (fun k q1 q2 => by rw [P2 k q1, P1, pk_un q2]))), hfr⟩, (show va_P (dC, dI) vwCl (qW cs b u9) t.heap by rw [ht]; exact hP)⟩, hS.F ht⟩) hS.2.2 dX7_addWord_28
set_option maxHeartbeats 4000000 in
set_option maxRecDepth 100000 in
theorem q_J7_fill_53178 (l : Launch) (dC : Nat → ClassId) (dI : Nat → Nat → Nat) (sz : Nat) (cs : Nat → ClassId) (b : Nat → Nat) (u : RS) (dg : Nat → Int32) (hAc7 : rA u 7 = dg) : Met l yJ7_fill_53178 [.code yJ7_fill_53178 cJ7_fill_53178 4 none] ({ frames := 0, cells := 0, slots := 0, locals := 0 }) (PQ [.ref (b 7), .int 0] sz dC dI cs b u) (va_Qv (fun (u' : RS) => (∀ k, k < 543 → (rA u' 7) k = 0) ∧ FR [7] [] false u u') (BQ dC dI cs b) (AQ b sz)) 0 0 (AQ b sz) := by
  refine Met.ofW (cc := cJ7_fill_53178) (maxL := 4) (ret := none) (by decide) rfl ?_
  intro p e s m args below meth c s₁ B hml hv
  obtain ⟨rfl, hsz, hP, hK, hJ, hE⟩ := hv
  have hx := B.exec
  have hb := B.bytes
  have hr := B.returns
  have hown : s.vm.findClass RJ7 = some m.cls := findClass_of_methodNamed B.named
  have hlocks := B.notSynchronized
  subst hsz
  have hAL : ∀ i, i < 12 → AQ b s.heap.size (b i) := fun i h => Or.inl ⟨i, h, rfl⟩
  have hA : ∀ q : Nat, s.heap.size ≤ q → AQ b s.heap.size q := fun q h => Or.inr h
  have hS : va_S (AQ b s.heap.size) s.heap s.heap [] := va_S.rf
  have hfr : FR [7] [] false u u := FR.refl
  have hl := lv_entry ([.ref (b 7), .int 0]) (n := 4) (Nat.le_of_ble_eq_true rfl)
  rw [lg_entry_eq]
  generalize (lg_sl ([.ref (b 7), .int 0]) ++ List.replicate (4 - (lg_sl ([.ref (b 7), .int 0])).length) Slot.unset).toArray = ls at hl ⊢
  have hl : lv_has ls 4 [(0, .ref (b 7)), (1, .int 0)] := hl
  refine lv_iconst (v := 0) hx hb dJ7_fill_53178_0 (by decide) ?_
  refine lv_istore_n (lv' := [(2, .int 0), (0, .ref (b 7)), (1, .int 0)]) hx hb dJ7_fill_53178_1 rfl hl (by decide) rfl (fun ls hl => ?_)
  refine lv_aload_n hx hb dJ7_fill_53178_2 rfl (lv_at hl 1 rfl) ?_
  refine q_alen (j := 7) (t0 := 0) (v := 543) hx hb hK hP (by decide) rfl rfl rfl dJ7_fill_53178_3 ?_
  refine lv_istore_n (lv' := [(3, .int 543), (2, .int 0), (0, .ref (b 7)), (1, .int 0)]) hx hb dJ7_fill_53178_4 rfl hl (by decide) rfl (fun ls hl => ?_)
  refine q_ind (I := fun n u_ H locs ls => va_P (dC, dI) vwCl (qW cs b u_) H ∧ va_S (AQ b s.heap.size) s.heap H locs ∧ FR [7] [] false u u_ ∧ ∃ (i_1 : Nat) (d1_1 : Nat → Int32), n = 543 - i_1 ∧ (i_1 ≤ 543) ∧ (∀ k, k < i_1 → d1_1 k = 0) ∧ (rA u_ 7 = d1_1) ∧ lv_has ls 4 [(0, .ref (b 7)), (1, .int 0), (2, .int (nI i_1)), (3, .int 543)]) (fun n u1 H locs ls hI ih1 => ?_) _ u _ _ _ ⟨hP, hS, hfr, 0, dg, rfl, (by first | assumption | omega | rfl | (congr 1; omega)), (by intro k hk; omega), hAc7, lv_sub hl [2, 3, 1, 0] rfl⟩
  obtain ⟨hP, hS, hfr, i_1, d1_1, hmu1, hL1_0, hL1_1, hL1_2, hl⟩ := hI
  subst hmu1
  refine lv_iload_n hx hb dJ7_fill_53178_5 rfl (lv_at hl 2 rfl) ?_
  refine lv_iload_n hx hb dJ7_fill_53178_6 rfl (lv_at hl 3 rfl) ?_
  refine lv_icmp_ge (tgt := 20) hx hb dJ7_fill_53178_7 (by decide) (fun c2 => ?_) (fun c2 => ?_)
  · have c2 := (b_le (show Int32.toInt 543 = 543 from rfl) (nI_toInt (n := i_1) (by omega))).mp c2
    have LW := hL1_1
    have LE := hL1_0
    exact W.vret hx hb hr (fun t ht hW => ⟨⟨u1, rfl, ⟨(by first | (rw [hL1_2]; done) | (rw [hL1_2]; intro k hk; exact LW k (by omega))), hfr⟩, (show va_P (dC, dI) vwCl (qW cs b u1) t.heap by rw [ht]; exact hP)⟩, hS.F ht⟩) hS.2.2 dJ7_fill_53178_20
  · have c2 := mt (b_le (show Int32.toInt 543 = 543 from rfl) (nI_toInt (n := i_1) (by omega))).mpr c2
    refine lv_aload_n hx hb dJ7_fill_53178_10 rfl (lv_at hl 0 rfl) ?_
    refine lv_iload_n hx hb dJ7_fill_53178_11 rfl (lv_at hl 2 rfl) ?_
    refine lv_iload_n hx hb dJ7_fill_53178_12 rfl (lv_at hl 1 rfl) ?_
    refine q_iast (j := 7) (k := i_1) (n := 543) (x := 0) hx hb hK hP hJ hAL hS (by decide) (fun _ => rfl) hL1_2 (by omega) (by decide) dJ7_fill_53178_13 (fun u3 H locs hs3 hq3 hP hS => ?_)
    obtain ⟨w3, hw3⟩ : ∃ g, g = upd d1_1 i_1 0 := ⟨_, rfl⟩
    rw [← hw3] at hs3
    have hfr := FR.step hfr hq3 (by decide) (fun _ h => absurd h List.not_mem_nil) (fun h => rfl)
    have WF := hw3
    refine lv_iinc (v := nI (i_1 + 1)) (lv' := [(2, .int (nI (i_1 + 1))), (0, .ref (b 7)), (1, .int 0), (3, .int 543)]) hx hb dJ7_fill_53178_14 hl (k := 2) rfl (nI_1 i_1) (by decide) rfl (fun ls hl => ?_)
    refine lv_goto (tgt := 5) hx hb dJ7_fill_53178_17 (by decide) ?_
    exact ih1 _ u3 _ _ _ (by omega) ⟨hP, hS, hfr, (i_1 + 1), w3, rfl, (by first | assumption | omega | rfl | (congr 1; omega)), (by exact upd_lt (R := fun _ => 0) WF rfl hL1_1), hs3, lv_sub hl [1, 2, 0, 3] rfl⟩
set_option maxHeartbeats 4000000 in
set_option maxRecDepth 100000 in
theorem q_X7_clear (l : Launch) (dC : Nat → ClassId) (dI : Nat → Nat → Nat) (sz : Nat) (cs : Nat → ClassId) (b : Nat → Nat) (u : RS) (dg : Nat → Int32) (hAc7 : rA u 7 = dg) : Met l yX7_clear [.code yX7_clear cX7_clear 1 none] ({ frames := 1, cells := 0, slots := 0, locals := 40 }) (PQ [.ref (b 6)] sz dC dI cs b u) (va_Qv (fun (u' : RS) => (∀ k, k < 543 → (rA u' 7) k = 0) ∧ FR [7] [] false u u') (BQ dC dI cs b) (AQ b sz)) 0 0 (AQ b sz) := by
  refine Met.ofW (cc := cX7_clear) (maxL := 1) (ret := none) (by decide) rfl ?_
  intro p e s m args below meth c s₁ B hml hv
  obtain ⟨rfl, hsz, hP, hK, hJ, hE⟩ := hv
  have hx := B.exec
  have hb := B.bytes
  have hr := B.returns
  have hown : s.vm.findClass RX7 = some m.cls := findClass_of_methodNamed B.named
  have hlocks := B.notSynchronized
  subst hsz
  have hAL : ∀ i, i < 12 → AQ b s.heap.size (b i) := fun i h => Or.inl ⟨i, h, rfl⟩
  have hA : ∀ q : Nat, s.heap.size ≤ q → AQ b s.heap.size q := fun q h => Or.inr h
  have hS : va_S (AQ b s.heap.size) s.heap s.heap [] := va_S.rf
  have hfr : FR [7] [] false u u := FR.refl
  have hl := lv_entry ([.ref (b 6)]) (n := 1) (Nat.le_of_ble_eq_true rfl)
  rw [lg_entry_eq]
  generalize (lg_sl ([.ref (b 6)]) ++ List.replicate (1 - (lg_sl ([.ref (b 6)])).length) Slot.unset).toArray = ls at hl ⊢
  have hl : lv_has ls 1 [(0, .ref (b 6))] := hl
  refine lv_aload_n hx hb dX7_clear_0 rfl (lv_at hl 0 rfl) ?_
  refine q_get (v := .ref (b 7)) hx hb 6 (by decide) rfl (ly_X7 hE) hown hK hP rfl 0 (by decide) (wd_149 hE) (fun _ h9 => h9) rfl dX7_clear_1 ?_
  refine lv_iconst (v := 0) hx hb dX7_clear_4 (by decide) ?_
  refine qc_v hAL hS hA (va_runS (As := [.ref (b 7), .int 0]) (rest := []) ⟨hx, hb, hml, hown, noTs⟩ (q_J7_fill_53178 l dC dI s.heap.size cs b u dg hAc7) ⟨cbE 2 (wd_447 hE) (wd_127 hE) (wd_445 hE) rfl rfl (by decide +kernel) ⟨Nat.le_of_ble_eq_true rfl, Nat.le_of_ble_eq_true rfl⟩, (wd_446 hE)⟩ ⟨PQ.blind, (q_pre (av := [.ref (b 7), .int 0]) hK hP hJ hE)⟩ rfl rfl hl.1 rfl (lv_room (Nat.le_of_ble_eq_true rfl)) dX7_clear_5 ⟨Nat.le_of_ble_eq_true rfl, Nat.le_of_ble_eq_true rfl⟩) (fun u1 H locs hpo1 hP hS => ?_)
  obtain ⟨h1_0, hq1⟩ := hpo1
  obtain ⟨w2, hA2⟩ : ∃ g, rA u1 7 = g := ⟨_, rfl⟩
  rw [hA2] at h1_0
  have hfr := FR.step hfr hq1 (by decide) (fun _ h => absurd h List.not_mem_nil) (fun h => rfl)
  exact W.vret hx hb hr (fun t ht hW => ⟨⟨u1, rfl, ⟨(by first | (rw [hA2]; done) | (rw [hA2]; first | assumption | omega | rfl | (congr 1; omega))), hfr⟩, (show va_P (dC, dI) vwCl (qW cs b u1) t.heap by rw [ht]; exact hP)⟩, hS.F ht⟩) hS.2.2 dX7_clear_8
set_option maxHeartbeats 4000000 in
set_option maxRecDepth 100000 in
theorem q_X5_kind (l : Launch) (dC : Nat → ClassId) (dI : Nat → Nat → Nat) (sz : Nat) (cs : Nat → ClassId) (b : Nat → Nat) (u : RS) (tx : Nat → Int32) (hAc5 : rA u 5 = tx) (k2 : Nat → Int32) (hAc2 : rA u 2 = k2) (k3 : Nat → Int32) (hAc3 : rA u 3 = k3) (k4 : Nat → Int32) (hAc4 : rA u 4 = k4) (sz1 : Nat) (c1 : Nat) (i0 : Nat) (hF13 : rF u 13 = nI c1) (hF14 : rF u 14 = 1) (hF15 : rF u 15 = nI sz1) (hF4 : rF u 4 = nI i0) (hp0 : BY tx) (hp1 : sz1 ≤ 700) (hp2 : QTK k2 k3 k4 tx sz1 c1) (hp3 : i0 ≤ c1) : Met l yX5_kind [.code yX5_kind cX5_kind 1 (some .int)] ({ frames := 1, cells := 0, slots := 0, locals := 40 }) (PQ [.ref (b 0)] sz dC dI cs b u) (vp_Si (fun (r : Int32) => r = nI (kd tx sz1 (bgi tx sz1 i0)))) 0 0 (fun _ => False) := by
  refine Met.ofW (cc := cX5_kind) (maxL := 1) (ret := (some .int)) (by decide) rfl ?_
  intro p e s m args below meth c s₁ B hml hv
  obtain ⟨rfl, hsz, hP, hK, hJ, hE⟩ := hv
  have hx := B.exec
  have hb := B.bytes
  have hr := B.returns
  have hown : s.vm.findClass RX5 = some m.cls := findClass_of_methodNamed B.named
  have hlocks := B.notSynchronized
  subst hsz
  have hl := lv_entry ([.ref (b 0)]) (n := 1) (Nat.le_of_ble_eq_true rfl)
  rw [lg_entry_eq]
  generalize (lg_sl ([.ref (b 0)]) ++ List.replicate (1 - (lg_sl ([.ref (b 0)])).length) Slot.unset).toArray = ls at hl ⊢
  have hl : lv_has ls 1 [(0, .ref (b 0))] := hl
  have hc7 := hp2.1
  have kdf := kd_f tx sz1 (bgi tx sz1 (i0))
  have bq : i0 = c1 → bgi tx sz1 (i0) = sz1 := fun h => by rw [h]; exact hp2.2.1
  have bz : i0 < c1 → bgi tx sz1 (i0) < sz1 := fun h => (hp2.2.2 _ h).1
  refine lv_aload_n hx hb dX5_kind_0 rfl (lv_at hl 0 rfl) ?_
  refine q_get (v := .ref (b 1)) hx hb 0 (by decide) rfl (ly_X5 hE) hown hK hP rfl 0 (by decide) (wd_227 hE) (fun _ h9 => h9) rfl dX5_kind_1 ?_
  refine lv_aload_n hx hb dX5_kind_4 rfl (lv_at hl 0 rfl) ?_
  refine q_get (v := .int (nI i0)) hx hb 0 (by decide) rfl (ly_X5 hE) hown hK hP rfl 4 (by decide) (wd_231 hE) (fun _ h9 => h9) (congrArg (fun z : Int32 => some (Value.int z)) hF4) dX5_kind_5 ?_
  refine vp_callSi (va_Run.run (va_runV (As := [.int (nI i0)]) (rest := []) ⟨hx, hb, hml, hown, noTs⟩ (q_X9_kindAt l dC dI s.heap.size cs b u tx hAc5 k2 hAc2 k3 hAc3 k4 hAc4 i0 sz1 c1 hF14 hF15 hF13 (by first | assumption | omega | rfl | (congr 1; omega)) (by first | assumption | omega | rfl | (congr 1; omega)) (by first | assumption | omega | rfl | (congr 1; omega)) (by first | assumption | omega | rfl | (congr 1; omega))) ⟨cbE 1 (wd_549 hE) (wd_119 hE) (wd_546 hE) rfl rfl (by decide +kernel) ⟨Nat.le_of_ble_eq_true rfl, Nat.le_of_ble_eq_true rfl⟩, (wd_547 hE), (wd_548 hE)⟩ ⟨PQ.blind, q_recv 1 (by decide) rfl hK hP rfl, (q_pre (av := [.ref (b 1), .int (nI i0)]) hK hP hJ hE)⟩ rfl rfl hl.1 rfl (lv_room (Nat.le_of_ble_eq_true rfl)) dX5_kind_8 ⟨Nat.le_of_ble_eq_true rfl, Nat.le_of_ble_eq_true rfl⟩)) (fun r5 hr5 => ?_)
  subst hr5
  exact W.iret (v := nI (kd tx sz1 (bgi tx sz1 i0))) hx hb hr (fun t ht hW => ⟨nI (kd tx sz1 (bgi tx sz1 i0)), rfl, (by first | rfl | omega | (congr 1; omega) | assumption), ht⟩) (fun _ h => absurd h List.not_mem_nil) dX5_kind_11
set_option maxHeartbeats 4000000 in
set_option maxRecDepth 100000 in
theorem q_X5_value (l : Launch) (dC : Nat → ClassId) (dI : Nat → Nat → Nat) (sz : Nat) (cs : Nat → ClassId) (b : Nat → Nat) (u : RS) (tx : Nat → Int32) (hAc5 : rA u 5 = tx) (k2 : Nat → Int32) (hAc2 : rA u 2 = k2) (k3 : Nat → Int32) (hAc3 : rA u 3 = k3) (k4 : Nat → Int32) (hAc4 : rA u 4 = k4) (sz1 : Nat) (c1 : Nat) (i0 : Nat) (hF13 : rF u 13 = nI c1) (hF14 : rF u 14 = 1) (hF15 : rF u 15 = nI sz1) (hF4 : rF u 4 = nI i0) (hp0 : BY tx) (hp1 : sz1 ≤ 700) (hp2 : QTK k2 k3 k4 tx sz1 c1) (hp3 : i0 ≤ c1) : Met l yX5_value [.code yX5_value cX5_value 1 (some .int)] ({ frames := 1, cells := 0, slots := 0, locals := 40 }) (PQ [.ref (b 0)] sz dC dI cs b u) (vp_Si (fun (r : Int32) => r = nI (vv tx sz1 (bgi tx sz1 i0)))) 0 0 (fun _ => False) := by
  refine Met.ofW (cc := cX5_value) (maxL := 1) (ret := (some .int)) (by decide) rfl ?_
  intro p e s m args below meth c s₁ B hml hv
  obtain ⟨rfl, hsz, hP, hK, hJ, hE⟩ := hv
  have hx := B.exec
  have hb := B.bytes
  have hr := B.returns
  have hown : s.vm.findClass RX5 = some m.cls := findClass_of_methodNamed B.named
  have hlocks := B.notSynchronized
  subst hsz
  have hl := lv_entry ([.ref (b 0)]) (n := 1) (Nat.le_of_ble_eq_true rfl)
  rw [lg_entry_eq]
  generalize (lg_sl ([.ref (b 0)]) ++ List.replicate (1 - (lg_sl ([.ref (b 0)])).length) Slot.unset).toArray = ls at hl ⊢
  have hl : lv_has ls 1 [(0, .ref (b 0))] := hl
  have hc7 := hp2.1
  have kdf := kd_f tx sz1 (bgi tx sz1 (i0))
  have bq : i0 = c1 → bgi tx sz1 (i0) = sz1 := fun h => by rw [h]; exact hp2.2.1
  have bz : i0 < c1 → bgi tx sz1 (i0) < sz1 := fun h => (hp2.2.2 _ h).1
  refine lv_aload_n hx hb dX5_value_0 rfl (lv_at hl 0 rfl) ?_
  refine q_get (v := .ref (b 1)) hx hb 0 (by decide) rfl (ly_X5 hE) hown hK hP rfl 0 (by decide) (wd_227 hE) (fun _ h9 => h9) rfl dX5_value_1 ?_
  refine lv_aload_n hx hb dX5_value_4 rfl (lv_at hl 0 rfl) ?_
  refine q_get (v := .int (nI i0)) hx hb 0 (by decide) rfl (ly_X5 hE) hown hK hP rfl 4 (by decide) (wd_231 hE) (fun _ h9 => h9) (congrArg (fun z : Int32 => some (Value.int z)) hF4) dX5_value_5 ?_
  refine vp_callSi (va_Run.run (va_runV (As := [.int (nI i0)]) (rest := []) ⟨hx, hb, hml, hown, noTs⟩ (q_X9_valueAt l dC dI s.heap.size cs b u tx hAc5 k2 hAc2 k3 hAc3 k4 hAc4 i0 sz1 c1 hF14 hF15 hF13 (by first | assumption | omega | rfl | (congr 1; omega)) (by first | assumption | omega | rfl | (congr 1; omega)) (by first | assumption | omega | rfl | (congr 1; omega)) (by first | assumption | omega | rfl | (congr 1; omega))) ⟨cbE 1 (wd_573 hE) (wd_119 hE) (wd_570 hE) rfl rfl (by decide +kernel) ⟨Nat.le_of_ble_eq_true rfl, Nat.le_of_ble_eq_true rfl⟩, (wd_571 hE), (wd_572 hE)⟩ ⟨PQ.blind, q_recv 1 (by decide) rfl hK hP rfl, (q_pre (av := [.ref (b 1), .int (nI i0)]) hK hP hJ hE)⟩ rfl rfl hl.1 rfl (lv_room (Nat.le_of_ble_eq_true rfl)) dX5_value_8 ⟨Nat.le_of_ble_eq_true rfl, Nat.le_of_ble_eq_true rfl⟩)) (fun r5 hr5 => ?_)
  subst hr5
  exact W.iret (v := nI (vv tx sz1 (bgi tx sz1 i0))) hx hb hr (fun t ht hW => ⟨nI (vv tx sz1 (bgi tx sz1 i0)), rfl, (by first | rfl | omega | (congr 1; omega) | assumption), ht⟩) (fun _ h => absurd h List.not_mem_nil) dX5_value_11
set_option maxHeartbeats 4000000 in
set_option maxRecDepth 100000 in
theorem q_X5_passes_1 (l : Launch) (dC : Nat → ClassId) (dI : Nat → Nat → Nat) (sz : Nat) (cs : Nat → ClassId) (b : Nat → Nat) (u : RS) (w1 : Nat) (hF7 : rF u 7 = 0) : Met l yX5_passes [.code yX5_passes cX5_passes 3 (some .boolean)] ({ frames := 0, cells := 0, slots := 0, locals := 0 }) (PQ [.ref (b 0), .int 1, .int (nI w1)] sz dC dI cs b u) (vp_Si (fun (r : Int32) => r = 1)) 0 0 (fun _ => False) := by
  refine Met.ofW (cc := cX5_passes) (maxL := 3) (ret := (some .boolean)) (by decide) rfl ?_
  intro p e s m args below meth c s₁ B hml hv
  obtain ⟨rfl, hsz, hP, hK, hJ, hE⟩ := hv
  have hx := B.exec
  have hb := B.bytes
  have hr := B.returns
  have hown : s.vm.findClass RX5 = some m.cls := findClass_of_methodNamed B.named
  have hlocks := B.notSynchronized
  subst hsz
  have hl := lv_entry ([.ref (b 0), .int 1, .int (nI w1)]) (n := 3) (Nat.le_of_ble_eq_true rfl)
  rw [lg_entry_eq]
  generalize (lg_sl ([.ref (b 0), .int 1, .int (nI w1)]) ++ List.replicate (3 - (lg_sl ([.ref (b 0), .int 1, .int (nI w1)])).length) Slot.unset).toArray = ls at hl ⊢
  have hl : lv_has ls 3 [(0, .ref (b 0)), (1, .int 1), (2, .int (nI w1))] := hl
  refine lv_iload_n hx hb dX5_passes_0 rfl (lv_at hl 1 rfl) ?_
  refine lv_if_ne (tgt := 39) hx hb dX5_passes_1 (by decide) (fun c1 => ?_) (fun c1 => absurd c1 (by decide))
  refine lv_aload_n hx hb dX5_passes_39 rfl (lv_at hl 0 rfl) ?_
  refine q_get (v := .int 0) hx hb 0 (by decide) rfl (ly_X5 hE) hown hK hP rfl 7 (by decide) (wd_234 hE) (fun _ h9 => h9) (congrArg (fun z : Int32 => some (Value.int z)) hF7) dX5_passes_40 ?_
  refine lv_if_ne (tgt := 50) hx hb dX5_passes_43 (by decide) (fun c2 => absurd c2 (by decide)) (fun c2 => ?_)
  refine lv_iconst (v := 1) hx hb dX5_passes_46 (by decide) ?_
  refine lv_goto (tgt := 51) hx hb dX5_passes_47 (by decide) ?_
  exact W.zret (v := 1) hx hb hr rfl (fun t ht hW => ⟨1, rfl, (by first | rfl | omega | (congr 1; omega) | assumption), ht⟩) (fun _ h => absurd h List.not_mem_nil) dX5_passes_51
set_option maxHeartbeats 4000000 in
set_option maxRecDepth 100000 in
theorem q_X5_passes_0 (l : Launch) (dC : Nat → ClassId) (dI : Nat → Nat → Nat) (sz : Nat) (cs : Nat → ClassId) (b : Nat → Nat) (u : RS) (tx : Nat → Int32) (hAc5 : rA u 5 = tx) (k2 : Nat → Int32) (hAc2 : rA u 2 = k2) (k3 : Nat → Int32) (hAc3 : rA u 3 = k3) (k4 : Nat → Int32) (hAc4 : rA u 4 = k4) (w1 : Nat) (sz1 : Nat) (c1 : Nat) (i0 : Nat) (ln : Nat) (hF13 : rF u 13 = nI c1) (hF14 : rF u 14 = 1) (hF15 : rF u 15 = nI sz1) (hF4 : rF u 4 = nI i0) (hF6 : rF u 6 = nI ln) (hF7 : rF u 7 = 0) (hp0 : BY tx) (hp1 : sz1 ≤ 700) (hp2 : QTK k2 k3 k4 tx sz1 c1) (hp3 : i0 ≤ c1) (hp4 : 1 ≤ w1) (hp5 : w1 ≤ 9) : Met l yX5_passes [.code yX5_passes cX5_passes 3 (some .boolean)] ({ frames := 1, cells := 0, slots := 0, locals := 40 }) (PQ [.ref (b 0), .int 0, .int (nI w1)] sz dC dI cs b u) (va_Qi (fun (r : Int32) (u' : RS) => (r = 0) ∧ (rF u' 7 = nI w1) ∧ (rF u' 8 = nI (bgi tx sz1 i0)) ∧ (rF u' 9 = nI ln) ∧ FR [] [7, 8, 9] false u u') (BQ dC dI cs b) (AQ b sz)) 0 0 (AQ b sz) := by
  refine Met.ofW (cc := cX5_passes) (maxL := 3) (ret := (some .boolean)) (by decide) rfl ?_
  intro p e s m args below meth c s₁ B hml hv
  obtain ⟨rfl, hsz, hP, hK, hJ, hE⟩ := hv
  have hx := B.exec
  have hb := B.bytes
  have hr := B.returns
  have hown : s.vm.findClass RX5 = some m.cls := findClass_of_methodNamed B.named
  have hlocks := B.notSynchronized
  subst hsz
  have hAL : ∀ i, i < 12 → AQ b s.heap.size (b i) := fun i h => Or.inl ⟨i, h, rfl⟩
  have hA : ∀ q : Nat, s.heap.size ≤ q → AQ b s.heap.size q := fun q h => Or.inr h
  have hS : va_S (AQ b s.heap.size) s.heap s.heap [] := va_S.rf
  have hfr : FR [] [7, 8, 9] false u u := FR.refl
  have hl := lv_entry ([.ref (b 0), .int 0, .int (nI w1)]) (n := 3) (Nat.le_of_ble_eq_true rfl)
  rw [lg_entry_eq]
  generalize (lg_sl ([.ref (b 0), .int 0, .int (nI w1)]) ++ List.replicate (3 - (lg_sl ([.ref (b 0), .int 0, .int (nI w1)])).length) Slot.unset).toArray = ls at hl ⊢
  have hl : lv_has ls 3 [(0, .ref (b 0)), (1, .int 0), (2, .int (nI w1))] := hl
  have hc7 := hp2.1
  have kdf := kd_f tx sz1 (bgi tx sz1 (i0))
  have bq : i0 = c1 → bgi tx sz1 (i0) = sz1 := fun h => by rw [h]; exact hp2.2.1
  have bz : i0 < c1 → bgi tx sz1 (i0) < sz1 := fun h => (hp2.2.2 _ h).1
  refine lv_iload_n hx hb dX5_passes_0 rfl (lv_at hl 1 rfl) ?_
  refine lv_if_ne (tgt := 39) hx hb dX5_passes_1 (by decide) (fun c7 => absurd c7 (by decide)) (fun c7 => ?_)
  refine lv_aload_n hx hb dX5_passes_4 rfl (lv_at hl 0 rfl) ?_
  refine q_get (v := .int 0) hx hb 0 (by decide) rfl (ly_X5 hE) hown hK hP rfl 7 (by decide) (wd_234 hE) (fun _ h9 => h9) (congrArg (fun z : Int32 => some (Value.int z)) hF7) dX5_passes_5 ?_
  refine lv_if_ne (tgt := 39) hx hb dX5_passes_8 (by decide) (fun c8 => absurd c8 (by decide)) (fun c8 => ?_)
  refine lv_aload_n hx hb dX5_passes_11 rfl (lv_at hl 0 rfl) ?_
  refine lv_iload_n hx hb dX5_passes_12 rfl (lv_at hl 2 rfl) ?_
  refine q_put (v := nI w1) (ty := .int) hx hb 0 7 (by decide) (ly_X5 hE) tyX5 tyX5_ok nmX5 hown hK hP hJ hAL hS rfl 7 (by decide) (wd_234 hE) (fun _ h9 => h9) rfl (by decide +kernel) rfl rfl rfl rfl (qE_put0 (by decide)) (Nat.le_of_ble_eq_true rfl) dX5_passes_13 (fun u9 H locs hf9 hq9 hP hS => ?_)
  have hA10 := (hq9.1 5 List.not_mem_nil).trans hAc5
  have hA11 := (hq9.1 2 List.not_mem_nil).trans hAc2
  have hA12 := (hq9.1 3 List.not_mem_nil).trans hAc3
  have hA13 := (hq9.1 4 List.not_mem_nil).trans hAc4
  have hF14x := (hq9.2.1 13 (by decide)).trans hF13
  have hF15x := (hq9.2.1 14 (by decide)).trans hF14
  have hF16x := (hq9.2.1 15 (by decide)).trans hF15
  have hF17x := (hq9.2.1 4 (by decide)).trans hF4
  have hF18x := (hq9.2.1 6 (by decide)).trans hF6
  have hfr := FR.step hfr hq9 (fun _ h => absurd h List.not_mem_nil) (by decide) (fun h => rfl)
  refine lv_aload_n hx hb dX5_passes_16 rfl (lv_at hl 0 rfl) ?_
  refine lv_aload_n hx hb dX5_passes_17 rfl (lv_at hl 0 rfl) ?_
  refine q_get (v := .ref (b 1)) hx hb 0 (by decide) rfl (ly_X5 hE) hown hK hP rfl 0 (by decide) (wd_227 hE) (fun _ h9 => h9) rfl dX5_passes_18 ?_
  refine lv_aload_n hx hb dX5_passes_21 rfl (lv_at hl 0 rfl) ?_
  refine q_get (v := .int (nI i0)) hx hb 0 (by decide) rfl (ly_X5 hE) hown hK hP rfl 4 (by decide) (wd_231 hE) (fun _ h9 => h9) (congrArg (fun z : Int32 => some (Value.int z)) hF17x) dX5_passes_22 ?_
  refine vp_callSi (va_Run.run (va_runV (As := [.int (nI i0)]) (rest := [.ref (b 0)]) ⟨hx, hb, hml, hown, noTs⟩ (q_X9_placeAt l dC dI H.size cs b u9 tx hA10 k2 hA11 k3 hA12 k4 hA13 i0 sz1 c1 hF15x hF16x hF14x (by first | assumption | omega | rfl | (congr 1; omega)) (by first | assumption | omega | rfl | (congr 1; omega)) (by first | assumption | omega | rfl | (congr 1; omega)) (by first | assumption | omega | rfl | (congr 1; omega))) ⟨cbE 1 (wd_565 hE) (wd_119 hE) (wd_562 hE) rfl rfl (by decide +kernel) ⟨Nat.le_of_ble_eq_true rfl, Nat.le_of_ble_eq_true rfl⟩, (wd_563 hE), (wd_564 hE)⟩ ⟨PQ.blind, q_recv 1 (by decide) rfl hK hP rfl, (q_pre (av := [.ref (b 1), .int (nI i0)]) hK hP hJ hE)⟩ rfl rfl hl.1 rfl (lv_room (Nat.le_of_ble_eq_true rfl)) dX5_passes_25 ⟨Nat.le_of_ble_eq_true rfl, Nat.le_of_ble_eq_true rfl⟩)) (fun r19 hr19 => ?_)
  subst hr19
  refine q_put (v := nI (bgi tx sz1 i0)) (ty := .int) hx hb 0 8 (by decide) (ly_X5 hE) tyX5 tyX5_ok nmX5 hown hK hP hJ hAL hS rfl 8 (by decide) (wd_235 hE) (fun _ h9 => h9) rfl (by decide +kernel) rfl rfl rfl rfl (qE_put0 (by decide)) (Nat.le_of_ble_eq_true rfl) dX5_passes_28 (fun u20 H locs hf20 hq20 hP hS => ?_)
  have hA21 := (hq20.1 5 List.not_mem_nil).trans hA10
  have hA22 := (hq20.1 2 List.not_mem_nil).trans hA11
  have hA23 := (hq20.1 3 List.not_mem_nil).trans hA12
  have hA24 := (hq20.1 4 List.not_mem_nil).trans hA13
  have hF25x := (hq20.2.1 13 (by decide)).trans hF14x
  have hF26x := (hq20.2.1 14 (by decide)).trans hF15x
  have hF27x := (hq20.2.1 15 (by decide)).trans hF16x
  have hF28x := (hq20.2.1 4 (by decide)).trans hF17x
  have hF29x := (hq20.2.1 6 (by decide)).trans hF18x
  have hF30x := (hq20.2.1 7 (by decide)).trans hf9
  have hfr := FR.step hfr hq20 (fun _ h => absurd h List.not_mem_nil) (by decide) (fun h => rfl)
  refine lv_aload_n hx hb dX5_passes_31 rfl (lv_at hl 0 rfl) ?_
  refine lv_aload_n hx hb dX5_passes_32 rfl (lv_at hl 0 rfl) ?_
  refine q_get (v := .int (nI ln)) hx hb 0 (by decide) rfl (ly_X5 hE) hown hK hP rfl 6 (by decide) (wd_233 hE) (fun _ h9 => h9) (congrArg (fun z : Int32 => some (Value.int z)) hF29x) dX5_passes_33 ?_
  refine q_put (v := nI ln) (ty := .int) hx hb 0 9 (by decide) (ly_X5 hE) tyX5 tyX5_ok nmX5 hown hK hP hJ hAL hS rfl 9 (by decide) (wd_236 hE) (fun _ h9 => h9) rfl (by decide +kernel) rfl rfl rfl rfl (qE_put0 (by decide)) (Nat.le_of_ble_eq_true rfl) dX5_passes_36 (fun u31 H locs hf31 hq31 hP hS => ?_)
  have hA32 := (hq31.1 5 List.not_mem_nil).trans hA21
  have hA33 := (hq31.1 2 List.not_mem_nil).trans hA22
  have hA34 := (hq31.1 3 List.not_mem_nil).trans hA23
  have hA35 := (hq31.1 4 List.not_mem_nil).trans hA24
  have hF36x := (hq31.2.1 13 (by decide)).trans hF25x
  have hF37x := (hq31.2.1 14 (by decide)).trans hF26x
  have hF38x := (hq31.2.1 15 (by decide)).trans hF27x
  have hF39x := (hq31.2.1 4 (by decide)).trans hF28x
  have hF40x := (hq31.2.1 6 (by decide)).trans hF29x
  have hF41x := (hq31.2.1 7 (by decide)).trans hF30x
  have hF42x := (hq31.2.1 8 (by decide)).trans hf20
  have hfr := FR.step hfr hq31 (fun _ h => absurd h List.not_mem_nil) (by decide) (fun h => rfl)
  refine lv_aload_n hx hb dX5_passes_39 rfl (lv_at hl 0 rfl) ?_
  refine q_get (v := .int (nI w1)) hx hb 0 (by decide) rfl (ly_X5 hE) hown hK hP rfl 7 (by decide) (wd_234 hE) (fun _ h9 => h9) (congrArg (fun z : Int32 => some (Value.int z)) hF41x) dX5_passes_40 ?_
  refine lv_if_ne (tgt := 50) hx hb dX5_passes_43 (by decide) (fun c43 => ?_) (fun c43 => False.elim (by have c43 := (b_eq (nI_toInt (n := w1) (by omega)) (show Int32.toInt 0 = 0 from rfl)).mp c43; omega))
  have c43 := mt (b_eq (nI_toInt (n := w1) (by omega)) (show Int32.toInt 0 = 0 from rfl)).mpr c43
  refine lv_iconst (v := 0) hx hb dX5_passes_50 (by decide) ?_
  exact W.zret (v := 0) hx hb hr rfl (fun t ht hW => ⟨⟨0, u31, rfl, ⟨(by first | rfl | omega | (congr 1; omega) | assumption), (by first | (rw [hF41x]; done) | (rw [hF41x]; first | assumption | omega | rfl | (congr 1; omega))), (by first | (rw [hF42x]; done) | (rw [hF42x]; first | assumption | omega | rfl | (congr 1; omega))), (by first | (rw [hf31]; done) | (rw [hf31]; first | assumption | omega | rfl | (congr 1; omega))), hfr⟩, (show va_P (dC, dI) vwCl (qW cs b u31) t.heap by rw [ht]; exact hP)⟩, hS.F ht⟩) hS.2.2 dX5_passes_51
set_option maxHeartbeats 4000000 in
set_option maxRecDepth 100000 in
theorem q_X5_stands (l : Launch) (dC : Nat → ClassId) (dI : Nat → Nat → Nat) (sz : Nat) (cs : Nat → ClassId) (b : Nat → Nat) (u : RS) (tx : Nat → Int32) (hAc5 : rA u 5 = tx) (k2 : Nat → Int32) (hAc2 : rA u 2 = k2) (k3 : Nat → Int32) (hAc3 : rA u 3 = k3) (k4 : Nat → Int32) (hAc4 : rA u 4 = k4) (w1 : Nat) (sz1 : Nat) (c1 : Nat) (i0 : Nat) (ln : Nat) (x8 : Int32) (x9 : Int32) (hF13 : rF u 13 = nI c1) (hF14 : rF u 14 = 1) (hF15 : rF u 15 = nI sz1) (hF4 : rF u 4 = nI i0) (hF6 : rF u 6 = nI ln) (hF7 : rF u 7 = 0) (hF8 : rF u 8 = x8) (hF9 : rF u 9 = x9) (hp0 : BY tx) (hp1 : sz1 ≤ 700) (hp2 : QTK k2 k3 k4 tx sz1 c1) (hp3 : i0 ≤ c1) (hp4 : w1 ≤ 9) : Met l yX5_stands [.code yX5_stands cX5_stands 3 (some .boolean)] ({ frames := 2, cells := 0, slots := 0, locals := 80 }) (PQ [.ref (b 0), .int (nI w1)] sz dC dI cs b u) (va_Qi (fun (r : Int32) (u' : RS) => ((r = 1 ∧ (kd tx sz1 (bgi tx sz1 i0) = w1 ∧ rF u' 7 = 0 ∧ rF u' 8 = x8 ∧ rF u' 9 = x9)) ∨ (r = 0 ∧ (kd tx sz1 (bgi tx sz1 i0) ≠ w1 ∧ FQ u' (bad (kd tx sz1 (bgi tx sz1 i0))) (bgi tx sz1 i0) ln))) ∧ FR [] [7, 8, 9] false u u') (BQ dC dI cs b) (AQ b sz)) 0 0 (AQ b sz) := by
  refine Met.ofW (cc := cX5_stands) (maxL := 3) (ret := (some .boolean)) (by decide) rfl ?_
  intro p e s m args below meth c s₁ B hml hv
  obtain ⟨rfl, hsz, hP, hK, hJ, hE⟩ := hv
  have hx := B.exec
  have hb := B.bytes
  have hr := B.returns
  have hown : s.vm.findClass RX5 = some m.cls := findClass_of_methodNamed B.named
  have hlocks := B.notSynchronized
  subst hsz
  have hAL : ∀ i, i < 12 → AQ b s.heap.size (b i) := fun i h => Or.inl ⟨i, h, rfl⟩
  have hA : ∀ q : Nat, s.heap.size ≤ q → AQ b s.heap.size q := fun q h => Or.inr h
  have hS : va_S (AQ b s.heap.size) s.heap s.heap [] := va_S.rf
  have hfr : FR [] [7, 8, 9] false u u := FR.refl
  have hl := lv_entry ([.ref (b 0), .int (nI w1)]) (n := 3) (Nat.le_of_ble_eq_true rfl)
  rw [lg_entry_eq]
  generalize (lg_sl ([.ref (b 0), .int (nI w1)]) ++ List.replicate (3 - (lg_sl ([.ref (b 0), .int (nI w1)])).length) Slot.unset).toArray = ls at hl ⊢
  have hl : lv_has ls 3 [(0, .ref (b 0)), (1, .int (nI w1))] := hl
  have hc7 := hp2.1
  have kdf := kd_f tx sz1 (bgi tx sz1 (i0))
  have bq : i0 = c1 → bgi tx sz1 (i0) = sz1 := fun h => by rw [h]; exact hp2.2.1
  have bz : i0 < c1 → bgi tx sz1 (i0) < sz1 := fun h => (hp2.2.2 _ h).1
  refine lv_aload_n hx hb dX5_stands_0 rfl (lv_at hl 0 rfl) ?_
  refine q_get (v := .ref (b 1)) hx hb 0 (by decide) rfl (ly_X5 hE) hown hK hP rfl 0 (by decide) (wd_227 hE) (fun _ h9 => h9) rfl dX5_stands_1 ?_
  refine lv_aload_n hx hb dX5_stands_4 rfl (lv_at hl 0 rfl) ?_
  refine q_get (v := .int (nI i0)) hx hb 0 (by decide) rfl (ly_X5 hE) hown hK hP rfl 4 (by decide) (wd_231 hE) (fun _ h9 => h9) (congrArg (fun z : Int32 => some (Value.int z)) hF4) dX5_stands_5 ?_
  refine vp_callSi (va_Run.run (va_runV (As := [.int (nI i0)]) (rest := []) ⟨hx, hb, hml, hown, noTs⟩ (q_X9_kindAt l dC dI s.heap.size cs b u tx hAc5 k2 hAc2 k3 hAc3 k4 hAc4 i0 sz1 c1 hF14 hF15 hF13 (by first | assumption | omega | rfl | (congr 1; omega)) (by first | assumption | omega | rfl | (congr 1; omega)) (by first | assumption | omega | rfl | (congr 1; omega)) (by first | assumption | omega | rfl | (congr 1; omega))) ⟨cbE 1 (wd_549 hE) (wd_119 hE) (wd_546 hE) rfl rfl (by decide +kernel) ⟨Nat.le_of_ble_eq_true rfl, Nat.le_of_ble_eq_true rfl⟩, (wd_547 hE), (wd_548 hE)⟩ ⟨PQ.blind, q_recv 1 (by decide) rfl hK hP rfl, (q_pre (av := [.ref (b 1), .int (nI i0)]) hK hP hJ hE)⟩ rfl rfl hl.1 rfl (lv_room (Nat.le_of_ble_eq_true rfl)) dX5_stands_8 ⟨Nat.le_of_ble_eq_true rfl, Nat.le_of_ble_eq_true rfl⟩)) (fun r6 hr6 => ?_)
  subst hr6
  refine lv_istore_n (lv' := [(2, .int (nI (kd tx sz1 (bgi tx sz1 i0)))), (0, .ref (b 0)), (1, .int (nI w1))]) hx hb dX5_stands_11 rfl hl (by decide) rfl (fun ls hl => ?_)
  refine lv_aload_n hx hb dX5_stands_12 rfl (lv_at hl 1 rfl) ?_
  refine lv_iload_n hx hb dX5_stands_13 rfl (lv_at hl 0 rfl) ?_
  refine lv_iload_n hx hb dX5_stands_14 rfl (lv_at hl 2 rfl) ?_
  refine lv_icmp_ne (tgt := 22) hx hb dX5_stands_15 (by decide) (fun c7 => ?_) (fun c7 => ?_)
  · have c7 := mt (b_eq (nI_toInt (n := kd tx sz1 (bgi tx sz1 i0)) (by omega)) (nI_toInt (n := w1) (by omega))).mpr c7
    refine lv_iconst (v := 0) hx hb dX5_stands_22 (by decide) ?_
    refine lv_iload_n hx hb dX5_stands_23 rfl (lv_at hl 0 rfl) ?_
    refine lv_iconst (v := 1) hx hb dX5_stands_24 (by decide) ?_
    refine lv_icmp_ne (tgt := 32) hx hb dX5_stands_25 (by decide) (fun c8 => ?_) (fun c8 => ?_)
    · have c8 := mt (b_eq (nI_toInt (n := kd tx sz1 (bgi tx sz1 i0)) (by omega)) (show Int32.toInt 1 = 1 from rfl)).mpr c8
      refine lv_iconst (v := 2) hx hb dX5_stands_32 (by decide) ?_
      refine qc_i hAL hS hA (va_runV (As := [.int 0, .int (nI 2)]) (rest := []) ⟨hx, hb, hml, hown, noTs⟩ (q_X5_passes_0 l dC dI s.heap.size cs b u tx hAc5 k2 hAc2 k3 hAc3 k4 hAc4 2 sz1 c1 i0 ln hF13 hF14 hF15 hF4 hF6 hF7 (by first | assumption | omega | rfl | (congr 1; omega)) (by first | assumption | omega | rfl | (congr 1; omega)) (by first | assumption | omega | rfl | (congr 1; omega)) (by first | assumption | omega | rfl | (congr 1; omega)) (by first | assumption | omega | rfl | (congr 1; omega)) (by first | assumption | omega | rfl | (congr 1; omega))) ⟨cbE 2 (wd_561 hE) (wd_118 hE) (wd_558 hE) rfl rfl (by decide +kernel) ⟨Nat.le_of_ble_eq_true rfl, Nat.le_of_ble_eq_true rfl⟩, (wd_560 hE), (wd_10 hE)⟩ ⟨PQ.blind, q_recv 0 (by decide) rfl hK hP rfl, (q_pre (av := [.ref (b 0), .int 0, .int (nI 2)]) hK hP hJ hE)⟩ rfl rfl hl.1 rfl (lv_room (Nat.le_of_ble_eq_true rfl)) dX5_stands_33 ⟨Nat.le_of_ble_eq_true rfl, Nat.le_of_ble_eq_true rfl⟩) (fun r9 u9 H locs hpo9 hP hS => ?_)
      obtain ⟨hr9, h9_0, h9_1, h9_2, hq9⟩ := hpo9
      have hA10 := (hq9.1 5 List.not_mem_nil).trans hAc5
      have hA11 := (hq9.1 2 List.not_mem_nil).trans hAc2
      have hA12 := (hq9.1 3 List.not_mem_nil).trans hAc3
      have hA13 := (hq9.1 4 List.not_mem_nil).trans hAc4
      have hF14x := (hq9.2.1 13 (by decide)).trans hF13
      have hF15x := (hq9.2.1 14 (by decide)).trans hF14
      have hF16x := (hq9.2.1 15 (by decide)).trans hF15
      have hF17x := (hq9.2.1 4 (by decide)).trans hF4
      have hF18x := (hq9.2.1 6 (by decide)).trans hF6
      have hfr := FR.step hfr hq9 (fun _ h => absurd h List.not_mem_nil) (by decide) (fun h => rfl)
      subst hr9
      exact W.zret (v := 0) hx hb hr rfl (fun t ht hW => ⟨⟨0, u9, rfl, ⟨Or.inr ⟨rfl, by exact ⟨by omega, by rw [h9_0]; unfold bad; first | (rw [if_pos (by omega)]; done) | (rw [if_neg (by omega)]; done) | (rw [if_pos (by omega)]; rfl) | (rw [if_neg (by omega)]; rfl), h9_1, h9_2⟩⟩, hfr⟩, (show va_P (dC, dI) vwCl (qW cs b u9) t.heap by rw [ht]; exact hP)⟩, hS.F ht⟩) hS.2.2 dX5_stands_36
    · have c8 := (b_eq (nI_toInt (n := kd tx sz1 (bgi tx sz1 i0)) (by omega)) (show Int32.toInt 1 = 1 from rfl)).mp c8
      refine lv_iconst (v := 1) hx hb dX5_stands_28 (by decide) ?_
      refine lv_goto (tgt := 33) hx hb dX5_stands_29 (by decide) ?_
      refine qc_i hAL hS hA (va_runV (As := [.int 0, .int (nI 1)]) (rest := []) ⟨hx, hb, hml, hown, noTs⟩ (q_X5_passes_0 l dC dI s.heap.size cs b u tx hAc5 k2 hAc2 k3 hAc3 k4 hAc4 1 sz1 c1 i0 ln hF13 hF14 hF15 hF4 hF6 hF7 (by first | assumption | omega | rfl | (congr 1; omega)) (by first | assumption | omega | rfl | (congr 1; omega)) (by first | assumption | omega | rfl | (congr 1; omega)) (by first | assumption | omega | rfl | (congr 1; omega)) (by first | assumption | omega | rfl | (congr 1; omega)) (by first | assumption | omega | rfl | (congr 1; omega))) ⟨cbE 2 (wd_561 hE) (wd_118 hE) (wd_558 hE) rfl rfl (by decide +kernel) ⟨Nat.le_of_ble_eq_true rfl, Nat.le_of_ble_eq_true rfl⟩, (wd_560 hE), (wd_10 hE)⟩ ⟨PQ.blind, q_recv 0 (by decide) rfl hK hP rfl, (q_pre (av := [.ref (b 0), .int 0, .int (nI 1)]) hK hP hJ hE)⟩ rfl rfl hl.1 rfl (lv_room (Nat.le_of_ble_eq_true rfl)) dX5_stands_33 ⟨Nat.le_of_ble_eq_true rfl, Nat.le_of_ble_eq_true rfl⟩) (fun r19 u19 H locs hpo19 hP hS => ?_)
      obtain ⟨hr19, h19_0, h19_1, h19_2, hq19⟩ := hpo19
      have hA20 := (hq19.1 5 List.not_mem_nil).trans hAc5
      have hA21 := (hq19.1 2 List.not_mem_nil).trans hAc2
      have hA22 := (hq19.1 3 List.not_mem_nil).trans hAc3
      have hA23 := (hq19.1 4 List.not_mem_nil).trans hAc4
      have hF24x := (hq19.2.1 13 (by decide)).trans hF13
      have hF25x := (hq19.2.1 14 (by decide)).trans hF14
      have hF26x := (hq19.2.1 15 (by decide)).trans hF15
      have hF27x := (hq19.2.1 4 (by decide)).trans hF4
      have hF28x := (hq19.2.1 6 (by decide)).trans hF6
      have hfr := FR.step hfr hq19 (fun _ h => absurd h List.not_mem_nil) (by decide) (fun h => rfl)
      subst hr19
      exact W.zret (v := 0) hx hb hr rfl (fun t ht hW => ⟨⟨0, u19, rfl, ⟨Or.inr ⟨rfl, by exact ⟨by omega, by rw [h19_0]; unfold bad; first | (rw [if_pos (by omega)]; done) | (rw [if_neg (by omega)]; done) | (rw [if_pos (by omega)]; rfl) | (rw [if_neg (by omega)]; rfl), h19_1, h19_2⟩⟩, hfr⟩, (show va_P (dC, dI) vwCl (qW cs b u19) t.heap by rw [ht]; exact hP)⟩, hS.F ht⟩) hS.2.2 dX5_stands_36
  · have c7 := (b_eq (nI_toInt (n := kd tx sz1 (bgi tx sz1 i0)) (by omega)) (nI_toInt (n := w1) (by omega))).mp c7
    refine lv_iconst (v := 1) hx hb dX5_stands_18 (by decide) ?_
    refine lv_goto (tgt := 23) hx hb dX5_stands_19 (by decide) ?_
    refine lv_iload_n hx hb dX5_stands_23 rfl (lv_at hl 0 rfl) ?_
    refine lv_iconst (v := 1) hx hb dX5_stands_24 (by decide) ?_
    refine lv_icmp_ne (tgt := 32) hx hb dX5_stands_25 (by decide) (fun c29 => ?_) (fun c29 => ?_)
    · have c29 := mt (b_eq (nI_toInt (n := kd tx sz1 (bgi tx sz1 i0)) (by omega)) (show Int32.toInt 1 = 1 from rfl)).mpr c29
      refine lv_iconst (v := 2) hx hb dX5_stands_32 (by decide) ?_
      refine vp_callSi (va_Run.run (va_runV (As := [.int 1, .int (nI 2)]) (rest := []) ⟨hx, hb, hml, hown, noTs⟩ (q_X5_passes_1 l dC dI s.heap.size cs b u 2 hF7) ⟨cbE 2 (wd_561 hE) (wd_118 hE) (wd_558 hE) rfl rfl (by decide +kernel) ⟨Nat.le_of_ble_eq_true rfl, Nat.le_of_ble_eq_true rfl⟩, (wd_560 hE), (wd_10 hE)⟩ ⟨PQ.blind, q_recv 0 (by decide) rfl hK hP rfl, (q_pre (av := [.ref (b 0), .int 1, .int (nI 2)]) hK hP hJ hE)⟩ rfl rfl hl.1 rfl (lv_room (Nat.le_of_ble_eq_true rfl)) dX5_stands_33 ⟨Nat.le_of_ble_eq_true rfl, Nat.le_of_ble_eq_true rfl⟩)) (fun r30 hr30 => ?_)
      subst hr30
      exact W.zret (v := 1) hx hb hr rfl (fun t ht hW => ⟨⟨1, u, rfl, ⟨Or.inl ⟨rfl, by exact ⟨by omega, hF7, hF8, hF9⟩⟩, hfr⟩, (show va_P (dC, dI) vwCl (qW cs b u) t.heap by rw [ht]; exact hP)⟩, hS.F ht⟩) hS.2.2 dX5_stands_36
    · have c29 := (b_eq (nI_toInt (n := kd tx sz1 (bgi tx sz1 i0)) (by omega)) (show Int32.toInt 1 = 1 from rfl)).mp c29
      refine lv_iconst (v := 1) hx hb dX5_stands_28 (by decide) ?_
      refine lv_goto (tgt := 33) hx hb dX5_stands_29 (by decide) ?_
      refine vp_callSi (va_Run.run (va_runV (As := [.int 1, .int (nI 1)]) (rest := []) ⟨hx, hb, hml, hown, noTs⟩ (q_X5_passes_1 l dC dI s.heap.size cs b u 1 hF7) ⟨cbE 2 (wd_561 hE) (wd_118 hE) (wd_558 hE) rfl rfl (by decide +kernel) ⟨Nat.le_of_ble_eq_true rfl, Nat.le_of_ble_eq_true rfl⟩, (wd_560 hE), (wd_10 hE)⟩ ⟨PQ.blind, q_recv 0 (by decide) rfl hK hP rfl, (q_pre (av := [.ref (b 0), .int 1, .int (nI 1)]) hK hP hJ hE)⟩ rfl rfl hl.1 rfl (lv_room (Nat.le_of_ble_eq_true rfl)) dX5_stands_33 ⟨Nat.le_of_ble_eq_true rfl, Nat.le_of_ble_eq_true rfl⟩)) (fun r31 hr31 => ?_)
      subst hr31
      exact W.zret (v := 1) hx hb hr rfl (fun t ht hW => ⟨⟨1, u, rfl, ⟨Or.inl ⟨rfl, by exact ⟨by omega, hF7, hF8, hF9⟩⟩, hfr⟩, (show va_P (dC, dI) vwCl (qW cs b u) t.heap by rw [ht]; exact hP)⟩, hS.F ht⟩) hS.2.2 dX5_stands_36
