set_option maxHeartbeats 4000000 in
set_option maxRecDepth 100000 in
theorem t_X10_size (l : Launch) (dC : Nat → ClassId) (dI : Nat → Nat → Nat) (sz : Nat) (G : GT) (cs : Nat → ClassId) (tt mm : Nat) (a0 : Nat) (ha0 : Ty G a0 10) (yy : Int32) (nn : Nat) : Met l yX10_size [.code yX10_size cX10_size 1 (some .int)] ({ frames := 0, cells := 0, slots := 0, locals := 0 }) (PT [.ref a0] sz dC dI G cs tt mm (fun f => f a0 = .inr (9, [.ref (gR G a0 0), .ref (gR G a0 1), .int yy, .int (nI nn)]))) (vp_Si (fun (r : Int32) => r = nI nn)) 0 0 (fun _ => False) := by
  refine Met.ofW (cc := cX10_size) (maxL := 1) (ret := (some .int)) (by decide) rfl ?_
  intro p e s m args below meth c s₁ B hml hv
  obtain ⟨rfl, hsz, ⟨f0, hok, hP, hX⟩, hK, hnd, hWT, hE⟩ := hv
  have hx := B.exec
  have hb := B.bytes
  have hr := B.returns
  have hown : s.vm.findClass RX10 = some m.cls := findClass_of_methodNamed B.named
  have hlocks := B.notSynchronized
  subst hsz
  have hl := lv_entry ([.ref a0]) (n := 1) (Nat.le_of_ble_eq_true rfl)
  rw [lg_entry_eq]
  generalize (lg_sl ([.ref a0]) ++ List.replicate (1 - (lg_sl ([.ref a0])).length) Slot.unset).toArray = ls at hl ⊢
  have hl : lv_has ls 1 [(0, .ref a0)] := hl
  refine lv_aload_n hx hb dX10_size_0 rfl (lv_at hl 0 rfl) ?_
  refine th_get hx hb (ly_X10 hE) hown hK hP ha0.1 hX rfl 3 (by decide) (wd_217 hE) (fun _ h9 => h9) rfl dX10_size_1 ?_
  exact W.iret (v := nI nn) hx hb hr (fun t ht hW => ⟨nI nn, rfl, rfl, ht⟩) (fun _ h => absurd h List.not_mem_nil) dX10_size_4

set_option maxHeartbeats 4000000 in
set_option maxRecDepth 100000 in
theorem t_X10_stepAt (l : Launch) (dC : Nat → ClassId) (dI : Nat → Nat → Nat) (sz : Nat) (G : GT) (cs : Nat → ClassId) (tt mm : Nat) (a0 : Nat) (ha0 : Ty G a0 10) (v1 : Int32) : Met l yX10_stepAt [.code yX10_stepAt cX10_stepAt 2 (some .int)] ({ frames := 0, cells := 0, slots := 0, locals := 0 }) (PT [.ref a0, .int v1] sz dC dI G cs tt mm (fun _ => True)) (vp_Si (fun (r : Int32) => True)) 0 0 (fun _ => False) := by
  refine Met.ofW (cc := cX10_stepAt) (maxL := 2) (ret := (some .int)) (by decide) rfl ?_
  intro p e s m args below meth c s₁ B hml hv
  obtain ⟨rfl, hsz, ⟨f0, hok, hP, hX⟩, hK, hnd, hWT, hE⟩ := hv
  have hx := B.exec
  have hb := B.bytes
  have hr := B.returns
  have hown : s.vm.findClass RX10 = some m.cls := findClass_of_methodNamed B.named
  have hlocks := B.notSynchronized
  subst hsz
  have hl := lv_entry ([.ref a0, .int v1]) (n := 2) (Nat.le_of_ble_eq_true rfl)
  rw [lg_entry_eq]
  generalize (lg_sl ([.ref a0, .int v1]) ++ List.replicate (2 - (lg_sl ([.ref a0, .int v1])).length) Slot.unset).toArray = ls at hl ⊢
  have hl : lv_has ls 2 [(0, .ref a0), (1, .int v1)] := hl
  refine lv_iload_n hx hb dX10_stepAt_0 rfl (lv_at hl 1 rfl) ?_
  refine lv_if_lt (tgt := 21) hx hb dX10_stepAt_1 (by decide) (fun c1 => ?_) (fun c1 => ?_)
  · refine lv_bipush (v := 12) hx hb dX10_stepAt_21 (by decide) ?_
    refine lv_goto (tgt := 32) hx hb dX10_stepAt_23 (by decide) ?_
    exact W.iret (v := 12) hx hb hr (fun t ht hW => ⟨12, rfl, trivial, ht⟩) (fun _ h => absurd h List.not_mem_nil) dX10_stepAt_32
  · refine lv_iload_n hx hb dX10_stepAt_4 rfl (lv_at hl 1 rfl) ?_
    refine lv_aload_n hx hb dX10_stepAt_5 rfl (lv_at hl 0 rfl) ?_
    obtain ⟨y2_2, y3_2, hy3_2, he2⟩ := ok_X10 hok ha0
    refine th_get hx hb (ly_X10 hE) hown hK hP ha0.1 he2 rfl 3 (by decide) (wd_217 hE) (fun _ h9 => h9) rfl dX10_stepAt_6 ?_
    have nt3 : (nI y3_2).toInt = ((y3_2 : Nat) : Int) := nI_toInt (by omega)
    refine lv_icmp_ge (tgt := 21) hx hb dX10_stepAt_9 (by decide) (fun c4 => ?_) (fun c4 => ?_)
    · refine lv_bipush (v := 12) hx hb dX10_stepAt_21 (by decide) ?_
      refine lv_goto (tgt := 32) hx hb dX10_stepAt_23 (by decide) ?_
      exact W.iret (v := 12) hx hb hr (fun t ht hW => ⟨12, rfl, trivial, ht⟩) (fun _ h => absurd h List.not_mem_nil) dX10_stepAt_32
    · refine lv_iload_n hx hb dX10_stepAt_12 rfl (lv_at hl 1 rfl) ?_
      refine lv_aload_n hx hb dX10_stepAt_13 rfl (lv_at hl 0 rfl) ?_
      refine th_get hx hb (ly_X10 hE) hown hK hP ha0.1 he2 rfl 1 (by decide) (wd_215 hE) (fun _ h9 => h9) rfl dX10_stepAt_14 ?_
      refine th_len1 hx hb hK hP hok (n := 72) (wl_X10_1 hWT ha0) (Or.inl (wt_X10_1 hWT ha0)) dX10_stepAt_17 ?_
      refine W.eq (g2 := F0 m 18 ls [.int 72, .int v1]) rfl ?_
      refine lv_icmp_lt (tgt := 26) hx hb dX10_stepAt_18 (by decide) (fun c5 => ?_) (fun c5 => False.elim (by simp only [i_lt, i_le, i_eq, ti_m9, ti_m1, ti_0, ti_1, ti_2, ti_3, ti_4, ti_5, ti_6, ti_7, ti_9, ti_12, ti_20, ti_99, ti_700, ti_24, ti_156, ti_72, ti_8, ti_60, ti_543, ti_10, ti_33, ti_51, ti_178, ti_119, ti_111, ti_114, ti_100, ti_32, ti_62, ti_59, ti_48, ti_701, ti_97, ti_122, ti_57, ti_73, ti_128, nt3] at c1 c4 c5; omega))
      refine lv_aload_n hx hb dX10_stepAt_26 rfl (lv_at hl 0 rfl) ?_
      refine th_get hx hb (ly_X10 hE) hown hK hP ha0.1 he2 rfl 1 (by decide) (wd_215 hE) (fun _ h9 => h9) rfl dX10_stepAt_27 ?_
      refine lv_iload_n hx hb dX10_stepAt_30 rfl (lv_at hl 1 rfl) ?_
      refine th_iald hx hb hK hP hok (wt_X10_1 hWT ha0) (n := 72) (wl_X10_1 hWT ha0) (vp_in_iff.mpr (by first | omega | (simp only [i_lt, i_le, i_eq, ti_m9, ti_m1, ti_0, ti_1, ti_2, ti_3, ti_4, ti_5, ti_6, ti_7, ti_9, ti_12, ti_20, ti_99, ti_700, ti_24, ti_156, ti_72, ti_8, ti_60, ti_543, ti_10, ti_33, ti_51, ti_178, ti_119, ti_111, ti_114, ti_100, ti_32, ti_62, ti_59, ti_48, ti_701, ti_97, ti_122, ti_57, ti_73, ti_128, nt3] at c1 c4 c5 ⊢; omega))) dX10_stepAt_31 (fun x6 => ?_)
      exact W.iret (v := x6) hx hb hr (fun t ht hW => ⟨x6, rfl, trivial, ht⟩) (fun _ h => absurd h List.not_mem_nil) dX10_stepAt_32

set_option maxHeartbeats 4000000 in
set_option maxRecDepth 100000 in
theorem t_X11_isBackwards (l : Launch) (dC : Nat → ClassId) (dI : Nat → Nat → Nat) (sz : Nat) (G : GT) (cs : Nat → ClassId) (tt mm : Nat) (v0 : Int32) : Met l yX11_isBackwards [.code yX11_isBackwards cX11_isBackwards 1 (some .boolean)] ({ frames := 0, cells := 0, slots := 0, locals := 0 }) (PT [.int v0] sz dC dI G cs tt mm (fun _ => True)) (vp_Si (fun (r : Int32) => r = 0 ∨ r = 1)) 0 0 (fun _ => False) := by
  refine Met.ofW (cc := cX11_isBackwards) (maxL := 1) (ret := (some .boolean)) (by decide) rfl ?_
  intro p e s m args below meth c s₁ B hml hv
  obtain ⟨rfl, hsz, ⟨f0, hok, hP, hX⟩, hK, hnd, hWT, hE⟩ := hv
  have hx := B.exec
  have hb := B.bytes
  have hr := B.returns
  have hown : s.vm.findClass RX11 = some m.cls := findClass_of_methodNamed B.named
  have hlocks := B.notSynchronized
  subst hsz
  have hl := lv_entry ([.int v0]) (n := 1) (Nat.le_of_ble_eq_true rfl)
  rw [lg_entry_eq]
  generalize (lg_sl ([.int v0]) ++ List.replicate (1 - (lg_sl ([.int v0])).length) Slot.unset).toArray = ls at hl ⊢
  have hl : lv_has ls 1 [(0, .int v0)] := hl
  refine lv_iload_n hx hb dX11_isBackwards_0 rfl (lv_at hl 0 rfl) ?_
  refine lv_iconst (v := 1) hx hb dX11_isBackwards_1 (by decide) ?_
  refine lv_iand hx hb dX11_isBackwards_2 ?_
  refine lv_topi (fun x1 _ => ?_)
  refine lv_iconst (v := 1) hx hb dX11_isBackwards_3 (by decide) ?_
  refine lv_icmp_ne (tgt := 11) hx hb dX11_isBackwards_4 (by decide) (fun c2 => ?_) (fun c2 => ?_)
  · refine lv_iconst (v := 0) hx hb dX11_isBackwards_11 (by decide) ?_
    exact W.zret (v := 0) hx hb hr rfl (fun t ht hW => ⟨0, rfl, Or.inl rfl, ht⟩) (fun _ h => absurd h List.not_mem_nil) dX11_isBackwards_12
  · refine lv_iconst (v := 1) hx hb dX11_isBackwards_7 (by decide) ?_
    refine lv_goto (tgt := 12) hx hb dX11_isBackwards_8 (by decide) ?_
    exact W.zret (v := 1) hx hb hr rfl (fun t ht hW => ⟨1, rfl, Or.inr rfl, ht⟩) (fun _ h => absurd h List.not_mem_nil) dX11_isBackwards_12

set_option maxHeartbeats 4000000 in
set_option maxRecDepth 100000 in
theorem t_X7_edgePart (l : Launch) (dC : Nat → ClassId) (dI : Nat → Nat → Nat) (sz : Nat) (G : GT) (cs : Nat → ClassId) (tt mm : Nat) (a0 : Nat) (ha0 : Ty G a0 7) (v1 : Int32) (v2 : Int32) : Met l yX7_edgePart [.code yX7_edgePart cX7_edgePart 4 (some .int)] ({ frames := 0, cells := 0, slots := 0, locals := 0 }) (PT [.ref a0, .int v1, .int v2] sz dC dI G cs tt mm (fun _ => True)) (vp_Si (fun (r : Int32) => True)) 0 0 (fun _ => False) := by
  refine Met.ofW (cc := cX7_edgePart) (maxL := 4) (ret := (some .int)) (by decide) rfl ?_
  intro p e s m args below meth c s₁ B hml hv
  obtain ⟨rfl, hsz, ⟨f0, hok, hP, hX⟩, hK, hnd, hWT, hE⟩ := hv
  have hx := B.exec
  have hb := B.bytes
  have hr := B.returns
  have hown : s.vm.findClass RX7 = some m.cls := findClass_of_methodNamed B.named
  have hlocks := B.notSynchronized
  subst hsz
  have hl := lv_entry ([.ref a0, .int v1, .int v2]) (n := 4) (Nat.le_of_ble_eq_true rfl)
  rw [lg_entry_eq]
  generalize (lg_sl ([.ref a0, .int v1, .int v2]) ++ List.replicate (4 - (lg_sl ([.ref a0, .int v1, .int v2])).length) Slot.unset).toArray = ls at hl ⊢
  have hl : lv_has ls 4 [(0, .ref a0), (1, .int v1), (2, .int v2)] := hl
  refine lv_iload_n hx hb dX7_edgePart_0 rfl (lv_at hl 1 rfl) ?_
  refine lv_if_lt (tgt := 23) hx hb dX7_edgePart_1 (by decide) (fun c1 => ?_) (fun c1 => ?_)
  · refine lv_iconst (v := 0) hx hb dX7_edgePart_23 (by decide) ?_
    refine lv_istore_n (lv' := [(3, .int 0), (0, .ref a0), (1, .int v1), (2, .int v2)]) hx hb dX7_edgePart_24 rfl hl (by decide) rfl (fun ls hl => ?_)
    refine lv_iload_n hx hb dX7_edgePart_25 rfl (lv_at hl 0 rfl) ?_
    refine lv_if_eq (tgt := 45) hx hb dX7_edgePart_26 (by decide) (fun c2 => ?_) (fun c2 => absurd c2 (by decide))
    refine lv_iconst (v := 0) hx hb dX7_edgePart_45 (by decide) ?_
    exact W.iret (v := 0) hx hb hr (fun t ht hW => ⟨0, rfl, trivial, ht⟩) (fun _ h => absurd h List.not_mem_nil) dX7_edgePart_46
  · refine lv_iload_n hx hb dX7_edgePart_4 rfl (lv_at hl 1 rfl) ?_
    refine lv_bipush (v := 6) hx hb dX7_edgePart_5 (by decide) ?_
    refine lv_icmp_ge (tgt := 23) hx hb dX7_edgePart_7 (by decide) (fun c3 => ?_) (fun c3 => ?_)
    · refine lv_iconst (v := 0) hx hb dX7_edgePart_23 (by decide) ?_
      refine lv_istore_n (lv' := [(3, .int 0), (0, .ref a0), (1, .int v1), (2, .int v2)]) hx hb dX7_edgePart_24 rfl hl (by decide) rfl (fun ls hl => ?_)
      refine lv_iload_n hx hb dX7_edgePart_25 rfl (lv_at hl 0 rfl) ?_
      refine lv_if_eq (tgt := 45) hx hb dX7_edgePart_26 (by decide) (fun c4 => ?_) (fun c4 => absurd c4 (by decide))
      refine lv_iconst (v := 0) hx hb dX7_edgePart_45 (by decide) ?_
      exact W.iret (v := 0) hx hb hr (fun t ht hW => ⟨0, rfl, trivial, ht⟩) (fun _ h => absurd h List.not_mem_nil) dX7_edgePart_46
    · refine lv_iload_n hx hb dX7_edgePart_10 rfl (lv_at hl 2 rfl) ?_
      refine lv_if_lt (tgt := 23) hx hb dX7_edgePart_11 (by decide) (fun c5 => ?_) (fun c5 => ?_)
      · refine lv_iconst (v := 0) hx hb dX7_edgePart_23 (by decide) ?_
        refine lv_istore_n (lv' := [(3, .int 0), (0, .ref a0), (1, .int v1), (2, .int v2)]) hx hb dX7_edgePart_24 rfl hl (by decide) rfl (fun ls hl => ?_)
        refine lv_iload_n hx hb dX7_edgePart_25 rfl (lv_at hl 0 rfl) ?_
        refine lv_if_eq (tgt := 45) hx hb dX7_edgePart_26 (by decide) (fun c6 => ?_) (fun c6 => absurd c6 (by decide))
        refine lv_iconst (v := 0) hx hb dX7_edgePart_45 (by decide) ?_
        exact W.iret (v := 0) hx hb hr (fun t ht hW => ⟨0, rfl, trivial, ht⟩) (fun _ h => absurd h List.not_mem_nil) dX7_edgePart_46
      · refine lv_iload_n hx hb dX7_edgePart_14 rfl (lv_at hl 2 rfl) ?_
        refine lv_iconst (v := 4) hx hb dX7_edgePart_15 (by decide) ?_
        refine lv_icmp_ge (tgt := 23) hx hb dX7_edgePart_16 (by decide) (fun c7 => ?_) (fun c7 => ?_)
        · refine lv_iconst (v := 0) hx hb dX7_edgePart_23 (by decide) ?_
          refine lv_istore_n (lv' := [(3, .int 0), (0, .ref a0), (1, .int v1), (2, .int v2)]) hx hb dX7_edgePart_24 rfl hl (by decide) rfl (fun ls hl => ?_)
          refine lv_iload_n hx hb dX7_edgePart_25 rfl (lv_at hl 0 rfl) ?_
          refine lv_if_eq (tgt := 45) hx hb dX7_edgePart_26 (by decide) (fun c8 => ?_) (fun c8 => absurd c8 (by decide))
          refine lv_iconst (v := 0) hx hb dX7_edgePart_45 (by decide) ?_
          exact W.iret (v := 0) hx hb hr (fun t ht hW => ⟨0, rfl, trivial, ht⟩) (fun _ h => absurd h List.not_mem_nil) dX7_edgePart_46
        · refine lv_iconst (v := 1) hx hb dX7_edgePart_19 (by decide) ?_
          refine lv_goto (tgt := 24) hx hb dX7_edgePart_20 (by decide) ?_
          refine lv_istore_n (lv' := [(3, .int 1), (0, .ref a0), (1, .int v1), (2, .int v2)]) hx hb dX7_edgePart_24 rfl hl (by decide) rfl (fun ls hl => ?_)
          refine lv_iload_n hx hb dX7_edgePart_25 rfl (lv_at hl 0 rfl) ?_
          refine lv_if_eq (tgt := 45) hx hb dX7_edgePart_26 (by decide) (fun c9 => absurd c9 (by decide)) (fun c9 => ?_)
          refine lv_aload_n hx hb dX7_edgePart_29 rfl (lv_at hl 1 rfl) ?_
          have he10 := ok_X7 hok ha0
          refine th_get hx hb (ly_X7 hE) hown hK hP ha0.1 he10 rfl 0 (by decide) (wd_149 hE) (fun _ h9 => h9) rfl dX7_edgePart_30 ?_
          refine lv_bipush (v := 9) hx hb dX7_edgePart_33 (by decide) ?_
          refine lv_iconst (v := 4) hx hb dX7_edgePart_35 (by decide) ?_
          refine lv_iload_n hx hb dX7_edgePart_36 rfl (lv_at hl 2 rfl) ?_
          obtain ⟨j11, hj11, rfl⟩ : ∃ j : Nat, j ≤ 5 ∧ v1 = nI j := i_nat (by first | omega | (simp only [i_lt, i_le, i_eq, ti_m9, ti_m1, ti_0, ti_1, ti_2, ti_3, ti_4, ti_5, ti_6, ti_7, ti_9, ti_12, ti_20, ti_99, ti_700, ti_24, ti_156, ti_72, ti_8, ti_60, ti_543, ti_10, ti_33, ti_51, ti_178, ti_119, ti_111, ti_114, ti_100, ti_32, ti_62, ti_59, ti_48, ti_701, ti_97, ti_122, ti_57, ti_73, ti_128] at c1 c3 c5 c7 ⊢; omega)) (by first | omega | (simp only [i_lt, i_le, i_eq, ti_m9, ti_m1, ti_0, ti_1, ti_2, ti_3, ti_4, ti_5, ti_6, ti_7, ti_9, ti_12, ti_20, ti_99, ti_700, ti_24, ti_156, ti_72, ti_8, ti_60, ti_543, ti_10, ti_33, ti_51, ti_178, ti_119, ti_111, ti_114, ti_100, ti_32, ti_62, ti_59, ti_48, ti_701, ti_97, ti_122, ti_57, ti_73, ti_128] at c1 c3 c5 c7 ⊢; omega))
          have nt12 : (nI j11).toInt = ((j11 : Nat) : Int) := nI_toInt (by omega)
          refine lv_imul hx hb dX7_edgePart_37 ?_
          refine W.eq (g2 := F0 m 38 ls [.int (nI (4 * j11)), .int 9, .ref (gR G a0 0)]) (congrArg (fun z : Int32 => F0 m 38 ls (.int z :: [.int 9, .ref (gR G a0 0)])) (pk_mul 4 j11)) ?_
          refine lv_iadd hx hb dX7_edgePart_38 ?_
          refine W.eq (g2 := F0 m 39 ls [.int (nI (9 + (4 * j11))), .ref (gR G a0 0)]) (congrArg (fun z : Int32 => F0 m 39 ls (.int z :: [.ref (gR G a0 0)])) (nI_add 9 (4 * j11))) ?_
          refine lv_iload_n hx hb dX7_edgePart_39 rfl (lv_at hl 3 rfl) ?_
          obtain ⟨j13, hj13, rfl⟩ : ∃ j : Nat, j ≤ 3 ∧ v2 = nI j := i_nat (by first | omega | (simp only [i_lt, i_le, i_eq, ti_m9, ti_m1, ti_0, ti_1, ti_2, ti_3, ti_4, ti_5, ti_6, ti_7, ti_9, ti_12, ti_20, ti_99, ti_700, ti_24, ti_156, ti_72, ti_8, ti_60, ti_543, ti_10, ti_33, ti_51, ti_178, ti_119, ti_111, ti_114, ti_100, ti_32, ti_62, ti_59, ti_48, ti_701, ti_97, ti_122, ti_57, ti_73, ti_128, nt12] at c1 c3 c5 c7 ⊢; omega)) (by first | omega | (simp only [i_lt, i_le, i_eq, ti_m9, ti_m1, ti_0, ti_1, ti_2, ti_3, ti_4, ti_5, ti_6, ti_7, ti_9, ti_12, ti_20, ti_99, ti_700, ti_24, ti_156, ti_72, ti_8, ti_60, ti_543, ti_10, ti_33, ti_51, ti_178, ti_119, ti_111, ti_114, ti_100, ti_32, ti_62, ti_59, ti_48, ti_701, ti_97, ti_122, ti_57, ti_73, ti_128, nt12] at c1 c3 c5 c7 ⊢; omega))
          have nt14 : (nI j13).toInt = ((j13 : Nat) : Int) := nI_toInt (by omega)
          refine lv_iadd hx hb dX7_edgePart_40 ?_
          refine W.eq (g2 := F0 m 41 ls [.int (nI ((9 + (4 * j11)) + j13)), .ref (gR G a0 0)]) (congrArg (fun z : Int32 => F0 m 41 ls (.int z :: [.ref (gR G a0 0)])) (nI_add (9 + (4 * j11)) j13)) ?_
          have nt16 : (nI ((9 + (4 * j11)) + j13)).toInt = (((9 + (4 * j11)) + j13 : Nat) : Int) := nI_toInt (by omega)
          refine th_iald hx hb hK hP hok (wt_X7_0 hWT ha0) (n := 543) (wl_X7_0 hWT ha0) (vp_in_iff.mpr (by first | omega | (simp only [i_lt, i_le, i_eq, ti_m9, ti_m1, ti_0, ti_1, ti_2, ti_3, ti_4, ti_5, ti_6, ti_7, ti_9, ti_12, ti_20, ti_99, ti_700, ti_24, ti_156, ti_72, ti_8, ti_60, ti_543, ti_10, ti_33, ti_51, ti_178, ti_119, ti_111, ti_114, ti_100, ti_32, ti_62, ti_59, ti_48, ti_701, ti_97, ti_122, ti_57, ti_73, ti_128, nt12, nt14, nt16] at c1 c3 c5 c7 ⊢; omega))) dX7_edgePart_41 (fun x15 => ?_)
          refine lv_goto (tgt := 46) hx hb dX7_edgePart_42 (by decide) ?_
          exact W.iret (v := x15) hx hb hr (fun t ht hW => ⟨x15, rfl, trivial, ht⟩) (fun _ h => absurd h List.not_mem_nil) dX7_edgePart_46

set_option maxHeartbeats 4000000 in
set_option maxRecDepth 100000 in
theorem t_X7_fromIndex (l : Launch) (dC : Nat → ClassId) (dI : Nat → Nat → Nat) (sz : Nat) (G : GT) (cs : Nat → ClassId) (tt mm : Nat) (a0 : Nat) (ha0 : Ty G a0 7) (v1 : Int32) : Met l yX7_fromIndex [.code yX7_fromIndex cX7_fromIndex 2 (some .int)] ({ frames := 1, cells := 0, slots := 0, locals := 40 }) (PT [.ref a0, .int v1] sz dC dI G cs tt mm (fun _ => True)) (vp_Si (fun (r : Int32) => True)) 0 0 (fun _ => False) := by
  refine Met.ofW (cc := cX7_fromIndex) (maxL := 2) (ret := (some .int)) (by decide) rfl ?_
  intro p e s m args below meth c s₁ B hml hv
  obtain ⟨rfl, hsz, ⟨f0, hok, hP, hX⟩, hK, hnd, hWT, hE⟩ := hv
  have hx := B.exec
  have hb := B.bytes
  have hr := B.returns
  have hown : s.vm.findClass RX7 = some m.cls := findClass_of_methodNamed B.named
  have hlocks := B.notSynchronized
  subst hsz
  have hl := lv_entry ([.ref a0, .int v1]) (n := 2) (Nat.le_of_ble_eq_true rfl)
  rw [lg_entry_eq]
  generalize (lg_sl ([.ref a0, .int v1]) ++ List.replicate (2 - (lg_sl ([.ref a0, .int v1])).length) Slot.unset).toArray = ls at hl ⊢
  have hl : lv_has ls 2 [(0, .ref a0), (1, .int v1)] := hl
  refine lv_aload_n hx hb dX7_fromIndex_0 rfl (lv_at hl 0 rfl) ?_
  refine lv_iload_n hx hb dX7_fromIndex_1 rfl (lv_at hl 1 rfl) ?_
  refine lv_iconst (v := 1) hx hb dX7_fromIndex_2 (by decide) ?_
  refine lv_ishr hx hb dX7_fromIndex_3 ?_
  refine lv_topi (fun x1 _ => ?_)
  refine lv_iload_n hx hb dX7_fromIndex_4 rfl (lv_at hl 1 rfl) ?_
  refine vp_callSi (va_Run.run (va_runSN (As := [.int v1]) (rest := [.int x1, .ref a0]) ⟨hx, hb, hml, hown, noTs⟩ (t_X11_isBackwards l dC dI s.heap.size G cs tt mm v1) ⟨cnE 1 (wd_680 hE) (wd_115 hE) (wd_678 hE) rfl rfl (by decide +kernel) ⟨Nat.le_of_ble_eq_true rfl, Nat.le_of_ble_eq_true rfl⟩, (wd_679 hE), trivial⟩ ⟨PT.blind, (th_pre (av := [.int v1]) trivial hK hP hok hnd hWT hE)⟩ rfl rfl hl.1 rfl (lv_room (Nat.le_of_ble_eq_true rfl)) dX7_fromIndex_5 ⟨Nat.le_of_ble_eq_true rfl, Nat.le_of_ble_eq_true rfl⟩)) (fun r2 hr2 => ?_)
  refine lv_if_eq (tgt := 15) hx hb dX7_fromIndex_8 (by decide) (fun c3 => ?_) (fun c3 => ?_)
  · refine lv_iconst (v := 1) hx hb dX7_fromIndex_15 (by decide) ?_
    have he4 := ok_X7 hok ha0
    refine vp_callSi (va_Run.run (va_runV (As := [.int x1, .int 1]) (rest := []) ⟨hx, hb, hml, hown, noTs⟩ (t_X7_edgePart l dC dI s.heap.size G cs tt mm a0 ha0 x1 1) ⟨cbE 2 (wd_684 hE) (wd_116 hE) (wd_681 hE) rfl rfl (by decide +kernel) ⟨Nat.le_of_ble_eq_true rfl, Nat.le_of_ble_eq_true rfl⟩, (wd_682 hE), (wd_683 hE)⟩ ⟨PT.blind, th_recv hK hP ha0.1 he4 rfl, (th_pre (av := [.ref a0, .int x1, .int 1]) trivial hK hP hok hnd hWT hE)⟩ rfl rfl hl.1 rfl (lv_room (Nat.le_of_ble_eq_true rfl)) dX7_fromIndex_16 ⟨Nat.le_of_ble_eq_true rfl, Nat.le_of_ble_eq_true rfl⟩)) (fun r5 hr5 => ?_)
    exact W.iret (v := r5) hx hb hr (fun t ht hW => ⟨r5, rfl, trivial, ht⟩) (fun _ h => absurd h List.not_mem_nil) dX7_fromIndex_19
  · refine lv_iconst (v := 3) hx hb dX7_fromIndex_11 (by decide) ?_
    refine lv_goto (tgt := 16) hx hb dX7_fromIndex_12 (by decide) ?_
    have he6 := ok_X7 hok ha0
    refine vp_callSi (va_Run.run (va_runV (As := [.int x1, .int 3]) (rest := []) ⟨hx, hb, hml, hown, noTs⟩ (t_X7_edgePart l dC dI s.heap.size G cs tt mm a0 ha0 x1 3) ⟨cbE 2 (wd_684 hE) (wd_116 hE) (wd_681 hE) rfl rfl (by decide +kernel) ⟨Nat.le_of_ble_eq_true rfl, Nat.le_of_ble_eq_true rfl⟩, (wd_682 hE), (wd_683 hE)⟩ ⟨PT.blind, th_recv hK hP ha0.1 he6 rfl, (th_pre (av := [.ref a0, .int x1, .int 3]) trivial hK hP hok hnd hWT hE)⟩ rfl rfl hl.1 rfl (lv_room (Nat.le_of_ble_eq_true rfl)) dX7_fromIndex_16 ⟨Nat.le_of_ble_eq_true rfl, Nat.le_of_ble_eq_true rfl⟩)) (fun r7 hr7 => ?_)
    exact W.iret (v := r7) hx hb hr (fun t ht hW => ⟨r7, rfl, trivial, ht⟩) (fun _ h => absurd h List.not_mem_nil) dX7_fromIndex_19

set_option maxHeartbeats 4000000 in
set_option maxRecDepth 100000 in
theorem t_X7_toIndex (l : Launch) (dC : Nat → ClassId) (dI : Nat → Nat → Nat) (sz : Nat) (G : GT) (cs : Nat → ClassId) (tt mm : Nat) (a0 : Nat) (ha0 : Ty G a0 7) (v1 : Int32) : Met l yX7_toIndex [.code yX7_toIndex cX7_toIndex 2 (some .int)] ({ frames := 1, cells := 0, slots := 0, locals := 40 }) (PT [.ref a0, .int v1] sz dC dI G cs tt mm (fun _ => True)) (vp_Si (fun (r : Int32) => True)) 0 0 (fun _ => False) := by
  refine Met.ofW (cc := cX7_toIndex) (maxL := 2) (ret := (some .int)) (by decide) rfl ?_
  intro p e s m args below meth c s₁ B hml hv
  obtain ⟨rfl, hsz, ⟨f0, hok, hP, hX⟩, hK, hnd, hWT, hE⟩ := hv
  have hx := B.exec
  have hb := B.bytes
  have hr := B.returns
  have hown : s.vm.findClass RX7 = some m.cls := findClass_of_methodNamed B.named
  have hlocks := B.notSynchronized
  subst hsz
  have hl := lv_entry ([.ref a0, .int v1]) (n := 2) (Nat.le_of_ble_eq_true rfl)
  rw [lg_entry_eq]
  generalize (lg_sl ([.ref a0, .int v1]) ++ List.replicate (2 - (lg_sl ([.ref a0, .int v1])).length) Slot.unset).toArray = ls at hl ⊢
  have hl : lv_has ls 2 [(0, .ref a0), (1, .int v1)] := hl
  refine lv_aload_n hx hb dX7_toIndex_0 rfl (lv_at hl 0 rfl) ?_
  refine lv_iload_n hx hb dX7_toIndex_1 rfl (lv_at hl 1 rfl) ?_
  refine lv_iconst (v := 1) hx hb dX7_toIndex_2 (by decide) ?_
  refine lv_ishr hx hb dX7_toIndex_3 ?_
  refine lv_topi (fun x1 _ => ?_)
  refine lv_iload_n hx hb dX7_toIndex_4 rfl (lv_at hl 1 rfl) ?_
  refine vp_callSi (va_Run.run (va_runSN (As := [.int v1]) (rest := [.int x1, .ref a0]) ⟨hx, hb, hml, hown, noTs⟩ (t_X11_isBackwards l dC dI s.heap.size G cs tt mm v1) ⟨cnE 1 (wd_680 hE) (wd_115 hE) (wd_678 hE) rfl rfl (by decide +kernel) ⟨Nat.le_of_ble_eq_true rfl, Nat.le_of_ble_eq_true rfl⟩, (wd_679 hE), trivial⟩ ⟨PT.blind, (th_pre (av := [.int v1]) trivial hK hP hok hnd hWT hE)⟩ rfl rfl hl.1 rfl (lv_room (Nat.le_of_ble_eq_true rfl)) dX7_toIndex_5 ⟨Nat.le_of_ble_eq_true rfl, Nat.le_of_ble_eq_true rfl⟩)) (fun r2 hr2 => ?_)
  refine lv_if_eq (tgt := 15) hx hb dX7_toIndex_8 (by decide) (fun c3 => ?_) (fun c3 => ?_)
  · refine lv_iconst (v := 3) hx hb dX7_toIndex_15 (by decide) ?_
    have he4 := ok_X7 hok ha0
    refine vp_callSi (va_Run.run (va_runV (As := [.int x1, .int 3]) (rest := []) ⟨hx, hb, hml, hown, noTs⟩ (t_X7_edgePart l dC dI s.heap.size G cs tt mm a0 ha0 x1 3) ⟨cbE 2 (wd_684 hE) (wd_116 hE) (wd_681 hE) rfl rfl (by decide +kernel) ⟨Nat.le_of_ble_eq_true rfl, Nat.le_of_ble_eq_true rfl⟩, (wd_682 hE), (wd_683 hE)⟩ ⟨PT.blind, th_recv hK hP ha0.1 he4 rfl, (th_pre (av := [.ref a0, .int x1, .int 3]) trivial hK hP hok hnd hWT hE)⟩ rfl rfl hl.1 rfl (lv_room (Nat.le_of_ble_eq_true rfl)) dX7_toIndex_16 ⟨Nat.le_of_ble_eq_true rfl, Nat.le_of_ble_eq_true rfl⟩)) (fun r5 hr5 => ?_)
    exact W.iret (v := r5) hx hb hr (fun t ht hW => ⟨r5, rfl, trivial, ht⟩) (fun _ h => absurd h List.not_mem_nil) dX7_toIndex_19
  · refine lv_iconst (v := 1) hx hb dX7_toIndex_11 (by decide) ?_
    refine lv_goto (tgt := 16) hx hb dX7_toIndex_12 (by decide) ?_
    have he6 := ok_X7 hok ha0
    refine vp_callSi (va_Run.run (va_runV (As := [.int x1, .int 1]) (rest := []) ⟨hx, hb, hml, hown, noTs⟩ (t_X7_edgePart l dC dI s.heap.size G cs tt mm a0 ha0 x1 1) ⟨cbE 2 (wd_684 hE) (wd_116 hE) (wd_681 hE) rfl rfl (by decide +kernel) ⟨Nat.le_of_ble_eq_true rfl, Nat.le_of_ble_eq_true rfl⟩, (wd_682 hE), (wd_683 hE)⟩ ⟨PT.blind, th_recv hK hP ha0.1 he6 rfl, (th_pre (av := [.ref a0, .int x1, .int 1]) trivial hK hP hok hnd hWT hE)⟩ rfl rfl hl.1 rfl (lv_room (Nat.le_of_ble_eq_true rfl)) dX7_toIndex_16 ⟨Nat.le_of_ble_eq_true rfl, Nat.le_of_ble_eq_true rfl⟩)) (fun r7 hr7 => ?_)
    exact W.iret (v := r7) hx hb hr (fun t ht hW => ⟨r7, rfl, trivial, ht⟩) (fun _ h => absurd h List.not_mem_nil) dX7_toIndex_19

set_option maxHeartbeats 4000000 in
set_option maxRecDepth 100000 in
theorem t_X7_toVertex (l : Launch) (dC : Nat → ClassId) (dI : Nat → Nat → Nat) (sz : Nat) (G : GT) (cs : Nat → ClassId) (tt mm : Nat) (a0 : Nat) (ha0 : Ty G a0 7) (v1 : Int32) : Met l yX7_toVertex [.code yX7_toVertex cX7_toVertex 2 (some .int)] ({ frames := 1, cells := 0, slots := 0, locals := 40 }) (PT [.ref a0, .int v1] sz dC dI G cs tt mm (fun _ => True)) (vp_Si (fun (r : Int32) => True)) 0 0 (fun _ => False) := by
  refine Met.ofW (cc := cX7_toVertex) (maxL := 2) (ret := (some .int)) (by decide) rfl ?_
  intro p e s m args below meth c s₁ B hml hv
  obtain ⟨rfl, hsz, ⟨f0, hok, hP, hX⟩, hK, hnd, hWT, hE⟩ := hv
  have hx := B.exec
  have hb := B.bytes
  have hr := B.returns
  have hown : s.vm.findClass RX7 = some m.cls := findClass_of_methodNamed B.named
  have hlocks := B.notSynchronized
  subst hsz
  have hl := lv_entry ([.ref a0, .int v1]) (n := 2) (Nat.le_of_ble_eq_true rfl)
  rw [lg_entry_eq]
  generalize (lg_sl ([.ref a0, .int v1]) ++ List.replicate (2 - (lg_sl ([.ref a0, .int v1])).length) Slot.unset).toArray = ls at hl ⊢
  have hl : lv_has ls 2 [(0, .ref a0), (1, .int v1)] := hl
  refine lv_aload_n hx hb dX7_toVertex_0 rfl (lv_at hl 0 rfl) ?_
  refine lv_iload_n hx hb dX7_toVertex_1 rfl (lv_at hl 1 rfl) ?_
  refine lv_iconst (v := 1) hx hb dX7_toVertex_2 (by decide) ?_
  refine lv_ishr hx hb dX7_toVertex_3 ?_
  refine lv_topi (fun x1 _ => ?_)
  refine lv_iload_n hx hb dX7_toVertex_4 rfl (lv_at hl 1 rfl) ?_
  refine vp_callSi (va_Run.run (va_runSN (As := [.int v1]) (rest := [.int x1, .ref a0]) ⟨hx, hb, hml, hown, noTs⟩ (t_X11_isBackwards l dC dI s.heap.size G cs tt mm v1) ⟨cnE 1 (wd_680 hE) (wd_115 hE) (wd_678 hE) rfl rfl (by decide +kernel) ⟨Nat.le_of_ble_eq_true rfl, Nat.le_of_ble_eq_true rfl⟩, (wd_679 hE), trivial⟩ ⟨PT.blind, (th_pre (av := [.int v1]) trivial hK hP hok hnd hWT hE)⟩ rfl rfl hl.1 rfl (lv_room (Nat.le_of_ble_eq_true rfl)) dX7_toVertex_5 ⟨Nat.le_of_ble_eq_true rfl, Nat.le_of_ble_eq_true rfl⟩)) (fun r2 hr2 => ?_)
  refine lv_if_eq (tgt := 15) hx hb dX7_toVertex_8 (by decide) (fun c3 => ?_) (fun c3 => ?_)
  · refine lv_iconst (v := 2) hx hb dX7_toVertex_15 (by decide) ?_
    have he4 := ok_X7 hok ha0
    refine vp_callSi (va_Run.run (va_runV (As := [.int x1, .int 2]) (rest := []) ⟨hx, hb, hml, hown, noTs⟩ (t_X7_edgePart l dC dI s.heap.size G cs tt mm a0 ha0 x1 2) ⟨cbE 2 (wd_684 hE) (wd_116 hE) (wd_681 hE) rfl rfl (by decide +kernel) ⟨Nat.le_of_ble_eq_true rfl, Nat.le_of_ble_eq_true rfl⟩, (wd_682 hE), (wd_683 hE)⟩ ⟨PT.blind, th_recv hK hP ha0.1 he4 rfl, (th_pre (av := [.ref a0, .int x1, .int 2]) trivial hK hP hok hnd hWT hE)⟩ rfl rfl hl.1 rfl (lv_room (Nat.le_of_ble_eq_true rfl)) dX7_toVertex_16 ⟨Nat.le_of_ble_eq_true rfl, Nat.le_of_ble_eq_true rfl⟩)) (fun r5 hr5 => ?_)
    exact W.iret (v := r5) hx hb hr (fun t ht hW => ⟨r5, rfl, trivial, ht⟩) (fun _ h => absurd h List.not_mem_nil) dX7_toVertex_19
  · refine lv_iconst (v := 0) hx hb dX7_toVertex_11 (by decide) ?_
    refine lv_goto (tgt := 16) hx hb dX7_toVertex_12 (by decide) ?_
    have he6 := ok_X7 hok ha0
    refine vp_callSi (va_Run.run (va_runV (As := [.int x1, .int 0]) (rest := []) ⟨hx, hb, hml, hown, noTs⟩ (t_X7_edgePart l dC dI s.heap.size G cs tt mm a0 ha0 x1 0) ⟨cbE 2 (wd_684 hE) (wd_116 hE) (wd_681 hE) rfl rfl (by decide +kernel) ⟨Nat.le_of_ble_eq_true rfl, Nat.le_of_ble_eq_true rfl⟩, (wd_682 hE), (wd_683 hE)⟩ ⟨PT.blind, th_recv hK hP ha0.1 he6 rfl, (th_pre (av := [.ref a0, .int x1, .int 0]) trivial hK hP hok hnd hWT hE)⟩ rfl rfl hl.1 rfl (lv_room (Nat.le_of_ble_eq_true rfl)) dX7_toVertex_16 ⟨Nat.le_of_ble_eq_true rfl, Nat.le_of_ble_eq_true rfl⟩)) (fun r7 hr7 => ?_)
    exact W.iret (v := r7) hx hb hr (fun t ht hW => ⟨r7, rfl, trivial, ht⟩) (fun _ h => absurd h List.not_mem_nil) dX7_toVertex_19

set_option maxHeartbeats 4000000 in
set_option maxRecDepth 100000 in
theorem t_X7_orderAt (l : Launch) (dC : Nat → ClassId) (dI : Nat → Nat → Nat) (sz : Nat) (G : GT) (cs : Nat → ClassId) (tt mm : Nat) (a0 : Nat) (ha0 : Ty G a0 7) (v1 : Int32) : Met l yX7_orderAt [.code yX7_orderAt cX7_orderAt 2 (some .int)] ({ frames := 0, cells := 0, slots := 0, locals := 0 }) (PT [.ref a0, .int v1] sz dC dI G cs tt mm (fun _ => True)) (vp_Si (fun (r : Int32) => True)) 0 0 (fun _ => False) := by
  refine Met.ofW (cc := cX7_orderAt) (maxL := 2) (ret := (some .int)) (by decide) rfl ?_
  intro p e s m args below meth c s₁ B hml hv
  obtain ⟨rfl, hsz, ⟨f0, hok, hP, hX⟩, hK, hnd, hWT, hE⟩ := hv
  have hx := B.exec
  have hb := B.bytes
  have hr := B.returns
  have hown : s.vm.findClass RX7 = some m.cls := findClass_of_methodNamed B.named
  have hlocks := B.notSynchronized
  subst hsz
  have hl := lv_entry ([.ref a0, .int v1]) (n := 2) (Nat.le_of_ble_eq_true rfl)
  rw [lg_entry_eq]
  generalize (lg_sl ([.ref a0, .int v1]) ++ List.replicate (2 - (lg_sl ([.ref a0, .int v1])).length) Slot.unset).toArray = ls at hl ⊢
  have hl : lv_has ls 2 [(0, .ref a0), (1, .int v1)] := hl
  refine lv_iload_n hx hb dX7_orderAt_0 rfl (lv_at hl 1 rfl) ?_
  refine lv_if_lt (tgt := 10) hx hb dX7_orderAt_1 (by decide) (fun c1 => ?_) (fun c1 => ?_)
  · refine lv_iconst (v := 0) hx hb dX7_orderAt_10 (by decide) ?_
    refine lv_goto (tgt := 22) hx hb dX7_orderAt_11 (by decide) ?_
    exact W.iret (v := 0) hx hb hr (fun t ht hW => ⟨0, rfl, trivial, ht⟩) (fun _ h => absurd h List.not_mem_nil) dX7_orderAt_22
  · refine lv_iload_n hx hb dX7_orderAt_4 rfl (lv_at hl 1 rfl) ?_
    refine lv_bipush (v := 6) hx hb dX7_orderAt_5 (by decide) ?_
    refine lv_icmp_lt (tgt := 14) hx hb dX7_orderAt_7 (by decide) (fun c2 => ?_) (fun c2 => ?_)
    · refine lv_aload_n hx hb dX7_orderAt_14 rfl (lv_at hl 0 rfl) ?_
      have he3 := ok_X7 hok ha0
      refine th_get hx hb (ly_X7 hE) hown hK hP ha0.1 he3 rfl 0 (by decide) (wd_149 hE) (fun _ h9 => h9) rfl dX7_orderAt_15 ?_
      refine lv_iconst (v := 3) hx hb dX7_orderAt_18 (by decide) ?_
      refine lv_iload_n hx hb dX7_orderAt_19 rfl (lv_at hl 1 rfl) ?_
      obtain ⟨j4, hj4, rfl⟩ : ∃ j : Nat, j ≤ 5 ∧ v1 = nI j := i_nat (by first | omega | (simp only [i_lt, i_le, i_eq, ti_m9, ti_m1, ti_0, ti_1, ti_2, ti_3, ti_4, ti_5, ti_6, ti_7, ti_9, ti_12, ti_20, ti_99, ti_700, ti_24, ti_156, ti_72, ti_8, ti_60, ti_543, ti_10, ti_33, ti_51, ti_178, ti_119, ti_111, ti_114, ti_100, ti_32, ti_62, ti_59, ti_48, ti_701, ti_97, ti_122, ti_57, ti_73, ti_128] at c1 c2 ⊢; omega)) (by first | omega | (simp only [i_lt, i_le, i_eq, ti_m9, ti_m1, ti_0, ti_1, ti_2, ti_3, ti_4, ti_5, ti_6, ti_7, ti_9, ti_12, ti_20, ti_99, ti_700, ti_24, ti_156, ti_72, ti_8, ti_60, ti_543, ti_10, ti_33, ti_51, ti_178, ti_119, ti_111, ti_114, ti_100, ti_32, ti_62, ti_59, ti_48, ti_701, ti_97, ti_122, ti_57, ti_73, ti_128] at c1 c2 ⊢; omega))
      have nt5 : (nI j4).toInt = ((j4 : Nat) : Int) := nI_toInt (by omega)
      refine lv_iadd hx hb dX7_orderAt_20 ?_
      refine W.eq (g2 := F0 m 21 ls [.int (nI (3 + j4)), .ref (gR G a0 0)]) (congrArg (fun z : Int32 => F0 m 21 ls (.int z :: [.ref (gR G a0 0)])) (nI_add 3 j4)) ?_
      have nt7 : (nI (3 + j4)).toInt = ((3 + j4 : Nat) : Int) := nI_toInt (by omega)
      refine th_iald hx hb hK hP hok (wt_X7_0 hWT ha0) (n := 543) (wl_X7_0 hWT ha0) (vp_in_iff.mpr (by first | omega | (simp only [i_lt, i_le, i_eq, ti_m9, ti_m1, ti_0, ti_1, ti_2, ti_3, ti_4, ti_5, ti_6, ti_7, ti_9, ti_12, ti_20, ti_99, ti_700, ti_24, ti_156, ti_72, ti_8, ti_60, ti_543, ti_10, ti_33, ti_51, ti_178, ti_119, ti_111, ti_114, ti_100, ti_32, ti_62, ti_59, ti_48, ti_701, ti_97, ti_122, ti_57, ti_73, ti_128, nt5, nt7] at c1 c2 ⊢; omega))) dX7_orderAt_21 (fun x6 => ?_)
      exact W.iret (v := x6) hx hb hr (fun t ht hW => ⟨x6, rfl, trivial, ht⟩) (fun _ h => absurd h List.not_mem_nil) dX7_orderAt_22
    · refine lv_iconst (v := 0) hx hb dX7_orderAt_10 (by decide) ?_
      refine lv_goto (tgt := 22) hx hb dX7_orderAt_11 (by decide) ?_
      exact W.iret (v := 0) hx hb hr (fun t ht hW => ⟨0, rfl, trivial, ht⟩) (fun _ h => absurd h List.not_mem_nil) dX7_orderAt_22

set_option maxHeartbeats 4000000 in
set_option maxRecDepth 100000 in
theorem t_X0_aim (l : Launch) (dC : Nat → ClassId) (dI : Nat → Nat → Nat) (sz : Nat) (G : GT) (cs : Nat → ClassId) (tt mm : Nat) (a0 : Nat) (ha0 : Ty G a0 1) (a1 : Nat) (ha1 : Ty G a1 7) (a2 : Nat) (ha2 : Ty G a2 10) : Met l yX0_aim [.code yX0_aim cX0_aim 5 none] ({ frames := 2, cells := 0, slots := 0, locals := 80 }) (PT [.ref a0, .ref a1, .ref a2] sz dC dI G cs tt mm (fun _ => True)) (va_Qv (fun (u : Nat → va_E) => True) (BT dC dI G cs tt mm) (AT G sz)) 0 0 (AT G sz) := by
  refine Met.ofW (cc := cX0_aim) (maxL := 5) (ret := none) (by decide) rfl ?_
  intro p e s m args below meth c s₁ B hml hv
  obtain ⟨rfl, hsz, ⟨f0, hok, hP, hX⟩, hK, hnd, hWT, hE⟩ := hv
  have hx := B.exec
  have hb := B.bytes
  have hr := B.returns
  have hown : s.vm.findClass RX0 = some m.cls := findClass_of_methodNamed B.named
  have hlocks := B.notSynchronized
  subst hsz
  have hAL : ∀ a, a ∈ gL G → AT G s.heap.size a := fun a h => Or.inl h
  have hA : ∀ q : Nat, s.heap.size ≤ q → AT G s.heap.size q := fun q h => Or.inr h
  have hS : va_S (AT G s.heap.size) s.heap s.heap [] := va_S.rf
  have hl := lv_entry ([.ref a0, .ref a1, .ref a2]) (n := 5) (Nat.le_of_ble_eq_true rfl)
  rw [lg_entry_eq]
  generalize (lg_sl ([.ref a0, .ref a1, .ref a2]) ++ List.replicate (5 - (lg_sl ([.ref a0, .ref a1, .ref a2])).length) Slot.unset).toArray = ls at hl ⊢
  have hl : lv_has ls 5 [(0, .ref a0), (1, .ref a1), (2, .ref a2)] := hl
  refine lv_aload_n hx hb dX0_aim_0 rfl (lv_at hl 0 rfl) ?_
  refine lv_aload_n hx hb dX0_aim_1 rfl (lv_at hl 2 rfl) ?_
  obtain ⟨y4_1, hy4_1, he1⟩ := ok_X0 hok ha0
  refine th_put (v := .ref a2) (ty := .object "GluedWords$Walk") hx hb (ly_X0 hE) tyX0 tyX0_ok nmX0 hown hK hP hnd hAL hS ha0.1 he1 rfl 4 (by decide) (wd_293 hE) (fun _ h9 => h9) rfl (by decide +kernel) rfl rfl (Nat.le_of_ble_eq_true rfl) (up_X0 hok ha0 ⟨a2, ha2, rfl⟩) dX0_aim_2 (fun f2 H locs hfa2 hfo2 hok hP hS => ?_)
  refine lv_iconst (v := 0) hx hb dX0_aim_5 (by decide) ?_
  refine lv_istore_n (lv' := [(3, .int 0), (0, .ref a0), (1, .ref a1), (2, .ref a2)]) hx hb dX0_aim_6 rfl hl (by decide) rfl (fun ls hl => ?_)
  refine w_ind (I := fun n f H locs ls => OKT G cs tt mm f ∧ va_P (dC, dI) vwCl (va_pl (gL G) f) H ∧ va_S (AT G s.heap.size) s.heap H locs ∧ ∃ (w3_3 : Int32), n = (2147483647 - w3_3.toInt).toNat ∧ 0 ≤ w3_3 ∧ lv_has ls 5 [(0, .ref a0), (1, .ref a1), (2, .ref a2), (3, .int w3_3)]) (fun n f3 H locs ls hI ih3 => ?_) _ f2 _ _ _ ⟨hok, hP, hS, 0, rfl, (by first | omega | (simp only [i_lt, i_le, i_eq, ti_m9, ti_m1, ti_0, ti_1, ti_2, ti_3, ti_4, ti_5, ti_6, ti_7, ti_9, ti_12, ti_20, ti_99, ti_700, ti_24, ti_156, ti_72, ti_8, ti_60, ti_543, ti_10, ti_33, ti_51, ti_178, ti_119, ti_111, ti_114, ti_100, ti_32, ti_62, ti_59, ti_48, ti_701, ti_97, ti_122, ti_57, ti_73, ti_128]; omega)), lv_sub hl [1, 2, 3, 0] rfl⟩
  obtain ⟨hok, hP, hS, w3_3, hmu3, hlo3, hl⟩ := hI
  subst hmu3
  refine lv_iload_n hx hb dX0_aim_7 rfl (lv_at hl 3 rfl) ?_
  refine lv_aload_n hx hb dX0_aim_8 rfl (lv_at hl 2 rfl) ?_
  obtain ⟨y2_4, y3_4, hy3_4, he4⟩ := ok_X10 hok ha2
  refine vp_callSi (va_Run.run (va_runV (As := []) (rest := [.int w3_3]) ⟨hx, hb, hml, hown, noTs⟩ (t_X10_size l dC dI H.size G cs tt mm a2 ha2 y2_4 y3_4) ⟨cbE 0 (wd_666 hE) (wd_120 hE) (wd_1146 hE) rfl rfl (by decide +kernel) ⟨Nat.le_of_ble_eq_true rfl, Nat.le_of_ble_eq_true rfl⟩, (wd_664 hE), (wd_665 hE)⟩ ⟨PT.blind, th_recv hK hP ha2.1 he4 rfl, (th_pre (av := [.ref a2]) he4 hK hP hok hnd hWT hE)⟩ rfl rfl hl.1 rfl (lv_room (Nat.le_of_ble_eq_true rfl)) dX0_aim_9 ⟨Nat.le_of_ble_eq_true rfl, Nat.le_of_ble_eq_true rfl⟩)) (fun r5 hr5 => ?_)
  subst hr5
  have nt6 : (nI y3_4).toInt = ((y3_4 : Nat) : Int) := nI_toInt (by omega)
  refine lv_icmp_ge (tgt := 74) hx hb dX0_aim_12 (by decide) (fun c7 => ?_) (fun c7 => ?_)
  · exact W.vret hx hb hr (fun t ht hW => ⟨⟨f3, rfl, trivial, hok, by rw [ht]; exact hP⟩, hS.F ht⟩) hS.2.2 dX0_aim_74
  · refine lv_iload_n hx hb dX0_aim_15 rfl (lv_at hl 3 rfl) ?_
    refine lv_bipush (v := 24) hx hb dX0_aim_16 (by decide) ?_
    refine lv_icmp_ge (tgt := 74) hx hb dX0_aim_18 (by decide) (fun c8 => ?_) (fun c8 => ?_)
    · exact W.vret hx hb hr (fun t ht hW => ⟨⟨f3, rfl, trivial, hok, by rw [ht]; exact hP⟩, hS.F ht⟩) hS.2.2 dX0_aim_74
    · refine lv_aload_n hx hb dX0_aim_21 rfl (lv_at hl 2 rfl) ?_
      refine lv_iload_n hx hb dX0_aim_22 rfl (lv_at hl 3 rfl) ?_
      refine vp_callSi (va_Run.run (va_runV (As := [.int w3_3]) (rest := []) ⟨hx, hb, hml, hown, noTs⟩ (t_X10_stepAt l dC dI H.size G cs tt mm a2 ha2 w3_3) ⟨cbE 1 (wd_721 hE) (wd_120 hE) (wd_1147 hE) rfl rfl (by decide +kernel) ⟨Nat.le_of_ble_eq_true rfl, Nat.le_of_ble_eq_true rfl⟩, (wd_719 hE), (wd_720 hE)⟩ ⟨PT.blind, th_recv hK hP ha2.1 he4 rfl, (th_pre (av := [.ref a2, .int w3_3]) trivial hK hP hok hnd hWT hE)⟩ rfl rfl hl.1 rfl (lv_room (Nat.le_of_ble_eq_true rfl)) dX0_aim_23 ⟨Nat.le_of_ble_eq_true rfl, Nat.le_of_ble_eq_true rfl⟩)) (fun r9 hr9 => ?_)
      refine lv_istore (lv' := [(4, .int r9), (0, .ref a0), (1, .ref a1), (2, .ref a2), (3, .int w3_3)]) hx hb dX0_aim_26 hl (by decide) rfl (fun ls hl => ?_)
      refine lv_aload_n hx hb dX0_aim_28 rfl (lv_at hl 1 rfl) ?_
      obtain ⟨y4_10, hy4_10, he10⟩ := ok_X0 hok ha0
      refine th_get hx hb (ly_X0 hE) hown hK hP ha0.1 he10 rfl 0 (by decide) (wd_289 hE) (fun _ h9 => h9) rfl dX0_aim_29 ?_
      refine lv_iload_n hx hb dX0_aim_32 rfl (lv_at hl 4 rfl) ?_
      refine lv_aload_n hx hb dX0_aim_33 rfl (lv_at hl 2 rfl) ?_
      refine lv_iload hx hb dX0_aim_34 (lv_at hl 0 rfl) ?_
      have he11 := ok_X7 hok ha1
      refine vp_callSi (va_Run.run (va_runV (As := [.int r9]) (rest := [.int w3_3, .ref (gR G a0 0)]) ⟨hx, hb, hml, hown, noTs⟩ (t_X7_fromIndex l dC dI H.size G cs tt mm a1 ha1 r9) ⟨cbE 1 (wd_855 hE) (wd_116 hE) (wd_1148 hE) rfl rfl (by decide +kernel) ⟨Nat.le_of_ble_eq_true rfl, Nat.le_of_ble_eq_true rfl⟩, (wd_853 hE), (wd_854 hE)⟩ ⟨PT.blind, th_recv hK hP ha1.1 he11 rfl, (th_pre (av := [.ref a1, .int r9]) trivial hK hP hok hnd hWT hE)⟩ rfl rfl hl.1 rfl (lv_room (Nat.le_of_ble_eq_true rfl)) dX0_aim_36 ⟨Nat.le_of_ble_eq_true rfl, Nat.le_of_ble_eq_true rfl⟩)) (fun r12 hr12 => ?_)
      refine th_iast hx hb hK hP hok hnd hAL hS (wt_X0_0 hWT ha0) (n := 24) (wl_X0_0 hWT ha0) (vp_in_iff.mpr (by first | omega | (simp only [i_lt, i_le, i_eq, ti_m9, ti_m1, ti_0, ti_1, ti_2, ti_3, ti_4, ti_5, ti_6, ti_7, ti_9, ti_12, ti_20, ti_99, ti_700, ti_24, ti_156, ti_72, ti_8, ti_60, ti_543, ti_10, ti_33, ti_51, ti_178, ti_119, ti_111, ti_114, ti_100, ti_32, ti_62, ti_59, ti_48, ti_701, ti_97, ti_122, ti_57, ti_73, ti_128, nt6] at hlo3 c7 c8 ⊢; omega))) dX0_aim_39 (fun f13 H locs hfo13 hok hP hS => ?_)
      have he14 := (hfo13 a2 (Ty.ne ha2 (wt_X0_0 hWT ha0) (by decide))).trans he4
      have he15 := (hfo13 a0 (Ty.ne ha0 (wt_X0_0 hWT ha0) (by decide))).trans he10
      have he16 := (hfo13 a1 (Ty.ne ha1 (wt_X0_0 hWT ha0) (by decide))).trans he11
      refine lv_aload_n hx hb dX0_aim_40 rfl (lv_at hl 1 rfl) ?_
      refine th_get hx hb (ly_X0 hE) hown hK hP ha0.1 he15 rfl 1 (by decide) (wd_290 hE) (fun _ h9 => h9) rfl dX0_aim_41 ?_
      refine lv_iload_n hx hb dX0_aim_44 rfl (lv_at hl 4 rfl) ?_
      refine lv_aload_n hx hb dX0_aim_45 rfl (lv_at hl 2 rfl) ?_
      refine lv_iload hx hb dX0_aim_46 (lv_at hl 0 rfl) ?_
      refine vp_callSi (va_Run.run (va_runV (As := [.int r9]) (rest := [.int w3_3, .ref (gR G a0 1)]) ⟨hx, hb, hml, hown, noTs⟩ (t_X7_toIndex l dC dI H.size G cs tt mm a1 ha1 r9) ⟨cbE 1 (wd_861 hE) (wd_116 hE) (wd_1149 hE) rfl rfl (by decide +kernel) ⟨Nat.le_of_ble_eq_true rfl, Nat.le_of_ble_eq_true rfl⟩, (wd_859 hE), (wd_860 hE)⟩ ⟨PT.blind, th_recv hK hP ha1.1 he16 rfl, (th_pre (av := [.ref a1, .int r9]) trivial hK hP hok hnd hWT hE)⟩ rfl rfl hl.1 rfl (lv_room (Nat.le_of_ble_eq_true rfl)) dX0_aim_48 ⟨Nat.le_of_ble_eq_true rfl, Nat.le_of_ble_eq_true rfl⟩)) (fun r17 hr17 => ?_)
      refine th_iast hx hb hK hP hok hnd hAL hS (wt_X0_1 hWT ha0) (n := 24) (wl_X0_1 hWT ha0) (vp_in_iff.mpr (by first | omega | (simp only [i_lt, i_le, i_eq, ti_m9, ti_m1, ti_0, ti_1, ti_2, ti_3, ti_4, ti_5, ti_6, ti_7, ti_9, ti_12, ti_20, ti_99, ti_700, ti_24, ti_156, ti_72, ti_8, ti_60, ti_543, ti_10, ti_33, ti_51, ti_178, ti_119, ti_111, ti_114, ti_100, ti_32, ti_62, ti_59, ti_48, ti_701, ti_97, ti_122, ti_57, ti_73, ti_128, nt6] at hlo3 c7 c8 ⊢; omega))) dX0_aim_51 (fun f18 H locs hfo18 hok hP hS => ?_)
      have he19 := (hfo18 a2 (Ty.ne ha2 (wt_X0_1 hWT ha0) (by decide))).trans he14
      have he20 := (hfo18 a0 (Ty.ne ha0 (wt_X0_1 hWT ha0) (by decide))).trans he15
      have he21 := (hfo18 a1 (Ty.ne ha1 (wt_X0_1 hWT ha0) (by decide))).trans he16
      refine lv_aload_n hx hb dX0_aim_52 rfl (lv_at hl 1 rfl) ?_
      refine th_get hx hb (ly_X0 hE) hown hK hP ha0.1 he20 rfl 2 (by decide) (wd_291 hE) (fun _ h9 => h9) rfl dX0_aim_53 ?_
      refine lv_iload_n hx hb dX0_aim_56 rfl (lv_at hl 4 rfl) ?_
      refine lv_aload_n hx hb dX0_aim_57 rfl (lv_at hl 2 rfl) ?_
      refine lv_aload_n hx hb dX0_aim_58 rfl (lv_at hl 2 rfl) ?_
      refine lv_iload hx hb dX0_aim_59 (lv_at hl 0 rfl) ?_
      refine vp_callSi (va_Run.run (va_runV (As := [.int r9]) (rest := [.ref a1, .int w3_3, .ref (gR G a0 2)]) ⟨hx, hb, hml, hown, noTs⟩ (t_X7_toVertex l dC dI H.size G cs tt mm a1 ha1 r9) ⟨cbE 1 (wd_692 hE) (wd_116 hE) (wd_1150 hE) rfl rfl (by decide +kernel) ⟨Nat.le_of_ble_eq_true rfl, Nat.le_of_ble_eq_true rfl⟩, (wd_690 hE), (wd_691 hE)⟩ ⟨PT.blind, th_recv hK hP ha1.1 he21 rfl, (th_pre (av := [.ref a1, .int r9]) trivial hK hP hok hnd hWT hE)⟩ rfl rfl hl.1 rfl (lv_room (Nat.le_of_ble_eq_true rfl)) dX0_aim_61 ⟨Nat.le_of_ble_eq_true rfl, Nat.le_of_ble_eq_true rfl⟩)) (fun r22 hr22 => ?_)
      refine vp_callSi (va_Run.run (va_runV (As := [.int r22]) (rest := [.int w3_3, .ref (gR G a0 2)]) ⟨hx, hb, hml, hown, noTs⟩ (t_X7_orderAt l dC dI H.size G cs tt mm a1 ha1 r22) ⟨cbE 1 (wd_614 hE) (wd_116 hE) (wd_1151 hE) rfl rfl (by decide +kernel) ⟨Nat.le_of_ble_eq_true rfl, Nat.le_of_ble_eq_true rfl⟩, (wd_612 hE), (wd_613 hE)⟩ ⟨PT.blind, th_recv hK hP ha1.1 he21 rfl, (th_pre (av := [.ref a1, .int r22]) trivial hK hP hok hnd hWT hE)⟩ rfl rfl hl.1 rfl (lv_room (Nat.le_of_ble_eq_true rfl)) dX0_aim_64 ⟨Nat.le_of_ble_eq_true rfl, Nat.le_of_ble_eq_true rfl⟩)) (fun r23 hr23 => ?_)
      refine th_iast hx hb hK hP hok hnd hAL hS (wt_X0_2 hWT ha0) (n := 24) (wl_X0_2 hWT ha0) (vp_in_iff.mpr (by first | omega | (simp only [i_lt, i_le, i_eq, ti_m9, ti_m1, ti_0, ti_1, ti_2, ti_3, ti_4, ti_5, ti_6, ti_7, ti_9, ti_12, ti_20, ti_99, ti_700, ti_24, ti_156, ti_72, ti_8, ti_60, ti_543, ti_10, ti_33, ti_51, ti_178, ti_119, ti_111, ti_114, ti_100, ti_32, ti_62, ti_59, ti_48, ti_701, ti_97, ti_122, ti_57, ti_73, ti_128, nt6] at hlo3 c7 c8 ⊢; omega))) dX0_aim_67 (fun f24 H locs hfo24 hok hP hS => ?_)
      have he25 := (hfo24 a2 (Ty.ne ha2 (wt_X0_2 hWT ha0) (by decide))).trans he19
      have he26 := (hfo24 a0 (Ty.ne ha0 (wt_X0_2 hWT ha0) (by decide))).trans he20
      have he27 := (hfo24 a1 (Ty.ne ha1 (wt_X0_2 hWT ha0) (by decide))).trans he21
      obtain ⟨z28, ez28⟩ : ∃ z : Int32, z = w3_3 + 1 := ⟨_, rfl⟩
      refine lv_iinc (v := z28) (lv' := [(3, .int z28), (4, .int r9), (0, .ref a0), (1, .ref a1), (2, .ref a2)]) hx hb dX0_aim_68 hl (k := 4) rfl (by rw [ez28]; rfl) (by decide) rfl (fun ls hl => ?_)
      have ic28 : z28.toInt = w3_3.toInt + 1 := by rw [ez28]; exact ic_up (by have := i_rng w3_3; have := i_rng (nI y3_4); simp only [i_lt, i_le, i_eq, ti_m9, ti_m1, ti_0, ti_1, ti_2, ti_3, ti_4, ti_5, ti_6, ti_7, ti_9, ti_12, ti_20, ti_99, ti_700, ti_24, ti_156, ti_72, ti_8, ti_60, ti_543, ti_10, ti_33, ti_51, ti_178, ti_119, ti_111, ti_114, ti_100, ti_32, ti_62, ti_59, ti_48, ti_701, ti_97, ti_122, ti_57, ti_73, ti_128, nt6] at hlo3 c7 c8 ⊢; omega)
      refine lv_goto (tgt := 7) hx hb dX0_aim_71 (by decide) ?_
      exact ih3 _ f24 _ _ _ (by have := i_rng z28; first | omega | (simp only [i_lt, i_le, i_eq, ti_m9, ti_m1, ti_0, ti_1, ti_2, ti_3, ti_4, ti_5, ti_6, ti_7, ti_9, ti_12, ti_20, ti_99, ti_700, ti_24, ti_156, ti_72, ti_8, ti_60, ti_543, ti_10, ti_33, ti_51, ti_178, ti_119, ti_111, ti_114, ti_100, ti_32, ti_62, ti_59, ti_48, ti_701, ti_97, ti_122, ti_57, ti_73, ti_128, nt6, ic28] at hlo3 c7 c8 ic28 ⊢; omega)) ⟨hok, hP, hS, z28, rfl, (by first | omega | (simp only [i_lt, i_le, i_eq, ti_m9, ti_m1, ti_0, ti_1, ti_2, ti_3, ti_4, ti_5, ti_6, ti_7, ti_9, ti_12, ti_20, ti_99, ti_700, ti_24, ti_156, ti_72, ti_8, ti_60, ti_543, ti_10, ti_33, ti_51, ti_178, ti_119, ti_111, ti_114, ti_100, ti_32, ti_62, ti_59, ti_48, ti_701, ti_97, ti_122, ti_57, ti_73, ti_128, nt6, ic28] at hlo3 c7 c8 ⊢; omega)), lv_sub hl [2, 3, 4, 0] rfl⟩

set_option maxHeartbeats 4000000 in
set_option maxRecDepth 100000 in
theorem t_X10_numberAt (l : Launch) (dC : Nat → ClassId) (dI : Nat → Nat → Nat) (sz : Nat) (G : GT) (cs : Nat → ClassId) (tt mm : Nat) (a0 : Nat) (ha0 : Ty G a0 10) (v1 : Int32) : Met l yX10_numberAt [.code yX10_numberAt cX10_numberAt 2 (some .int)] ({ frames := 0, cells := 0, slots := 0, locals := 0 }) (PT [.ref a0, .int v1] sz dC dI G cs tt mm (fun _ => True)) (vp_Si (fun (r : Int32) => True)) 0 0 (fun _ => False) := by
  refine Met.ofW (cc := cX10_numberAt) (maxL := 2) (ret := (some .int)) (by decide) rfl ?_
  intro p e s m args below meth c s₁ B hml hv
  obtain ⟨rfl, hsz, ⟨f0, hok, hP, hX⟩, hK, hnd, hWT, hE⟩ := hv
  have hx := B.exec
  have hb := B.bytes
  have hr := B.returns
  have hown : s.vm.findClass RX10 = some m.cls := findClass_of_methodNamed B.named
  have hlocks := B.notSynchronized
  subst hsz
  have hl := lv_entry ([.ref a0, .int v1]) (n := 2) (Nat.le_of_ble_eq_true rfl)
  rw [lg_entry_eq]
  generalize (lg_sl ([.ref a0, .int v1]) ++ List.replicate (2 - (lg_sl ([.ref a0, .int v1])).length) Slot.unset).toArray = ls at hl ⊢
  have hl : lv_has ls 2 [(0, .ref a0), (1, .int v1)] := hl
  refine lv_iload_n hx hb dX10_numberAt_0 rfl (lv_at hl 1 rfl) ?_
  refine lv_if_lt (tgt := 21) hx hb dX10_numberAt_1 (by decide) (fun c1 => ?_) (fun c1 => ?_)
  · refine lv_iconst (v := 0) hx hb dX10_numberAt_21 (by decide) ?_
    refine lv_goto (tgt := 31) hx hb dX10_numberAt_22 (by decide) ?_
    exact W.iret (v := 0) hx hb hr (fun t ht hW => ⟨0, rfl, trivial, ht⟩) (fun _ h => absurd h List.not_mem_nil) dX10_numberAt_31
  · refine lv_iload_n hx hb dX10_numberAt_4 rfl (lv_at hl 1 rfl) ?_
    refine lv_aload_n hx hb dX10_numberAt_5 rfl (lv_at hl 0 rfl) ?_
    obtain ⟨y2_2, y3_2, hy3_2, he2⟩ := ok_X10 hok ha0
    refine th_get hx hb (ly_X10 hE) hown hK hP ha0.1 he2 rfl 3 (by decide) (wd_217 hE) (fun _ h9 => h9) rfl dX10_numberAt_6 ?_
    have nt3 : (nI y3_2).toInt = ((y3_2 : Nat) : Int) := nI_toInt (by omega)
    refine lv_icmp_gt (tgt := 21) hx hb dX10_numberAt_9 (by decide) (fun c4 => ?_) (fun c4 => ?_)
    · refine lv_iconst (v := 0) hx hb dX10_numberAt_21 (by decide) ?_
      refine lv_goto (tgt := 31) hx hb dX10_numberAt_22 (by decide) ?_
      exact W.iret (v := 0) hx hb hr (fun t ht hW => ⟨0, rfl, trivial, ht⟩) (fun _ h => absurd h List.not_mem_nil) dX10_numberAt_31
    · refine lv_iload_n hx hb dX10_numberAt_12 rfl (lv_at hl 1 rfl) ?_
      refine lv_aload_n hx hb dX10_numberAt_13 rfl (lv_at hl 0 rfl) ?_
      refine th_get hx hb (ly_X10 hE) hown hK hP ha0.1 he2 rfl 0 (by decide) (wd_214 hE) (fun _ h9 => h9) rfl dX10_numberAt_14 ?_
      refine th_len1 hx hb hK hP hok (n := 73) (wl_X10_0 hWT ha0) (Or.inl (wt_X10_0 hWT ha0)) dX10_numberAt_17 ?_
      refine W.eq (g2 := F0 m 18 ls [.int 73, .int v1]) rfl ?_
      refine lv_icmp_lt (tgt := 25) hx hb dX10_numberAt_18 (by decide) (fun c5 => ?_) (fun c5 => False.elim (by simp only [i_lt, i_le, i_eq, ti_m9, ti_m1, ti_0, ti_1, ti_2, ti_3, ti_4, ti_5, ti_6, ti_7, ti_9, ti_12, ti_20, ti_99, ti_700, ti_24, ti_156, ti_72, ti_8, ti_60, ti_543, ti_10, ti_33, ti_51, ti_178, ti_119, ti_111, ti_114, ti_100, ti_32, ti_62, ti_59, ti_48, ti_701, ti_97, ti_122, ti_57, ti_73, ti_128, nt3] at c1 c4 c5; omega))
      refine lv_aload_n hx hb dX10_numberAt_25 rfl (lv_at hl 0 rfl) ?_
      refine th_get hx hb (ly_X10 hE) hown hK hP ha0.1 he2 rfl 0 (by decide) (wd_214 hE) (fun _ h9 => h9) rfl dX10_numberAt_26 ?_
      refine lv_iload_n hx hb dX10_numberAt_29 rfl (lv_at hl 1 rfl) ?_
      refine th_iald hx hb hK hP hok (wt_X10_0 hWT ha0) (n := 73) (wl_X10_0 hWT ha0) (vp_in_iff.mpr (by first | omega | (simp only [i_lt, i_le, i_eq, ti_m9, ti_m1, ti_0, ti_1, ti_2, ti_3, ti_4, ti_5, ti_6, ti_7, ti_9, ti_12, ti_20, ti_99, ti_700, ti_24, ti_156, ti_72, ti_8, ti_60, ti_543, ti_10, ti_33, ti_51, ti_178, ti_119, ti_111, ti_114, ti_100, ti_32, ti_62, ti_59, ti_48, ti_701, ti_97, ti_122, ti_57, ti_73, ti_128, nt3] at c1 c4 c5 ⊢; omega))) dX10_numberAt_30 (fun x6 => ?_)
      exact W.iret (v := x6) hx hb hr (fun t ht hW => ⟨x6, rfl, trivial, ht⟩) (fun _ h => absurd h List.not_mem_nil) dX10_numberAt_31

set_option maxHeartbeats 4000000 in
theorem t_X11_rest (l : Launch) (dC : Nat → ClassId) (dI : Nat → Nat → Nat) (sz : Nat) (G : GT) (cs : Nat → ClassId) (tt mm : Nat) (v0 : Int32) (v1 : Int32) : Met l yX11_rest [.code yX11_rest cX11_rest 3 (some .int)] ({ frames := 0, cells := 0, slots := 0, locals := 0 }) (PT [.int v0, .int v1] sz dC dI G cs tt mm (fun _ => True)) (vp_Si (fun (r : Int32) => 0 ≤ r.toInt ∧ (1 ≤ v1.toInt → r.toInt < v1.toInt))) 0 0 (fun _ => False) := by
  refine Met.ofW (cc := cX11_rest) (maxL := 3) (ret := (some .int)) (by decide) rfl ?_
  intro p e s m args below meth c s₁ B hml hv
  obtain ⟨rfl, hsz, ⟨f0, hok, hP, hX⟩, hK, hnd, hWT, hE⟩ := hv
  have hx := B.exec
  have hb := B.bytes
  have hr := B.returns
  have hlocks := B.notSynchronized
  have hl := lv_entry ([.int v0, .int v1]) (n := 3) (Nat.le_of_ble_eq_true rfl)
  rw [lg_entry_eq]
  generalize (lg_sl ([.int v0, .int v1]) ++ List.replicate (3 - (lg_sl ([.int v0, .int v1])).length) Slot.unset).toArray = ls at hl ⊢
  have hl : lv_has ls 3 [(0, .int v0), (1, .int v1)] := hl
  refine lv_iload_n hx hb dX11_rest_0 rfl (lv_at hl 1 rfl) ?_
  refine lv_iconst (v := 1) hx hb dX11_rest_1 (by decide) ?_
  refine lv_icmp_ge (tgt := 7) hx hb dX11_rest_2 (by decide) (fun c1 => ?_) (fun c1 => ?_)
  · have c2 : 1 ≤ v1.toInt := by simp only [i_le, ti_1] at c1; omega
    refine lv_iload_n hx hb dX11_rest_7 rfl (lv_at hl 0 rfl) ?_
    refine lv_iload_n hx hb dX11_rest_8 rfl (lv_at hl 1 rfl) ?_
    refine lv_irem hx hb dX11_rest_9 (by intro h0; rw [h0] at c2; exact absurd c2 (by decide)) ?_
    refine lv_topi (fun x ex => ?_)
    obtain ⟨b1, b2⟩ := i_rem (x := v0) c2
    rw [← ex] at b1 b2
    have b3 := i_rng v1
    refine lv_istore_n (lv' := [(2, .int x), (0, .int v0), (1, .int v1)]) hx hb dX11_rest_10 rfl hl (by decide) rfl (fun ls hl => ?_)
    refine lv_iload_n hx hb dX11_rest_11 rfl (lv_at hl 0 rfl) ?_
    refine lv_if_ge (tgt := 21) hx hb dX11_rest_12 (by decide) (fun c3 => ?_) (fun c3 => ?_)
    · refine lv_iload_n hx hb dX11_rest_21 rfl (lv_at hl 0 rfl) ?_
      simp only [i_le, ti_0] at c3
      exact W.iret (v := x) hx hb hr (fun t ht hW => ⟨x, rfl, ⟨c3, fun _ => b2⟩, ht⟩) (fun _ h => absurd h List.not_mem_nil) dX11_rest_22
    · refine lv_iload_n hx hb dX11_rest_15 rfl (lv_at hl 0 rfl) ?_
      refine lv_iload_n hx hb dX11_rest_16 rfl (lv_at hl 2 rfl) ?_
      refine lv_iadd hx hb dX11_rest_17 ?_
      refine lv_topi (fun y ey => ?_)
      refine lv_goto (tgt := 22) hx hb dX11_rest_18 (by decide) ?_
      simp only [i_le, ti_0] at c3
      have e3 : y.toInt = x.toInt + v1.toInt := by
        rw [ey, Int32.toInt_add]
        unfold Int.bmod
        dsimp only
        split <;> omega
      exact W.iret (v := y) hx hb hr (fun t ht hW => ⟨y, rfl, ⟨by omega, fun _ => by omega⟩, ht⟩) (fun _ h => absurd h List.not_mem_nil) dX11_rest_22
  · refine lv_iconst (v := 0) hx hb dX11_rest_5 (by decide) ?_
    simp only [i_le, ti_1] at c1
    exact W.iret (v := 0) hx hb hr (fun t ht hW => ⟨0, rfl, ⟨by decide, fun h => absurd h (by omega)⟩, ht⟩) (fun _ h => absurd h List.not_mem_nil) dX11_rest_6

set_option maxHeartbeats 4000000 in
set_option maxRecDepth 100000 in
theorem t_X11_share (l : Launch) (dC : Nat → ClassId) (dI : Nat → Nat → Nat) (sz : Nat) (G : GT) (cs : Nat → ClassId) (tt mm : Nat) (v0 : Int32) (v1 : Int32) : Met l yX11_share [.code yX11_share cX11_share 2 (some .int)] ({ frames := 0, cells := 0, slots := 0, locals := 0 }) (PT [.int v0, .int v1] sz dC dI G cs tt mm (fun _ => True)) (vp_Si (fun (r : Int32) => True)) 0 0 (fun _ => False) := by
  refine Met.ofW (cc := cX11_share) (maxL := 2) (ret := (some .int)) (by decide) rfl ?_
  intro p e s m args below meth c s₁ B hml hv
  obtain ⟨rfl, hsz, ⟨f0, hok, hP, hX⟩, hK, hnd, hWT, hE⟩ := hv
  have hx := B.exec
  have hb := B.bytes
  have hr := B.returns
  have hown : s.vm.findClass RX11 = some m.cls := findClass_of_methodNamed B.named
  have hlocks := B.notSynchronized
  subst hsz
  have hl := lv_entry ([.int v0, .int v1]) (n := 2) (Nat.le_of_ble_eq_true rfl)
  rw [lg_entry_eq]
  generalize (lg_sl ([.int v0, .int v1]) ++ List.replicate (2 - (lg_sl ([.int v0, .int v1])).length) Slot.unset).toArray = ls at hl ⊢
  have hl : lv_has ls 2 [(0, .int v0), (1, .int v1)] := hl
  refine lv_iload_n hx hb dX11_share_0 rfl (lv_at hl 1 rfl) ?_
  refine lv_iconst (v := 1) hx hb dX11_share_1 (by decide) ?_
  refine lv_icmp_ge (tgt := 9) hx hb dX11_share_2 (by decide) (fun c1 => ?_) (fun c1 => ?_)
  · refine lv_iload_n hx hb dX11_share_9 rfl (lv_at hl 0 rfl) ?_
    refine lv_iload_n hx hb dX11_share_10 rfl (lv_at hl 1 rfl) ?_
    refine lv_idiv hx hb dX11_share_11 (by intro h0; simp only [i_lt, i_le, i_eq, ti_m9, ti_m1, ti_0, ti_1, ti_2, ti_3, ti_4, ti_5, ti_6, ti_7, ti_9, ti_12, ti_20, ti_99, ti_700, ti_24, ti_156, ti_72, ti_8, ti_60, ti_543, ti_10, ti_33, ti_51, ti_178, ti_119, ti_111, ti_114, ti_100, ti_32, ti_62, ti_59, ti_48, ti_701, ti_97, ti_122, ti_57, ti_73, ti_128] at c1 h0; omega) ?_
    refine lv_topi (fun x2 _ => ?_)
    exact W.iret (v := x2) hx hb hr (fun t ht hW => ⟨x2, rfl, trivial, ht⟩) (fun _ h => absurd h List.not_mem_nil) dX11_share_12
  · refine lv_iconst (v := 0) hx hb dX11_share_5 (by decide) ?_
    refine lv_goto (tgt := 12) hx hb dX11_share_6 (by decide) ?_
    exact W.iret (v := 0) hx hb hr (fun t ht hW => ⟨0, rfl, trivial, ht⟩) (fun _ h => absurd h List.not_mem_nil) dX11_share_12

set_option maxHeartbeats 4000000 in
set_option maxRecDepth 100000 in
theorem t_X10_lastNumber (l : Launch) (dC : Nat → ClassId) (dI : Nat → Nat → Nat) (sz : Nat) (G : GT) (cs : Nat → ClassId) (tt mm : Nat) (a0 : Nat) (ha0 : Ty G a0 10) : Met l yX10_lastNumber [.code yX10_lastNumber cX10_lastNumber 1 (some .int)] ({ frames := 0, cells := 0, slots := 0, locals := 0 }) (PT [.ref a0] sz dC dI G cs tt mm (fun _ => True)) (vp_Si (fun (r : Int32) => True)) 0 0 (fun _ => False) := by
  refine Met.ofW (cc := cX10_lastNumber) (maxL := 1) (ret := (some .int)) (by decide) rfl ?_
  intro p e s m args below meth c s₁ B hml hv
  obtain ⟨rfl, hsz, ⟨f0, hok, hP, hX⟩, hK, hnd, hWT, hE⟩ := hv
  have hx := B.exec
  have hb := B.bytes
  have hr := B.returns
  have hown : s.vm.findClass RX10 = some m.cls := findClass_of_methodNamed B.named
  have hlocks := B.notSynchronized
  subst hsz
  have hl := lv_entry ([.ref a0]) (n := 1) (Nat.le_of_ble_eq_true rfl)
  rw [lg_entry_eq]
  generalize (lg_sl ([.ref a0]) ++ List.replicate (1 - (lg_sl ([.ref a0])).length) Slot.unset).toArray = ls at hl ⊢
  have hl : lv_has ls 1 [(0, .ref a0)] := hl
  refine lv_aload_n hx hb dX10_lastNumber_0 rfl (lv_at hl 0 rfl) ?_
  obtain ⟨y2_1, y3_1, hy3_1, he1⟩ := ok_X10 hok ha0
  refine th_get hx hb (ly_X10 hE) hown hK hP ha0.1 he1 rfl 3 (by decide) (wd_217 hE) (fun _ h9 => h9) rfl dX10_lastNumber_1 ?_
  have nt2 : (nI y3_1).toInt = ((y3_1 : Nat) : Int) := nI_toInt (by omega)
  refine lv_if_lt (tgt := 19) hx hb dX10_lastNumber_4 (by decide) (fun c3 => False.elim (by simp only [i_lt, i_le, i_eq, ti_m9, ti_m1, ti_0, ti_1, ti_2, ti_3, ti_4, ti_5, ti_6, ti_7, ti_9, ti_12, ti_20, ti_99, ti_700, ti_24, ti_156, ti_72, ti_8, ti_60, ti_543, ti_10, ti_33, ti_51, ti_178, ti_119, ti_111, ti_114, ti_100, ti_32, ti_62, ti_59, ti_48, ti_701, ti_97, ti_122, ti_57, ti_73, ti_128, nt2] at c3; omega)) (fun c3 => ?_)
  refine lv_aload_n hx hb dX10_lastNumber_7 rfl (lv_at hl 0 rfl) ?_
  refine th_get hx hb (ly_X10 hE) hown hK hP ha0.1 he1 rfl 3 (by decide) (wd_217 hE) (fun _ h9 => h9) rfl dX10_lastNumber_8 ?_
  refine lv_aload_n hx hb dX10_lastNumber_11 rfl (lv_at hl 0 rfl) ?_
  refine th_get hx hb (ly_X10 hE) hown hK hP ha0.1 he1 rfl 0 (by decide) (wd_214 hE) (fun _ h9 => h9) rfl dX10_lastNumber_12 ?_
  refine th_len1 hx hb hK hP hok (n := 73) (wl_X10_0 hWT ha0) (Or.inl (wt_X10_0 hWT ha0)) dX10_lastNumber_15 ?_
  refine W.eq (g2 := F0 m 16 ls [.int 73, .int (nI y3_1)]) rfl ?_
  refine lv_icmp_lt (tgt := 23) hx hb dX10_lastNumber_16 (by decide) (fun c4 => ?_) (fun c4 => False.elim (by simp only [i_lt, i_le, i_eq, ti_m9, ti_m1, ti_0, ti_1, ti_2, ti_3, ti_4, ti_5, ti_6, ti_7, ti_9, ti_12, ti_20, ti_99, ti_700, ti_24, ti_156, ti_72, ti_8, ti_60, ti_543, ti_10, ti_33, ti_51, ti_178, ti_119, ti_111, ti_114, ti_100, ti_32, ti_62, ti_59, ti_48, ti_701, ti_97, ti_122, ti_57, ti_73, ti_128, nt2] at c3 c4; omega))
  refine lv_aload_n hx hb dX10_lastNumber_23 rfl (lv_at hl 0 rfl) ?_
  refine th_get hx hb (ly_X10 hE) hown hK hP ha0.1 he1 rfl 0 (by decide) (wd_214 hE) (fun _ h9 => h9) rfl dX10_lastNumber_24 ?_
  refine lv_aload_n hx hb dX10_lastNumber_27 rfl (lv_at hl 0 rfl) ?_
  refine th_get hx hb (ly_X10 hE) hown hK hP ha0.1 he1 rfl 3 (by decide) (wd_217 hE) (fun _ h9 => h9) rfl dX10_lastNumber_28 ?_
  refine th_iald hx hb hK hP hok (wt_X10_0 hWT ha0) (n := 73) (wl_X10_0 hWT ha0) (vp_in_iff.mpr (by first | omega | (simp only [i_lt, i_le, i_eq, ti_m9, ti_m1, ti_0, ti_1, ti_2, ti_3, ti_4, ti_5, ti_6, ti_7, ti_9, ti_12, ti_20, ti_99, ti_700, ti_24, ti_156, ti_72, ti_8, ti_60, ti_543, ti_10, ti_33, ti_51, ti_178, ti_119, ti_111, ti_114, ti_100, ti_32, ti_62, ti_59, ti_48, ti_701, ti_97, ti_122, ti_57, ti_73, ti_128, nt2] at c3 c4 ⊢; omega))) dX10_lastNumber_31 (fun x5 => ?_)
  exact W.iret (v := x5) hx hb hr (fun t ht hW => ⟨x5, rfl, trivial, ht⟩) (fun _ h => absurd h List.not_mem_nil) dX10_lastNumber_32

set_option maxHeartbeats 4000000 in
set_option maxRecDepth 100000 in
theorem t_X0_hits (l : Launch) (dC : Nat → ClassId) (dI : Nat → Nat → Nat) (sz : Nat) (G : GT) (cs : Nat → ClassId) (tt mm : Nat) (a0 : Nat) (ha0 : Ty G a0 1) (a1 : Nat) (ha1 : Ty G a1 10) : Met l yX0_hits [.code yX0_hits cX0_hits 5 (some .boolean)] ({ frames := 1, cells := 0, slots := 0, locals := 40 }) (PT [.ref a0, .ref a1] sz dC dI G cs tt mm (fun _ => True)) (vp_Si (fun (r : Int32) => r = 0 ∨ r = 1)) 0 0 (fun _ => False) := by
  refine Met.ofW (cc := cX0_hits) (maxL := 5) (ret := (some .boolean)) (by decide) rfl ?_
  intro p e s m args below meth c s₁ B hml hv
  obtain ⟨rfl, hsz, ⟨f0, hok, hP, hX⟩, hK, hnd, hWT, hE⟩ := hv
  have hx := B.exec
  have hb := B.bytes
  have hr := B.returns
  have hown : s.vm.findClass RX0 = some m.cls := findClass_of_methodNamed B.named
  have hlocks := B.notSynchronized
  subst hsz
  have hl := lv_entry ([.ref a0, .ref a1]) (n := 5) (Nat.le_of_ble_eq_true rfl)
  rw [lg_entry_eq]
  generalize (lg_sl ([.ref a0, .ref a1]) ++ List.replicate (5 - (lg_sl ([.ref a0, .ref a1])).length) Slot.unset).toArray = ls at hl ⊢
  have hl : lv_has ls 5 [(0, .ref a0), (1, .ref a1)] := hl
  refine lv_aload_n hx hb dX0_hits_0 rfl (lv_at hl 1 rfl) ?_
  refine lv_iconst (v := 0) hx hb dX0_hits_1 (by decide) ?_
  obtain ⟨y2_1, y3_1, hy3_1, he1⟩ := ok_X10 hok ha1
  refine vp_callSi (va_Run.run (va_runV (As := [.int 0]) (rest := []) ⟨hx, hb, hml, hown, noTs⟩ (t_X10_numberAt l dC dI s.heap.size G cs tt mm a1 ha1 0) ⟨cbE 1 (wd_717 hE) (wd_120 hE) (wd_1166 hE) rfl rfl (by decide +kernel) ⟨Nat.le_of_ble_eq_true rfl, Nat.le_of_ble_eq_true rfl⟩, (wd_715 hE), (wd_716 hE)⟩ ⟨PT.blind, th_recv hK hP ha1.1 he1 rfl, (th_pre (av := [.ref a1, .int 0]) trivial hK hP hok hnd hWT hE)⟩ rfl rfl hl.1 rfl (lv_room (Nat.le_of_ble_eq_true rfl)) dX0_hits_2 ⟨Nat.le_of_ble_eq_true rfl, Nat.le_of_ble_eq_true rfl⟩)) (fun r2 hr2 => ?_)
  refine lv_istore_n (lv' := [(2, .int r2), (0, .ref a0), (1, .ref a1)]) hx hb dX0_hits_5 rfl hl (by decide) rfl (fun ls hl => ?_)
  refine lv_iconst (v := 0) hx hb dX0_hits_6 (by decide) ?_
  refine lv_istore_n (lv' := [(3, .int 0), (2, .int r2), (0, .ref a0), (1, .ref a1)]) hx hb dX0_hits_7 rfl hl (by decide) rfl (fun ls hl => ?_)
  refine w_indP (I := fun n ls => ∃ (w2_3 : Int32) (w3_3 : Int32), n = (2147483647 - w3_3.toInt).toNat ∧ 0 ≤ w3_3 ∧ lv_has ls 5 [(0, .ref a0), (1, .ref a1), (2, .int w2_3), (3, .int w3_3)]) (fun n ls hI ih3 => ?_) _ _ ⟨r2, 0, rfl, (by first | omega | (simp only [i_lt, i_le, i_eq, ti_m9, ti_m1, ti_0, ti_1, ti_2, ti_3, ti_4, ti_5, ti_6, ti_7, ti_9, ti_12, ti_20, ti_99, ti_700, ti_24, ti_156, ti_72, ti_8, ti_60, ti_543, ti_10, ti_33, ti_51, ti_178, ti_119, ti_111, ti_114, ti_100, ti_32, ti_62, ti_59, ti_48, ti_701, ti_97, ti_122, ti_57, ti_73, ti_128]; omega)), lv_sub hl [2, 3, 1, 0] rfl⟩
  obtain ⟨w2_3, w3_3, hmu3, hlo3, hl⟩ := hI
  subst hmu3
  refine lv_iload_n hx hb dX0_hits_8 rfl (lv_at hl 3 rfl) ?_
  refine lv_aload_n hx hb dX0_hits_9 rfl (lv_at hl 1 rfl) ?_
  refine vp_callSi (va_Run.run (va_runV (As := []) (rest := [.int w3_3]) ⟨hx, hb, hml, hown, noTs⟩ (t_X10_size l dC dI s.heap.size G cs tt mm a1 ha1 y2_1 y3_1) ⟨cbE 0 (wd_666 hE) (wd_120 hE) (wd_1146 hE) rfl rfl (by decide +kernel) ⟨Nat.le_of_ble_eq_true rfl, Nat.le_of_ble_eq_true rfl⟩, (wd_664 hE), (wd_665 hE)⟩ ⟨PT.blind, th_recv hK hP ha1.1 he1 rfl, (th_pre (av := [.ref a1]) he1 hK hP hok hnd hWT hE)⟩ rfl rfl hl.1 rfl (lv_room (Nat.le_of_ble_eq_true rfl)) dX0_hits_10 ⟨Nat.le_of_ble_eq_true rfl, Nat.le_of_ble_eq_true rfl⟩)) (fun r4 hr4 => ?_)
  subst hr4
  have nt5 : (nI y3_1).toInt = ((y3_1 : Nat) : Int) := nI_toInt (by omega)
  refine lv_icmp_ge (tgt := 86) hx hb dX0_hits_13 (by decide) (fun c6 => ?_) (fun c6 => ?_)
  · refine lv_iload_n hx hb dX0_hits_86 rfl (lv_at hl 2 rfl) ?_
    refine lv_aload_n hx hb dX0_hits_87 rfl (lv_at hl 0 rfl) ?_
    obtain ⟨y4_7, hy4_7, he7⟩ := ok_X0 hok ha0
    refine th_get hx hb (ly_X0 hE) hown hK hP ha0.1 he7 rfl 4 (by decide) (wd_293 hE) (fun _ h9 => h9) rfl dX0_hits_88 ?_
    obtain ⟨y2_8, y3_8, hy3_8, he8⟩ := ok_X10 hok hy4_7
    refine vp_callSi (va_Run.run (va_runV (As := []) (rest := [.int w2_3]) ⟨hx, hb, hml, hown, noTs⟩ (t_X10_lastNumber l dC dI s.heap.size G cs tt mm y4_7 hy4_7) ⟨cbE 0 (wd_649 hE) (wd_120 hE) (wd_1169 hE) rfl rfl (by decide +kernel) ⟨Nat.le_of_ble_eq_true rfl, Nat.le_of_ble_eq_true rfl⟩, (wd_647 hE), (wd_648 hE)⟩ ⟨PT.blind, th_recv hK hP hy4_7.1 he8 rfl, (th_pre (av := [.ref y4_7]) trivial hK hP hok hnd hWT hE)⟩ rfl rfl hl.1 rfl (lv_room (Nat.le_of_ble_eq_true rfl)) dX0_hits_91 ⟨Nat.le_of_ble_eq_true rfl, Nat.le_of_ble_eq_true rfl⟩)) (fun r9 hr9 => ?_)
    refine lv_icmp_ne (tgt := 101) hx hb dX0_hits_94 (by decide) (fun c10 => ?_) (fun c10 => ?_)
    · refine lv_iconst (v := 0) hx hb dX0_hits_101 (by decide) ?_
      exact W.zret (v := 0) hx hb hr rfl (fun t ht hW => ⟨0, rfl, Or.inl rfl, ht⟩) (fun _ h => absurd h List.not_mem_nil) dX0_hits_102
    · refine lv_iconst (v := 1) hx hb dX0_hits_97 (by decide) ?_
      refine lv_goto (tgt := 102) hx hb dX0_hits_98 (by decide) ?_
      exact W.zret (v := 1) hx hb hr rfl (fun t ht hW => ⟨1, rfl, Or.inr rfl, ht⟩) (fun _ h => absurd h List.not_mem_nil) dX0_hits_102
  · refine lv_iload_n hx hb dX0_hits_16 rfl (lv_at hl 3 rfl) ?_
    refine lv_bipush (v := 24) hx hb dX0_hits_17 (by decide) ?_
    refine lv_icmp_ge (tgt := 86) hx hb dX0_hits_19 (by decide) (fun c11 => ?_) (fun c11 => ?_)
    · refine lv_iload_n hx hb dX0_hits_86 rfl (lv_at hl 2 rfl) ?_
      refine lv_aload_n hx hb dX0_hits_87 rfl (lv_at hl 0 rfl) ?_
      obtain ⟨y4_12, hy4_12, he12⟩ := ok_X0 hok ha0
      refine th_get hx hb (ly_X0 hE) hown hK hP ha0.1 he12 rfl 4 (by decide) (wd_293 hE) (fun _ h9 => h9) rfl dX0_hits_88 ?_
      obtain ⟨y2_13, y3_13, hy3_13, he13⟩ := ok_X10 hok hy4_12
      refine vp_callSi (va_Run.run (va_runV (As := []) (rest := [.int w2_3]) ⟨hx, hb, hml, hown, noTs⟩ (t_X10_lastNumber l dC dI s.heap.size G cs tt mm y4_12 hy4_12) ⟨cbE 0 (wd_649 hE) (wd_120 hE) (wd_1169 hE) rfl rfl (by decide +kernel) ⟨Nat.le_of_ble_eq_true rfl, Nat.le_of_ble_eq_true rfl⟩, (wd_647 hE), (wd_648 hE)⟩ ⟨PT.blind, th_recv hK hP hy4_12.1 he13 rfl, (th_pre (av := [.ref y4_12]) trivial hK hP hok hnd hWT hE)⟩ rfl rfl hl.1 rfl (lv_room (Nat.le_of_ble_eq_true rfl)) dX0_hits_91 ⟨Nat.le_of_ble_eq_true rfl, Nat.le_of_ble_eq_true rfl⟩)) (fun r14 hr14 => ?_)
      refine lv_icmp_ne (tgt := 101) hx hb dX0_hits_94 (by decide) (fun c15 => ?_) (fun c15 => ?_)
      · refine lv_iconst (v := 0) hx hb dX0_hits_101 (by decide) ?_
        exact W.zret (v := 0) hx hb hr rfl (fun t ht hW => ⟨0, rfl, Or.inl rfl, ht⟩) (fun _ h => absurd h List.not_mem_nil) dX0_hits_102
      · refine lv_iconst (v := 1) hx hb dX0_hits_97 (by decide) ?_
        refine lv_goto (tgt := 102) hx hb dX0_hits_98 (by decide) ?_
        exact W.zret (v := 1) hx hb hr rfl (fun t ht hW => ⟨1, rfl, Or.inr rfl, ht⟩) (fun _ h => absurd h List.not_mem_nil) dX0_hits_102
    · refine lv_aload_n hx hb dX0_hits_22 rfl (lv_at hl 0 rfl) ?_
      obtain ⟨y4_16, hy4_16, he16⟩ := ok_X0 hok ha0
      refine th_get hx hb (ly_X0 hE) hown hK hP ha0.1 he16 rfl 0 (by decide) (wd_289 hE) (fun _ h9 => h9) rfl dX0_hits_23 ?_
      refine lv_iload_n hx hb dX0_hits_26 rfl (lv_at hl 3 rfl) ?_
      refine th_iald hx hb hK hP hok (wt_X0_0 hWT ha0) (n := 24) (wl_X0_0 hWT ha0) (vp_in_iff.mpr (by first | omega | (simp only [i_lt, i_le, i_eq, ti_m9, ti_m1, ti_0, ti_1, ti_2, ti_3, ti_4, ti_5, ti_6, ti_7, ti_9, ti_12, ti_20, ti_99, ti_700, ti_24, ti_156, ti_72, ti_8, ti_60, ti_543, ti_10, ti_33, ti_51, ti_178, ti_119, ti_111, ti_114, ti_100, ti_32, ti_62, ti_59, ti_48, ti_701, ti_97, ti_122, ti_57, ti_73, ti_128, nt5] at hlo3 c6 c11 ⊢; omega))) dX0_hits_27 (fun x17 => ?_)
      refine lv_istore (lv' := [(4, .int x17), (0, .ref a0), (1, .ref a1), (2, .int w2_3), (3, .int w3_3)]) hx hb dX0_hits_28 hl (by decide) rfl (fun ls hl => ?_)
      refine lv_iload_n hx hb dX0_hits_30 rfl (lv_at hl 3 rfl) ?_
      refine lv_iload hx hb dX0_hits_31 (lv_at hl 0 rfl) ?_
      refine vp_callSi (va_Run.run (va_runSN (As := [.int w2_3, .int x17]) (rest := []) ⟨hx, hb, hml, hown, noTs⟩ (t_X11_rest l dC dI s.heap.size G cs tt mm w2_3 x17) ⟨cnE 2 (wd_617 hE) (wd_115 hE) (wd_1167 hE) rfl rfl (by decide +kernel) ⟨Nat.le_of_ble_eq_true rfl, Nat.le_of_ble_eq_true rfl⟩, (wd_616 hE), trivial⟩ ⟨PT.blind, (th_pre (av := [.int w2_3, .int x17]) trivial hK hP hok hnd hWT hE)⟩ rfl rfl hl.1 rfl (lv_room (Nat.le_of_ble_eq_true rfl)) dX0_hits_33 ⟨Nat.le_of_ble_eq_true rfl, Nat.le_of_ble_eq_true rfl⟩)) (fun r18 hr18 => ?_)
      obtain ⟨hra18, hrb18⟩ := hr18
      refine lv_aload_n hx hb dX0_hits_36 rfl (lv_at hl 1 rfl) ?_
      refine th_get hx hb (ly_X0 hE) hown hK hP ha0.1 he16 rfl 4 (by decide) (wd_293 hE) (fun _ h9 => h9) rfl dX0_hits_37 ?_
      refine lv_iload_n hx hb dX0_hits_40 rfl (lv_at hl 4 rfl) ?_
      obtain ⟨y2_19, y3_19, hy3_19, he19⟩ := ok_X10 hok hy4_16
      refine vp_callSi (va_Run.run (va_runV (As := [.int w3_3]) (rest := [.int r18]) ⟨hx, hb, hml, hown, noTs⟩ (t_X10_numberAt l dC dI s.heap.size G cs tt mm y4_16 hy4_16 w3_3) ⟨cbE 1 (wd_717 hE) (wd_120 hE) (wd_1166 hE) rfl rfl (by decide +kernel) ⟨Nat.le_of_ble_eq_true rfl, Nat.le_of_ble_eq_true rfl⟩, (wd_715 hE), (wd_716 hE)⟩ ⟨PT.blind, th_recv hK hP hy4_16.1 he19 rfl, (th_pre (av := [.ref y4_16, .int w3_3]) trivial hK hP hok hnd hWT hE)⟩ rfl rfl hl.1 rfl (lv_room (Nat.le_of_ble_eq_true rfl)) dX0_hits_41 ⟨Nat.le_of_ble_eq_true rfl, Nat.le_of_ble_eq_true rfl⟩)) (fun r20 hr20 => ?_)
      refine lv_icmp_eq (tgt := 49) hx hb dX0_hits_44 (by decide) (fun c21 => ?_) (fun c21 => ?_)
      · refine lv_iload_n hx hb dX0_hits_49 rfl (lv_at hl 3 rfl) ?_
        refine lv_iload hx hb dX0_hits_50 (lv_at hl 0 rfl) ?_
        refine vp_callSi (va_Run.run (va_runSN (As := [.int w2_3, .int x17]) (rest := []) ⟨hx, hb, hml, hown, noTs⟩ (t_X11_share l dC dI s.heap.size G cs tt mm w2_3 x17) ⟨cnE 2 (wd_620 hE) (wd_115 hE) (wd_1168 hE) rfl rfl (by decide +kernel) ⟨Nat.le_of_ble_eq_true rfl, Nat.le_of_ble_eq_true rfl⟩, (wd_619 hE), trivial⟩ ⟨PT.blind, (th_pre (av := [.int w2_3, .int x17]) trivial hK hP hok hnd hWT hE)⟩ rfl rfl hl.1 rfl (lv_room (Nat.le_of_ble_eq_true rfl)) dX0_hits_52 ⟨Nat.le_of_ble_eq_true rfl, Nat.le_of_ble_eq_true rfl⟩)) (fun r22 hr22 => ?_)
        refine lv_aload_n hx hb dX0_hits_55 rfl (lv_at hl 1 rfl) ?_
        refine th_get hx hb (ly_X0 hE) hown hK hP ha0.1 he16 rfl 1 (by decide) (wd_290 hE) (fun _ h9 => h9) rfl dX0_hits_56 ?_
        refine lv_iload_n hx hb dX0_hits_59 rfl (lv_at hl 4 rfl) ?_
        refine th_iald hx hb hK hP hok (wt_X0_1 hWT ha0) (n := 24) (wl_X0_1 hWT ha0) (vp_in_iff.mpr (by first | omega | (simp only [i_lt, i_le, i_eq, ti_m9, ti_m1, ti_0, ti_1, ti_2, ti_3, ti_4, ti_5, ti_6, ti_7, ti_9, ti_12, ti_20, ti_99, ti_700, ti_24, ti_156, ti_72, ti_8, ti_60, ti_543, ti_10, ti_33, ti_51, ti_178, ti_119, ti_111, ti_114, ti_100, ti_32, ti_62, ti_59, ti_48, ti_701, ti_97, ti_122, ti_57, ti_73, ti_128, nt5] at hlo3 c6 c11 hra18 hrb18 c21 ⊢; omega))) dX0_hits_60 (fun x23 => ?_)
        refine lv_imul hx hb dX0_hits_61 ?_
        refine lv_topi (fun x24 ex24 => ?_)
        refine lv_aload_n hx hb dX0_hits_62 rfl (lv_at hl 2 rfl) ?_
        refine lv_iload_n hx hb dX0_hits_63 rfl (lv_at hl 4 rfl) ?_
        refine lv_iconst (v := 1) hx hb dX0_hits_64 (by decide) ?_
        obtain ⟨j25, hj25, rfl⟩ : ∃ j : Nat, j ≤ 23 ∧ w3_3 = nI j := i_nat (by first | omega | (simp only [i_lt, i_le, i_eq, ti_m9, ti_m1, ti_0, ti_1, ti_2, ti_3, ti_4, ti_5, ti_6, ti_7, ti_9, ti_12, ti_20, ti_99, ti_700, ti_24, ti_156, ti_72, ti_8, ti_60, ti_543, ti_10, ti_33, ti_51, ti_178, ti_119, ti_111, ti_114, ti_100, ti_32, ti_62, ti_59, ti_48, ti_701, ti_97, ti_122, ti_57, ti_73, ti_128, nt5] at hlo3 c6 c11 hra18 hrb18 c21 ⊢; omega)) (by first | omega | (simp only [i_lt, i_le, i_eq, ti_m9, ti_m1, ti_0, ti_1, ti_2, ti_3, ti_4, ti_5, ti_6, ti_7, ti_9, ti_12, ti_20, ti_99, ti_700, ti_24, ti_156, ti_72, ti_8, ti_60, ti_543, ti_10, ti_33, ti_51, ti_178, ti_119, ti_111, ti_114, ti_100, ti_32, ti_62, ti_59, ti_48, ti_701, ti_97, ti_122, ti_57, ti_73, ti_128, nt5] at hlo3 c6 c11 hra18 hrb18 c21 ⊢; omega))
        have nt26 : (nI j25).toInt = ((j25 : Nat) : Int) := nI_toInt (by omega)
        refine lv_iadd hx hb dX0_hits_65 ?_
        refine W.eq (g2 := F0 m 66 ls [.int (nI (j25 + 1)), .ref a1, .int x24]) (congrArg (fun z : Int32 => F0 m 66 ls (.int z :: [.ref a1, .int x24])) (nI_add j25 1)) ?_
        refine vp_callSi (va_Run.run (va_runV (As := [.int (nI (j25 + 1))]) (rest := [.int x24]) ⟨hx, hb, hml, hown, noTs⟩ (t_X10_numberAt l dC dI s.heap.size G cs tt mm a1 ha1 (nI (j25 + 1))) ⟨cbE 1 (wd_717 hE) (wd_120 hE) (wd_1166 hE) rfl rfl (by decide +kernel) ⟨Nat.le_of_ble_eq_true rfl, Nat.le_of_ble_eq_true rfl⟩, (wd_715 hE), (wd_716 hE)⟩ ⟨PT.blind, th_recv hK hP ha1.1 he1 rfl, (th_pre (av := [.ref a1, .int (nI (j25 + 1))]) trivial hK hP hok hnd hWT hE)⟩ rfl rfl hl.1 rfl (lv_room (Nat.le_of_ble_eq_true rfl)) dX0_hits_66 ⟨Nat.le_of_ble_eq_true rfl, Nat.le_of_ble_eq_true rfl⟩)) (fun r27 hr27 => ?_)
        refine lv_iadd hx hb dX0_hits_69 ?_
        refine lv_topi (fun x28 ex28 => ?_)
        refine lv_aload_n hx hb dX0_hits_70 rfl (lv_at hl 1 rfl) ?_
        refine th_get hx hb (ly_X0 hE) hown hK hP ha0.1 he16 rfl 2 (by decide) (wd_291 hE) (fun _ h9 => h9) rfl dX0_hits_71 ?_
        refine lv_iload_n hx hb dX0_hits_74 rfl (lv_at hl 4 rfl) ?_
        refine th_iald hx hb hK hP hok (wt_X0_2 hWT ha0) (n := 24) (wl_X0_2 hWT ha0) (vp_in_iff.mpr (by first | omega | (simp only [i_lt, i_le, i_eq, ti_m9, ti_m1, ti_0, ti_1, ti_2, ti_3, ti_4, ti_5, ti_6, ti_7, ti_9, ti_12, ti_20, ti_99, ti_700, ti_24, ti_156, ti_72, ti_8, ti_60, ti_543, ti_10, ti_33, ti_51, ti_178, ti_119, ti_111, ti_114, ti_100, ti_32, ti_62, ti_59, ti_48, ti_701, ti_97, ti_122, ti_57, ti_73, ti_128, nt5, nt26] at hlo3 c6 c11 hra18 hrb18 c21 ⊢; omega))) dX0_hits_75 (fun x29 => ?_)
        refine vp_callSi (va_Run.run (va_runSN (As := [.int x28, .int x29]) (rest := []) ⟨hx, hb, hml, hown, noTs⟩ (t_X11_rest l dC dI s.heap.size G cs tt mm x28 x29) ⟨cnE 2 (wd_617 hE) (wd_115 hE) (wd_1167 hE) rfl rfl (by decide +kernel) ⟨Nat.le_of_ble_eq_true rfl, Nat.le_of_ble_eq_true rfl⟩, (wd_616 hE), trivial⟩ ⟨PT.blind, (th_pre (av := [.int x28, .int x29]) trivial hK hP hok hnd hWT hE)⟩ rfl rfl hl.1 rfl (lv_room (Nat.le_of_ble_eq_true rfl)) dX0_hits_76 ⟨Nat.le_of_ble_eq_true rfl, Nat.le_of_ble_eq_true rfl⟩)) (fun r30 hr30 => ?_)
        obtain ⟨hra30, hrb30⟩ := hr30
        refine lv_istore_n (lv' := [(2, .int r30), (4, .int x17), (0, .ref a0), (1, .ref a1), (3, .int (nI j25))]) hx hb dX0_hits_79 rfl hl (by decide) rfl (fun ls hl => ?_)
        obtain ⟨z31, ez31⟩ : ∃ z : Int32, z = (nI j25) + 1 := ⟨_, rfl⟩
        refine lv_iinc (v := z31) (lv' := [(3, .int z31), (2, .int r30), (4, .int x17), (0, .ref a0), (1, .ref a1)]) hx hb dX0_hits_80 hl (k := 4) rfl (by rw [ez31]; rfl) (by decide) rfl (fun ls hl => ?_)
        have ic31 : z31.toInt = (nI j25).toInt + 1 := by rw [ez31]; exact ic_up (by have := i_rng (nI j25); have := i_rng (nI y3_1); have := i_rng r18; have := i_rng r20; have := i_rng r30; simp only [i_lt, i_le, i_eq, ti_m9, ti_m1, ti_0, ti_1, ti_2, ti_3, ti_4, ti_5, ti_6, ti_7, ti_9, ti_12, ti_20, ti_99, ti_700, ti_24, ti_156, ti_72, ti_8, ti_60, ti_543, ti_10, ti_33, ti_51, ti_178, ti_119, ti_111, ti_114, ti_100, ti_32, ti_62, ti_59, ti_48, ti_701, ti_97, ti_122, ti_57, ti_73, ti_128, nt5, nt26] at hlo3 c6 c11 hra18 hrb18 c21 hra30 hrb30 ⊢; omega)
        refine lv_goto (tgt := 8) hx hb dX0_hits_83 (by decide) ?_
        exact ih3 _ _ (by have := i_rng z31; first | omega | (simp only [i_lt, i_le, i_eq, ti_m9, ti_m1, ti_0, ti_1, ti_2, ti_3, ti_4, ti_5, ti_6, ti_7, ti_9, ti_12, ti_20, ti_99, ti_700, ti_24, ti_156, ti_72, ti_8, ti_60, ti_543, ti_10, ti_33, ti_51, ti_178, ti_119, ti_111, ti_114, ti_100, ti_32, ti_62, ti_59, ti_48, ti_701, ti_97, ti_122, ti_57, ti_73, ti_128, nt5, nt26, ic31] at hlo3 c6 c11 hra18 hrb18 c21 hra30 hrb30 ic31 ⊢; omega)) ⟨r30, z31, rfl, (by first | omega | (simp only [i_lt, i_le, i_eq, ti_m9, ti_m1, ti_0, ti_1, ti_2, ti_3, ti_4, ti_5, ti_6, ti_7, ti_9, ti_12, ti_20, ti_99, ti_700, ti_24, ti_156, ti_72, ti_8, ti_60, ti_543, ti_10, ti_33, ti_51, ti_178, ti_119, ti_111, ti_114, ti_100, ti_32, ti_62, ti_59, ti_48, ti_701, ti_97, ti_122, ti_57, ti_73, ti_128, nt5, nt26, ic31] at hlo3 c6 c11 hra18 hrb18 c21 hra30 hrb30 ⊢; omega)), lv_sub hl [3, 4, 1, 0] rfl⟩
      · refine lv_iconst (v := 0) hx hb dX0_hits_47 (by decide) ?_
        exact W.zret (v := 0) hx hb hr rfl (fun t ht hW => ⟨0, rfl, Or.inl rfl, ht⟩) (fun _ h => absurd h List.not_mem_nil) dX0_hits_48

set_option maxHeartbeats 4000000 in
set_option maxRecDepth 100000 in
theorem t_X10_begin (l : Launch) (dC : Nat → ClassId) (dI : Nat → Nat → Nat) (sz : Nat) (G : GT) (cs : Nat → ClassId) (tt mm : Nat) (a0 : Nat) (ha0 : Ty G a0 10) : Met l yX10_begin [.code yX10_begin cX10_begin 1 (some .int)] ({ frames := 0, cells := 0, slots := 0, locals := 0 }) (PT [.ref a0] sz dC dI G cs tt mm (fun _ => True)) (vp_Si (fun (r : Int32) => True)) 0 0 (fun _ => False) := by
  refine Met.ofW (cc := cX10_begin) (maxL := 1) (ret := (some .int)) (by decide) rfl ?_
  intro p e s m args below meth c s₁ B hml hv
  obtain ⟨rfl, hsz, ⟨f0, hok, hP, hX⟩, hK, hnd, hWT, hE⟩ := hv
  have hx := B.exec
  have hb := B.bytes
  have hr := B.returns
  have hown : s.vm.findClass RX10 = some m.cls := findClass_of_methodNamed B.named
  have hlocks := B.notSynchronized
  subst hsz
  have hl := lv_entry ([.ref a0]) (n := 1) (Nat.le_of_ble_eq_true rfl)
  rw [lg_entry_eq]
  generalize (lg_sl ([.ref a0]) ++ List.replicate (1 - (lg_sl ([.ref a0])).length) Slot.unset).toArray = ls at hl ⊢
  have hl : lv_has ls 1 [(0, .ref a0)] := hl
  refine lv_aload_n hx hb dX10_begin_0 rfl (lv_at hl 0 rfl) ?_
  obtain ⟨y2_1, y3_1, hy3_1, he1⟩ := ok_X10 hok ha0
  refine th_get hx hb (ly_X10 hE) hown hK hP ha0.1 he1 rfl 2 (by decide) (wd_216 hE) (fun _ h9 => h9) rfl dX10_begin_1 ?_
  exact W.iret (v := y2_1) hx hb hr (fun t ht hW => ⟨y2_1, rfl, trivial, ht⟩) (fun _ h => absurd h List.not_mem_nil) dX10_begin_4

set_option maxHeartbeats 4000000 in
set_option maxRecDepth 100000 in
theorem t_X10_start (l : Launch) (dC : Nat → ClassId) (dI : Nat → Nat → Nat) (sz : Nat) (G : GT) (cs : Nat → ClassId) (tt mm : Nat) (a0 : Nat) (ha0 : Ty G a0 10) (v1 : Int32) (v2 : Int32) : Met l yX10_start [.code yX10_start cX10_start 3 none] ({ frames := 0, cells := 0, slots := 0, locals := 0 }) (PT [.ref a0, .int v1, .int v2] sz dC dI G cs tt mm (fun _ => True)) (va_Qv (fun (u : Nat → va_E) => True) (BT dC dI G cs tt mm) (AT G sz)) 0 0 (AT G sz) := by
  refine Met.ofW (cc := cX10_start) (maxL := 3) (ret := none) (by decide) rfl ?_
  intro p e s m args below meth c s₁ B hml hv
  obtain ⟨rfl, hsz, ⟨f0, hok, hP, hX⟩, hK, hnd, hWT, hE⟩ := hv
  have hx := B.exec
  have hb := B.bytes
  have hr := B.returns
  have hown : s.vm.findClass RX10 = some m.cls := findClass_of_methodNamed B.named
  have hlocks := B.notSynchronized
  subst hsz
  have hAL : ∀ a, a ∈ gL G → AT G s.heap.size a := fun a h => Or.inl h
  have hA : ∀ q : Nat, s.heap.size ≤ q → AT G s.heap.size q := fun q h => Or.inr h
  have hS : va_S (AT G s.heap.size) s.heap s.heap [] := va_S.rf
  have hl := lv_entry ([.ref a0, .int v1, .int v2]) (n := 3) (Nat.le_of_ble_eq_true rfl)
  rw [lg_entry_eq]
  generalize (lg_sl ([.ref a0, .int v1, .int v2]) ++ List.replicate (3 - (lg_sl ([.ref a0, .int v1, .int v2])).length) Slot.unset).toArray = ls at hl ⊢
  have hl : lv_has ls 3 [(0, .ref a0), (1, .int v1), (2, .int v2)] := hl
  refine lv_aload_n hx hb dX10_start_0 rfl (lv_at hl 0 rfl) ?_
  refine lv_iload_n hx hb dX10_start_1 rfl (lv_at hl 1 rfl) ?_
  obtain ⟨y2_1, y3_1, hy3_1, he1⟩ := ok_X10 hok ha0
  refine th_put (v := .int v1) (ty := .int) hx hb (ly_X10 hE) tyX10 tyX10_ok nmX10 hown hK hP hnd hAL hS ha0.1 he1 rfl 2 (by decide) (wd_216 hE) (fun _ h9 => h9) rfl (by decide +kernel) rfl rfl (Nat.le_of_ble_eq_true rfl) (up_X10 hok ha0 ⟨v1, y3_1, (by omega), rfl⟩) dX10_start_2 (fun f2 H locs hfa2 hfo2 hok hP hS => ?_)
  refine lv_aload_n hx hb dX10_start_5 rfl (lv_at hl 0 rfl) ?_
  refine lv_iconst (v := 0) hx hb dX10_start_6 (by decide) ?_
  refine th_put (v := .int (nI 0)) (ty := .int) hx hb (ly_X10 hE) tyX10 tyX10_ok nmX10 hown hK hP hnd hAL hS ha0.1 hfa2 rfl 3 (by decide) (wd_217 hE) (fun _ h9 => h9) rfl (by decide +kernel) rfl rfl (Nat.le_of_ble_eq_true rfl) (up_X10 hok ha0 ⟨v1, 0, (by first | omega | (simp only [i_lt, i_le, i_eq, ti_m9, ti_m1, ti_0, ti_1, ti_2, ti_3, ti_4, ti_5, ti_6, ti_7, ti_9, ti_12, ti_20, ti_99, ti_700, ti_24, ti_156, ti_72, ti_8, ti_60, ti_543, ti_10, ti_33, ti_51, ti_178, ti_119, ti_111, ti_114, ti_100, ti_32, ti_62, ti_59, ti_48, ti_701, ti_97, ti_122, ti_57, ti_73, ti_128]; omega)), rfl⟩) dX10_start_7 (fun f3 H locs hfa3 hfo3 hok hP hS => ?_)
  refine lv_aload_n hx hb dX10_start_10 rfl (lv_at hl 0 rfl) ?_
  refine th_get hx hb (ly_X10 hE) hown hK hP ha0.1 hfa3 rfl 0 (by decide) (wd_214 hE) (fun _ h9 => h9) rfl dX10_start_11 ?_
  refine lv_iconst (v := 0) hx hb dX10_start_14 (by decide) ?_
  refine lv_iload_n hx hb dX10_start_15 rfl (lv_at hl 2 rfl) ?_
  refine th_iast hx hb hK hP hok hnd hAL hS (wt_X10_0 hWT ha0) (n := 73) (wl_X10_0 hWT ha0) (by unfold vp_in; decide) dX10_start_16 (fun f4 H locs hfo4 hok hP hS => ?_)
  have he5 := (hfo4 a0 (Ty.ne ha0 (wt_X10_0 hWT ha0) (by decide))).trans hfa3
  exact W.vret hx hb hr (fun t ht hW => ⟨⟨f4, rfl, trivial, hok, by rw [ht]; exact hP⟩, hS.F ht⟩) hS.2.2 dX10_start_17

set_option maxHeartbeats 4000000 in
set_option maxRecDepth 100000 in
theorem t_X10_push (l : Launch) (dC : Nat → ClassId) (dI : Nat → Nat → Nat) (sz : Nat) (G : GT) (cs : Nat → ClassId) (tt mm : Nat) (a0 : Nat) (ha0 : Ty G a0 10) (v1 : Int32) (v2 : Int32) : Met l yX10_push [.code yX10_push cX10_push 3 none] ({ frames := 0, cells := 0, slots := 0, locals := 0 }) (PT [.ref a0, .int v1, .int v2] sz dC dI G cs tt mm (fun _ => True)) (va_Qv (fun (u : Nat → va_E) => True) (BT dC dI G cs tt mm) (AT G sz)) 0 0 (AT G sz) := by
  refine Met.ofW (cc := cX10_push) (maxL := 3) (ret := none) (by decide) rfl ?_
  intro p e s m args below meth c s₁ B hml hv
  obtain ⟨rfl, hsz, ⟨f0, hok, hP, hX⟩, hK, hnd, hWT, hE⟩ := hv
  have hx := B.exec
  have hb := B.bytes
  have hr := B.returns
  have hown : s.vm.findClass RX10 = some m.cls := findClass_of_methodNamed B.named
  have hlocks := B.notSynchronized
  subst hsz
  have hAL : ∀ a, a ∈ gL G → AT G s.heap.size a := fun a h => Or.inl h
  have hA : ∀ q : Nat, s.heap.size ≤ q → AT G s.heap.size q := fun q h => Or.inr h
  have hS : va_S (AT G s.heap.size) s.heap s.heap [] := va_S.rf
  have hl := lv_entry ([.ref a0, .int v1, .int v2]) (n := 3) (Nat.le_of_ble_eq_true rfl)
  rw [lg_entry_eq]
  generalize (lg_sl ([.ref a0, .int v1, .int v2]) ++ List.replicate (3 - (lg_sl ([.ref a0, .int v1, .int v2])).length) Slot.unset).toArray = ls at hl ⊢
  have hl : lv_has ls 3 [(0, .ref a0), (1, .int v1), (2, .int v2)] := hl
  refine lv_aload_n hx hb dX10_push_0 rfl (lv_at hl 0 rfl) ?_
  obtain ⟨y2_1, y3_1, hy3_1, he1⟩ := ok_X10 hok ha0
  refine th_get hx hb (ly_X10 hE) hown hK hP ha0.1 he1 rfl 3 (by decide) (wd_217 hE) (fun _ h9 => h9) rfl dX10_push_1 ?_
  have nt2 : (nI y3_1).toInt = ((y3_1 : Nat) : Int) := nI_toInt (by omega)
  refine lv_if_lt (tgt := 63) hx hb dX10_push_4 (by decide) (fun c3 => False.elim (by simp only [i_lt, i_le, i_eq, ti_m9, ti_m1, ti_0, ti_1, ti_2, ti_3, ti_4, ti_5, ti_6, ti_7, ti_9, ti_12, ti_20, ti_99, ti_700, ti_24, ti_156, ti_72, ti_8, ti_60, ti_543, ti_10, ti_33, ti_51, ti_178, ti_119, ti_111, ti_114, ti_100, ti_32, ti_62, ti_59, ti_48, ti_701, ti_97, ti_122, ti_57, ti_73, ti_128, nt2] at c3; omega)) (fun c3 => ?_)
  refine lv_aload_n hx hb dX10_push_7 rfl (lv_at hl 0 rfl) ?_
  refine th_get hx hb (ly_X10 hE) hown hK hP ha0.1 he1 rfl 3 (by decide) (wd_217 hE) (fun _ h9 => h9) rfl dX10_push_8 ?_
  refine lv_aload_n hx hb dX10_push_11 rfl (lv_at hl 0 rfl) ?_
  refine th_get hx hb (ly_X10 hE) hown hK hP ha0.1 he1 rfl 1 (by decide) (wd_215 hE) (fun _ h9 => h9) rfl dX10_push_12 ?_
  refine th_len1 hx hb hK hP hok (n := 72) (wl_X10_1 hWT ha0) (Or.inl (wt_X10_1 hWT ha0)) dX10_push_15 ?_
  refine W.eq (g2 := F0 m 16 ls [.int 72, .int (nI y3_1)]) rfl ?_
  refine lv_icmp_ge (tgt := 63) hx hb dX10_push_16 (by decide) (fun c4 => ?_) (fun c4 => ?_)
  · exact W.vret hx hb hr (fun t ht hW => ⟨⟨f0, rfl, trivial, hok, by rw [ht]; exact hP⟩, hS.F ht⟩) hS.2.2 dX10_push_63
  · refine lv_aload_n hx hb dX10_push_19 rfl (lv_at hl 0 rfl) ?_
    refine th_get hx hb (ly_X10 hE) hown hK hP ha0.1 he1 rfl 3 (by decide) (wd_217 hE) (fun _ h9 => h9) rfl dX10_push_20 ?_
    refine lv_iconst (v := 1) hx hb dX10_push_23 (by decide) ?_
    refine lv_iadd hx hb dX10_push_24 ?_
    refine W.eq (g2 := F0 m 25 ls [.int (nI (y3_1 + 1))]) (congrArg (fun z : Int32 => F0 m 25 ls (.int z :: [])) (nI_add y3_1 1)) ?_
    refine lv_aload_n hx hb dX10_push_25 rfl (lv_at hl 0 rfl) ?_
    refine th_get hx hb (ly_X10 hE) hown hK hP ha0.1 he1 rfl 0 (by decide) (wd_214 hE) (fun _ h9 => h9) rfl dX10_push_26 ?_
    refine th_len1 hx hb hK hP hok (n := 73) (wl_X10_0 hWT ha0) (Or.inl (wt_X10_0 hWT ha0)) dX10_push_29 ?_
    refine W.eq (g2 := F0 m 30 ls [.int 73, .int (nI (y3_1 + 1))]) rfl ?_
    have nt5 : (nI (y3_1 + 1)).toInt = ((y3_1 + 1 : Nat) : Int) := nI_toInt (by omega)
    refine lv_icmp_ge (tgt := 63) hx hb dX10_push_30 (by decide) (fun c6 => False.elim (by simp only [i_lt, i_le, i_eq, ti_m9, ti_m1, ti_0, ti_1, ti_2, ti_3, ti_4, ti_5, ti_6, ti_7, ti_9, ti_12, ti_20, ti_99, ti_700, ti_24, ti_156, ti_72, ti_8, ti_60, ti_543, ti_10, ti_33, ti_51, ti_178, ti_119, ti_111, ti_114, ti_100, ti_32, ti_62, ti_59, ti_48, ti_701, ti_97, ti_122, ti_57, ti_73, ti_128, nt2, nt5] at c3 c4 c6; omega)) (fun c6 => ?_)
    refine lv_aload_n hx hb dX10_push_33 rfl (lv_at hl 0 rfl) ?_
    refine th_get hx hb (ly_X10 hE) hown hK hP ha0.1 he1 rfl 1 (by decide) (wd_215 hE) (fun _ h9 => h9) rfl dX10_push_34 ?_
    refine lv_aload_n hx hb dX10_push_37 rfl (lv_at hl 0 rfl) ?_
    refine th_get hx hb (ly_X10 hE) hown hK hP ha0.1 he1 rfl 3 (by decide) (wd_217 hE) (fun _ h9 => h9) rfl dX10_push_38 ?_
    refine lv_iload_n hx hb dX10_push_41 rfl (lv_at hl 1 rfl) ?_
    refine th_iast hx hb hK hP hok hnd hAL hS (wt_X10_1 hWT ha0) (n := 72) (wl_X10_1 hWT ha0) (vp_in_iff.mpr (by first | omega | (simp only [i_lt, i_le, i_eq, ti_m9, ti_m1, ti_0, ti_1, ti_2, ti_3, ti_4, ti_5, ti_6, ti_7, ti_9, ti_12, ti_20, ti_99, ti_700, ti_24, ti_156, ti_72, ti_8, ti_60, ti_543, ti_10, ti_33, ti_51, ti_178, ti_119, ti_111, ti_114, ti_100, ti_32, ti_62, ti_59, ti_48, ti_701, ti_97, ti_122, ti_57, ti_73, ti_128, nt2, nt5] at c3 c4 c6 ⊢; omega))) dX10_push_42 (fun f7 H locs hfo7 hok hP hS => ?_)
    have he8 := (hfo7 a0 (Ty.ne ha0 (wt_X10_1 hWT ha0) (by decide))).trans he1
    refine lv_aload_n hx hb dX10_push_43 rfl (lv_at hl 0 rfl) ?_
    refine lv_dup hx hb dX10_push_44 rfl ?_
    refine th_get hx hb (ly_X10 hE) hown hK hP ha0.1 he8 rfl 3 (by decide) (wd_217 hE) (fun _ h9 => h9) rfl dX10_push_45 ?_
    refine lv_iconst (v := 1) hx hb dX10_push_48 (by decide) ?_
    refine lv_iadd hx hb dX10_push_49 ?_
    refine W.eq (g2 := F0 m 50 ls [.int (nI (y3_1 + 1)), .ref a0]) (congrArg (fun z : Int32 => F0 m 50 ls (.int z :: [.ref a0])) (nI_add y3_1 1)) ?_
    refine th_put (v := .int (nI (y3_1 + 1))) (ty := .int) hx hb (ly_X10 hE) tyX10 tyX10_ok nmX10 hown hK hP hnd hAL hS ha0.1 he8 rfl 3 (by decide) (wd_217 hE) (fun _ h9 => h9) rfl (by decide +kernel) rfl rfl (Nat.le_of_ble_eq_true rfl) (up_X10 hok ha0 ⟨y2_1, y3_1 + 1, (by first | omega | (simp only [i_lt, i_le, i_eq, ti_m9, ti_m1, ti_0, ti_1, ti_2, ti_3, ti_4, ti_5, ti_6, ti_7, ti_9, ti_12, ti_20, ti_99, ti_700, ti_24, ti_156, ti_72, ti_8, ti_60, ti_543, ti_10, ti_33, ti_51, ti_178, ti_119, ti_111, ti_114, ti_100, ti_32, ti_62, ti_59, ti_48, ti_701, ti_97, ti_122, ti_57, ti_73, ti_128, nt2, nt5] at c3 c4 c6 ⊢; omega)), rfl⟩) dX10_push_50 (fun f9 H locs hfa9 hfo9 hok hP hS => ?_)
    refine lv_aload_n hx hb dX10_push_53 rfl (lv_at hl 0 rfl) ?_
    refine th_get hx hb (ly_X10 hE) hown hK hP ha0.1 hfa9 rfl 0 (by decide) (wd_214 hE) (fun _ h9 => h9) rfl dX10_push_54 ?_
    refine lv_aload_n hx hb dX10_push_57 rfl (lv_at hl 0 rfl) ?_
    refine th_get hx hb (ly_X10 hE) hown hK hP ha0.1 hfa9 rfl 3 (by decide) (wd_217 hE) (fun _ h9 => h9) rfl dX10_push_58 ?_
    refine lv_iload_n hx hb dX10_push_61 rfl (lv_at hl 2 rfl) ?_
    refine th_iast hx hb hK hP hok hnd hAL hS (wt_X10_0 hWT ha0) (n := 73) (wl_X10_0 hWT ha0) (vp_in_iff.mpr (by first | omega | (simp only [i_lt, i_le, i_eq, ti_m9, ti_m1, ti_0, ti_1, ti_2, ti_3, ti_4, ti_5, ti_6, ti_7, ti_9, ti_12, ti_20, ti_99, ti_700, ti_24, ti_156, ti_72, ti_8, ti_60, ti_543, ti_10, ti_33, ti_51, ti_178, ti_119, ti_111, ti_114, ti_100, ti_32, ti_62, ti_59, ti_48, ti_701, ti_97, ti_122, ti_57, ti_73, ti_128, nt2, nt5] at c3 c4 c6 ⊢; omega))) dX10_push_62 (fun f10 H locs hfo10 hok hP hS => ?_)
    have he11 := (hfo10 a0 (Ty.ne ha0 (wt_X10_0 hWT ha0) (by decide))).trans hfa9
    exact W.vret hx hb hr (fun t ht hW => ⟨⟨f10, rfl, trivial, hok, by rw [ht]; exact hP⟩, hS.F ht⟩) hS.2.2 dX10_push_63

set_option maxHeartbeats 4000000 in
set_option maxRecDepth 100000 in
theorem t_X0_repeatFirst (l : Launch) (dC : Nat → ClassId) (dI : Nat → Nat → Nat) (sz : Nat) (G : GT) (cs : Nat → ClassId) (tt mm : Nat) (a0 : Nat) (ha0 : Ty G a0 1) (a1 : Nat) (ha1 : Ty G a1 10) (v2 : Int32) : Met l yX0_repeatFirst [.code yX0_repeatFirst cX0_repeatFirst 4 none] ({ frames := 1, cells := 0, slots := 0, locals := 40 }) (PT [.ref a0, .ref a1, .int v2] sz dC dI G cs tt mm (fun _ => True)) (va_Qv (fun (u : Nat → va_E) => True) (BT dC dI G cs tt mm) (AT G sz)) 0 0 (AT G sz) := by
  refine Met.ofW (cc := cX0_repeatFirst) (maxL := 4) (ret := none) (by decide) rfl ?_
  intro p e s m args below meth c s₁ B hml hv
  obtain ⟨rfl, hsz, ⟨f0, hok, hP, hX⟩, hK, hnd, hWT, hE⟩ := hv
  have hx := B.exec
  have hb := B.bytes
  have hr := B.returns
  have hown : s.vm.findClass RX0 = some m.cls := findClass_of_methodNamed B.named
  have hlocks := B.notSynchronized
  subst hsz
  have hAL : ∀ a, a ∈ gL G → AT G s.heap.size a := fun a h => Or.inl h
  have hA : ∀ q : Nat, s.heap.size ≤ q → AT G s.heap.size q := fun q h => Or.inr h
  have hS : va_S (AT G s.heap.size) s.heap s.heap [] := va_S.rf
  have hl := lv_entry ([.ref a0, .ref a1, .int v2]) (n := 4) (Nat.le_of_ble_eq_true rfl)
  rw [lg_entry_eq]
  generalize (lg_sl ([.ref a0, .ref a1, .int v2]) ++ List.replicate (4 - (lg_sl ([.ref a0, .ref a1, .int v2])).length) Slot.unset).toArray = ls at hl ⊢
  have hl : lv_has ls 4 [(0, .ref a0), (1, .ref a1), (2, .int v2)] := hl
  refine lv_aload_n hx hb dX0_repeatFirst_0 rfl (lv_at hl 0 rfl) ?_
  obtain ⟨y4_1, hy4_1, he1⟩ := ok_X0 hok ha0
  refine th_get hx hb (ly_X0 hE) hown hK hP ha0.1 he1 rfl 3 (by decide) (wd_292 hE) (fun _ h9 => h9) rfl dX0_repeatFirst_1 ?_
  refine lv_aload_n hx hb dX0_repeatFirst_4 rfl (lv_at hl 1 rfl) ?_
  obtain ⟨y2_2, y3_2, hy3_2, he2⟩ := ok_X10 hok ha1
  refine vp_callSi (va_Run.run (va_runV (As := []) (rest := [.ref (gR G a0 3)]) ⟨hx, hb, hml, hown, noTs⟩ (t_X10_begin l dC dI s.heap.size G cs tt mm a1 ha1) ⟨cbE 0 (wd_713 hE) (wd_120 hE) (wd_1229 hE) rfl rfl (by decide +kernel) ⟨Nat.le_of_ble_eq_true rfl, Nat.le_of_ble_eq_true rfl⟩, (wd_711 hE), (wd_712 hE)⟩ ⟨PT.blind, th_recv hK hP ha1.1 he2 rfl, (th_pre (av := [.ref a1]) trivial hK hP hok hnd hWT hE)⟩ rfl rfl hl.1 rfl (lv_room (Nat.le_of_ble_eq_true rfl)) dX0_repeatFirst_5 ⟨Nat.le_of_ble_eq_true rfl, Nat.le_of_ble_eq_true rfl⟩)) (fun r3 hr3 => ?_)
  refine lv_aload_n hx hb dX0_repeatFirst_8 rfl (lv_at hl 1 rfl) ?_
  refine lv_iconst (v := 0) hx hb dX0_repeatFirst_9 (by decide) ?_
  refine vp_callSi (va_Run.run (va_runV (As := [.int 0]) (rest := [.int r3, .ref (gR G a0 3)]) ⟨hx, hb, hml, hown, noTs⟩ (t_X10_numberAt l dC dI s.heap.size G cs tt mm a1 ha1 0) ⟨cbE 1 (wd_717 hE) (wd_120 hE) (wd_1166 hE) rfl rfl (by decide +kernel) ⟨Nat.le_of_ble_eq_true rfl, Nat.le_of_ble_eq_true rfl⟩, (wd_715 hE), (wd_716 hE)⟩ ⟨PT.blind, th_recv hK hP ha1.1 he2 rfl, (th_pre (av := [.ref a1, .int 0]) trivial hK hP hok hnd hWT hE)⟩ rfl rfl hl.1 rfl (lv_room (Nat.le_of_ble_eq_true rfl)) dX0_repeatFirst_10 ⟨Nat.le_of_ble_eq_true rfl, Nat.le_of_ble_eq_true rfl⟩)) (fun r4 hr4 => ?_)
  obtain ⟨y2_5, y3_5, hy3_5, he5⟩ := ok_X10 hok (wt_X0_3 hWT ha0)
  refine tc_v hAL hS hA (va_runV (As := [.int r3, .int r4]) (rest := []) ⟨hx, hb, hml, hown, noTs⟩ (t_X10_start l dC dI s.heap.size G cs tt mm (gR G a0 3) ((wt_X0_3 hWT ha0)) r3 r4) ⟨cbE 2 (wd_637 hE) (wd_120 hE) (wd_1230 hE) rfl rfl (by decide +kernel) ⟨Nat.le_of_ble_eq_true rfl, Nat.le_of_ble_eq_true rfl⟩, (wd_635 hE), (wd_636 hE)⟩ ⟨PT.blind, th_recv hK hP (wt_X0_3 hWT ha0).1 he5 rfl, (th_pre (av := [.ref (gR G a0 3), .int r3, .int r4]) trivial hK hP hok hnd hWT hE)⟩ rfl rfl hl.1 rfl (lv_room (Nat.le_of_ble_eq_true rfl)) dX0_repeatFirst_13 ⟨Nat.le_of_ble_eq_true rfl, Nat.le_of_ble_eq_true rfl⟩) (fun f6 H locs hr6 hok hP hS => ?_)
  refine lv_iconst (v := 0) hx hb dX0_repeatFirst_16 (by decide) ?_
  refine lv_istore_n (lv' := [(3, .int 0), (0, .ref a0), (1, .ref a1), (2, .int v2)]) hx hb dX0_repeatFirst_17 rfl hl (by decide) rfl (fun ls hl => ?_)
  refine w_ind (I := fun n f H locs ls => OKT G cs tt mm f ∧ va_P (dC, dI) vwCl (va_pl (gL G) f) H ∧ va_S (AT G s.heap.size) s.heap H locs ∧ ∃ (w3_7 : Int32), n = (2147483647 - w3_7.toInt).toNat ∧ 0 ≤ w3_7 ∧ lv_has ls 4 [(0, .ref a0), (1, .ref a1), (2, .int v2), (3, .int w3_7)]) (fun n f7 H locs ls hI ih7 => ?_) _ f6 _ _ _ ⟨hok, hP, hS, 0, rfl, (by first | omega | (simp only [i_lt, i_le, i_eq, ti_m9, ti_m1, ti_0, ti_1, ti_2, ti_3, ti_4, ti_5, ti_6, ti_7, ti_9, ti_12, ti_20, ti_99, ti_700, ti_24, ti_156, ti_72, ti_8, ti_60, ti_543, ti_10, ti_33, ti_51, ti_178, ti_119, ti_111, ti_114, ti_100, ti_32, ti_62, ti_59, ti_48, ti_701, ti_97, ti_122, ti_57, ti_73, ti_128]; omega)), lv_sub hl [1, 2, 3, 0] rfl⟩
  obtain ⟨hok, hP, hS, w3_7, hmu7, hlo7, hl⟩ := hI
  subst hmu7
  refine lv_iload_n hx hb dX0_repeatFirst_18 rfl (lv_at hl 3 rfl) ?_
  refine lv_aload_n hx hb dX0_repeatFirst_19 rfl (lv_at hl 1 rfl) ?_
  obtain ⟨y2_8, y3_8, hy3_8, he8⟩ := ok_X10 hok ha1
  refine vp_callSi (va_Run.run (va_runV (As := []) (rest := [.int w3_7]) ⟨hx, hb, hml, hown, noTs⟩ (t_X10_size l dC dI H.size G cs tt mm a1 ha1 y2_8 y3_8) ⟨cbE 0 (wd_666 hE) (wd_120 hE) (wd_1146 hE) rfl rfl (by decide +kernel) ⟨Nat.le_of_ble_eq_true rfl, Nat.le_of_ble_eq_true rfl⟩, (wd_664 hE), (wd_665 hE)⟩ ⟨PT.blind, th_recv hK hP ha1.1 he8 rfl, (th_pre (av := [.ref a1]) he8 hK hP hok hnd hWT hE)⟩ rfl rfl hl.1 rfl (lv_room (Nat.le_of_ble_eq_true rfl)) dX0_repeatFirst_20 ⟨Nat.le_of_ble_eq_true rfl, Nat.le_of_ble_eq_true rfl⟩)) (fun r9 hr9 => ?_)
  subst hr9
  have nt10 : (nI y3_8).toInt = ((y3_8 : Nat) : Int) := nI_toInt (by omega)
  refine lv_icmp_ge (tgt := 59) hx hb dX0_repeatFirst_23 (by decide) (fun c11 => ?_) (fun c11 => ?_)
  · exact W.vret hx hb hr (fun t ht hW => ⟨⟨f7, rfl, trivial, hok, by rw [ht]; exact hP⟩, hS.F ht⟩) hS.2.2 dX0_repeatFirst_59
  · refine lv_aload_n hx hb dX0_repeatFirst_26 rfl (lv_at hl 0 rfl) ?_
    obtain ⟨y4_12, hy4_12, he12⟩ := ok_X0 hok ha0
    refine th_get hx hb (ly_X0 hE) hown hK hP ha0.1 he12 rfl 3 (by decide) (wd_292 hE) (fun _ h9 => h9) rfl dX0_repeatFirst_27 ?_
    refine lv_aload_n hx hb dX0_repeatFirst_30 rfl (lv_at hl 1 rfl) ?_
    refine lv_iload_n hx hb dX0_repeatFirst_31 rfl (lv_at hl 3 rfl) ?_
    refine lv_iload_n hx hb dX0_repeatFirst_32 rfl (lv_at hl 2 rfl) ?_
    refine vp_callSi (va_Run.run (va_runSN (As := [.int w3_7, .int v2]) (rest := [.ref a1, .ref (gR G a0 3)]) ⟨hx, hb, hml, hown, noTs⟩ (t_X11_rest l dC dI H.size G cs tt mm w3_7 v2) ⟨cnE 2 (wd_617 hE) (wd_115 hE) (wd_1167 hE) rfl rfl (by decide +kernel) ⟨Nat.le_of_ble_eq_true rfl, Nat.le_of_ble_eq_true rfl⟩, (wd_616 hE), trivial⟩ ⟨PT.blind, (th_pre (av := [.int w3_7, .int v2]) trivial hK hP hok hnd hWT hE)⟩ rfl rfl hl.1 rfl (lv_room (Nat.le_of_ble_eq_true rfl)) dX0_repeatFirst_33 ⟨Nat.le_of_ble_eq_true rfl, Nat.le_of_ble_eq_true rfl⟩)) (fun r13 hr13 => ?_)
    obtain ⟨hra13, hrb13⟩ := hr13
    refine vp_callSi (va_Run.run (va_runV (As := [.int r13]) (rest := [.ref (gR G a0 3)]) ⟨hx, hb, hml, hown, noTs⟩ (t_X10_stepAt l dC dI H.size G cs tt mm a1 ha1 r13) ⟨cbE 1 (wd_721 hE) (wd_120 hE) (wd_1147 hE) rfl rfl (by decide +kernel) ⟨Nat.le_of_ble_eq_true rfl, Nat.le_of_ble_eq_true rfl⟩, (wd_719 hE), (wd_720 hE)⟩ ⟨PT.blind, th_recv hK hP ha1.1 he8 rfl, (th_pre (av := [.ref a1, .int r13]) trivial hK hP hok hnd hWT hE)⟩ rfl rfl hl.1 rfl (lv_room (Nat.le_of_ble_eq_true rfl)) dX0_repeatFirst_36 ⟨Nat.le_of_ble_eq_true rfl, Nat.le_of_ble_eq_true rfl⟩)) (fun r14 hr14 => ?_)
    refine lv_aload_n hx hb dX0_repeatFirst_39 rfl (lv_at hl 1 rfl) ?_
    refine lv_iload_n hx hb dX0_repeatFirst_40 rfl (lv_at hl 3 rfl) ?_
    refine lv_iconst (v := 1) hx hb dX0_repeatFirst_41 (by decide) ?_
    obtain ⟨j15, hj15, rfl⟩ : ∃ j : Nat, j ≤ 71 ∧ w3_7 = nI j := i_nat (by first | omega | (simp only [i_lt, i_le, i_eq, ti_m9, ti_m1, ti_0, ti_1, ti_2, ti_3, ti_4, ti_5, ti_6, ti_7, ti_9, ti_12, ti_20, ti_99, ti_700, ti_24, ti_156, ti_72, ti_8, ti_60, ti_543, ti_10, ti_33, ti_51, ti_178, ti_119, ti_111, ti_114, ti_100, ti_32, ti_62, ti_59, ti_48, ti_701, ti_97, ti_122, ti_57, ti_73, ti_128, nt10] at hlo7 c11 hra13 hrb13 ⊢; omega)) (by first | omega | (simp only [i_lt, i_le, i_eq, ti_m9, ti_m1, ti_0, ti_1, ti_2, ti_3, ti_4, ti_5, ti_6, ti_7, ti_9, ti_12, ti_20, ti_99, ti_700, ti_24, ti_156, ti_72, ti_8, ti_60, ti_543, ti_10, ti_33, ti_51, ti_178, ti_119, ti_111, ti_114, ti_100, ti_32, ti_62, ti_59, ti_48, ti_701, ti_97, ti_122, ti_57, ti_73, ti_128, nt10] at hlo7 c11 hra13 hrb13 ⊢; omega))
    have nt16 : (nI j15).toInt = ((j15 : Nat) : Int) := nI_toInt (by omega)
    refine lv_iadd hx hb dX0_repeatFirst_42 ?_
    refine W.eq (g2 := F0 m 43 ls [.int (nI (j15 + 1)), .ref a1, .int r14, .ref (gR G a0 3)]) (congrArg (fun z : Int32 => F0 m 43 ls (.int z :: [.ref a1, .int r14, .ref (gR G a0 3)])) (nI_add j15 1)) ?_
    refine lv_iload_n hx hb dX0_repeatFirst_43 rfl (lv_at hl 2 rfl) ?_
    refine vp_callSi (va_Run.run (va_runSN (As := [.int (nI (j15 + 1)), .int v2]) (rest := [.ref a1, .int r14, .ref (gR G a0 3)]) ⟨hx, hb, hml, hown, noTs⟩ (t_X11_rest l dC dI H.size G cs tt mm (nI (j15 + 1)) v2) ⟨cnE 2 (wd_617 hE) (wd_115 hE) (wd_1167 hE) rfl rfl (by decide +kernel) ⟨Nat.le_of_ble_eq_true rfl, Nat.le_of_ble_eq_true rfl⟩, (wd_616 hE), trivial⟩ ⟨PT.blind, (th_pre (av := [.int (nI (j15 + 1)), .int v2]) trivial hK hP hok hnd hWT hE)⟩ rfl rfl hl.1 rfl (lv_room (Nat.le_of_ble_eq_true rfl)) dX0_repeatFirst_44 ⟨Nat.le_of_ble_eq_true rfl, Nat.le_of_ble_eq_true rfl⟩)) (fun r17 hr17 => ?_)
    obtain ⟨hra17, hrb17⟩ := hr17
    refine vp_callSi (va_Run.run (va_runV (As := [.int r17]) (rest := [.int r14, .ref (gR G a0 3)]) ⟨hx, hb, hml, hown, noTs⟩ (t_X10_numberAt l dC dI H.size G cs tt mm a1 ha1 r17) ⟨cbE 1 (wd_717 hE) (wd_120 hE) (wd_1166 hE) rfl rfl (by decide +kernel) ⟨Nat.le_of_ble_eq_true rfl, Nat.le_of_ble_eq_true rfl⟩, (wd_715 hE), (wd_716 hE)⟩ ⟨PT.blind, th_recv hK hP ha1.1 he8 rfl, (th_pre (av := [.ref a1, .int r17]) trivial hK hP hok hnd hWT hE)⟩ rfl rfl hl.1 rfl (lv_room (Nat.le_of_ble_eq_true rfl)) dX0_repeatFirst_47 ⟨Nat.le_of_ble_eq_true rfl, Nat.le_of_ble_eq_true rfl⟩)) (fun r18 hr18 => ?_)
    obtain ⟨y2_19, y3_19, hy3_19, he19⟩ := ok_X10 hok (wt_X0_3 hWT ha0)
    refine tc_v hAL hS hA (va_runV (As := [.int r14, .int r18]) (rest := []) ⟨hx, hb, hml, hown, noTs⟩ (t_X10_push l dC dI H.size G cs tt mm (gR G a0 3) ((wt_X0_3 hWT ha0)) r14 r18) ⟨cbE 2 (wd_688 hE) (wd_120 hE) (wd_1231 hE) rfl rfl (by decide +kernel) ⟨Nat.le_of_ble_eq_true rfl, Nat.le_of_ble_eq_true rfl⟩, (wd_686 hE), (wd_687 hE)⟩ ⟨PT.blind, th_recv hK hP (wt_X0_3 hWT ha0).1 he19 rfl, (th_pre (av := [.ref (gR G a0 3), .int r14, .int r18]) trivial hK hP hok hnd hWT hE)⟩ rfl rfl hl.1 rfl (lv_room (Nat.le_of_ble_eq_true rfl)) dX0_repeatFirst_50 ⟨Nat.le_of_ble_eq_true rfl, Nat.le_of_ble_eq_true rfl⟩) (fun f20 H locs hr20 hok hP hS => ?_)
    obtain ⟨z21, ez21⟩ : ∃ z : Int32, z = (nI j15) + 1 := ⟨_, rfl⟩
    refine lv_iinc (v := z21) (lv' := [(3, .int z21), (0, .ref a0), (1, .ref a1), (2, .int v2)]) hx hb dX0_repeatFirst_53 hl (k := 3) rfl (by rw [ez21]; rfl) (by decide) rfl (fun ls hl => ?_)
    have ic21 : z21.toInt = (nI j15).toInt + 1 := by rw [ez21]; exact ic_up (by have := i_rng (nI j15); have := i_rng (nI y3_8); have := i_rng r13; have := i_rng r17; simp only [i_lt, i_le, i_eq, ti_m9, ti_m1, ti_0, ti_1, ti_2, ti_3, ti_4, ti_5, ti_6, ti_7, ti_9, ti_12, ti_20, ti_99, ti_700, ti_24, ti_156, ti_72, ti_8, ti_60, ti_543, ti_10, ti_33, ti_51, ti_178, ti_119, ti_111, ti_114, ti_100, ti_32, ti_62, ti_59, ti_48, ti_701, ti_97, ti_122, ti_57, ti_73, ti_128, nt10, nt16] at hlo7 c11 hra13 hrb13 hra17 hrb17 ⊢; omega)
    refine lv_goto (tgt := 18) hx hb dX0_repeatFirst_56 (by decide) ?_
    exact ih7 _ f20 _ _ _ (by have := i_rng z21; first | omega | (simp only [i_lt, i_le, i_eq, ti_m9, ti_m1, ti_0, ti_1, ti_2, ti_3, ti_4, ti_5, ti_6, ti_7, ti_9, ti_12, ti_20, ti_99, ti_700, ti_24, ti_156, ti_72, ti_8, ti_60, ti_543, ti_10, ti_33, ti_51, ti_178, ti_119, ti_111, ti_114, ti_100, ti_32, ti_62, ti_59, ti_48, ti_701, ti_97, ti_122, ti_57, ti_73, ti_128, nt10, nt16, ic21] at hlo7 c11 hra13 hrb13 hra17 hrb17 ic21 ⊢; omega)) ⟨hok, hP, hS, z21, rfl, (by first | omega | (simp only [i_lt, i_le, i_eq, ti_m9, ti_m1, ti_0, ti_1, ti_2, ti_3, ti_4, ti_5, ti_6, ti_7, ti_9, ti_12, ti_20, ti_99, ti_700, ti_24, ti_156, ti_72, ti_8, ti_60, ti_543, ti_10, ti_33, ti_51, ti_178, ti_119, ti_111, ti_114, ti_100, ti_32, ti_62, ti_59, ti_48, ti_701, ti_97, ti_122, ti_57, ti_73, ti_128, nt10, nt16, ic21] at hlo7 c11 hra13 hrb13 hra17 hrb17 ⊢; omega)), lv_sub hl [1, 2, 3, 0] rfl⟩

set_option maxHeartbeats 4000000 in
set_option maxRecDepth 100000 in
theorem t_X10_sameSteps (l : Launch) (dC : Nat → ClassId) (dI : Nat → Nat → Nat) (sz : Nat) (G : GT) (cs : Nat → ClassId) (tt mm : Nat) (a0 : Nat) (ha0 : Ty G a0 10) (a1 : Nat) (ha1 : Ty G a1 10) : Met l yX10_sameSteps [.code yX10_sameSteps cX10_sameSteps 3 (some .boolean)] ({ frames := 1, cells := 0, slots := 0, locals := 40 }) (PT [.ref a0, .ref a1] sz dC dI G cs tt mm (fun _ => True)) (vp_Si (fun (r : Int32) => r = 0 ∨ r = 1)) 0 0 (fun _ => False) := by
  refine Met.ofW (cc := cX10_sameSteps) (maxL := 3) (ret := (some .boolean)) (by decide) rfl ?_
  intro p e s m args below meth c s₁ B hml hv
  obtain ⟨rfl, hsz, ⟨f0, hok, hP, hX⟩, hK, hnd, hWT, hE⟩ := hv
  have hx := B.exec
  have hb := B.bytes
  have hr := B.returns
  have hown : s.vm.findClass RX10 = some m.cls := findClass_of_methodNamed B.named
  have hlocks := B.notSynchronized
  subst hsz
  have hl := lv_entry ([.ref a0, .ref a1]) (n := 3) (Nat.le_of_ble_eq_true rfl)
  rw [lg_entry_eq]
  generalize (lg_sl ([.ref a0, .ref a1]) ++ List.replicate (3 - (lg_sl ([.ref a0, .ref a1])).length) Slot.unset).toArray = ls at hl ⊢
  have hl : lv_has ls 3 [(0, .ref a0), (1, .ref a1)] := hl
  refine lv_aload_n hx hb dX10_sameSteps_0 rfl (lv_at hl 0 rfl) ?_
  obtain ⟨y2_1, y3_1, hy3_1, he1⟩ := ok_X10 hok ha0
  refine th_get hx hb (ly_X10 hE) hown hK hP ha0.1 he1 rfl 2 (by decide) (wd_216 hE) (fun _ h9 => h9) rfl dX10_sameSteps_1 ?_
  refine lv_aload_n hx hb dX10_sameSteps_4 rfl (lv_at hl 1 rfl) ?_
  obtain ⟨y2_2, y3_2, hy3_2, he2⟩ := ok_X10 hok ha1
  refine th_get hx hb (ly_X10 hE) hown hK hP ha1.1 he2 rfl 2 (by decide) (wd_216 hE) (fun _ h9 => h9) rfl dX10_sameSteps_5 ?_
  refine lv_icmp_ne (tgt := 22) hx hb dX10_sameSteps_8 (by decide) (fun c3 => ?_) (fun c3 => ?_)
  · refine lv_iconst (v := 0) hx hb dX10_sameSteps_22 (by decide) ?_
    exact W.zret (v := 0) hx hb hr rfl (fun t ht hW => ⟨0, rfl, Or.inl rfl, ht⟩) (fun _ h => absurd h List.not_mem_nil) dX10_sameSteps_23
  · refine lv_aload_n hx hb dX10_sameSteps_11 rfl (lv_at hl 0 rfl) ?_
    refine th_get hx hb (ly_X10 hE) hown hK hP ha0.1 he1 rfl 3 (by decide) (wd_217 hE) (fun _ h9 => h9) rfl dX10_sameSteps_12 ?_
    refine lv_aload_n hx hb dX10_sameSteps_15 rfl (lv_at hl 1 rfl) ?_
    refine th_get hx hb (ly_X10 hE) hown hK hP ha1.1 he2 rfl 3 (by decide) (wd_217 hE) (fun _ h9 => h9) rfl dX10_sameSteps_16 ?_
    have nt4 : (nI y3_1).toInt = ((y3_1 : Nat) : Int) := nI_toInt (by omega)
    have nt5 : (nI y3_2).toInt = ((y3_2 : Nat) : Int) := nI_toInt (by omega)
    refine lv_icmp_eq (tgt := 24) hx hb dX10_sameSteps_19 (by decide) (fun c6 => ?_) (fun c6 => ?_)
    · refine lv_iconst (v := 0) hx hb dX10_sameSteps_24 (by decide) ?_
      refine lv_istore_n (lv' := [(2, .int 0), (0, .ref a0), (1, .ref a1)]) hx hb dX10_sameSteps_25 rfl hl (by decide) rfl (fun ls hl => ?_)
      refine w_indP (I := fun n ls => ∃ (w2_7 : Int32), n = (2147483647 - w2_7.toInt).toNat ∧ 0 ≤ w2_7 ∧ lv_has ls 3 [(0, .ref a0), (1, .ref a1), (2, .int w2_7)]) (fun n ls hI ih7 => ?_) _ _ ⟨0, rfl, (by first | omega | (simp only [i_lt, i_le, i_eq, ti_m9, ti_m1, ti_0, ti_1, ti_2, ti_3, ti_4, ti_5, ti_6, ti_7, ti_9, ti_12, ti_20, ti_99, ti_700, ti_24, ti_156, ti_72, ti_8, ti_60, ti_543, ti_10, ti_33, ti_51, ti_178, ti_119, ti_111, ti_114, ti_100, ti_32, ti_62, ti_59, ti_48, ti_701, ti_97, ti_122, ti_57, ti_73, ti_128, nt4, nt5] at c3 c6 ⊢; omega)), lv_sub hl [1, 2, 0] rfl⟩
      obtain ⟨w2_7, hmu7, hlo7, hl⟩ := hI
      subst hmu7
      refine lv_iload_n hx hb dX10_sameSteps_26 rfl (lv_at hl 2 rfl) ?_
      refine lv_aload_n hx hb dX10_sameSteps_27 rfl (lv_at hl 0 rfl) ?_
      refine th_get hx hb (ly_X10 hE) hown hK hP ha0.1 he1 rfl 3 (by decide) (wd_217 hE) (fun _ h9 => h9) rfl dX10_sameSteps_28 ?_
      refine lv_icmp_ge (tgt := 55) hx hb dX10_sameSteps_31 (by decide) (fun c8 => ?_) (fun c8 => ?_)
      · refine lv_iconst (v := 1) hx hb dX10_sameSteps_55 (by decide) ?_
        exact W.zret (v := 1) hx hb hr rfl (fun t ht hW => ⟨1, rfl, Or.inr rfl, ht⟩) (fun _ h => absurd h List.not_mem_nil) dX10_sameSteps_56
      · refine lv_aload_n hx hb dX10_sameSteps_34 rfl (lv_at hl 0 rfl) ?_
        refine lv_iload_n hx hb dX10_sameSteps_35 rfl (lv_at hl 2 rfl) ?_
        refine vp_callSi (va_Run.run (va_runV (As := [.int w2_7]) (rest := []) ⟨hx, hb, hml, hown, noTs⟩ (t_X10_stepAt l dC dI s.heap.size G cs tt mm a0 ha0 w2_7) ⟨cbE 1 (wd_721 hE) (wd_120 hE) (wd_882 hE) rfl rfl (by decide +kernel) ⟨Nat.le_of_ble_eq_true rfl, Nat.le_of_ble_eq_true rfl⟩, (wd_719 hE), (wd_720 hE)⟩ ⟨PT.blind, th_recv hK hP ha0.1 he1 rfl, (th_pre (av := [.ref a0, .int w2_7]) trivial hK hP hok hnd hWT hE)⟩ rfl rfl hl.1 rfl (lv_room (Nat.le_of_ble_eq_true rfl)) dX10_sameSteps_36 ⟨Nat.le_of_ble_eq_true rfl, Nat.le_of_ble_eq_true rfl⟩)) (fun r9 hr9 => ?_)
        refine lv_aload_n hx hb dX10_sameSteps_39 rfl (lv_at hl 1 rfl) ?_
        refine lv_iload_n hx hb dX10_sameSteps_40 rfl (lv_at hl 2 rfl) ?_
        refine vp_callSi (va_Run.run (va_runV (As := [.int w2_7]) (rest := [.int r9]) ⟨hx, hb, hml, hown, noTs⟩ (t_X10_stepAt l dC dI s.heap.size G cs tt mm a1 ha1 w2_7) ⟨cbE 1 (wd_721 hE) (wd_120 hE) (wd_882 hE) rfl rfl (by decide +kernel) ⟨Nat.le_of_ble_eq_true rfl, Nat.le_of_ble_eq_true rfl⟩, (wd_719 hE), (wd_720 hE)⟩ ⟨PT.blind, th_recv hK hP ha1.1 he2 rfl, (th_pre (av := [.ref a1, .int w2_7]) trivial hK hP hok hnd hWT hE)⟩ rfl rfl hl.1 rfl (lv_room (Nat.le_of_ble_eq_true rfl)) dX10_sameSteps_41 ⟨Nat.le_of_ble_eq_true rfl, Nat.le_of_ble_eq_true rfl⟩)) (fun r10 hr10 => ?_)
        refine lv_icmp_eq (tgt := 49) hx hb dX10_sameSteps_44 (by decide) (fun c11 => ?_) (fun c11 => ?_)
        · obtain ⟨z12, ez12⟩ : ∃ z : Int32, z = w2_7 + 1 := ⟨_, rfl⟩
          refine lv_iinc (v := z12) (lv' := [(2, .int z12), (0, .ref a0), (1, .ref a1)]) hx hb dX10_sameSteps_49 hl (k := 2) rfl (by rw [ez12]; rfl) (by decide) rfl (fun ls hl => ?_)
          have ic12 : z12.toInt = w2_7.toInt + 1 := by rw [ez12]; exact ic_up (by have := i_rng y2_1; have := i_rng y2_2; have := i_rng (nI y3_1); have := i_rng (nI y3_2); have := i_rng w2_7; have := i_rng r9; have := i_rng r10; simp only [i_lt, i_le, i_eq, ti_m9, ti_m1, ti_0, ti_1, ti_2, ti_3, ti_4, ti_5, ti_6, ti_7, ti_9, ti_12, ti_20, ti_99, ti_700, ti_24, ti_156, ti_72, ti_8, ti_60, ti_543, ti_10, ti_33, ti_51, ti_178, ti_119, ti_111, ti_114, ti_100, ti_32, ti_62, ti_59, ti_48, ti_701, ti_97, ti_122, ti_57, ti_73, ti_128, nt4, nt5] at c3 c6 hlo7 c8 c11 ⊢; omega)
          refine lv_goto (tgt := 26) hx hb dX10_sameSteps_52 (by decide) ?_
          exact ih7 _ _ (by have := i_rng z12; first | omega | (simp only [i_lt, i_le, i_eq, ti_m9, ti_m1, ti_0, ti_1, ti_2, ti_3, ti_4, ti_5, ti_6, ti_7, ti_9, ti_12, ti_20, ti_99, ti_700, ti_24, ti_156, ti_72, ti_8, ti_60, ti_543, ti_10, ti_33, ti_51, ti_178, ti_119, ti_111, ti_114, ti_100, ti_32, ti_62, ti_59, ti_48, ti_701, ti_97, ti_122, ti_57, ti_73, ti_128, nt4, nt5, ic12] at c3 c6 hlo7 c8 c11 ic12 ⊢; omega)) ⟨z12, rfl, (by first | omega | (simp only [i_lt, i_le, i_eq, ti_m9, ti_m1, ti_0, ti_1, ti_2, ti_3, ti_4, ti_5, ti_6, ti_7, ti_9, ti_12, ti_20, ti_99, ti_700, ti_24, ti_156, ti_72, ti_8, ti_60, ti_543, ti_10, ti_33, ti_51, ti_178, ti_119, ti_111, ti_114, ti_100, ti_32, ti_62, ti_59, ti_48, ti_701, ti_97, ti_122, ti_57, ti_73, ti_128, nt4, nt5, ic12] at c3 c6 hlo7 c8 c11 ⊢; omega)), lv_sub hl [1, 2, 0] rfl⟩
        · refine lv_iconst (v := 0) hx hb dX10_sameSteps_47 (by decide) ?_
          exact W.zret (v := 0) hx hb hr rfl (fun t ht hW => ⟨0, rfl, Or.inl rfl, ht⟩) (fun _ h => absurd h List.not_mem_nil) dX10_sameSteps_48
    · refine lv_iconst (v := 0) hx hb dX10_sameSteps_22 (by decide) ?_
      exact W.zret (v := 0) hx hb hr rfl (fun t ht hW => ⟨0, rfl, Or.inl rfl, ht⟩) (fun _ h => absurd h List.not_mem_nil) dX10_sameSteps_23

set_option maxHeartbeats 4000000 in
set_option maxRecDepth 100000 in
theorem t_X10_putNumber (l : Launch) (dC : Nat → ClassId) (dI : Nat → Nat → Nat) (sz : Nat) (G : GT) (cs : Nat → ClassId) (tt mm : Nat) (a0 : Nat) (ha0 : Ty G a0 10) (v1 : Int32) (v2 : Int32) : Met l yX10_putNumber [.code yX10_putNumber cX10_putNumber 3 none] ({ frames := 0, cells := 0, slots := 0, locals := 0 }) (PT [.ref a0, .int v1, .int v2] sz dC dI G cs tt mm (fun _ => True)) (va_Qv (fun (u : Nat → va_E) => True) (BT dC dI G cs tt mm) (AT G sz)) 0 0 (AT G sz) := by
  refine Met.ofW (cc := cX10_putNumber) (maxL := 3) (ret := none) (by decide) rfl ?_
  intro p e s m args below meth c s₁ B hml hv
  obtain ⟨rfl, hsz, ⟨f0, hok, hP, hX⟩, hK, hnd, hWT, hE⟩ := hv
  have hx := B.exec
  have hb := B.bytes
  have hr := B.returns
  have hown : s.vm.findClass RX10 = some m.cls := findClass_of_methodNamed B.named
  have hlocks := B.notSynchronized
  subst hsz
  have hAL : ∀ a, a ∈ gL G → AT G s.heap.size a := fun a h => Or.inl h
  have hA : ∀ q : Nat, s.heap.size ≤ q → AT G s.heap.size q := fun q h => Or.inr h
  have hS : va_S (AT G s.heap.size) s.heap s.heap [] := va_S.rf
  have hl := lv_entry ([.ref a0, .int v1, .int v2]) (n := 3) (Nat.le_of_ble_eq_true rfl)
  rw [lg_entry_eq]
  generalize (lg_sl ([.ref a0, .int v1, .int v2]) ++ List.replicate (3 - (lg_sl ([.ref a0, .int v1, .int v2])).length) Slot.unset).toArray = ls at hl ⊢
  have hl : lv_has ls 3 [(0, .ref a0), (1, .int v1), (2, .int v2)] := hl
  refine lv_iload_n hx hb dX10_putNumber_0 rfl (lv_at hl 1 rfl) ?_
  refine lv_if_lt (tgt := 28) hx hb dX10_putNumber_1 (by decide) (fun c1 => ?_) (fun c1 => ?_)
  · exact W.vret hx hb hr (fun t ht hW => ⟨⟨f0, rfl, trivial, hok, by rw [ht]; exact hP⟩, hS.F ht⟩) hS.2.2 dX10_putNumber_28
  · refine lv_iload_n hx hb dX10_putNumber_4 rfl (lv_at hl 1 rfl) ?_
    refine lv_aload_n hx hb dX10_putNumber_5 rfl (lv_at hl 0 rfl) ?_
    obtain ⟨y2_2, y3_2, hy3_2, he2⟩ := ok_X10 hok ha0
    refine th_get hx hb (ly_X10 hE) hown hK hP ha0.1 he2 rfl 3 (by decide) (wd_217 hE) (fun _ h9 => h9) rfl dX10_putNumber_6 ?_
    have nt3 : (nI y3_2).toInt = ((y3_2 : Nat) : Int) := nI_toInt (by omega)
    refine lv_icmp_gt (tgt := 28) hx hb dX10_putNumber_9 (by decide) (fun c4 => ?_) (fun c4 => ?_)
    · exact W.vret hx hb hr (fun t ht hW => ⟨⟨f0, rfl, trivial, hok, by rw [ht]; exact hP⟩, hS.F ht⟩) hS.2.2 dX10_putNumber_28
    · refine lv_iload_n hx hb dX10_putNumber_12 rfl (lv_at hl 1 rfl) ?_
      refine lv_aload_n hx hb dX10_putNumber_13 rfl (lv_at hl 0 rfl) ?_
      refine th_get hx hb (ly_X10 hE) hown hK hP ha0.1 he2 rfl 0 (by decide) (wd_214 hE) (fun _ h9 => h9) rfl dX10_putNumber_14 ?_
      refine th_len1 hx hb hK hP hok (n := 73) (wl_X10_0 hWT ha0) (Or.inl (wt_X10_0 hWT ha0)) dX10_putNumber_17 ?_
      refine W.eq (g2 := F0 m 18 ls [.int 73, .int v1]) rfl ?_
      refine lv_icmp_ge (tgt := 28) hx hb dX10_putNumber_18 (by decide) (fun c5 => False.elim (by simp only [i_lt, i_le, i_eq, ti_m9, ti_m1, ti_0, ti_1, ti_2, ti_3, ti_4, ti_5, ti_6, ti_7, ti_9, ti_12, ti_20, ti_99, ti_700, ti_24, ti_156, ti_72, ti_8, ti_60, ti_543, ti_10, ti_33, ti_51, ti_178, ti_119, ti_111, ti_114, ti_100, ti_32, ti_62, ti_59, ti_48, ti_701, ti_97, ti_122, ti_57, ti_73, ti_128, nt3] at c1 c4 c5; omega)) (fun c5 => ?_)
      refine lv_aload_n hx hb dX10_putNumber_21 rfl (lv_at hl 0 rfl) ?_
      refine th_get hx hb (ly_X10 hE) hown hK hP ha0.1 he2 rfl 0 (by decide) (wd_214 hE) (fun _ h9 => h9) rfl dX10_putNumber_22 ?_
      refine lv_iload_n hx hb dX10_putNumber_25 rfl (lv_at hl 1 rfl) ?_
      refine lv_iload_n hx hb dX10_putNumber_26 rfl (lv_at hl 2 rfl) ?_
      refine th_iast hx hb hK hP hok hnd hAL hS (wt_X10_0 hWT ha0) (n := 73) (wl_X10_0 hWT ha0) (vp_in_iff.mpr (by first | omega | (simp only [i_lt, i_le, i_eq, ti_m9, ti_m1, ti_0, ti_1, ti_2, ti_3, ti_4, ti_5, ti_6, ti_7, ti_9, ti_12, ti_20, ti_99, ti_700, ti_24, ti_156, ti_72, ti_8, ti_60, ti_543, ti_10, ti_33, ti_51, ti_178, ti_119, ti_111, ti_114, ti_100, ti_32, ti_62, ti_59, ti_48, ti_701, ti_97, ti_122, ti_57, ti_73, ti_128, nt3] at c1 c4 c5 ⊢; omega))) dX10_putNumber_27 (fun f6 H locs hfo6 hok hP hS => ?_)
      have he7 := (hfo6 a0 (Ty.ne ha0 (wt_X10_0 hWT ha0) (by decide))).trans he2
      exact W.vret hx hb hr (fun t ht hW => ⟨⟨f6, rfl, trivial, hok, by rw [ht]; exact hP⟩, hS.F ht⟩) hS.2.2 dX10_putNumber_28

set_option maxHeartbeats 4000000 in
set_option maxRecDepth 100000 in
theorem t_X0_isPower (l : Launch) (dC : Nat → ClassId) (dI : Nat → Nat → Nat) (sz : Nat) (G : GT) (cs : Nat → ClassId) (tt mm : Nat) (a0 : Nat) (ha0 : Ty G a0 1) (a1 : Nat) (ha1 : Ty G a1 7) (a2 : Nat) (ha2 : Ty G a2 10) (v3 : Int32) : Met l yX0_isPower [.code yX0_isPower cX0_isPower 7 (some .boolean)] ({ frames := 2, cells := 0, slots := 0, locals := 80 }) (PT [.ref a0, .ref a1, .ref a2, .int v3] sz dC dI G cs tt mm (fun _ => True)) (va_Qi (fun (r : Int32) (u : Nat → va_E) => r = 0 ∨ r = 1) (BT dC dI G cs tt mm) (AT G sz)) 0 0 (AT G sz) := by
  refine Met.ofW (cc := cX0_isPower) (maxL := 7) (ret := (some .boolean)) (by decide) rfl ?_
  intro p e s m args below meth c s₁ B hml hv
  obtain ⟨rfl, hsz, ⟨f0, hok, hP, hX⟩, hK, hnd, hWT, hE⟩ := hv
  have hx := B.exec
  have hb := B.bytes
  have hr := B.returns
  have hown : s.vm.findClass RX0 = some m.cls := findClass_of_methodNamed B.named
  have hlocks := B.notSynchronized
  subst hsz
  have hAL : ∀ a, a ∈ gL G → AT G s.heap.size a := fun a h => Or.inl h
  have hA : ∀ q : Nat, s.heap.size ≤ q → AT G s.heap.size q := fun q h => Or.inr h
  have hS : va_S (AT G s.heap.size) s.heap s.heap [] := va_S.rf
  have hl := lv_entry ([.ref a0, .ref a1, .ref a2, .int v3]) (n := 7) (Nat.le_of_ble_eq_true rfl)
  rw [lg_entry_eq]
  generalize (lg_sl ([.ref a0, .ref a1, .ref a2, .int v3]) ++ List.replicate (7 - (lg_sl ([.ref a0, .ref a1, .ref a2, .int v3])).length) Slot.unset).toArray = ls at hl ⊢
  have hl : lv_has ls 7 [(0, .ref a0), (1, .ref a1), (2, .ref a2), (3, .int v3)] := hl
  refine lv_aload_n hx hb dX0_isPower_0 rfl (lv_at hl 0 rfl) ?_
  refine lv_aload_n hx hb dX0_isPower_1 rfl (lv_at hl 2 rfl) ?_
  refine lv_iload_n hx hb dX0_isPower_2 rfl (lv_at hl 3 rfl) ?_
  obtain ⟨y4_1, hy4_1, he1⟩ := ok_X0 hok ha0
  refine tc_v hAL hS hA (va_runV (As := [.ref a2, .int v3]) (rest := []) ⟨hx, hb, hml, hown, noTs⟩ (t_X0_repeatFirst l dC dI s.heap.size G cs tt mm a0 ha0 a2 ha2 v3) ⟨cbE 2 (wd_1228 hE) (wd_123 hE) (wd_1225 hE) rfl rfl (by decide +kernel) ⟨Nat.le_of_ble_eq_true rfl, Nat.le_of_ble_eq_true rfl⟩, (wd_1227 hE), (wd_47 hE)⟩ ⟨PT.blind, th_recv hK hP ha0.1 he1 rfl, (th_pre (av := [.ref a0, .ref a2, .int v3]) trivial hK hP hok hnd hWT hE)⟩ rfl rfl hl.1 rfl (lv_room (Nat.le_of_ble_eq_true rfl)) dX0_isPower_3 ⟨Nat.le_of_ble_eq_true rfl, Nat.le_of_ble_eq_true rfl⟩) (fun f2 H locs hr2 hok hP hS => ?_)
  refine lv_iload_n hx hb dX0_isPower_6 rfl (lv_at hl 3 rfl) ?_
  refine lv_iconst (v := 1) hx hb dX0_isPower_7 (by decide) ?_
  refine lv_icmp_lt (tgt := 22) hx hb dX0_isPower_8 (by decide) (fun c3 => ?_) (fun c3 => ?_)
  · refine lv_iconst (v := 0) hx hb dX0_isPower_22 (by decide) ?_
    exact W.zret (v := 0) hx hb hr rfl (fun t ht hW => ⟨⟨0, f2, rfl, Or.inl rfl, hok, by rw [ht]; exact hP⟩, hS.F ht⟩) hS.2.2 dX0_isPower_23
  · refine lv_aload_n hx hb dX0_isPower_11 rfl (lv_at hl 0 rfl) ?_
    obtain ⟨y4_4, hy4_4, he4⟩ := ok_X0 hok ha0
    refine th_get hx hb (ly_X0 hE) hown hK hP ha0.1 he4 rfl 3 (by decide) (wd_292 hE) (fun _ h9 => h9) rfl dX0_isPower_12 ?_
    refine lv_aload_n hx hb dX0_isPower_15 rfl (lv_at hl 2 rfl) ?_
    obtain ⟨y2_5, y3_5, hy3_5, he5⟩ := ok_X10 hok (wt_X0_3 hWT ha0)
    refine vp_callSi (va_Run.run (va_runV (As := [.ref a2]) (rest := []) ⟨hx, hb, hml, hown, noTs⟩ (t_X10_sameSteps l dC dI H.size G cs tt mm (gR G a0 3) ((wt_X0_3 hWT ha0)) a2 ha2) ⟨cbE 1 (wd_881 hE) (wd_120 hE) (wd_1232 hE) rfl rfl (by decide +kernel) ⟨Nat.le_of_ble_eq_true rfl, Nat.le_of_ble_eq_true rfl⟩, (wd_879 hE), (wd_880 hE)⟩ ⟨PT.blind, th_recv hK hP (wt_X0_3 hWT ha0).1 he5 rfl, (th_pre (av := [.ref (gR G a0 3), .ref a2]) trivial hK hP hok hnd hWT hE)⟩ rfl rfl hl.1 rfl (lv_room (Nat.le_of_ble_eq_true rfl)) dX0_isPower_16 ⟨Nat.le_of_ble_eq_true rfl, Nat.le_of_ble_eq_true rfl⟩)) (fun r6 hr6 => ?_)
    refine lv_if_ne (tgt := 24) hx hb dX0_isPower_19 (by decide) (fun c7 => ?_) (fun c7 => ?_)
    · refine lv_aload_n hx hb dX0_isPower_24 rfl (lv_at hl 1 rfl) ?_
      refine lv_aload_n hx hb dX0_isPower_25 rfl (lv_at hl 2 rfl) ?_
      obtain ⟨y2_8, y3_8, hy3_8, he8⟩ := ok_X10 hok ha2
      refine vp_callSi (va_Run.run (va_runV (As := []) (rest := [.ref a1]) ⟨hx, hb, hml, hown, noTs⟩ (t_X10_begin l dC dI H.size G cs tt mm a2 ha2) ⟨cbE 0 (wd_713 hE) (wd_120 hE) (wd_1229 hE) rfl rfl (by decide +kernel) ⟨Nat.le_of_ble_eq_true rfl, Nat.le_of_ble_eq_true rfl⟩, (wd_711 hE), (wd_712 hE)⟩ ⟨PT.blind, th_recv hK hP ha2.1 he8 rfl, (th_pre (av := [.ref a2]) trivial hK hP hok hnd hWT hE)⟩ rfl rfl hl.1 rfl (lv_room (Nat.le_of_ble_eq_true rfl)) dX0_isPower_26 ⟨Nat.le_of_ble_eq_true rfl, Nat.le_of_ble_eq_true rfl⟩)) (fun r9 hr9 => ?_)
      have he10 := ok_X7 hok ha1
      refine vp_callSi (va_Run.run (va_runV (As := [.int r9]) (rest := []) ⟨hx, hb, hml, hown, noTs⟩ (t_X7_orderAt l dC dI H.size G cs tt mm a1 ha1 r9) ⟨cbE 1 (wd_614 hE) (wd_116 hE) (wd_1151 hE) rfl rfl (by decide +kernel) ⟨Nat.le_of_ble_eq_true rfl, Nat.le_of_ble_eq_true rfl⟩, (wd_612 hE), (wd_613 hE)⟩ ⟨PT.blind, th_recv hK hP ha1.1 he10 rfl, (th_pre (av := [.ref a1, .int r9]) trivial hK hP hok hnd hWT hE)⟩ rfl rfl hl.1 rfl (lv_room (Nat.le_of_ble_eq_true rfl)) dX0_isPower_29 ⟨Nat.le_of_ble_eq_true rfl, Nat.le_of_ble_eq_true rfl⟩)) (fun r11 hr11 => ?_)
      refine lv_istore (lv' := [(4, .int r11), (0, .ref a0), (1, .ref a1), (2, .ref a2), (3, .int v3)]) hx hb dX0_isPower_32 hl (by decide) rfl (fun ls hl => ?_)
      refine lv_iconst (v := 0) hx hb dX0_isPower_34 (by decide) ?_
      refine lv_istore (lv' := [(5, .int 0), (4, .int r11), (0, .ref a0), (1, .ref a1), (2, .ref a2), (3, .int v3)]) hx hb dX0_isPower_35 hl (by decide) rfl (fun ls hl => ?_)
      refine w_ind (I := fun n f H locs ls => OKT G cs tt mm f ∧ va_P (dC, dI) vwCl (va_pl (gL G) f) H ∧ va_S (AT G s.heap.size) s.heap H locs ∧ ∃ (w5_12 : Int32), n = (2147483647 - w5_12.toInt).toNat ∧ 0 ≤ w5_12 ∧ lv_has ls 7 [(0, .ref a0), (1, .ref a1), (2, .ref a2), (3, .int v3), (4, .int r11), (5, .int w5_12)]) (fun n f12 H locs ls hI ih12 => ?_) _ f2 _ _ _ ⟨hok, hP, hS, 0, rfl, (by first | omega | (simp only [i_lt, i_le, i_eq, ti_m9, ti_m1, ti_0, ti_1, ti_2, ti_3, ti_4, ti_5, ti_6, ti_7, ti_9, ti_12, ti_20, ti_99, ti_700, ti_24, ti_156, ti_72, ti_8, ti_60, ti_543, ti_10, ti_33, ti_51, ti_178, ti_119, ti_111, ti_114, ti_100, ti_32, ti_62, ti_59, ti_48, ti_701, ti_97, ti_122, ti_57, ti_73, ti_128] at c3 c7 ⊢; omega)), lv_sub hl [2, 3, 4, 5, 1, 0] rfl⟩
      obtain ⟨hok, hP, hS, w5_12, hmu12, hlo12, hl⟩ := hI
      subst hmu12
      refine lv_iload hx hb dX0_isPower_37 (lv_at hl 5 rfl) ?_
      refine lv_iload hx hb dX0_isPower_39 (lv_at hl 4 rfl) ?_
      refine lv_icmp_ge (tgt := 119) hx hb dX0_isPower_41 (by decide) (fun c13 => ?_) (fun c13 => ?_)
      · refine lv_iconst (v := 0) hx hb dX0_isPower_119 (by decide) ?_
        exact W.zret (v := 0) hx hb hr rfl (fun t ht hW => ⟨⟨0, f12, rfl, Or.inl rfl, hok, by rw [ht]; exact hP⟩, hS.F ht⟩) hS.2.2 dX0_isPower_120
      · refine lv_iload_n hx hb dX0_isPower_44 rfl (lv_at hl 3 rfl) ?_
        refine lv_istore (lv' := [(6, .int v3), (0, .ref a0), (1, .ref a1), (2, .ref a2), (3, .int v3), (4, .int r11), (5, .int w5_12)]) hx hb dX0_isPower_45 hl (by decide) rfl (fun ls hl => ?_)
        refine w_ind (I := fun n f H locs ls => OKT G cs tt mm f ∧ va_P (dC, dI) vwCl (va_pl (gL G) f) H ∧ va_S (AT G s.heap.size) s.heap H locs ∧ ∃ (w6_14 : Int32), n = (2147483647 - w6_14.toInt).toNat ∧ v3 ≤ w6_14 ∧ lv_has ls 7 [(0, .ref a0), (1, .ref a1), (2, .ref a2), (3, .int v3), (4, .int r11), (5, .int w5_12), (6, .int w6_14)]) (fun n f14 H locs ls hI ih14 => ?_) _ f12 _ _ _ ⟨hok, hP, hS, v3, rfl, (by first | omega | (simp only [i_lt, i_le, i_eq, ti_m9, ti_m1, ti_0, ti_1, ti_2, ti_3, ti_4, ti_5, ti_6, ti_7, ti_9, ti_12, ti_20, ti_99, ti_700, ti_24, ti_156, ti_72, ti_8, ti_60, ti_543, ti_10, ti_33, ti_51, ti_178, ti_119, ti_111, ti_114, ti_100, ti_32, ti_62, ti_59, ti_48, ti_701, ti_97, ti_122, ti_57, ti_73, ti_128] at c3 c7 hlo12 c13 ⊢; omega)), lv_sub hl [1, 2, 3, 4, 5, 6, 0] rfl⟩
        obtain ⟨hok, hP, hS, w6_14, hmu14, hlo14, hl⟩ := hI
        subst hmu14
        refine lv_iload hx hb dX0_isPower_47 (lv_at hl 6 rfl) ?_
        refine lv_aload_n hx hb dX0_isPower_49 rfl (lv_at hl 2 rfl) ?_
        obtain ⟨y2_15, y3_15, hy3_15, he15⟩ := ok_X10 hok ha2
        refine vp_callSi (va_Run.run (va_runV (As := []) (rest := [.int w6_14]) ⟨hx, hb, hml, hown, noTs⟩ (t_X10_size l dC dI H.size G cs tt mm a2 ha2 y2_15 y3_15) ⟨cbE 0 (wd_666 hE) (wd_120 hE) (wd_1146 hE) rfl rfl (by decide +kernel) ⟨Nat.le_of_ble_eq_true rfl, Nat.le_of_ble_eq_true rfl⟩, (wd_664 hE), (wd_665 hE)⟩ ⟨PT.blind, th_recv hK hP ha2.1 he15 rfl, (th_pre (av := [.ref a2]) he15 hK hP hok hnd hWT hE)⟩ rfl rfl hl.1 rfl (lv_room (Nat.le_of_ble_eq_true rfl)) dX0_isPower_50 ⟨Nat.le_of_ble_eq_true rfl, Nat.le_of_ble_eq_true rfl⟩)) (fun r16 hr16 => ?_)
        subst hr16
        have nt17 : (nI y3_15).toInt = ((y3_15 : Nat) : Int) := nI_toInt (by omega)
        refine lv_icmp_ge (tgt := 87) hx hb dX0_isPower_53 (by decide) (fun c18 => ?_) (fun c18 => ?_)
        · refine lv_aload_n hx hb dX0_isPower_87 rfl (lv_at hl 0 rfl) ?_
          obtain ⟨y4_19, hy4_19, he19⟩ := ok_X0 hok ha0
          refine th_get hx hb (ly_X0 hE) hown hK hP ha0.1 he19 rfl 3 (by decide) (wd_292 hE) (fun _ h9 => h9) rfl dX0_isPower_88 ?_
          refine lv_aload_n hx hb dX0_isPower_91 rfl (lv_at hl 2 rfl) ?_
          refine vp_callSi (va_Run.run (va_runV (As := []) (rest := [.ref (gR G a0 3)]) ⟨hx, hb, hml, hown, noTs⟩ (t_X10_size l dC dI H.size G cs tt mm a2 ha2 y2_15 y3_15) ⟨cbE 0 (wd_666 hE) (wd_120 hE) (wd_1146 hE) rfl rfl (by decide +kernel) ⟨Nat.le_of_ble_eq_true rfl, Nat.le_of_ble_eq_true rfl⟩, (wd_664 hE), (wd_665 hE)⟩ ⟨PT.blind, th_recv hK hP ha2.1 he15 rfl, (th_pre (av := [.ref a2]) he15 hK hP hok hnd hWT hE)⟩ rfl rfl hl.1 rfl (lv_room (Nat.le_of_ble_eq_true rfl)) dX0_isPower_92 ⟨Nat.le_of_ble_eq_true rfl, Nat.le_of_ble_eq_true rfl⟩)) (fun r20 hr20 => ?_)
          subst hr20
          refine lv_iload hx hb dX0_isPower_95 (lv_at hl 5 rfl) ?_
          obtain ⟨y2_21, y3_21, hy3_21, he21⟩ := ok_X10 hok (wt_X0_3 hWT ha0)
          refine tc_v hAL hS hA (va_runV (As := [.int (nI y3_15), .int w5_12]) (rest := []) ⟨hx, hb, hml, hown, noTs⟩ (t_X10_putNumber l dC dI H.size G cs tt mm (gR G a0 3) ((wt_X0_3 hWT ha0)) (nI y3_15) w5_12) ⟨cbE 2 (wd_654 hE) (wd_120 hE) (wd_1233 hE) rfl rfl (by decide +kernel) ⟨Nat.le_of_ble_eq_true rfl, Nat.le_of_ble_eq_true rfl⟩, (wd_652 hE), (wd_653 hE)⟩ ⟨PT.blind, th_recv hK hP (wt_X0_3 hWT ha0).1 he21 rfl, (th_pre (av := [.ref (gR G a0 3), .int (nI y3_15), .int w5_12]) trivial hK hP hok hnd hWT hE)⟩ rfl rfl hl.1 rfl (lv_room (Nat.le_of_ble_eq_true rfl)) dX0_isPower_97 ⟨Nat.le_of_ble_eq_true rfl, Nat.le_of_ble_eq_true rfl⟩) (fun f22 H locs hr22 hok hP hS => ?_)
          refine lv_aload_n hx hb dX0_isPower_100 rfl (lv_at hl 0 rfl) ?_
          refine lv_aload_n hx hb dX0_isPower_101 rfl (lv_at hl 0 rfl) ?_
          obtain ⟨y4_23, hy4_23, he23⟩ := ok_X0 hok ha0
          refine th_get hx hb (ly_X0 hE) hown hK hP ha0.1 he23 rfl 3 (by decide) (wd_292 hE) (fun _ h9 => h9) rfl dX0_isPower_102 ?_
          refine vp_callSi (va_Run.run (va_runV (As := [.ref (gR G a0 3)]) (rest := []) ⟨hx, hb, hml, hown, noTs⟩ (t_X0_hits l dC dI H.size G cs tt mm a0 ha0 (gR G a0 3) ((wt_X0_3 hWT ha0))) ⟨cbE 1 (wd_1165 hE) (wd_123 hE) (wd_1234 hE) rfl rfl (by decide +kernel) ⟨Nat.le_of_ble_eq_true rfl, Nat.le_of_ble_eq_true rfl⟩, (wd_1163 hE), (wd_1164 hE)⟩ ⟨PT.blind, th_recv hK hP ha0.1 he23 rfl, (th_pre (av := [.ref a0, .ref (gR G a0 3)]) trivial hK hP hok hnd hWT hE)⟩ rfl rfl hl.1 rfl (lv_room (Nat.le_of_ble_eq_true rfl)) dX0_isPower_105 ⟨Nat.le_of_ble_eq_true rfl, Nat.le_of_ble_eq_true rfl⟩)) (fun r24 hr24 => ?_)
          refine lv_if_eq (tgt := 113) hx hb dX0_isPower_108 (by decide) (fun c25 => ?_) (fun c25 => ?_)
          · obtain ⟨z26, ez26⟩ : ∃ z : Int32, z = w5_12 + 1 := ⟨_, rfl⟩
            refine lv_iinc (v := z26) (lv' := [(5, .int z26), (0, .ref a0), (1, .ref a1), (2, .ref a2), (3, .int v3), (4, .int r11), (6, .int w6_14)]) hx hb dX0_isPower_113 hl (k := 5) rfl (by rw [ez26]; rfl) (by decide) rfl (fun ls hl => ?_)
            have ic26 : z26.toInt = w5_12.toInt + 1 := by rw [ez26]; exact ic_up (by have := i_rng v3; have := i_rng r6; have := i_rng w5_12; have := i_rng r11; have := i_rng w6_14; have := i_rng (nI y3_15); have := i_rng r24; simp only [i_lt, i_le, i_eq, ti_m9, ti_m1, ti_0, ti_1, ti_2, ti_3, ti_4, ti_5, ti_6, ti_7, ti_9, ti_12, ti_20, ti_99, ti_700, ti_24, ti_156, ti_72, ti_8, ti_60, ti_543, ti_10, ti_33, ti_51, ti_178, ti_119, ti_111, ti_114, ti_100, ti_32, ti_62, ti_59, ti_48, ti_701, ti_97, ti_122, ti_57, ti_73, ti_128, nt17] at c3 c7 hlo12 c13 hlo14 c18 c25 ⊢; omega)
            refine lv_goto (tgt := 37) hx hb dX0_isPower_116 (by decide) ?_
            exact ih12 _ f22 _ _ _ (by have := i_rng z26; first | omega | (simp only [i_lt, i_le, i_eq, ti_m9, ti_m1, ti_0, ti_1, ti_2, ti_3, ti_4, ti_5, ti_6, ti_7, ti_9, ti_12, ti_20, ti_99, ti_700, ti_24, ti_156, ti_72, ti_8, ti_60, ti_543, ti_10, ti_33, ti_51, ti_178, ti_119, ti_111, ti_114, ti_100, ti_32, ti_62, ti_59, ti_48, ti_701, ti_97, ti_122, ti_57, ti_73, ti_128, nt17, ic26] at c3 c7 hlo12 c13 hlo14 c18 c25 ic26 ⊢; omega)) ⟨hok, hP, hS, z26, rfl, (by first | omega | (simp only [i_lt, i_le, i_eq, ti_m9, ti_m1, ti_0, ti_1, ti_2, ti_3, ti_4, ti_5, ti_6, ti_7, ti_9, ti_12, ti_20, ti_99, ti_700, ti_24, ti_156, ti_72, ti_8, ti_60, ti_543, ti_10, ti_33, ti_51, ti_178, ti_119, ti_111, ti_114, ti_100, ti_32, ti_62, ti_59, ti_48, ti_701, ti_97, ti_122, ti_57, ti_73, ti_128, nt17, ic26] at c3 c7 hlo12 c13 hlo14 c18 c25 ⊢; omega)), lv_sub hl [1, 2, 3, 4, 5, 0] rfl⟩
          · refine lv_iconst (v := 1) hx hb dX0_isPower_111 (by decide) ?_
            exact W.zret (v := 1) hx hb hr rfl (fun t ht hW => ⟨⟨1, f22, rfl, Or.inr rfl, hok, by rw [ht]; exact hP⟩, hS.F ht⟩) hS.2.2 dX0_isPower_112
        · refine lv_aload_n hx hb dX0_isPower_56 rfl (lv_at hl 0 rfl) ?_
          obtain ⟨y4_27, hy4_27, he27⟩ := ok_X0 hok ha0
          refine th_get hx hb (ly_X0 hE) hown hK hP ha0.1 he27 rfl 3 (by decide) (wd_292 hE) (fun _ h9 => h9) rfl dX0_isPower_57 ?_
          refine lv_iload hx hb dX0_isPower_60 (lv_at hl 6 rfl) ?_
          refine lv_iload hx hb dX0_isPower_62 (lv_at hl 5 rfl) ?_
          refine lv_aload_n hx hb dX0_isPower_64 rfl (lv_at hl 2 rfl) ?_
          refine lv_iconst (v := 0) hx hb dX0_isPower_65 (by decide) ?_
          refine vp_callSi (va_Run.run (va_runV (As := [.int 0]) (rest := [.int w5_12, .int w6_14, .ref (gR G a0 3)]) ⟨hx, hb, hml, hown, noTs⟩ (t_X10_numberAt l dC dI H.size G cs tt mm a2 ha2 0) ⟨cbE 1 (wd_717 hE) (wd_120 hE) (wd_1166 hE) rfl rfl (by decide +kernel) ⟨Nat.le_of_ble_eq_true rfl, Nat.le_of_ble_eq_true rfl⟩, (wd_715 hE), (wd_716 hE)⟩ ⟨PT.blind, th_recv hK hP ha2.1 he15 rfl, (th_pre (av := [.ref a2, .int 0]) trivial hK hP hok hnd hWT hE)⟩ rfl rfl hl.1 rfl (lv_room (Nat.le_of_ble_eq_true rfl)) dX0_isPower_66 ⟨Nat.le_of_ble_eq_true rfl, Nat.le_of_ble_eq_true rfl⟩)) (fun r28 hr28 => ?_)
          refine lv_iadd hx hb dX0_isPower_69 ?_
          refine lv_topi (fun x29 ex29 => ?_)
          refine lv_iload hx hb dX0_isPower_70 (lv_at hl 4 rfl) ?_
          refine vp_callSi (va_Run.run (va_runSN (As := [.int x29, .int r11]) (rest := [.int w6_14, .ref (gR G a0 3)]) ⟨hx, hb, hml, hown, noTs⟩ (t_X11_rest l dC dI H.size G cs tt mm x29 r11) ⟨cnE 2 (wd_617 hE) (wd_115 hE) (wd_1167 hE) rfl rfl (by decide +kernel) ⟨Nat.le_of_ble_eq_true rfl, Nat.le_of_ble_eq_true rfl⟩, (wd_616 hE), trivial⟩ ⟨PT.blind, (th_pre (av := [.int x29, .int r11]) trivial hK hP hok hnd hWT hE)⟩ rfl rfl hl.1 rfl (lv_room (Nat.le_of_ble_eq_true rfl)) dX0_isPower_72 ⟨Nat.le_of_ble_eq_true rfl, Nat.le_of_ble_eq_true rfl⟩)) (fun r30 hr30 => ?_)
          obtain ⟨hra30, hrb30⟩ := hr30
          obtain ⟨y2_31, y3_31, hy3_31, he31⟩ := ok_X10 hok (wt_X0_3 hWT ha0)
          refine tc_v hAL hS hA (va_runV (As := [.int w6_14, .int r30]) (rest := []) ⟨hx, hb, hml, hown, noTs⟩ (t_X10_putNumber l dC dI H.size G cs tt mm (gR G a0 3) ((wt_X0_3 hWT ha0)) w6_14 r30) ⟨cbE 2 (wd_654 hE) (wd_120 hE) (wd_1233 hE) rfl rfl (by decide +kernel) ⟨Nat.le_of_ble_eq_true rfl, Nat.le_of_ble_eq_true rfl⟩, (wd_652 hE), (wd_653 hE)⟩ ⟨PT.blind, th_recv hK hP (wt_X0_3 hWT ha0).1 he31 rfl, (th_pre (av := [.ref (gR G a0 3), .int w6_14, .int r30]) trivial hK hP hok hnd hWT hE)⟩ rfl rfl hl.1 rfl (lv_room (Nat.le_of_ble_eq_true rfl)) dX0_isPower_75 ⟨Nat.le_of_ble_eq_true rfl, Nat.le_of_ble_eq_true rfl⟩) (fun f32 H locs hr32 hok hP hS => ?_)
          refine lv_iload hx hb dX0_isPower_78 (lv_at hl 6 rfl) ?_
          refine lv_iload_n hx hb dX0_isPower_80 rfl (lv_at hl 3 rfl) ?_
          obtain ⟨j33, hj33, rfl⟩ : ∃ j : Nat, j ≤ 71 ∧ w6_14 = nI j := i_nat (by first | omega | (simp only [i_lt, i_le, i_eq, ti_m9, ti_m1, ti_0, ti_1, ti_2, ti_3, ti_4, ti_5, ti_6, ti_7, ti_9, ti_12, ti_20, ti_99, ti_700, ti_24, ti_156, ti_72, ti_8, ti_60, ti_543, ti_10, ti_33, ti_51, ti_178, ti_119, ti_111, ti_114, ti_100, ti_32, ti_62, ti_59, ti_48, ti_701, ti_97, ti_122, ti_57, ti_73, ti_128, nt17] at c3 c7 hlo12 c13 hlo14 c18 hra30 hrb30 ⊢; omega)) (by first | omega | (simp only [i_lt, i_le, i_eq, ti_m9, ti_m1, ti_0, ti_1, ti_2, ti_3, ti_4, ti_5, ti_6, ti_7, ti_9, ti_12, ti_20, ti_99, ti_700, ti_24, ti_156, ti_72, ti_8, ti_60, ti_543, ti_10, ti_33, ti_51, ti_178, ti_119, ti_111, ti_114, ti_100, ti_32, ti_62, ti_59, ti_48, ti_701, ti_97, ti_122, ti_57, ti_73, ti_128, nt17] at c3 c7 hlo12 c13 hlo14 c18 hra30 hrb30 ⊢; omega))
          have nt34 : (nI j33).toInt = ((j33 : Nat) : Int) := nI_toInt (by omega)
          obtain ⟨j35, hj35, rfl⟩ : ∃ j : Nat, j ≤ 71 ∧ v3 = nI j := i_nat (by first | omega | (simp only [i_lt, i_le, i_eq, ti_m9, ti_m1, ti_0, ti_1, ti_2, ti_3, ti_4, ti_5, ti_6, ti_7, ti_9, ti_12, ti_20, ti_99, ti_700, ti_24, ti_156, ti_72, ti_8, ti_60, ti_543, ti_10, ti_33, ti_51, ti_178, ti_119, ti_111, ti_114, ti_100, ti_32, ti_62, ti_59, ti_48, ti_701, ti_97, ti_122, ti_57, ti_73, ti_128, nt17, nt34] at c3 c7 hlo12 c13 hlo14 c18 hra30 hrb30 ⊢; omega)) (by first | omega | (simp only [i_lt, i_le, i_eq, ti_m9, ti_m1, ti_0, ti_1, ti_2, ti_3, ti_4, ti_5, ti_6, ti_7, ti_9, ti_12, ti_20, ti_99, ti_700, ti_24, ti_156, ti_72, ti_8, ti_60, ti_543, ti_10, ti_33, ti_51, ti_178, ti_119, ti_111, ti_114, ti_100, ti_32, ti_62, ti_59, ti_48, ti_701, ti_97, ti_122, ti_57, ti_73, ti_128, nt17, nt34] at c3 c7 hlo12 c13 hlo14 c18 hra30 hrb30 ⊢; omega))
          have nt36 : (nI j35).toInt = ((j35 : Nat) : Int) := nI_toInt (by omega)
          refine lv_iadd hx hb dX0_isPower_81 ?_
          refine W.eq (g2 := F0 m 82 ls [.int (nI (j33 + j35))]) (congrArg (fun z : Int32 => F0 m 82 ls (.int z :: [])) (nI_add j33 j35)) ?_
          refine lv_istore (lv' := [(6, .int (nI (j33 + j35))), (0, .ref a0), (1, .ref a1), (2, .ref a2), (3, .int (nI j35)), (4, .int r11), (5, .int w5_12)]) hx hb dX0_isPower_82 hl (by decide) rfl (fun ls hl => ?_)
          refine lv_goto (tgt := 47) hx hb dX0_isPower_84 (by decide) ?_
          have nt37 : (nI (j33 + j35)).toInt = ((j33 + j35 : Nat) : Int) := nI_toInt (by omega)
          exact ih14 _ f32 _ _ _ (by have := i_rng (nI (j33 + j35)); first | omega | (simp only [i_lt, i_le, i_eq, ti_m9, ti_m1, ti_0, ti_1, ti_2, ti_3, ti_4, ti_5, ti_6, ti_7, ti_9, ti_12, ti_20, ti_99, ti_700, ti_24, ti_156, ti_72, ti_8, ti_60, ti_543, ti_10, ti_33, ti_51, ti_178, ti_119, ti_111, ti_114, ti_100, ti_32, ti_62, ti_59, ti_48, ti_701, ti_97, ti_122, ti_57, ti_73, ti_128, nt17, nt34, nt36, nt37] at c3 c7 hlo12 c13 hlo14 c18 hra30 hrb30 ⊢; omega)) ⟨hok, hP, hS, nI (j33 + j35), rfl, (by first | omega | (simp only [i_lt, i_le, i_eq, ti_m9, ti_m1, ti_0, ti_1, ti_2, ti_3, ti_4, ti_5, ti_6, ti_7, ti_9, ti_12, ti_20, ti_99, ti_700, ti_24, ti_156, ti_72, ti_8, ti_60, ti_543, ti_10, ti_33, ti_51, ti_178, ti_119, ti_111, ti_114, ti_100, ti_32, ti_62, ti_59, ti_48, ti_701, ti_97, ti_122, ti_57, ti_73, ti_128, nt17, nt34, nt36, nt37] at c3 c7 hlo12 c13 hlo14 c18 hra30 hrb30 ⊢; omega)), lv_sub hl [1, 2, 3, 4, 5, 6, 0] rfl⟩
    · refine lv_iconst (v := 0) hx hb dX0_isPower_22 (by decide) ?_
      exact W.zret (v := 0) hx hb hr rfl (fun t ht hW => ⟨⟨0, f2, rfl, Or.inl rfl, hok, by rw [ht]; exact hP⟩, hS.F ht⟩) hS.2.2 dX0_isPower_23
