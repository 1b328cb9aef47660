set_option maxHeartbeats 4000000 in
set_option maxRecDepth 100000 in
theorem q_X5_tellFault_n (l : Launch) (dC : Nat → ClassId) (dI : Nat → Nat → Nat) (sz : Nat) (cs : Nat → ClassId) (b : Nat → Nat) (u : RS) (x : Int32) (hF3 : rF u 3 = 0) : Met l yX5_tellFault [.code yX5_tellFault cX5_tellFault 2 (some .int)] ({ frames := 0, cells := 0, slots := 0, locals := 0 }) (PQ [.ref (b 0), .int x] sz dC dI cs b u) (vp_Si (fun (r : Int32) => r = -1)) 0 0 (fun _ => False) := by
  refine Met.ofW (cc := cX5_tellFault) (maxL := 2) (ret := (some .int)) (by decide) rfl ?_
  intro p e s m args below meth c s₁ B hml hv
  obtain ⟨rfl, hsz, hP, hK, hJ, hE⟩ := hv
  have hx := B.exec
  have hb := B.bytes
  have hr := B.returns
  have hown : s.vm.findClass RX5 = some m.cls := findClass_of_methodNamed B.named
  have hlocks := B.notSynchronized
  subst hsz
  have hl := lv_entry ([.ref (b 0), .int x]) (n := 2) (Nat.le_of_ble_eq_true rfl)
  rw [lg_entry_eq]
  generalize (lg_sl ([.ref (b 0), .int x]) ++ List.replicate (2 - (lg_sl ([.ref (b 0), .int x])).length) Slot.unset).toArray = ls at hl ⊢
  have hl : lv_has ls 2 [(0, .ref (b 0)), (1, .int x)] := hl
  refine lv_aload_n hx hb dX5_tellFault_0 rfl (lv_at hl 0 rfl) ?_
  refine q_get (v := .int 0) hx hb 0 (by decide) rfl (ly_X5 hE) hown hK hP rfl 3 (by decide) (wd_230 hE) (fun _ h9 => h9) (congrArg (fun z : Int32 => some (Value.int z)) hF3) dX5_tellFault_1 ?_
  refine lv_if_ne (tgt := 9) hx hb dX5_tellFault_4 (by decide) (fun c1 => absurd c1 (by decide)) (fun c1 => ?_)
  refine lv_iconst (v := -1) hx hb dX5_tellFault_7 (by decide) ?_
  exact W.iret (v := -1) hx hb hr (fun t ht hW => ⟨-1, rfl, (by first | rfl | omega | (congr 1; omega) | assumption), ht⟩) (fun _ h => absurd h List.not_mem_nil) dX5_tellFault_8
set_option maxHeartbeats 4000000 in
set_option maxRecDepth 100000 in
theorem q_X11_feedFour (l : Launch) (dC : Nat → ClassId) (dI : Nat → Nat → Nat) (sz : Nat) (cs : Nat → ClassId) (b : Nat → Nat) (u : RS) (tx : Nat → Int32) (hAc5 : rA u 5 = tx) (x : Int32) (tt : Nat) (hF37 : rF u 37 = nI tt) (hp0 : tt + 4 ≤ 700) (hp1 : BY tx) : Met l yX11_feedFour [.code yX11_feedFour cX11_feedFour 3 none] ({ frames := 0, cells := 0, slots := 0, locals := 0 }) (PQ [.ref (b 11), .int x] sz dC dI cs b u) (va_Qv (fun (u' : RS) => (rF u' 37 = nI (tt + 4)) ∧ (F4 tx tt x 4 (rA u' 5)) ∧ FR [5] [37] false u u') (BQ dC dI cs b) (AQ b sz)) 0 0 (AQ b sz) := by
  refine Met.ofW (cc := cX11_feedFour) (maxL := 3) (ret := none) (by decide) rfl ?_
  intro p e s m args below meth c s₁ B hml hv
  obtain ⟨rfl, hsz, hP, hK, hJ, hE⟩ := hv
  have hx := B.exec
  have hb := B.bytes
  have hr := B.returns
  have hown : s.vm.findClass RX11 = some m.cls := findClass_of_methodNamed B.named
  have hlocks := B.notSynchronized
  subst hsz
  have hAL : ∀ i, i < 12 → AQ b s.heap.size (b i) := fun i h => Or.inl ⟨i, h, rfl⟩
  have hA : ∀ q : Nat, s.heap.size ≤ q → AQ b s.heap.size q := fun q h => Or.inr h
  have hS : va_S (AQ b s.heap.size) s.heap s.heap [] := va_S.rf
  have hfr : FR [5] [37] false u u := FR.refl
  have hl := lv_entry ([.ref (b 11), .int x]) (n := 3) (Nat.le_of_ble_eq_true rfl)
  rw [lg_entry_eq]
  generalize (lg_sl ([.ref (b 11), .int x]) ++ List.replicate (3 - (lg_sl ([.ref (b 11), .int x])).length) Slot.unset).toArray = ls at hl ⊢
  have hl : lv_has ls 3 [(0, .ref (b 11)), (1, .int x)] := hl
  have F4h : F4 tx tt x 0 tx := f4_0 hp1
  refine lv_bipush (v := 24) hx hb dX11_feedFour_0 (by decide) ?_
  refine lv_istore_n (lv' := [(2, .int 24), (0, .ref (b 11)), (1, .int x)]) hx hb dX11_feedFour_2 rfl hl (by decide) rfl (fun ls hl => ?_)
  refine lv_iload_n hx hb dX11_feedFour_3 rfl (lv_at hl 0 rfl) ?_
  refine lv_if_lt (tgt := 55) hx hb dX11_feedFour_4 (by decide) (fun c3 => absurd c3 (by decide)) (fun c3 => ?_)
  refine lv_aload_n hx hb dX11_feedFour_7 rfl (lv_at hl 1 rfl) ?_
  refine q_get (v := .int (nI tt)) hx hb 11 (by decide) rfl (ly_X11 hE) hown hK hP rfl 7 (by decide) (wd_366 hE) (fun _ h9 => h9) (congrArg (fun z : Int32 => some (Value.int z)) hF37) dX11_feedFour_8 ?_
  refine lv_if_lt (tgt := 49) hx hb dX11_feedFour_11 (by decide) (fun c4 => False.elim (by have c4 := (b_lt (nI_toInt (n := tt) (by omega)) (show Int32.toInt 0 = 0 from rfl)).mp c4; omega)) (fun c4 => ?_)
  have c4 := mt (b_lt (nI_toInt (n := tt) (by omega)) (show Int32.toInt 0 = 0 from rfl)).mpr c4
  refine lv_aload_n hx hb dX11_feedFour_14 rfl (lv_at hl 1 rfl) ?_
  refine q_get (v := .int (nI tt)) hx hb 11 (by decide) rfl (ly_X11 hE) hown hK hP rfl 7 (by decide) (wd_366 hE) (fun _ h9 => h9) (congrArg (fun z : Int32 => some (Value.int z)) hF37) dX11_feedFour_15 ?_
  refine lv_aload_n hx hb dX11_feedFour_18 rfl (lv_at hl 1 rfl) ?_
  refine q_get (v := .ref (b 5)) hx hb 11 (by decide) rfl (ly_X11 hE) hown hK hP rfl 6 (by decide) (wd_365 hE) (fun _ h9 => h9) rfl dX11_feedFour_19 ?_
  refine q_alen (j := 5) (t0 := 1) (v := 700) hx hb hK hP (by decide) rfl rfl rfl dX11_feedFour_22 ?_
  refine lv_icmp_ge (tgt := 49) hx hb dX11_feedFour_23 (by decide) (fun c5 => False.elim (by have c5 := (b_le (show Int32.toInt 700 = 700 from rfl) (nI_toInt (n := tt) (by omega))).mp c5; omega)) (fun c5 => ?_)
  have c5 := mt (b_le (show Int32.toInt 700 = 700 from rfl) (nI_toInt (n := tt) (by omega))).mpr c5
  refine lv_aload_n hx hb dX11_feedFour_26 rfl (lv_at hl 1 rfl) ?_
  refine q_get (v := .ref (b 5)) hx hb 11 (by decide) rfl (ly_X11 hE) hown hK hP rfl 6 (by decide) (wd_365 hE) (fun _ h9 => h9) rfl dX11_feedFour_27 ?_
  refine lv_aload_n hx hb dX11_feedFour_30 rfl (lv_at hl 1 rfl) ?_
  refine q_get (v := .int (nI tt)) hx hb 11 (by decide) rfl (ly_X11 hE) hown hK hP rfl 7 (by decide) (wd_366 hE) (fun _ h9 => h9) (congrArg (fun z : Int32 => some (Value.int z)) hF37) dX11_feedFour_31 ?_
  refine lv_iload_n hx hb dX11_feedFour_34 rfl (lv_at hl 2 rfl) ?_
  refine lv_iload_n hx hb dX11_feedFour_35 rfl (lv_at hl 0 rfl) ?_
  refine lv_ishr hx hb dX11_feedFour_36 ?_
  refine lv_topi (fun x6 ex6 => ?_)
  have ES := ex6
  refine lv_i2b hx hb dX11_feedFour_37 rfl ?_
  refine lv_topi (fun x7 ex7 => ?_)
  have EY := ex7
  refine q_bast (j := 5) (k := tt) (n := 700) (x := x7) hx hb hK hP hJ hAL hS (by decide) (fun _ => rfl) hAc5 (by omega) (by decide) dX11_feedFour_38 (fun u8 H locs hs8 hq8 hP hS => ?_)
  obtain ⟨w8, hw8⟩ : ∃ g, g = upd tx tt (vp_nar .byte x7) := ⟨_, rfl⟩
  rw [← hw8] at hs8
  have hF9x := (hq8.2.1 37 List.not_mem_nil).trans hF37
  have hfr := FR.step hfr hq8 (by decide) (fun _ h => absurd h List.not_mem_nil) (fun h => rfl)
  have F4h := f4_s F4h (by omega) hw8 (EY.trans (by rw [ES]; rfl))
  refine lv_aload_n hx hb dX11_feedFour_39 rfl (lv_at hl 1 rfl) ?_
  refine lv_dup hx hb dX11_feedFour_40 rfl ?_
  refine q_get (v := .int (nI tt)) hx hb 11 (by decide) rfl (ly_X11 hE) hown hK hP rfl 7 (by decide) (wd_366 hE) (fun _ h9 => h9) (congrArg (fun z : Int32 => some (Value.int z)) hF9x) dX11_feedFour_41 ?_
  refine lv_iconst (v := 1) hx hb dX11_feedFour_44 (by decide) ?_
  refine lv_iadd hx hb dX11_feedFour_45 ?_
  refine W.eq (g2 := F0 m 46 ls [.int (nI (tt + 1)), .ref (b 11)]) (congrArg (fun z : Int32 => F0 m 46 ls (.int z :: [.ref (b 11)])) (nI_add tt 1)) ?_
  refine q_put (v := nI (tt + 1)) (ty := .int) hx hb 11 37 (by decide) (ly_X11 hE) tyX11 tyX11_ok nmX11 hown hK hP hJ hAL hS rfl 7 (by decide) (wd_366 hE) (fun _ h9 => h9) rfl (by decide +kernel) rfl rfl rfl rfl (qE_put11 (by decide)) (Nat.le_of_ble_eq_true rfl) dX11_feedFour_46 (fun u10 H locs hf10 hq10 hP hS => ?_)
  have hA11 := (hq10.1 5 List.not_mem_nil).trans hs8
  have hfr := FR.step hfr hq10 (fun _ h => absurd h List.not_mem_nil) (by decide) (fun h => rfl)
  refine lv_iinc (v := 16) (lv' := [(2, .int 16), (0, .ref (b 11)), (1, .int x)]) hx hb dX11_feedFour_49 hl (k := 0) rfl (by decide) (by decide) rfl (fun ls hl => ?_)
  refine lv_goto (tgt := 3) hx hb dX11_feedFour_52 (by decide) ?_
  refine lv_iload_n hx hb dX11_feedFour_3 rfl (lv_at hl 0 rfl) ?_
  refine lv_if_lt (tgt := 55) hx hb dX11_feedFour_4 (by decide) (fun c12 => absurd c12 (by decide)) (fun c12 => ?_)
  refine lv_aload_n hx hb dX11_feedFour_7 rfl (lv_at hl 1 rfl) ?_
  refine q_get (v := .int (nI (tt + 1))) hx hb 11 (by decide) rfl (ly_X11 hE) hown hK hP rfl 7 (by decide) (wd_366 hE) (fun _ h9 => h9) (congrArg (fun z : Int32 => some (Value.int z)) hf10) dX11_feedFour_8 ?_
  refine lv_if_lt (tgt := 49) hx hb dX11_feedFour_11 (by decide) (fun c13 => False.elim (by have c13 := (b_lt (nI_toInt (n := tt + 1) (by omega)) (show Int32.toInt 0 = 0 from rfl)).mp c13; omega)) (fun c13 => ?_)
  have c13 := mt (b_lt (nI_toInt (n := tt + 1) (by omega)) (show Int32.toInt 0 = 0 from rfl)).mpr c13
  refine lv_aload_n hx hb dX11_feedFour_14 rfl (lv_at hl 1 rfl) ?_
  refine q_get (v := .int (nI (tt + 1))) hx hb 11 (by decide) rfl (ly_X11 hE) hown hK hP rfl 7 (by decide) (wd_366 hE) (fun _ h9 => h9) (congrArg (fun z : Int32 => some (Value.int z)) hf10) dX11_feedFour_15 ?_
  refine lv_aload_n hx hb dX11_feedFour_18 rfl (lv_at hl 1 rfl) ?_
  refine q_get (v := .ref (b 5)) hx hb 11 (by decide) rfl (ly_X11 hE) hown hK hP rfl 6 (by decide) (wd_365 hE) (fun _ h9 => h9) rfl dX11_feedFour_19 ?_
  refine q_alen (j := 5) (t0 := 1) (v := 700) hx hb hK hP (by decide) rfl rfl rfl dX11_feedFour_22 ?_
  refine lv_icmp_ge (tgt := 49) hx hb dX11_feedFour_23 (by decide) (fun c14 => False.elim (by have c14 := (b_le (show Int32.toInt 700 = 700 from rfl) (nI_toInt (n := tt + 1) (by omega))).mp c14; omega)) (fun c14 => ?_)
  have c14 := mt (b_le (show Int32.toInt 700 = 700 from rfl) (nI_toInt (n := tt + 1) (by omega))).mpr c14
  refine lv_aload_n hx hb dX11_feedFour_26 rfl (lv_at hl 1 rfl) ?_
  refine q_get (v := .ref (b 5)) hx hb 11 (by decide) rfl (ly_X11 hE) hown hK hP rfl 6 (by decide) (wd_365 hE) (fun _ h9 => h9) rfl dX11_feedFour_27 ?_
  refine lv_aload_n hx hb dX11_feedFour_30 rfl (lv_at hl 1 rfl) ?_
  refine q_get (v := .int (nI (tt + 1))) hx hb 11 (by decide) rfl (ly_X11 hE) hown hK hP rfl 7 (by decide) (wd_366 hE) (fun _ h9 => h9) (congrArg (fun z : Int32 => some (Value.int z)) hf10) dX11_feedFour_31 ?_
  refine lv_iload_n hx hb dX11_feedFour_34 rfl (lv_at hl 2 rfl) ?_
  refine lv_iload_n hx hb dX11_feedFour_35 rfl (lv_at hl 0 rfl) ?_
  refine lv_ishr hx hb dX11_feedFour_36 ?_
  refine lv_topi (fun x15 ex15 => ?_)
  have ES := ex15
  refine lv_i2b hx hb dX11_feedFour_37 rfl ?_
  refine lv_topi (fun x16 ex16 => ?_)
  have EY := ex16
  refine q_bast (j := 5) (k := tt + 1) (n := 700) (x := x16) hx hb hK hP hJ hAL hS (by decide) (fun _ => rfl) hA11 (by omega) (by decide) dX11_feedFour_38 (fun u17 H locs hs17 hq17 hP hS => ?_)
  obtain ⟨w17, hw17⟩ : ∃ g, g = upd w8 (tt + 1) (vp_nar .byte x16) := ⟨_, rfl⟩
  rw [← hw17] at hs17
  have hF18x := (hq17.2.1 37 List.not_mem_nil).trans hf10
  have hfr := FR.step hfr hq17 (by decide) (fun _ h => absurd h List.not_mem_nil) (fun h => rfl)
  have F4h := f4_s F4h (by omega) hw17 (EY.trans (by rw [ES]; rfl))
  refine lv_aload_n hx hb dX11_feedFour_39 rfl (lv_at hl 1 rfl) ?_
  refine lv_dup hx hb dX11_feedFour_40 rfl ?_
  refine q_get (v := .int (nI (tt + 1))) hx hb 11 (by decide) rfl (ly_X11 hE) hown hK hP rfl 7 (by decide) (wd_366 hE) (fun _ h9 => h9) (congrArg (fun z : Int32 => some (Value.int z)) hF18x) dX11_feedFour_41 ?_
  refine lv_iconst (v := 1) hx hb dX11_feedFour_44 (by decide) ?_
  refine lv_iadd hx hb dX11_feedFour_45 ?_
  refine W.eq (g2 := F0 m 46 ls [.int (nI ((tt + 1) + 1)), .ref (b 11)]) (congrArg (fun z : Int32 => F0 m 46 ls (.int z :: [.ref (b 11)])) (nI_add (tt + 1) 1)) ?_
  refine q_put (v := nI ((tt + 1) + 1)) (ty := .int) hx hb 11 37 (by decide) (ly_X11 hE) tyX11 tyX11_ok nmX11 hown hK hP hJ hAL hS rfl 7 (by decide) (wd_366 hE) (fun _ h9 => h9) rfl (by decide +kernel) rfl rfl rfl rfl (qE_put11 (by decide)) (Nat.le_of_ble_eq_true rfl) dX11_feedFour_46 (fun u19 H locs hf19 hq19 hP hS => ?_)
  have hA20 := (hq19.1 5 List.not_mem_nil).trans hs17
  have hfr := FR.step hfr hq19 (fun _ h => absurd h List.not_mem_nil) (by decide) (fun h => rfl)
  refine lv_iinc (v := 8) (lv' := [(2, .int 8), (0, .ref (b 11)), (1, .int x)]) hx hb dX11_feedFour_49 hl (k := 0) rfl (by decide) (by decide) rfl (fun ls hl => ?_)
  refine lv_goto (tgt := 3) hx hb dX11_feedFour_52 (by decide) ?_
  refine lv_iload_n hx hb dX11_feedFour_3 rfl (lv_at hl 0 rfl) ?_
  refine lv_if_lt (tgt := 55) hx hb dX11_feedFour_4 (by decide) (fun c21 => absurd c21 (by decide)) (fun c21 => ?_)
  refine lv_aload_n hx hb dX11_feedFour_7 rfl (lv_at hl 1 rfl) ?_
  refine q_get (v := .int (nI ((tt + 1) + 1))) hx hb 11 (by decide) rfl (ly_X11 hE) hown hK hP rfl 7 (by decide) (wd_366 hE) (fun _ h9 => h9) (congrArg (fun z : Int32 => some (Value.int z)) hf19) dX11_feedFour_8 ?_
  refine lv_if_lt (tgt := 49) hx hb dX11_feedFour_11 (by decide) (fun c22 => False.elim (by have c22 := (b_lt (nI_toInt (n := (tt + 1) + 1) (by omega)) (show Int32.toInt 0 = 0 from rfl)).mp c22; omega)) (fun c22 => ?_)
  have c22 := mt (b_lt (nI_toInt (n := (tt + 1) + 1) (by omega)) (show Int32.toInt 0 = 0 from rfl)).mpr c22
  refine lv_aload_n hx hb dX11_feedFour_14 rfl (lv_at hl 1 rfl) ?_
  refine q_get (v := .int (nI ((tt + 1) + 1))) hx hb 11 (by decide) rfl (ly_X11 hE) hown hK hP rfl 7 (by decide) (wd_366 hE) (fun _ h9 => h9) (congrArg (fun z : Int32 => some (Value.int z)) hf19) dX11_feedFour_15 ?_
  refine lv_aload_n hx hb dX11_feedFour_18 rfl (lv_at hl 1 rfl) ?_
  refine q_get (v := .ref (b 5)) hx hb 11 (by decide) rfl (ly_X11 hE) hown hK hP rfl 6 (by decide) (wd_365 hE) (fun _ h9 => h9) rfl dX11_feedFour_19 ?_
  refine q_alen (j := 5) (t0 := 1) (v := 700) hx hb hK hP (by decide) rfl rfl rfl dX11_feedFour_22 ?_
  refine lv_icmp_ge (tgt := 49) hx hb dX11_feedFour_23 (by decide) (fun c23 => False.elim (by have c23 := (b_le (show Int32.toInt 700 = 700 from rfl) (nI_toInt (n := (tt + 1) + 1) (by omega))).mp c23; omega)) (fun c23 => ?_)
  have c23 := mt (b_le (show Int32.toInt 700 = 700 from rfl) (nI_toInt (n := (tt + 1) + 1) (by omega))).mpr c23
  refine lv_aload_n hx hb dX11_feedFour_26 rfl (lv_at hl 1 rfl) ?_
  refine q_get (v := .ref (b 5)) hx hb 11 (by decide) rfl (ly_X11 hE) hown hK hP rfl 6 (by decide) (wd_365 hE) (fun _ h9 => h9) rfl dX11_feedFour_27 ?_
  refine lv_aload_n hx hb dX11_feedFour_30 rfl (lv_at hl 1 rfl) ?_
  refine q_get (v := .int (nI ((tt + 1) + 1))) hx hb 11 (by decide) rfl (ly_X11 hE) hown hK hP rfl 7 (by decide) (wd_366 hE) (fun _ h9 => h9) (congrArg (fun z : Int32 => some (Value.int z)) hf19) dX11_feedFour_31 ?_
  refine lv_iload_n hx hb dX11_feedFour_34 rfl (lv_at hl 2 rfl) ?_
  refine lv_iload_n hx hb dX11_feedFour_35 rfl (lv_at hl 0 rfl) ?_
  refine lv_ishr hx hb dX11_feedFour_36 ?_
  refine lv_topi (fun x24 ex24 => ?_)
  have ES := ex24
  refine lv_i2b hx hb dX11_feedFour_37 rfl ?_
  refine lv_topi (fun x25 ex25 => ?_)
  have EY := ex25
  refine q_bast (j := 5) (k := (tt + 1) + 1) (n := 700) (x := x25) hx hb hK hP hJ hAL hS (by decide) (fun _ => rfl) hA20 (by omega) (by decide) dX11_feedFour_38 (fun u26 H locs hs26 hq26 hP hS => ?_)
  obtain ⟨w26, hw26⟩ : ∃ g, g = upd w17 ((tt + 1) + 1) (vp_nar .byte x25) := ⟨_, rfl⟩
  rw [← hw26] at hs26
  have hF27x := (hq26.2.1 37 List.not_mem_nil).trans hf19
  have hfr := FR.step hfr hq26 (by decide) (fun _ h => absurd h List.not_mem_nil) (fun h => rfl)
  have F4h := f4_s F4h (by omega) hw26 (EY.trans (by rw [ES]; rfl))
  refine lv_aload_n hx hb dX11_feedFour_39 rfl (lv_at hl 1 rfl) ?_
  refine lv_dup hx hb dX11_feedFour_40 rfl ?_
  refine q_get (v := .int (nI ((tt + 1) + 1))) hx hb 11 (by decide) rfl (ly_X11 hE) hown hK hP rfl 7 (by decide) (wd_366 hE) (fun _ h9 => h9) (congrArg (fun z : Int32 => some (Value.int z)) hF27x) dX11_feedFour_41 ?_
  refine lv_iconst (v := 1) hx hb dX11_feedFour_44 (by decide) ?_
  refine lv_iadd hx hb dX11_feedFour_45 ?_
  refine W.eq (g2 := F0 m 46 ls [.int (nI (((tt + 1) + 1) + 1)), .ref (b 11)]) (congrArg (fun z : Int32 => F0 m 46 ls (.int z :: [.ref (b 11)])) (nI_add ((tt + 1) + 1) 1)) ?_
  refine q_put (v := nI (((tt + 1) + 1) + 1)) (ty := .int) hx hb 11 37 (by decide) (ly_X11 hE) tyX11 tyX11_ok nmX11 hown hK hP hJ hAL hS rfl 7 (by decide) (wd_366 hE) (fun _ h9 => h9) rfl (by decide +kernel) rfl rfl rfl rfl (qE_put11 (by decide)) (Nat.le_of_ble_eq_true rfl) dX11_feedFour_46 (fun u28 H locs hf28 hq28 hP hS => ?_)
  have hA29 := (hq28.1 5 List.not_mem_nil).trans hs26
  have hfr := FR.step hfr hq28 (fun _ h => absurd h List.not_mem_nil) (by decide) (fun h => rfl)
  refine lv_iinc (v := 0) (lv' := [(2, .int 0), (0, .ref (b 11)), (1, .int x)]) hx hb dX11_feedFour_49 hl (k := 0) rfl (by decide) (by decide) rfl (fun ls hl => ?_)
  refine lv_goto (tgt := 3) hx hb dX11_feedFour_52 (by decide) ?_
  refine lv_iload_n hx hb dX11_feedFour_3 rfl (lv_at hl 0 rfl) ?_
  refine lv_if_lt (tgt := 55) hx hb dX11_feedFour_4 (by decide) (fun c30 => absurd c30 (by decide)) (fun c30 => ?_)
  refine lv_aload_n hx hb dX11_feedFour_7 rfl (lv_at hl 1 rfl) ?_
  refine q_get (v := .int (nI (((tt + 1) + 1) + 1))) hx hb 11 (by decide) rfl (ly_X11 hE) hown hK hP rfl 7 (by decide) (wd_366 hE) (fun _ h9 => h9) (congrArg (fun z : Int32 => some (Value.int z)) hf28) dX11_feedFour_8 ?_
  refine lv_if_lt (tgt := 49) hx hb dX11_feedFour_11 (by decide) (fun c31 => False.elim (by have c31 := (b_lt (nI_toInt (n := ((tt + 1) + 1) + 1) (by omega)) (show Int32.toInt 0 = 0 from rfl)).mp c31; omega)) (fun c31 => ?_)
  have c31 := mt (b_lt (nI_toInt (n := ((tt + 1) + 1) + 1) (by omega)) (show Int32.toInt 0 = 0 from rfl)).mpr c31
  refine lv_aload_n hx hb dX11_feedFour_14 rfl (lv_at hl 1 rfl) ?_
  refine q_get (v := .int (nI (((tt + 1) + 1) + 1))) hx hb 11 (by decide) rfl (ly_X11 hE) hown hK hP rfl 7 (by decide) (wd_366 hE) (fun _ h9 => h9) (congrArg (fun z : Int32 => some (Value.int z)) hf28) dX11_feedFour_15 ?_
  refine lv_aload_n hx hb dX11_feedFour_18 rfl (lv_at hl 1 rfl) ?_
  refine q_get (v := .ref (b 5)) hx hb 11 (by decide) rfl (ly_X11 hE) hown hK hP rfl 6 (by decide) (wd_365 hE) (fun _ h9 => h9) rfl dX11_feedFour_19 ?_
  refine q_alen (j := 5) (t0 := 1) (v := 700) hx hb hK hP (by decide) rfl rfl rfl dX11_feedFour_22 ?_
  refine lv_icmp_ge (tgt := 49) hx hb dX11_feedFour_23 (by decide) (fun c32 => False.elim (by have c32 := (b_le (show Int32.toInt 700 = 700 from rfl) (nI_toInt (n := ((tt + 1) + 1) + 1) (by omega))).mp c32; omega)) (fun c32 => ?_)
  have c32 := mt (b_le (show Int32.toInt 700 = 700 from rfl) (nI_toInt (n := ((tt + 1) + 1) + 1) (by omega))).mpr c32
  refine lv_aload_n hx hb dX11_feedFour_26 rfl (lv_at hl 1 rfl) ?_
  refine q_get (v := .ref (b 5)) hx hb 11 (by decide) rfl (ly_X11 hE) hown hK hP rfl 6 (by decide) (wd_365 hE) (fun _ h9 => h9) rfl dX11_feedFour_27 ?_
  refine lv_aload_n hx hb dX11_feedFour_30 rfl (lv_at hl 1 rfl) ?_
  refine q_get (v := .int (nI (((tt + 1) + 1) + 1))) hx hb 11 (by decide) rfl (ly_X11 hE) hown hK hP rfl 7 (by decide) (wd_366 hE) (fun _ h9 => h9) (congrArg (fun z : Int32 => some (Value.int z)) hf28) dX11_feedFour_31 ?_
  refine lv_iload_n hx hb dX11_feedFour_34 rfl (lv_at hl 2 rfl) ?_
  refine lv_iload_n hx hb dX11_feedFour_35 rfl (lv_at hl 0 rfl) ?_
  refine lv_ishr hx hb dX11_feedFour_36 ?_
  refine lv_topi (fun x33 ex33 => ?_)
  have ES := ex33
  refine lv_i2b hx hb dX11_feedFour_37 rfl ?_
  refine lv_topi (fun x34 ex34 => ?_)
  have EY := ex34
  refine q_bast (j := 5) (k := ((tt + 1) + 1) + 1) (n := 700) (x := x34) hx hb hK hP hJ hAL hS (by decide) (fun _ => rfl) hA29 (by omega) (by decide) dX11_feedFour_38 (fun u35 H locs hs35 hq35 hP hS => ?_)
  obtain ⟨w35, hw35⟩ : ∃ g, g = upd w26 (((tt + 1) + 1) + 1) (vp_nar .byte x34) := ⟨_, rfl⟩
  rw [← hw35] at hs35
  have hF36x := (hq35.2.1 37 List.not_mem_nil).trans hf28
  have hfr := FR.step hfr hq35 (by decide) (fun _ h => absurd h List.not_mem_nil) (fun h => rfl)
  have F4h := f4_s F4h (by omega) hw35 (EY.trans (by rw [ES]; rfl))
  refine lv_aload_n hx hb dX11_feedFour_39 rfl (lv_at hl 1 rfl) ?_
  refine lv_dup hx hb dX11_feedFour_40 rfl ?_
  refine q_get (v := .int (nI (((tt + 1) + 1) + 1))) hx hb 11 (by decide) rfl (ly_X11 hE) hown hK hP rfl 7 (by decide) (wd_366 hE) (fun _ h9 => h9) (congrArg (fun z : Int32 => some (Value.int z)) hF36x) dX11_feedFour_41 ?_
  refine lv_iconst (v := 1) hx hb dX11_feedFour_44 (by decide) ?_
  refine lv_iadd hx hb dX11_feedFour_45 ?_
  refine W.eq (g2 := F0 m 46 ls [.int (nI ((((tt + 1) + 1) + 1) + 1)), .ref (b 11)]) (congrArg (fun z : Int32 => F0 m 46 ls (.int z :: [.ref (b 11)])) (nI_add (((tt + 1) + 1) + 1) 1)) ?_
  refine q_put (v := nI ((((tt + 1) + 1) + 1) + 1)) (ty := .int) hx hb 11 37 (by decide) (ly_X11 hE) tyX11 tyX11_ok nmX11 hown hK hP hJ hAL hS rfl 7 (by decide) (wd_366 hE) (fun _ h9 => h9) rfl (by decide +kernel) rfl rfl rfl rfl (qE_put11 (by decide)) (Nat.le_of_ble_eq_true rfl) dX11_feedFour_46 (fun u37 H locs hf37 hq37 hP hS => ?_)
  have hA38 := (hq37.1 5 List.not_mem_nil).trans hs35
  have hfr := FR.step hfr hq37 (fun _ h => absurd h List.not_mem_nil) (by decide) (fun h => rfl)
  refine lv_iinc (v := -8) (lv' := [(2, .int (-8)), (0, .ref (b 11)), (1, .int x)]) hx hb dX11_feedFour_49 hl (k := 0) rfl (by decide) (by decide) rfl (fun ls hl => ?_)
  refine lv_goto (tgt := 3) hx hb dX11_feedFour_52 (by decide) ?_
  refine lv_iload_n hx hb dX11_feedFour_3 rfl (lv_at hl 0 rfl) ?_
  refine lv_if_lt (tgt := 55) hx hb dX11_feedFour_4 (by decide) (fun c39 => ?_) (fun c39 => absurd c39 (by decide))
  exact W.vret hx hb hr (fun t ht hW => ⟨⟨u37, rfl, ⟨(by first | (rw [hf37]; done) | (rw [hf37]; first | assumption | omega | rfl | (congr 1; omega))), (by first | (rw [hA38]; done) | (rw [hA38]; exact F4h)), hfr⟩, (show va_P (dC, dI) vwCl (qW cs b u37) t.heap by rw [ht]; exact hP)⟩, hS.F ht⟩) hS.2.2 dX11_feedFour_55
set_option maxHeartbeats 4000000 in
set_option maxRecDepth 100000 in
theorem q_X11_feed (l : Launch) (dC : Nat → ClassId) (dI : Nat → Nat → Nat) (sz : Nat) (cs : Nat → ClassId) (b : Nat → Nat) (u : RS) (tx : Nat → Int32) (hAc5 : rA u 5 = tx) (y1 : Int32) (y2 : Int32) (y3 : Int32) (y4 : Int32) (y5 : Int32) (tt : Nat) (hF37 : rF u 37 = nI tt) (hp0 : tt + 20 ≤ 700) (hp1 : BY tx) : Met l yX11_feed [.code yX11_feed cX11_feed 6 (some .int)] ({ frames := 1, cells := 0, slots := 0, locals := 40 }) (PQ [.ref (b 11), .int y1, .int y2, .int y3, .int y4, .int y5] sz dC dI cs b u) (va_Qi (fun (r : Int32) (u' : RS) => (r = nI (tt + 20)) ∧ (rF u' 37 = nI (tt + 20)) ∧ (FD tx tt y1 y2 y3 y4 y5 (rA u' 5)) ∧ FR [5] [37] false u u') (BQ dC dI cs b) (AQ b sz)) 0 0 (AQ b sz) := by
  refine Met.ofW (cc := cX11_feed) (maxL := 6) (ret := (some .int)) (by decide) rfl ?_
  intro p e s m args below meth c s₁ B hml hv
  obtain ⟨rfl, hsz, hP, hK, hJ, hE⟩ := hv
  have hx := B.exec
  have hb := B.bytes
  have hr := B.returns
  have hown : s.vm.findClass RX11 = some m.cls := findClass_of_methodNamed B.named
  have hlocks := B.notSynchronized
  subst hsz
  have hAL : ∀ i, i < 12 → AQ b s.heap.size (b i) := fun i h => Or.inl ⟨i, h, rfl⟩
  have hA : ∀ q : Nat, s.heap.size ≤ q → AQ b s.heap.size q := fun q h => Or.inr h
  have hS : va_S (AQ b s.heap.size) s.heap s.heap [] := va_S.rf
  have hfr : FR [5] [37] false u u := FR.refl
  have hl := lv_entry ([.ref (b 11), .int y1, .int y2, .int y3, .int y4, .int y5]) (n := 6) (Nat.le_of_ble_eq_true rfl)
  rw [lg_entry_eq]
  generalize (lg_sl ([.ref (b 11), .int y1, .int y2, .int y3, .int y4, .int y5]) ++ List.replicate (6 - (lg_sl ([.ref (b 11), .int y1, .int y2, .int y3, .int y4, .int y5])).length) Slot.unset).toArray = ls at hl ⊢
  have hl : lv_has ls 6 [(0, .ref (b 11)), (1, .int y1), (2, .int y2), (3, .int y3), (4, .int y4), (5, .int y5)] := hl
  refine lv_aload_n hx hb dX11_feed_0 rfl (lv_at hl 0 rfl) ?_
  refine q_get (v := .int (nI tt)) hx hb 11 (by decide) rfl (ly_X11 hE) hown hK hP rfl 7 (by decide) (wd_366 hE) (fun _ h9 => h9) (congrArg (fun z : Int32 => some (Value.int z)) hF37) dX11_feed_1 ?_
  refine lv_bipush (v := 20) hx hb dX11_feed_4 (by decide) ?_
  refine lv_iadd hx hb dX11_feed_6 ?_
  refine W.eq (g2 := F0 m 7 ls [.int (nI (tt + 20))]) (congrArg (fun z : Int32 => F0 m 7 ls (.int z :: [])) (nI_add tt 20)) ?_
  refine lv_sipush (v := 700) hx hb dX11_feed_7 (by decide) ?_
  refine lv_icmp_le (tgt := 15) hx hb dX11_feed_10 (by decide) (fun c3 => ?_) (fun c3 => False.elim (by have c3 := mt (b_le (nI_toInt (n := tt + 20) (by omega)) (show Int32.toInt 700 = 700 from rfl)).mpr c3; omega))
  have c3 := (b_le (nI_toInt (n := tt + 20) (by omega)) (show Int32.toInt 700 = 700 from rfl)).mp c3
  refine lv_aload_n hx hb dX11_feed_15 rfl (lv_at hl 0 rfl) ?_
  refine lv_iload_n hx hb dX11_feed_16 rfl (lv_at hl 1 rfl) ?_
  refine qc_v hAL hS hA (va_runV (As := [.int y1]) (rest := []) ⟨hx, hb, hml, hown, noTs⟩ (q_X11_feedFour l dC dI s.heap.size cs b u tx hAc5 y1 tt hF37 (by first | assumption | omega | rfl | (congr 1; omega)) (by first | assumption | omega | rfl | (congr 1; omega))) ⟨cbE 1 (wd_428 hE) (wd_115 hE) (wd_425 hE) rfl rfl (by decide +kernel) ⟨Nat.le_of_ble_eq_true rfl, Nat.le_of_ble_eq_true rfl⟩, (wd_427 hE), (wd_0 hE)⟩ ⟨PQ.blind, q_recv 11 (by decide) rfl hK hP rfl, (q_pre (av := [.ref (b 11), .int y1]) hK hP hJ hE)⟩ rfl rfl hl.1 rfl (lv_room (Nat.le_of_ble_eq_true rfl)) dX11_feed_17 ⟨Nat.le_of_ble_eq_true rfl, Nat.le_of_ble_eq_true rfl⟩) (fun u4 H locs hpo4 hP hS => ?_)
  obtain ⟨h4_0, h4_1, hq4⟩ := hpo4
  obtain ⟨w5, hA5⟩ : ∃ g, rA u4 5 = g := ⟨_, rfl⟩
  rw [hA5] at h4_1
  have hfr := FR.step hfr hq4 (by decide) (by decide) (fun h => rfl)
  have A1 := h4_1
  have B1 := h4_1.1
  refine lv_aload_n hx hb dX11_feed_20 rfl (lv_at hl 0 rfl) ?_
  refine lv_iload_n hx hb dX11_feed_21 rfl (lv_at hl 2 rfl) ?_
  refine qc_v hAL hS hA (va_runV (As := [.int y2]) (rest := []) ⟨hx, hb, hml, hown, noTs⟩ (q_X11_feedFour l dC dI H.size cs b u4 w5 hA5 y2 (tt + 4) h4_0 (by first | assumption | omega | rfl | (congr 1; omega)) (by first | assumption | omega | rfl | (congr 1; omega))) ⟨cbE 1 (wd_428 hE) (wd_115 hE) (wd_425 hE) rfl rfl (by decide +kernel) ⟨Nat.le_of_ble_eq_true rfl, Nat.le_of_ble_eq_true rfl⟩, (wd_427 hE), (wd_0 hE)⟩ ⟨PQ.blind, q_recv 11 (by decide) rfl hK hP rfl, (q_pre (av := [.ref (b 11), .int y2]) hK hP hJ hE)⟩ rfl rfl hl.1 rfl (lv_room (Nat.le_of_ble_eq_true rfl)) dX11_feed_22 ⟨Nat.le_of_ble_eq_true rfl, Nat.le_of_ble_eq_true rfl⟩) (fun u6 H locs hpo6 hP hS => ?_)
  obtain ⟨h6_0, h6_1, hq6⟩ := hpo6
  obtain ⟨w7, hA7⟩ : ∃ g, rA u6 5 = g := ⟨_, rfl⟩
  rw [hA7] at h6_1
  have hfr := FR.step hfr hq6 (by decide) (by decide) (fun h => rfl)
  have A2 := h6_1
  have B2 := h6_1.1
  refine lv_aload_n hx hb dX11_feed_25 rfl (lv_at hl 0 rfl) ?_
  refine lv_iload_n hx hb dX11_feed_26 rfl (lv_at hl 3 rfl) ?_
  refine qc_v hAL hS hA (va_runV (As := [.int y3]) (rest := []) ⟨hx, hb, hml, hown, noTs⟩ (q_X11_feedFour l dC dI H.size cs b u6 w7 hA7 y3 ((tt + 4) + 4) h6_0 (by first | assumption | omega | rfl | (congr 1; omega)) (by first | assumption | omega | rfl | (congr 1; omega))) ⟨cbE 1 (wd_428 hE) (wd_115 hE) (wd_425 hE) rfl rfl (by decide +kernel) ⟨Nat.le_of_ble_eq_true rfl, Nat.le_of_ble_eq_true rfl⟩, (wd_427 hE), (wd_0 hE)⟩ ⟨PQ.blind, q_recv 11 (by decide) rfl hK hP rfl, (q_pre (av := [.ref (b 11), .int y3]) hK hP hJ hE)⟩ rfl rfl hl.1 rfl (lv_room (Nat.le_of_ble_eq_true rfl)) dX11_feed_27 ⟨Nat.le_of_ble_eq_true rfl, Nat.le_of_ble_eq_true rfl⟩) (fun u8 H locs hpo8 hP hS => ?_)
  obtain ⟨h8_0, h8_1, hq8⟩ := hpo8
  obtain ⟨w9, hA9⟩ : ∃ g, rA u8 5 = g := ⟨_, rfl⟩
  rw [hA9] at h8_1
  have hfr := FR.step hfr hq8 (by decide) (by decide) (fun h => rfl)
  have A3 := h8_1
  have B3 := h8_1.1
  refine lv_aload_n hx hb dX11_feed_30 rfl (lv_at hl 0 rfl) ?_
  refine lv_iload hx hb dX11_feed_31 (lv_at hl 4 rfl) ?_
  refine qc_v hAL hS hA (va_runV (As := [.int y4]) (rest := []) ⟨hx, hb, hml, hown, noTs⟩ (q_X11_feedFour l dC dI H.size cs b u8 w9 hA9 y4 (((tt + 4) + 4) + 4) h8_0 (by first | assumption | omega | rfl | (congr 1; omega)) (by first | assumption | omega | rfl | (congr 1; omega))) ⟨cbE 1 (wd_428 hE) (wd_115 hE) (wd_425 hE) rfl rfl (by decide +kernel) ⟨Nat.le_of_ble_eq_true rfl, Nat.le_of_ble_eq_true rfl⟩, (wd_427 hE), (wd_0 hE)⟩ ⟨PQ.blind, q_recv 11 (by decide) rfl hK hP rfl, (q_pre (av := [.ref (b 11), .int y4]) hK hP hJ hE)⟩ rfl rfl hl.1 rfl (lv_room (Nat.le_of_ble_eq_true rfl)) dX11_feed_33 ⟨Nat.le_of_ble_eq_true rfl, Nat.le_of_ble_eq_true rfl⟩) (fun u10 H locs hpo10 hP hS => ?_)
  obtain ⟨h10_0, h10_1, hq10⟩ := hpo10
  obtain ⟨w11, hA11⟩ : ∃ g, rA u10 5 = g := ⟨_, rfl⟩
  rw [hA11] at h10_1
  have hfr := FR.step hfr hq10 (by decide) (by decide) (fun h => rfl)
  have A4 := h10_1
  have B4 := h10_1.1
  refine lv_aload_n hx hb dX11_feed_36 rfl (lv_at hl 0 rfl) ?_
  refine lv_iload hx hb dX11_feed_37 (lv_at hl 5 rfl) ?_
  refine qc_v hAL hS hA (va_runV (As := [.int y5]) (rest := []) ⟨hx, hb, hml, hown, noTs⟩ (q_X11_feedFour l dC dI H.size cs b u10 w11 hA11 y5 ((((tt + 4) + 4) + 4) + 4) h10_0 (by first | assumption | omega | rfl | (congr 1; omega)) (by first | assumption | omega | rfl | (congr 1; omega))) ⟨cbE 1 (wd_428 hE) (wd_115 hE) (wd_425 hE) rfl rfl (by decide +kernel) ⟨Nat.le_of_ble_eq_true rfl, Nat.le_of_ble_eq_true rfl⟩, (wd_427 hE), (wd_0 hE)⟩ ⟨PQ.blind, q_recv 11 (by decide) rfl hK hP rfl, (q_pre (av := [.ref (b 11), .int y5]) hK hP hJ hE)⟩ rfl rfl hl.1 rfl (lv_room (Nat.le_of_ble_eq_true rfl)) dX11_feed_39 ⟨Nat.le_of_ble_eq_true rfl, Nat.le_of_ble_eq_true rfl⟩) (fun u12 H locs hpo12 hP hS => ?_)
  obtain ⟨h12_0, h12_1, hq12⟩ := hpo12
  obtain ⟨w13, hA13⟩ : ∃ g, rA u12 5 = g := ⟨_, rfl⟩
  rw [hA13] at h12_1
  have hfr := FR.step hfr hq12 (by decide) (by decide) (fun h => rfl)
  have A5 := h12_1
  refine lv_aload_n hx hb dX11_feed_42 rfl (lv_at hl 0 rfl) ?_
  refine q_get (v := .int (nI (((((tt + 4) + 4) + 4) + 4) + 4))) hx hb 11 (by decide) rfl (ly_X11 hE) hown hK hP rfl 7 (by decide) (wd_366 hE) (fun _ h9 => h9) (congrArg (fun z : Int32 => some (Value.int z)) h12_0) dX11_feed_43 ?_
  exact W.iret (v := nI (((((tt + 4) + 4) + 4) + 4) + 4)) hx hb hr (fun t ht hW => ⟨⟨nI (((((tt + 4) + 4) + 4) + 4) + 4), u12, rfl, ⟨(by first | rfl | omega | (congr 1; omega) | assumption), (by first | (rw [h12_0]; done) | (rw [h12_0]; first | assumption | omega | rfl | (congr 1; omega))), (by first | (rw [hA13]; done) | (rw [hA13]; exact fd_of A1 A2 A3 A4 A5 (by omega) (by omega) (by omega) (by omega))), hfr⟩, (show va_P (dC, dI) vwCl (qW cs b u12) t.heap by rw [ht]; exact hP)⟩, hS.F ht⟩) hS.2.2 dX11_feed_46
set_option maxHeartbeats 4000000 in
set_option maxRecDepth 100000 in
theorem q_X11_fault (l : Launch) (dC : Nat → ClassId) (dI : Nat → Nat → Nat) (sz : Nat) (cs : Nat → ClassId) (b : Nat → Nat) (u : RS) (x : Int32) (y7 : Int32) (y8 : Int32) (y9 : Int32) (hF3 : rF u 3 = 1) (hF7 : rF u 7 = y7) (hF8 : rF u 8 = y8) (hF9 : rF u 9 = y9) : Met l yX11_fault [.code yX11_fault cX11_fault 2 (some .int)] ({ frames := 1, cells := 0, slots := 0, locals := 40 }) (PQ [.ref (b 11), .int x] sz dC dI cs b u) (vp_Si (fun (r : Int32) => r = if x.toInt = 0 then y7 else if x.toInt = 1 then y8 else if x.toInt = 2 then y9 else -1)) 0 0 (fun _ => False) := by
  refine Met.ofW (cc := cX11_fault) (maxL := 2) (ret := (some .int)) (by decide) rfl ?_
  intro p e s m args below meth c s₁ B hml hv
  obtain ⟨rfl, hsz, hP, hK, hJ, hE⟩ := hv
  have hx := B.exec
  have hb := B.bytes
  have hr := B.returns
  have hown : s.vm.findClass RX11 = some m.cls := findClass_of_methodNamed B.named
  have hlocks := B.notSynchronized
  subst hsz
  have hl := lv_entry ([.ref (b 11), .int x]) (n := 2) (Nat.le_of_ble_eq_true rfl)
  rw [lg_entry_eq]
  generalize (lg_sl ([.ref (b 11), .int x]) ++ List.replicate (2 - (lg_sl ([.ref (b 11), .int x])).length) Slot.unset).toArray = ls at hl ⊢
  have hl : lv_has ls 2 [(0, .ref (b 11)), (1, .int x)] := hl
  refine lv_aload_n hx hb dX11_fault_0 rfl (lv_at hl 0 rfl) ?_
  refine q_get (v := .ref (b 0)) hx hb 11 (by decide) rfl (ly_X11 hE) hown hK hP rfl 8 (by decide) (wd_367 hE) (fun _ h9 => h9) rfl dX11_fault_1 ?_
  refine lv_iload_n hx hb dX11_fault_4 rfl (lv_at hl 1 rfl) ?_
  refine vp_callSi (va_Run.run (va_runV (As := [.int x]) (rest := []) ⟨hx, hb, hml, hown, noTs⟩ (q_X5_tellFault l dC dI s.heap.size cs b u x y7 y8 y9 hF3 hF7 hF8 hF9) ⟨cbE 1 (wd_756 hE) (wd_118 hE) (wd_753 hE) rfl rfl (by decide +kernel) ⟨Nat.le_of_ble_eq_true rfl, Nat.le_of_ble_eq_true rfl⟩, (wd_754 hE), (wd_755 hE)⟩ ⟨PQ.blind, q_recv 0 (by decide) rfl hK hP rfl, (q_pre (av := [.ref (b 0), .int x]) hK hP hJ hE)⟩ rfl rfl hl.1 rfl (lv_room (Nat.le_of_ble_eq_true rfl)) dX11_fault_5 ⟨Nat.le_of_ble_eq_true rfl, Nat.le_of_ble_eq_true rfl⟩)) (fun r1 hr1 => ?_)
  exact W.iret (v := r1) hx hb hr (fun t ht hW => ⟨r1, rfl, (by assumption), ht⟩) (fun _ h => absurd h List.not_mem_nil) dX11_fault_8
set_option maxHeartbeats 4000000 in
set_option maxRecDepth 100000 in
theorem q_X11_fault_n (l : Launch) (dC : Nat → ClassId) (dI : Nat → Nat → Nat) (sz : Nat) (cs : Nat → ClassId) (b : Nat → Nat) (u : RS) (x : Int32) (hF3 : rF u 3 = 0) : Met l yX11_fault [.code yX11_fault cX11_fault 2 (some .int)] ({ frames := 1, cells := 0, slots := 0, locals := 40 }) (PQ [.ref (b 11), .int x] sz dC dI cs b u) (vp_Si (fun (r : Int32) => r = -1)) 0 0 (fun _ => False) := by
  refine Met.ofW (cc := cX11_fault) (maxL := 2) (ret := (some .int)) (by decide) rfl ?_
  intro p e s m args below meth c s₁ B hml hv
  obtain ⟨rfl, hsz, hP, hK, hJ, hE⟩ := hv
  have hx := B.exec
  have hb := B.bytes
  have hr := B.returns
  have hown : s.vm.findClass RX11 = some m.cls := findClass_of_methodNamed B.named
  have hlocks := B.notSynchronized
  subst hsz
  have hl := lv_entry ([.ref (b 11), .int x]) (n := 2) (Nat.le_of_ble_eq_true rfl)
  rw [lg_entry_eq]
  generalize (lg_sl ([.ref (b 11), .int x]) ++ List.replicate (2 - (lg_sl ([.ref (b 11), .int x])).length) Slot.unset).toArray = ls at hl ⊢
  have hl : lv_has ls 2 [(0, .ref (b 11)), (1, .int x)] := hl
  refine lv_aload_n hx hb dX11_fault_0 rfl (lv_at hl 0 rfl) ?_
  refine q_get (v := .ref (b 0)) hx hb 11 (by decide) rfl (ly_X11 hE) hown hK hP rfl 8 (by decide) (wd_367 hE) (fun _ h9 => h9) rfl dX11_fault_1 ?_
  refine lv_iload_n hx hb dX11_fault_4 rfl (lv_at hl 1 rfl) ?_
  refine vp_callSi (va_Run.run (va_runV (As := [.int x]) (rest := []) ⟨hx, hb, hml, hown, noTs⟩ (q_X5_tellFault_n l dC dI s.heap.size cs b u x hF3) ⟨cbE 1 (wd_756 hE) (wd_118 hE) (wd_753 hE) rfl rfl (by decide +kernel) ⟨Nat.le_of_ble_eq_true rfl, Nat.le_of_ble_eq_true rfl⟩, (wd_754 hE), (wd_755 hE)⟩ ⟨PQ.blind, q_recv 0 (by decide) rfl hK hP rfl, (q_pre (av := [.ref (b 0), .int x]) hK hP hJ hE)⟩ rfl rfl hl.1 rfl (lv_room (Nat.le_of_ble_eq_true rfl)) dX11_fault_5 ⟨Nat.le_of_ble_eq_true rfl, Nat.le_of_ble_eq_true rfl⟩)) (fun r1 hr1 => ?_)
  subst hr1
  exact W.iret (v := -1) hx hb hr (fun t ht hW => ⟨-1, rfl, (by first | rfl | omega | (congr 1; omega) | assumption), ht⟩) (fun _ h => absurd h List.not_mem_nil) dX11_fault_8
set_option maxHeartbeats 4000000 in
set_option maxRecDepth 100000 in
theorem q_X11_answer (l : Launch) (dC : Nat → ClassId) (dI : Nat → Nat → Nat) (sz : Nat) (cs : Nat → ClassId) (b : Nat → Nat) (u : RS) (x : Int32) : Met l yX11_answer [.code yX11_answer cX11_answer 2 (some .int)] ({ frames := 0, cells := 0, slots := 0, locals := 0 }) (PQ [.ref (b 11), .int x] sz dC dI cs b u) (va_Qi (fun (r : Int32) (u' : RS) => (r = x) ∧ FR [] [35] false u u') (BQ dC dI cs b) (AQ b sz)) 0 0 (AQ b sz) := by
  refine Met.ofW (cc := cX11_answer) (maxL := 2) (ret := (some .int)) (by decide) rfl ?_
  intro p e s m args below meth c s₁ B hml hv
  obtain ⟨rfl, hsz, hP, hK, hJ, hE⟩ := hv
  have hx := B.exec
  have hb := B.bytes
  have hr := B.returns
  have hown : s.vm.findClass RX11 = some m.cls := findClass_of_methodNamed B.named
  have hlocks := B.notSynchronized
  subst hsz
  have hAL : ∀ i, i < 12 → AQ b s.heap.size (b i) := fun i h => Or.inl ⟨i, h, rfl⟩
  have hA : ∀ q : Nat, s.heap.size ≤ q → AQ b s.heap.size q := fun q h => Or.inr h
  have hS : va_S (AQ b s.heap.size) s.heap s.heap [] := va_S.rf
  have hfr : FR [] [35] false u u := FR.refl
  have hl := lv_entry ([.ref (b 11), .int x]) (n := 2) (Nat.le_of_ble_eq_true rfl)
  rw [lg_entry_eq]
  generalize (lg_sl ([.ref (b 11), .int x]) ++ List.replicate (2 - (lg_sl ([.ref (b 11), .int x])).length) Slot.unset).toArray = ls at hl ⊢
  have hl : lv_has ls 2 [(0, .ref (b 11)), (1, .int x)] := hl
  refine lv_aload_n hx hb dX11_answer_0 rfl (lv_at hl 0 rfl) ?_
  refine lv_iconst (v := 0) hx hb dX11_answer_1 (by decide) ?_
  refine q_put (v := 0) (ty := .int) hx hb 11 35 (by decide) (ly_X11 hE) tyX11 tyX11_ok nmX11 hown hK hP hJ hAL hS rfl 5 (by decide) (wd_364 hE) (fun _ h9 => h9) rfl (by decide +kernel) rfl rfl rfl rfl (qE_put11 (by decide)) (Nat.le_of_ble_eq_true rfl) dX11_answer_2 (fun u1 H locs hf1 hq1 hP hS => ?_)
  have hfr := FR.step hfr hq1 (fun _ h => absurd h List.not_mem_nil) (by decide) (fun h => rfl)
  refine lv_iload_n hx hb dX11_answer_5 rfl (lv_at hl 1 rfl) ?_
  exact W.iret (v := x) hx hb hr (fun t ht hW => ⟨⟨x, u1, rfl, ⟨(by first | rfl | omega | (congr 1; omega) | assumption), hfr⟩, (show va_P (dC, dI) vwCl (qW cs b u1) t.heap by rw [ht]; exact hP)⟩, hS.F ht⟩) hS.2.2 dX11_answer_6
set_option maxHeartbeats 4000000 in
set_option maxRecDepth 100000 in
theorem q_X11_fail (l : Launch) (dC : Nat → ClassId) (dI : Nat → Nat → Nat) (sz : Nat) (cs : Nat → ClassId) (b : Nat → Nat) (u : RS) (x : Int32) : Met l yX11_fail [.code yX11_fail cX11_fail 2 (some .int)] ({ frames := 0, cells := 0, slots := 0, locals := 0 }) (PQ [.ref (b 11), .int x] sz dC dI cs b u) (va_Qi (fun (r : Int32) (u' : RS) => (r = -1) ∧ FR [] [35] false u u') (BQ dC dI cs b) (AQ b sz)) 0 0 (AQ b sz) := by
  refine Met.ofW (cc := cX11_fail) (maxL := 2) (ret := (some .int)) (by decide) rfl ?_
  intro p e s m args below meth c s₁ B hml hv
  obtain ⟨rfl, hsz, hP, hK, hJ, hE⟩ := hv
  have hx := B.exec
  have hb := B.bytes
  have hr := B.returns
  have hown : s.vm.findClass RX11 = some m.cls := findClass_of_methodNamed B.named
  have hlocks := B.notSynchronized
  subst hsz
  have hAL : ∀ i, i < 12 → AQ b s.heap.size (b i) := fun i h => Or.inl ⟨i, h, rfl⟩
  have hA : ∀ q : Nat, s.heap.size ≤ q → AQ b s.heap.size q := fun q h => Or.inr h
  have hS : va_S (AQ b s.heap.size) s.heap s.heap [] := va_S.rf
  have hfr : FR [] [35] false u u := FR.refl
  have hl := lv_entry ([.ref (b 11), .int x]) (n := 2) (Nat.le_of_ble_eq_true rfl)
  rw [lg_entry_eq]
  generalize (lg_sl ([.ref (b 11), .int x]) ++ List.replicate (2 - (lg_sl ([.ref (b 11), .int x])).length) Slot.unset).toArray = ls at hl ⊢
  have hl : lv_has ls 2 [(0, .ref (b 11)), (1, .int x)] := hl
  refine lv_aload_n hx hb dX11_fail_0 rfl (lv_at hl 0 rfl) ?_
  refine lv_iload_n hx hb dX11_fail_1 rfl (lv_at hl 1 rfl) ?_
  refine q_put (v := x) (ty := .int) hx hb 11 35 (by decide) (ly_X11 hE) tyX11 tyX11_ok nmX11 hown hK hP hJ hAL hS rfl 5 (by decide) (wd_364 hE) (fun _ h9 => h9) rfl (by decide +kernel) rfl rfl rfl rfl (qE_put11 (by decide)) (Nat.le_of_ble_eq_true rfl) dX11_fail_2 (fun u1 H locs hf1 hq1 hP hS => ?_)
  have hfr := FR.step hfr hq1 (fun _ h => absurd h List.not_mem_nil) (by decide) (fun h => rfl)
  refine lv_iconst (v := -1) hx hb dX11_fail_5 (by decide) ?_
  exact W.iret (v := -1) hx hb hr (fun t ht hW => ⟨⟨-1, u1, rfl, ⟨(by first | rfl | omega | (congr 1; omega) | assumption), hfr⟩, (show va_P (dC, dI) vwCl (qW cs b u1) t.heap by rw [ht]; exact hP)⟩, hS.F ht⟩) hS.2.2 dX11_fail_6
set_option maxHeartbeats 4000000 in
set_option maxRecDepth 100000 in
theorem q_X11_load_no (l : Launch) (dC : Nat → ClassId) (dI : Nat → Nat → Nat) (sz : Nat) (cs : Nat → ClassId) (b : Nat → Nat) (u : RS) (x : Int32) (tt : Nat) (hF37 : rF u 37 = nI tt) (hp0 : x.toInt < 0 ∨ (tt : Int) < x.toInt) (hp1 : tt ≤ 700) : Met l yX11_load [.code yX11_load cX11_load 2 (some .int)] ({ frames := 1, cells := 0, slots := 0, locals := 40 }) (PQ [.ref (b 11), .int x] sz dC dI cs b u) (va_Qi (fun (r : Int32) (u' : RS) => (r = -1) ∧ FR [] [35] false u u') (BQ dC dI cs b) (AQ b sz)) 0 0 (AQ b sz) := by
  refine Met.ofW (cc := cX11_load) (maxL := 2) (ret := (some .int)) (by decide) rfl ?_
  intro p e s m args below meth c s₁ B hml hv
  obtain ⟨rfl, hsz, hP, hK, hJ, hE⟩ := hv
  have hx := B.exec
  have hb := B.bytes
  have hr := B.returns
  have hown : s.vm.findClass RX11 = some m.cls := findClass_of_methodNamed B.named
  have hlocks := B.notSynchronized
  subst hsz
  have hAL : ∀ i, i < 12 → AQ b s.heap.size (b i) := fun i h => Or.inl ⟨i, h, rfl⟩
  have hA : ∀ q : Nat, s.heap.size ≤ q → AQ b s.heap.size q := fun q h => Or.inr h
  have hS : va_S (AQ b s.heap.size) s.heap s.heap [] := va_S.rf
  have hfr : FR [] [35] false u u := FR.refl
  have hl := lv_entry ([.ref (b 11), .int x]) (n := 2) (Nat.le_of_ble_eq_true rfl)
  rw [lg_entry_eq]
  generalize (lg_sl ([.ref (b 11), .int x]) ++ List.replicate (2 - (lg_sl ([.ref (b 11), .int x])).length) Slot.unset).toArray = ls at hl ⊢
  have hl : lv_has ls 2 [(0, .ref (b 11)), (1, .int x)] := hl
  refine lv_iload_n hx hb dX11_load_0 rfl (lv_at hl 1 rfl) ?_
  refine lv_if_lt (tgt := 12) hx hb dX11_load_1 (by decide) (fun c3 => ?_) (fun c3 => ?_)
  · have c3 := (b_lt (rfl : Int32.toInt x = _) (show Int32.toInt 0 = 0 from rfl)).mp c3
    refine lv_aload_n hx hb dX11_load_12 rfl (lv_at hl 0 rfl) ?_
    refine lv_iconst (v := 1) hx hb dX11_load_13 (by decide) ?_
    refine qc_i hAL hS hA (va_runV (As := [.int 1]) (rest := []) ⟨hx, hb, hml, hown, noTs⟩ (q_X11_fail l dC dI s.heap.size cs b u 1) ⟨cbE 1 (wd_436 hE) (wd_115 hE) (wd_433 hE) rfl rfl (by decide +kernel) ⟨Nat.le_of_ble_eq_true rfl, Nat.le_of_ble_eq_true rfl⟩, (wd_435 hE), (wd_1 hE)⟩ ⟨PQ.blind, q_recv 11 (by decide) rfl hK hP rfl, (q_pre (av := [.ref (b 11), .int 1]) hK hP hJ hE)⟩ rfl rfl hl.1 rfl (lv_room (Nat.le_of_ble_eq_true rfl)) dX11_load_14 ⟨Nat.le_of_ble_eq_true rfl, Nat.le_of_ble_eq_true rfl⟩) (fun r4 u4 H locs hpo4 hP hS => ?_)
    obtain ⟨hr4, hq4⟩ := hpo4
    have hF5x := (hq4.2.1 37 (by decide)).trans hF37
    have hfr := FR.step hfr hq4 (fun _ h => absurd h List.not_mem_nil) (by decide) (fun h => rfl)
    subst hr4
    exact W.iret (v := -1) hx hb hr (fun t ht hW => ⟨⟨-1, u4, rfl, ⟨(by first | rfl | omega | (congr 1; omega) | assumption), hfr⟩, (show va_P (dC, dI) vwCl (qW cs b u4) t.heap by rw [ht]; exact hP)⟩, hS.F ht⟩) hS.2.2 dX11_load_17
  · have c3 := mt (b_lt (rfl : Int32.toInt x = _) (show Int32.toInt 0 = 0 from rfl)).mpr c3
    refine lv_iload_n hx hb dX11_load_4 rfl (lv_at hl 1 rfl) ?_
    refine lv_aload_n hx hb dX11_load_5 rfl (lv_at hl 0 rfl) ?_
    refine q_get (v := .int (nI tt)) hx hb 11 (by decide) rfl (ly_X11 hE) hown hK hP rfl 7 (by decide) (wd_366 hE) (fun _ h9 => h9) (congrArg (fun z : Int32 => some (Value.int z)) hF37) dX11_load_6 ?_
    refine lv_icmp_le (tgt := 18) hx hb dX11_load_9 (by decide) (fun c6 => False.elim (by have c6 := (b_le (rfl : Int32.toInt x = _) (nI_toInt (n := tt) (by omega))).mp c6; omega)) (fun c6 => ?_)
    have c6 := mt (b_le (rfl : Int32.toInt x = _) (nI_toInt (n := tt) (by omega))).mpr c6
    refine lv_aload_n hx hb dX11_load_12 rfl (lv_at hl 0 rfl) ?_
    refine lv_iconst (v := 1) hx hb dX11_load_13 (by decide) ?_
    refine qc_i hAL hS hA (va_runV (As := [.int 1]) (rest := []) ⟨hx, hb, hml, hown, noTs⟩ (q_X11_fail l dC dI s.heap.size cs b u 1) ⟨cbE 1 (wd_436 hE) (wd_115 hE) (wd_433 hE) rfl rfl (by decide +kernel) ⟨Nat.le_of_ble_eq_true rfl, Nat.le_of_ble_eq_true rfl⟩, (wd_435 hE), (wd_1 hE)⟩ ⟨PQ.blind, q_recv 11 (by decide) rfl hK hP rfl, (q_pre (av := [.ref (b 11), .int 1]) hK hP hJ hE)⟩ rfl rfl hl.1 rfl (lv_room (Nat.le_of_ble_eq_true rfl)) dX11_load_14 ⟨Nat.le_of_ble_eq_true rfl, Nat.le_of_ble_eq_true rfl⟩) (fun r7 u7 H locs hpo7 hP hS => ?_)
    obtain ⟨hr7, hq7⟩ := hpo7
    have hF8x := (hq7.2.1 37 (by decide)).trans hF37
    have hfr := FR.step hfr hq7 (fun _ h => absurd h List.not_mem_nil) (by decide) (fun h => rfl)
    subst hr7
    exact W.iret (v := -1) hx hb hr (fun t ht hW => ⟨⟨-1, u7, rfl, ⟨(by first | rfl | omega | (congr 1; omega) | assumption), hfr⟩, (show va_P (dC, dI) vwCl (qW cs b u7) t.heap by rw [ht]; exact hP)⟩, hS.F ht⟩) hS.2.2 dX11_load_17
