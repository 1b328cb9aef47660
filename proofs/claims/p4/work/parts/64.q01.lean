set_option maxHeartbeats 4000000 in
set_option maxRecDepth 100000 in
theorem q_X9_valueAt (l : Launch) (dC : Nat → ClassId) (dI : Nat → Nat → Nat) (sz : Nat) (cs : Nat → ClassId) (b : Nat → Nat) (u : RS) (tx : Nat → Int32) (hAc5 : rA u 5 = tx) (k2 : Nat → Int32) (hAc2 : rA u 2 = k2) (k3 : Nat → Int32) (hAc3 : rA u 3 = k3) (k4 : Nat → Int32) (hAc4 : rA u 4 = k4) (i : Nat) (sz1 : Nat) (c1 : Nat) (hF14 : rF u 14 = 1) (hF15 : rF u 15 = nI sz1) (hF13 : rF u 13 = nI c1) (hp0 : BY tx) (hp1 : sz1 ≤ 700) (hp2 : QTK k2 k3 k4 tx sz1 c1) (hp3 : i < 100000) : Met l yX9_valueAt [.code yX9_valueAt cX9_valueAt 2 (some .int)] ({ frames := 0, cells := 0, slots := 0, locals := 0 }) (PQ [.ref (b 1), .int (nI i)] sz dC dI cs b u) (vp_Si (fun (r : Int32) => r = nI (vv tx sz1 (bgi tx sz1 i)))) 0 0 (fun _ => False) := by
  refine Met.ofW (cc := cX9_valueAt) (maxL := 2) (ret := (some .int)) (by decide) rfl ?_
  intro p e s m args below meth c s₁ B hml hv
  obtain ⟨rfl, hsz, hP, hK, hJ, hE⟩ := hv
  have hx := B.exec
  have hb := B.bytes
  have hr := B.returns
  have hown : s.vm.findClass RX9 = some m.cls := findClass_of_methodNamed B.named
  have hlocks := B.notSynchronized
  subst hsz
  have hl := lv_entry ([.ref (b 1), .int (nI i)]) (n := 2) (Nat.le_of_ble_eq_true rfl)
  rw [lg_entry_eq]
  generalize (lg_sl ([.ref (b 1), .int (nI i)]) ++ List.replicate (2 - (lg_sl ([.ref (b 1), .int (nI i)])).length) Slot.unset).toArray = ls at hl ⊢
  have hl : lv_has ls 2 [(0, .ref (b 1)), (1, .int (nI i))] := hl
  have hq7 := hp2.1
  refine lv_iload_n hx hb dX9_valueAt_0 rfl (lv_at hl 1 rfl) ?_
  refine lv_if_lt (tgt := 21) hx hb dX9_valueAt_1 (by decide) (fun c5 => False.elim (by have c5 := (b_lt (nI_toInt (n := i) (by omega)) (show Int32.toInt 0 = 0 from rfl)).mp c5; omega)) (fun c5 => ?_)
  have c5 := mt (b_lt (nI_toInt (n := i) (by omega)) (show Int32.toInt 0 = 0 from rfl)).mpr c5
  refine lv_iload_n hx hb dX9_valueAt_4 rfl (lv_at hl 1 rfl) ?_
  refine lv_aload_n hx hb dX9_valueAt_5 rfl (lv_at hl 0 rfl) ?_
  refine q_get (v := .int (nI c1)) hx hb 1 (by decide) rfl (ly_X9 hE) hown hK hP rfl 3 (by decide) (wd_189 hE) (fun _ h9 => h9) (congrArg (fun z : Int32 => some (Value.int z)) hF13) dX9_valueAt_6 ?_
  refine lv_icmp_ge (tgt := 21) hx hb dX9_valueAt_9 (by decide) (fun c6 => ?_) (fun c6 => ?_)
  · have c6 := (b_le (nI_toInt (n := c1) (by omega)) (nI_toInt (n := i) (by omega))).mp c6
    have QE := qtk_end hp2 (i := i) (by omega)
    refine lv_iconst (v := 0) hx hb dX9_valueAt_21 (by decide) ?_
    refine lv_goto (tgt := 31) hx hb dX9_valueAt_22 (by decide) ?_
    exact W.iret (v := 0) hx hb hr (fun t ht hW => ⟨0, rfl, (by first | rfl | (rw [QE]; rw [vv_n]; rfl)), ht⟩) (fun _ h => absurd h List.not_mem_nil) dX9_valueAt_31
  · have c6 := mt (b_le (nI_toInt (n := c1) (by omega)) (nI_toInt (n := i) (by omega))).mpr c6
    refine lv_iload_n hx hb dX9_valueAt_12 rfl (lv_at hl 1 rfl) ?_
    refine lv_aload_n hx hb dX9_valueAt_13 rfl (lv_at hl 0 rfl) ?_
    refine q_get (v := .ref (b 4)) hx hb 1 (by decide) rfl (ly_X9 hE) hown hK hP rfl 2 (by decide) (wd_188 hE) (fun _ h9 => h9) rfl dX9_valueAt_14 ?_
    refine q_alen (j := 4) (t0 := 0) (v := 701) hx hb hK hP (by decide) rfl rfl rfl dX9_valueAt_17 ?_
    refine lv_icmp_lt (tgt := 25) hx hb dX9_valueAt_18 (by decide) (fun c7 => ?_) (fun c7 => False.elim (by have c7 := mt (b_lt (nI_toInt (n := i) (by omega)) (show Int32.toInt 701 = 701 from rfl)).mpr c7; omega))
    have c7 := (b_lt (nI_toInt (n := i) (by omega)) (show Int32.toInt 701 = 701 from rfl)).mp c7
    refine lv_aload_n hx hb dX9_valueAt_25 rfl (lv_at hl 0 rfl) ?_
    refine q_get (v := .ref (b 4)) hx hb 1 (by decide) rfl (ly_X9 hE) hown hK hP rfl 2 (by decide) (wd_188 hE) (fun _ h9 => h9) rfl dX9_valueAt_26 ?_
    refine lv_iload_n hx hb dX9_valueAt_29 rfl (lv_at hl 1 rfl) ?_
    refine q_iald (j := 4) (k := i) (n := 701) (x := nI (vv tx sz1 (bgi tx sz1 i))) hx hb hK hP (by decide) rfl (by omega) (by decide) (by rw [hAc4]; exact (hp2.2.2 i (by omega)).2.2.2) dX9_valueAt_30 ?_
    exact W.iret (v := nI (vv tx sz1 (bgi tx sz1 i))) hx hb hr (fun t ht hW => ⟨nI (vv tx sz1 (bgi tx sz1 i)), rfl, (by first | rfl | (rw [QE]; rw [vv_n]; rfl)), ht⟩) (fun _ h => absurd h List.not_mem_nil) dX9_valueAt_31
set_option maxHeartbeats 4000000 in
set_option maxRecDepth 100000 in
theorem q_X9_cut (l : Launch) (dC : Nat → ClassId) (dI : Nat → Nat → Nat) (sz : Nat) (cs : Nat → ClassId) (b : Nat → Nat) (u : RS) (adK adV : Nat → Nat) (tx : Nat → Int32) (hAc5 : rA u 5 = tx) (k2 : Nat → Int32) (hAc2 : rA u 2 = k2) (k3 : Nat → Int32) (hAc3 : rA u 3 = k3) (k4 : Nat → Int32) (hAc4 : rA u 4 = k4) (xn : Nat) (hp0 : BY tx) (hp1 : xn ≤ 700) : Met l yX9_cut [.code yX9_cut cX9_cut 6 none] ({ frames := 7, cells := 0, slots := 0, locals := 280 }) (PQX [.ref (b 1), .ref (b 5), .int (nI xn)] sz dC dI cs b u adK adV) (va_Qv (fun (u' : RS) => (∃ c : Nat, rF u' 13 = nI c ∧ QTK (rA u' 2) (rA u' 3) (rA u' 4) tx xn c) ∧ (rF u' 14 = 1) ∧ (rF u' 15 = nI xn) ∧ FR [2, 3, 4] [13, 14, 15] false u u') (BQ dC dI cs b) (AQ b sz)) 0 0 (AQ b sz) := by
  refine Met.ofW (cc := cX9_cut) (maxL := 6) (ret := none) (by decide) rfl ?_
  intro p e s m args below meth c s₁ B hml hv
  obtain ⟨rfl, hsz, hP, hK, hJ, hE, hX, hZ0, hZ1, hZ2⟩ := hv
  have hx := B.exec
  have hb := B.bytes
  have hr := B.returns
  have hown : s.vm.findClass RX9 = some m.cls := findClass_of_methodNamed B.named
  have hlocks := B.notSynchronized
  subst hsz
  have hAL : ∀ i, i < 12 → AQ b s.heap.size (b i) := fun i h => Or.inl ⟨i, h, rfl⟩
  have hA : ∀ q : Nat, s.heap.size ≤ q → AQ b s.heap.size q := fun q h => Or.inr h
  have hS : va_S (AQ b s.heap.size) s.heap s.heap [] := va_S.rf
  have hfr : FR [2, 3, 4] [13, 14, 15] false u u := FR.refl
  have hl := lv_entry ([.ref (b 1), .ref (b 5), .int (nI xn)]) (n := 6) (Nat.le_of_ble_eq_true rfl)
  rw [lg_entry_eq]
  generalize (lg_sl ([.ref (b 1), .ref (b 5), .int (nI xn)]) ++ List.replicate (6 - (lg_sl ([.ref (b 1), .ref (b 5), .int (nI xn)])).length) Slot.unset).toArray = ls at hl ⊢
  have hl : lv_has ls 6 [(0, .ref (b 1)), (1, .ref (b 5)), (2, .int (nI xn))] := hl
  refine lv_aload_n hx hb dX9_cut_0 rfl (lv_at hl 0 rfl) ?_
  refine lv_aload_n hx hb dX9_cut_1 rfl (lv_at hl 1 rfl) ?_
  refine q_text (ty := .array .byte) hx hb (ly_X9 hE) tyX9 tyX9_ok nmX9 hown hK hP hJ hAL hS rfl (by decide) (wd_190 hE) (fun _ h9 => h9) rfl (by decide +kernel) rfl rfl dX9_cut_2 (fun u3 H locs hf3 hq3 hP hS => ?_)
  have hA4 := (hq3.1 5 List.not_mem_nil).trans hAc5
  have hA5 := (hq3.1 2 List.not_mem_nil).trans hAc2
  have hA6 := (hq3.1 3 List.not_mem_nil).trans hAc3
  have hA7 := (hq3.1 4 List.not_mem_nil).trans hAc4
  have hfr := FR.step hfr hq3 (fun _ h => absurd h List.not_mem_nil) (by decide) (fun h => rfl)
  refine lv_aload_n hx hb dX9_cut_5 rfl (lv_at hl 0 rfl) ?_
  refine lv_iload_n hx hb dX9_cut_6 rfl (lv_at hl 2 rfl) ?_
  refine lv_aload_n hx hb dX9_cut_7 rfl (lv_at hl 1 rfl) ?_
  refine q_alen (j := 5) (t0 := 1) (v := 700) hx hb hK hP (by decide) rfl rfl rfl dX9_cut_8 ?_
  refine va_mmin hx hb (by rw [hml]; exact hl.1.symm) hown (wd_452 hE) (wd_453 hE) (wd_128 hE) (wd_454 hE) (Nat.le_of_ble_eq_true rfl) (Nat.le_of_ble_eq_true rfl) (Nat.le_of_ble_eq_true rfl) (Nat.le_of_ble_eq_true rfl) dX9_cut_9 ?_
  refine lv_topi (fun x9 ex9 => ?_)
  have hmn10 := mn_f (x := nI xn) (y := 700) ex9 (nI_toInt (n := xn) (by omega)) (show Int32.toInt 700 = 700 from rfl)
  have hi11 : x9 = nI xn := z_nat rfl (by omega)
  subst hi11
  have hti12 := nI_toInt (n := xn) (by omega)
  refine q_put (v := nI xn) (ty := .int) hx hb 1 15 (by decide) (ly_X9 hE) tyX9 tyX9_ok nmX9 hown hK hP hJ hAL hS rfl 5 (by decide) (wd_191 hE) (fun _ h9 => h9) rfl (by decide +kernel) rfl rfl rfl rfl (qE_put1 (by decide) (by decide)) (Nat.le_of_ble_eq_true rfl) dX9_cut_12 (fun u13 H locs hf13 hq13 hP hS => ?_)
  have hA14 := (hq13.1 5 List.not_mem_nil).trans hA4
  have hA15 := (hq13.1 2 List.not_mem_nil).trans hA5
  have hA16 := (hq13.1 3 List.not_mem_nil).trans hA6
  have hA17 := (hq13.1 4 List.not_mem_nil).trans hA7
  have hF18x := (hq13.2.1 14 (by decide)).trans hf3
  have hfr := FR.step hfr hq13 (fun _ h => absurd h List.not_mem_nil) (by decide) (fun h => rfl)
  refine lv_aload_n hx hb dX9_cut_15 rfl (lv_at hl 0 rfl) ?_
  refine lv_iconst (v := 0) hx hb dX9_cut_16 (by decide) ?_
  refine q_put (v := 0) (ty := .int) hx hb 1 13 (by decide) (ly_X9 hE) tyX9 tyX9_ok nmX9 hown hK hP hJ hAL hS rfl 3 (by decide) (wd_189 hE) (fun _ h9 => h9) rfl (by decide +kernel) rfl rfl rfl rfl (qE_put1 (by decide) (by decide)) (Nat.le_of_ble_eq_true rfl) dX9_cut_17 (fun u19 H locs hf19 hq19 hP hS => ?_)
  have hA20 := (hq19.1 5 List.not_mem_nil).trans hA14
  have hA21 := (hq19.1 2 List.not_mem_nil).trans hA15
  have hA22 := (hq19.1 3 List.not_mem_nil).trans hA16
  have hA23 := (hq19.1 4 List.not_mem_nil).trans hA17
  have hF24x := (hq19.2.1 14 (by decide)).trans hF18x
  have hF25x := (hq19.2.1 15 (by decide)).trans hf13
  have hfr := FR.step hfr hq19 (fun _ h => absurd h List.not_mem_nil) (by decide) (fun h => rfl)
  refine lv_iconst (v := 0) hx hb dX9_cut_20 (by decide) ?_
  refine lv_istore_n (lv' := [(3, .int 0), (0, .ref (b 1)), (1, .ref (b 5)), (2, .int (nI xn))]) hx hb dX9_cut_21 rfl hl (by decide) rfl (fun ls hl => ?_)
  refine q_ind (I := fun n u_ H locs ls => va_P (dC, dI) vwCl (qW cs b u_) H ∧ va_S (AQ b s.heap.size) s.heap H locs ∧ FR [2, 3, 4] [13, 14, 15] false u u_ ∧ ∃ (pz_26 : Nat) (c1_26 : Nat) (m2_26 : Nat → Int32) (m3_26 : Nat → Int32) (m4_26 : Nat → Int32), n = xn - pz_26 ∧ (pz_26 ≤ xn) ∧ (c1_26 ≤ pz_26) ∧ (skp tx xn pz_26 = bgi tx xn c1_26) ∧ (∀ i, i < c1_26 → bgi tx xn i < xn ∧ m2_26 i = nI (kd tx xn (bgi tx xn i)) ∧ m3_26 i = nI (bgi tx xn i) ∧ m4_26 i = nI (vv tx xn (bgi tx xn i))) ∧ (rA u_ 2 = m2_26) ∧ (rA u_ 3 = m3_26) ∧ (rA u_ 4 = m4_26) ∧ (rF u_ 13 = nI c1_26) ∧ (rF u_ 14 = 1) ∧ (rF u_ 15 = nI xn) ∧ lv_has ls 6 [(0, .ref (b 1)), (1, .ref (b 5)), (2, .int (nI xn)), (3, .int (nI pz_26))]) (fun n u26 H locs ls hI ih26 => ?_) _ u19 _ _ _ ⟨hP, hS, hfr, 0, 0, k2, k3, k4, rfl, (by first | assumption | omega | rfl | (congr 1; omega)), (by first | assumption | omega | rfl | (congr 1; omega)), (by rfl), (by intro i hi; omega), hA21, hA22, hA23, hf19, hF24x, hF25x, lv_sub hl [1, 2, 3, 0] rfl⟩
  obtain ⟨hP, hS, hfr, pz_26, c1_26, m2_26, m3_26, m4_26, hmu26, hL26_0, hL26_1, hL26_2, hL26_3, hL26_4, hL26_5, hL26_6, hL26_7, hL26_8, hL26_9, hl⟩ := hI
  have hA27 := (hfr.1 5 (by decide)).trans hAc5
  subst hmu26
  refine lv_iload_n hx hb dX9_cut_22 rfl (lv_at hl 3 rfl) ?_
  refine lv_aload_n hx hb dX9_cut_23 rfl (lv_at hl 0 rfl) ?_
  refine q_get (v := .int (nI xn)) hx hb 1 (by decide) rfl (ly_X9 hE) hown hK hP rfl 5 (by decide) (wd_191 hE) (fun _ h9 => h9) (congrArg (fun z : Int32 => some (Value.int z)) hL26_9) dX9_cut_24 ?_
  refine lv_icmp_ge (tgt := 77) hx hb dX9_cut_27 (by decide) (fun c28 => ?_) (fun c28 => ?_)
  · have c28 := (b_le (nI_toInt (n := xn) (by omega)) (nI_toInt (n := pz_26) (by omega))).mp c28
    have PE : pz_26 = xn := by omega
    exact W.vret hx hb hr (fun t ht hW => ⟨⟨u26, rfl, ⟨(by first | (rw [hL26_4, hL26_5, hL26_6]; done) | (rw [hL26_4, hL26_5, hL26_6]; exact ⟨_, hL26_7, by omega, by rw [← hL26_2, PE, skp_n], hL26_3⟩)), (by first | (rw [hL26_8]; done) | (rw [hL26_8]; first | assumption | omega | rfl | (congr 1; omega))), (by first | (rw [hL26_9]; done) | (rw [hL26_9]; first | assumption | omega | rfl | (congr 1; omega))), hfr⟩, (show va_P (dC, dI) vwCl (qW cs b u26) t.heap by rw [ht]; exact hP)⟩, hS.F ht⟩) hS.2.2 dX9_cut_77
  · have c28 := mt (b_le (nI_toInt (n := xn) (by omega)) (nI_toInt (n := pz_26) (by omega))).mpr c28
    refine lv_aload_n hx hb dX9_cut_30 rfl (lv_at hl 0 rfl) ?_
    refine lv_iload_n hx hb dX9_cut_31 rfl (lv_at hl 3 rfl) ?_
    refine vp_callSi (va_Run.run (va_runV (As := [.int (nI pz_26)]) (rest := []) ⟨hx, hb, hml, hown, noTs⟩ (q_X9_byteAt l dC dI H.size cs b u26 tx hA27 pz_26 xn hL26_8 hL26_9 (by first | assumption | omega | rfl | (congr 1; omega)) (by first | assumption | omega | rfl | (congr 1; omega)) (by first | assumption | omega | rfl | (congr 1; omega))) ⟨cbE 1 (wd_458 hE) (wd_119 hE) (wd_455 hE) rfl rfl (by decide +kernel) ⟨Nat.le_of_ble_eq_true rfl, Nat.le_of_ble_eq_true rfl⟩, (wd_457 hE), (wd_2 hE)⟩ ⟨PQ.blind, q_recv 1 (by decide) rfl hK hP rfl, (q_pre (av := [.ref (b 1), .int (nI pz_26)]) hK hP hJ hE)⟩ rfl rfl hl.1 rfl (lv_room (Nat.le_of_ble_eq_true rfl)) dX9_cut_32 ⟨Nat.le_of_ble_eq_true rfl, Nat.le_of_ble_eq_true rfl⟩)) (fun r29 hr29 => ?_)
    subst hr29
    have htf29 := sB_f (f := tx) (by assumption) xn pz_26
    refine lv_istore (lv' := [(4, .int (sB tx xn pz_26)), (0, .ref (b 1)), (1, .ref (b 5)), (2, .int (nI xn)), (3, .int (nI pz_26))]) hx hb dX9_cut_35 hl (by decide) rfl (fun ls hl => ?_)
    refine lv_aload_n hx hb dX9_cut_37 rfl (lv_at hl 1 rfl) ?_
    refine lv_iload_n hx hb dX9_cut_38 rfl (lv_at hl 4 rfl) ?_
    refine vp_callSi (va_Run.run (va_runV (As := [.int (nI pz_26)]) (rest := []) ⟨hx, hb, hml, hown, noTs⟩ (q_X9_endOfToken l dC dI H.size cs b u26 tx hA27 pz_26 xn hL26_8 hL26_9 (by first | assumption | omega | rfl | (congr 1; omega)) (by first | assumption | omega | rfl | (congr 1; omega)) (by first | assumption | omega | rfl | (congr 1; omega))) ⟨cbE 1 (wd_462 hE) (wd_119 hE) (wd_459 hE) rfl rfl (by decide +kernel) ⟨Nat.le_of_ble_eq_true rfl, Nat.le_of_ble_eq_true rfl⟩, (wd_461 hE), (wd_3 hE)⟩ ⟨PQ.blind, q_recv 1 (by decide) rfl hK hP rfl, (q_pre (av := [.ref (b 1), .int (nI pz_26)]) hK hP hJ hE)⟩ rfl rfl hl.1 rfl (lv_room (Nat.le_of_ble_eq_true rfl)) dX9_cut_39 ⟨Nat.le_of_ble_eq_true rfl, Nat.le_of_ble_eq_true rfl⟩)) (fun r30 hr30 => ?_)
    subst hr30
    refine lv_istore (lv' := [(5, .int (nI (tnd tx xn pz_26))), (4, .int (sB tx xn pz_26)), (0, .ref (b 1)), (1, .ref (b 5)), (2, .int (nI xn)), (3, .int (nI pz_26))]) hx hb dX9_cut_42 hl (by decide) rfl (fun ls hl => ?_)
    refine lv_iload hx hb dX9_cut_44 (lv_at hl 1 rfl) ?_
    refine lv_bipush (v := 10) hx hb dX9_cut_46 (by decide) ?_
    refine lv_icmp_eq (tgt := 65) hx hb dX9_cut_48 (by decide) (fun c31 => ?_) (fun c31 => ?_)
    · have c31 := (b_eq (rfl : Int32.toInt (sB tx xn pz_26) = _) (show Int32.toInt 10 = 10 from rfl)).mp c31
      have BL : skp tx xn (tnd tx xn pz_26) = bgi tx xn c1_26 := by rw [tnd_sgn (by omega) (by omega) (by omega), sk_go (by omega)]; exact hL26_2
      refine lv_iload hx hb dX9_cut_65 (lv_at hl 0 rfl) ?_
      refine lv_iload_n hx hb dX9_cut_67 rfl (lv_at hl 5 rfl) ?_
      refine lv_iconst (v := 1) hx hb dX9_cut_68 (by decide) ?_
      refine lv_iadd hx hb dX9_cut_69 ?_
      refine W.eq (g2 := F0 m 70 ls [.int (nI (pz_26 + 1)), .int (nI (tnd tx xn pz_26))]) (congrArg (fun z : Int32 => F0 m 70 ls (.int z :: [.int (nI (tnd tx xn pz_26))])) (nI_add pz_26 1)) ?_
      have tg := tnd_gt (tx := tx) (n := xn) (p := pz_26) (by omega)
      have tl := tnd_le (tx := tx) hL26_0
      refine va_mmax hx hb (by rw [hml]; exact hl.1.symm) hown (wd_539 hE) (wd_540 hE) (wd_128 hE) (wd_541 hE) (Nat.le_of_ble_eq_true rfl) (Nat.le_of_ble_eq_true rfl) (Nat.le_of_ble_eq_true rfl) (Nat.le_of_ble_eq_true rfl) dX9_cut_70 ?_
      refine lv_topi (fun x32 ex32 => ?_)
      have hmx33 := mx_f (x := nI (tnd tx xn pz_26)) (y := nI (pz_26 + 1)) ex32 (nI_toInt (n := tnd tx xn pz_26) (by omega)) (nI_toInt (n := pz_26 + 1) (by omega))
      have hi34 : x32 = nI (tnd tx xn pz_26) := z_nat rfl (by omega)
      subst hi34
      have hti35 := nI_toInt (n := tnd tx xn pz_26) (by omega)
      refine lv_istore_n (lv' := [(3, .int (nI (tnd tx xn pz_26))), (5, .int (nI (tnd tx xn pz_26))), (4, .int (sB tx xn pz_26)), (0, .ref (b 1)), (1, .ref (b 5)), (2, .int (nI xn))]) hx hb dX9_cut_73 rfl hl (by decide) rfl (fun ls hl => ?_)
      refine lv_goto (tgt := 22) hx hb dX9_cut_74 (by decide) ?_
      exact ih26 _ u26 _ _ _ (by have := tnd_gt (tx := tx) (n := xn) (p := pz_26) (by omega); have := tnd_le (tx := tx) hL26_0; omega) ⟨hP, hS, hfr, (tnd tx xn pz_26), c1_26, m2_26, m3_26, m4_26, rfl, (by have := tnd_le (tx := tx) hL26_0; omega), (by have := tnd_gt (tx := tx) (n := xn) (p := pz_26) (by omega); omega), (by first | exact BL | exact NB), (by first | exact hL26_3 | exact QA), hL26_4, hL26_5, hL26_6, hL26_7, hL26_8, hL26_9, lv_sub hl [3, 4, 5, 0] rfl⟩
    · have c31 := mt (b_eq (rfl : Int32.toInt (sB tx xn pz_26) = _) (show Int32.toInt 10 = 10 from rfl)).mpr c31
      refine lv_iload hx hb dX9_cut_51 (lv_at hl 1 rfl) ?_
      refine lv_bipush (v := 32) hx hb dX9_cut_53 (by decide) ?_
      refine lv_icmp_eq (tgt := 65) hx hb dX9_cut_55 (by decide) (fun c36 => ?_) (fun c36 => ?_)
      · have c36 := (b_eq (rfl : Int32.toInt (sB tx xn pz_26) = _) (show Int32.toInt 32 = 32 from rfl)).mp c36
        have BL : skp tx xn (tnd tx xn pz_26) = bgi tx xn c1_26 := by rw [tnd_sgn (by omega) (by omega) (by omega), sk_go (by omega)]; exact hL26_2
        refine lv_iload hx hb dX9_cut_65 (lv_at hl 0 rfl) ?_
        refine lv_iload_n hx hb dX9_cut_67 rfl (lv_at hl 5 rfl) ?_
        refine lv_iconst (v := 1) hx hb dX9_cut_68 (by decide) ?_
        refine lv_iadd hx hb dX9_cut_69 ?_
        refine W.eq (g2 := F0 m 70 ls [.int (nI (pz_26 + 1)), .int (nI (tnd tx xn pz_26))]) (congrArg (fun z : Int32 => F0 m 70 ls (.int z :: [.int (nI (tnd tx xn pz_26))])) (nI_add pz_26 1)) ?_
        have tg := tnd_gt (tx := tx) (n := xn) (p := pz_26) (by omega)
        have tl := tnd_le (tx := tx) hL26_0
        refine va_mmax hx hb (by rw [hml]; exact hl.1.symm) hown (wd_539 hE) (wd_540 hE) (wd_128 hE) (wd_541 hE) (Nat.le_of_ble_eq_true rfl) (Nat.le_of_ble_eq_true rfl) (Nat.le_of_ble_eq_true rfl) (Nat.le_of_ble_eq_true rfl) dX9_cut_70 ?_
        refine lv_topi (fun x37 ex37 => ?_)
        have hmx38 := mx_f (x := nI (tnd tx xn pz_26)) (y := nI (pz_26 + 1)) ex37 (nI_toInt (n := tnd tx xn pz_26) (by omega)) (nI_toInt (n := pz_26 + 1) (by omega))
        have hi39 : x37 = nI (tnd tx xn pz_26) := z_nat rfl (by omega)
        subst hi39
        have hti40 := nI_toInt (n := tnd tx xn pz_26) (by omega)
        refine lv_istore_n (lv' := [(3, .int (nI (tnd tx xn pz_26))), (5, .int (nI (tnd tx xn pz_26))), (4, .int (sB tx xn pz_26)), (0, .ref (b 1)), (1, .ref (b 5)), (2, .int (nI xn))]) hx hb dX9_cut_73 rfl hl (by decide) rfl (fun ls hl => ?_)
        refine lv_goto (tgt := 22) hx hb dX9_cut_74 (by decide) ?_
        exact ih26 _ u26 _ _ _ (by have := tnd_gt (tx := tx) (n := xn) (p := pz_26) (by omega); have := tnd_le (tx := tx) hL26_0; omega) ⟨hP, hS, hfr, (tnd tx xn pz_26), c1_26, m2_26, m3_26, m4_26, rfl, (by have := tnd_le (tx := tx) hL26_0; omega), (by have := tnd_gt (tx := tx) (n := xn) (p := pz_26) (by omega); omega), (by first | exact BL | exact NB), (by first | exact hL26_3 | exact QA), hL26_4, hL26_5, hL26_6, hL26_7, hL26_8, hL26_9, lv_sub hl [3, 4, 5, 0] rfl⟩
      · have c36 := mt (b_eq (rfl : Int32.toInt (sB tx xn pz_26) = _) (show Int32.toInt 32 = 32 from rfl)).mpr c36
        have PB : pz_26 = bgi tx xn c1_26 := (sk_st (by omega)).symm.trans hL26_2
        have NB : skp tx xn (tnd tx xn pz_26) = bgi tx xn (c1_26 + 1) := by show _ = nxt tx xn (bgi tx xn c1_26); rw [← PB]; rfl
        refine lv_aload_n hx hb dX9_cut_58 rfl (lv_at hl 2 rfl) ?_
        refine lv_iload_n hx hb dX9_cut_59 rfl (lv_at hl 5 rfl) ?_
        refine lv_iload hx hb dX9_cut_60 (lv_at hl 0 rfl) ?_
        refine qc_v hAL hS hA (va_runV (As := [.int (nI pz_26), .int (nI (tnd tx xn pz_26))]) (rest := []) ⟨hx, hb, hml, hown, noTs⟩ (q_X9_add l dC dI H.size cs b u26 adK adV tx hA27 m2_26 hL26_4 m3_26 hL26_5 m4_26 hL26_6 pz_26 (tnd tx xn pz_26) xn c1_26 hL26_8 hL26_9 hL26_7 (by first | assumption | omega | rfl | (congr 1; omega)) (by first | assumption | omega | rfl | (congr 1; omega)) (by first | assumption | omega | rfl | (congr 1; omega)) (by first | assumption | omega | rfl | (congr 1; omega)) (by first | assumption | omega | rfl | (congr 1; omega))) ⟨cbE 2 (wd_472 hE) (wd_119 hE) (wd_469 hE) rfl rfl (by decide +kernel) ⟨Nat.le_of_ble_eq_true rfl, Nat.le_of_ble_eq_true rfl⟩, (wd_471 hE), (wd_4 hE)⟩ ⟨PQX.blind, q_recv 1 (by decide) rfl hK hP rfl, (qx_pre (av := [.ref (b 1), .int (nI pz_26), .int (nI (tnd tx xn pz_26))]) hK hP hJ hE hX hZ0 hZ1 hZ2 hS)⟩ rfl rfl hl.1 rfl (lv_room (Nat.le_of_ble_eq_true rfl)) dX9_cut_62 ⟨Nat.le_of_ble_eq_true rfl, Nat.le_of_ble_eq_true rfl⟩) (fun u41 H locs hpo41 hP hS => ?_)
        obtain ⟨h41_0, h41_1, h41_2, h41_3, hq41⟩ := hpo41
        obtain ⟨w42, hA42⟩ : ∃ g, rA u41 2 = g := ⟨_, rfl⟩
        rw [hA42] at h41_0
        obtain ⟨w43, hA43⟩ : ∃ g, rA u41 3 = g := ⟨_, rfl⟩
        rw [hA43] at h41_1
        obtain ⟨w44, hA44⟩ : ∃ g, rA u41 4 = g := ⟨_, rfl⟩
        rw [hA44] at h41_2
        have hA45 := (hq41.1 5 (by decide)).trans hA27
        have hF46x := (hq41.2.1 14 (by decide)).trans hL26_8
        have hF47x := (hq41.2.1 15 (by decide)).trans hL26_9
        have hfr := FR.step hfr hq41 (by decide) (by decide) (fun h => rfl)
        have QA := qtk_add hL26_3 PB (by omega) h41_0 h41_1 h41_2
        refine lv_iload hx hb dX9_cut_65 (lv_at hl 0 rfl) ?_
        refine lv_iload_n hx hb dX9_cut_67 rfl (lv_at hl 5 rfl) ?_
        refine lv_iconst (v := 1) hx hb dX9_cut_68 (by decide) ?_
        refine lv_iadd hx hb dX9_cut_69 ?_
        refine W.eq (g2 := F0 m 70 ls [.int (nI (pz_26 + 1)), .int (nI (tnd tx xn pz_26))]) (congrArg (fun z : Int32 => F0 m 70 ls (.int z :: [.int (nI (tnd tx xn pz_26))])) (nI_add pz_26 1)) ?_
        have tg := tnd_gt (tx := tx) (n := xn) (p := pz_26) (by omega)
        have tl := tnd_le (tx := tx) hL26_0
        refine va_mmax hx hb (by rw [hml]; exact hl.1.symm) hown (wd_539 hE) (wd_540 hE) (wd_128 hE) (wd_541 hE) (Nat.le_of_ble_eq_true rfl) (Nat.le_of_ble_eq_true rfl) (Nat.le_of_ble_eq_true rfl) (Nat.le_of_ble_eq_true rfl) dX9_cut_70 ?_
        refine lv_topi (fun x48 ex48 => ?_)
        have hmx49 := mx_f (x := nI (tnd tx xn pz_26)) (y := nI (pz_26 + 1)) ex48 (nI_toInt (n := tnd tx xn pz_26) (by omega)) (nI_toInt (n := pz_26 + 1) (by omega))
        have hi50 : x48 = nI (tnd tx xn pz_26) := z_nat rfl (by omega)
        subst hi50
        have hti51 := nI_toInt (n := tnd tx xn pz_26) (by omega)
        refine lv_istore_n (lv' := [(3, .int (nI (tnd tx xn pz_26))), (5, .int (nI (tnd tx xn pz_26))), (4, .int (sB tx xn pz_26)), (0, .ref (b 1)), (1, .ref (b 5)), (2, .int (nI xn))]) hx hb dX9_cut_73 rfl hl (by decide) rfl (fun ls hl => ?_)
        refine lv_goto (tgt := 22) hx hb dX9_cut_74 (by decide) ?_
        exact ih26 _ u41 _ _ _ (by have := tnd_gt (tx := tx) (n := xn) (p := pz_26) (by omega); have := tnd_le (tx := tx) hL26_0; omega) ⟨hP, hS, hfr, (tnd tx xn pz_26), (c1_26 + 1), w42, w43, w44, rfl, (by have := tnd_le (tx := tx) hL26_0; omega), (by have := tnd_gt (tx := tx) (n := xn) (p := pz_26) (by omega); omega), (by first | exact BL | exact NB), (by first | exact hL26_3 | exact QA), hA42, hA43, hA44, h41_3, hF46x, hF47x, lv_sub hl [3, 4, 5, 0] rfl⟩
set_option maxHeartbeats 4000000 in
set_option maxRecDepth 100000 in
theorem q_X7_put (l : Launch) (dC : Nat → ClassId) (dI : Nat → Nat → Nat) (sz : Nat) (cs : Nat → ClassId) (b : Nat → Nat) (u : RS) (dg : Nat → Int32) (hAc7 : rA u 7 = dg) (k : Nat) (x : Int32) (hp0 : k < 543) : Met l yX7_put [.code yX7_put cX7_put 3 none] ({ frames := 0, cells := 0, slots := 0, locals := 0 }) (PQ [.ref (b 6), .int (nI k), .int x] sz dC dI cs b u) (va_Qv (fun (u' : RS) => ((rA u' 7) = upd dg k x) ∧ FR [7] [] false u u') (BQ dC dI cs b) (AQ b sz)) 0 0 (AQ b sz) := by
  refine Met.ofW (cc := cX7_put) (maxL := 3) (ret := none) (by decide) rfl ?_
  intro p e s m args below meth c s₁ B hml hv
  obtain ⟨rfl, hsz, hP, hK, hJ, hE⟩ := hv
  have hx := B.exec
  have hb := B.bytes
  have hr := B.returns
  have hown : s.vm.findClass RX7 = some m.cls := findClass_of_methodNamed B.named
  have hlocks := B.notSynchronized
  subst hsz
  have hAL : ∀ i, i < 12 → AQ b s.heap.size (b i) := fun i h => Or.inl ⟨i, h, rfl⟩
  have hA : ∀ q : Nat, s.heap.size ≤ q → AQ b s.heap.size q := fun q h => Or.inr h
  have hS : va_S (AQ b s.heap.size) s.heap s.heap [] := va_S.rf
  have hfr : FR [7] [] false u u := FR.refl
  have hl := lv_entry ([.ref (b 6), .int (nI k), .int x]) (n := 3) (Nat.le_of_ble_eq_true rfl)
  rw [lg_entry_eq]
  generalize (lg_sl ([.ref (b 6), .int (nI k), .int x]) ++ List.replicate (3 - (lg_sl ([.ref (b 6), .int (nI k), .int x])).length) Slot.unset).toArray = ls at hl ⊢
  have hl : lv_has ls 3 [(0, .ref (b 6)), (1, .int (nI k)), (2, .int x)] := hl
  refine lv_iload_n hx hb dX7_put_0 rfl (lv_at hl 1 rfl) ?_
  refine lv_if_lt (tgt := 20) hx hb dX7_put_1 (by decide) (fun c2 => False.elim (by have c2 := (b_lt (nI_toInt (n := k) (by omega)) (show Int32.toInt 0 = 0 from rfl)).mp c2; omega)) (fun c2 => ?_)
  have c2 := mt (b_lt (nI_toInt (n := k) (by omega)) (show Int32.toInt 0 = 0 from rfl)).mpr c2
  refine lv_iload_n hx hb dX7_put_4 rfl (lv_at hl 1 rfl) ?_
  refine lv_aload_n hx hb dX7_put_5 rfl (lv_at hl 0 rfl) ?_
  refine q_get (v := .ref (b 7)) hx hb 6 (by decide) rfl (ly_X7 hE) hown hK hP rfl 0 (by decide) (wd_149 hE) (fun _ h9 => h9) rfl dX7_put_6 ?_
  refine q_alen (j := 7) (t0 := 0) (v := 543) hx hb hK hP (by decide) rfl rfl rfl dX7_put_9 ?_
  refine lv_icmp_ge (tgt := 20) hx hb dX7_put_10 (by decide) (fun c3 => False.elim (by have c3 := (b_le (show Int32.toInt 543 = 543 from rfl) (nI_toInt (n := k) (by omega))).mp c3; omega)) (fun c3 => ?_)
  have c3 := mt (b_le (show Int32.toInt 543 = 543 from rfl) (nI_toInt (n := k) (by omega))).mpr c3
  refine lv_aload_n hx hb dX7_put_13 rfl (lv_at hl 0 rfl) ?_
  refine q_get (v := .ref (b 7)) hx hb 6 (by decide) rfl (ly_X7 hE) hown hK hP rfl 0 (by decide) (wd_149 hE) (fun _ h9 => h9) rfl dX7_put_14 ?_
  refine lv_iload_n hx hb dX7_put_17 rfl (lv_at hl 1 rfl) ?_
  refine lv_iload_n hx hb dX7_put_18 rfl (lv_at hl 2 rfl) ?_
  refine q_iast (j := 7) (k := k) (n := 543) (x := x) hx hb hK hP hJ hAL hS (by decide) (fun _ => rfl) hAc7 (by omega) (by decide) dX7_put_19 (fun u4 H locs hs4 hq4 hP hS => ?_)
  obtain ⟨w4, hw4⟩ : ∃ g, g = upd dg k x := ⟨_, rfl⟩
  rw [← hw4] at hs4
  have hfr := FR.step hfr hq4 (by decide) (fun _ h => absurd h List.not_mem_nil) (fun h => rfl)
  have WP := hw4
  exact W.vret hx hb hr (fun t ht hW => ⟨⟨u4, rfl, ⟨(by first | (rw [hs4]; done) | (rw [hs4]; exact WP)), hfr⟩, (show va_P (dC, dI) vwCl (qW cs b u4) t.heap by rw [ht]; exact hP)⟩, hS.F ht⟩) hS.2.2 dX7_put_20
set_option maxHeartbeats 4000000 in
set_option maxRecDepth 100000 in
theorem q_X7_vertices (l : Launch) (dC : Nat → ClassId) (dI : Nat → Nat → Nat) (sz : Nat) (cs : Nat → ClassId) (b : Nat → Nat) (u : RS) (dg : Nat → Int32) (hAc7 : rA u 7 = dg) : Met l yX7_vertices [.code yX7_vertices cX7_vertices 1 (some .int)] ({ frames := 0, cells := 0, slots := 0, locals := 0 }) (PQ [.ref (b 6)] sz dC dI cs b u) (vp_Si (fun (r : Int32) => r = dg 0)) 0 0 (fun _ => False) := by
  refine Met.ofW (cc := cX7_vertices) (maxL := 1) (ret := (some .int)) (by decide) rfl ?_
  intro p e s m args below meth c s₁ B hml hv
  obtain ⟨rfl, hsz, hP, hK, hJ, hE⟩ := hv
  have hx := B.exec
  have hb := B.bytes
  have hr := B.returns
  have hown : s.vm.findClass RX7 = some m.cls := findClass_of_methodNamed B.named
  have hlocks := B.notSynchronized
  subst hsz
  have hl := lv_entry ([.ref (b 6)]) (n := 1) (Nat.le_of_ble_eq_true rfl)
  rw [lg_entry_eq]
  generalize (lg_sl ([.ref (b 6)]) ++ List.replicate (1 - (lg_sl ([.ref (b 6)])).length) Slot.unset).toArray = ls at hl ⊢
  have hl : lv_has ls 1 [(0, .ref (b 6))] := hl
  refine lv_aload_n hx hb dX7_vertices_0 rfl (lv_at hl 0 rfl) ?_
  refine q_get (v := .ref (b 7)) hx hb 6 (by decide) rfl (ly_X7 hE) hown hK hP rfl 0 (by decide) (wd_149 hE) (fun _ h9 => h9) rfl dX7_vertices_1 ?_
  refine lv_iconst (v := 0) hx hb dX7_vertices_4 (by decide) ?_
  refine q_iald (j := 7) (k := 0) (n := 543) (x := dg 0) hx hb hK hP (by decide) rfl (by decide) (by decide) (by rw [hAc7]) dX7_vertices_5 ?_
  refine lv_topi (fun x2 ex2 => ?_)
  exact W.iret (v := x2) hx hb hr (fun t ht hW => ⟨x2, rfl, (by first | rfl | omega | (congr 1; omega) | assumption), ht⟩) (fun _ h => absurd h List.not_mem_nil) dX7_vertices_6
set_option maxHeartbeats 4000000 in
set_option maxRecDepth 100000 in
theorem q_X7_edges (l : Launch) (dC : Nat → ClassId) (dI : Nat → Nat → Nat) (sz : Nat) (cs : Nat → ClassId) (b : Nat → Nat) (u : RS) (dg : Nat → Int32) (hAc7 : rA u 7 = dg) : Met l yX7_edges [.code yX7_edges cX7_edges 1 (some .int)] ({ frames := 0, cells := 0, slots := 0, locals := 0 }) (PQ [.ref (b 6)] sz dC dI cs b u) (vp_Si (fun (r : Int32) => r = dg 1)) 0 0 (fun _ => False) := by
  refine Met.ofW (cc := cX7_edges) (maxL := 1) (ret := (some .int)) (by decide) rfl ?_
  intro p e s m args below meth c s₁ B hml hv
  obtain ⟨rfl, hsz, hP, hK, hJ, hE⟩ := hv
  have hx := B.exec
  have hb := B.bytes
  have hr := B.returns
  have hown : s.vm.findClass RX7 = some m.cls := findClass_of_methodNamed B.named
  have hlocks := B.notSynchronized
  subst hsz
  have hl := lv_entry ([.ref (b 6)]) (n := 1) (Nat.le_of_ble_eq_true rfl)
  rw [lg_entry_eq]
  generalize (lg_sl ([.ref (b 6)]) ++ List.replicate (1 - (lg_sl ([.ref (b 6)])).length) Slot.unset).toArray = ls at hl ⊢
  have hl : lv_has ls 1 [(0, .ref (b 6))] := hl
  refine lv_aload_n hx hb dX7_edges_0 rfl (lv_at hl 0 rfl) ?_
  refine q_get (v := .ref (b 7)) hx hb 6 (by decide) rfl (ly_X7 hE) hown hK hP rfl 0 (by decide) (wd_149 hE) (fun _ h9 => h9) rfl dX7_edges_1 ?_
  refine lv_iconst (v := 1) hx hb dX7_edges_4 (by decide) ?_
  refine q_iald (j := 7) (k := 1) (n := 543) (x := dg 1) hx hb hK hP (by decide) rfl (by decide) (by decide) (by rw [hAc7]) dX7_edges_5 ?_
  refine lv_topi (fun x2 ex2 => ?_)
  exact W.iret (v := x2) hx hb hr (fun t ht hW => ⟨x2, rfl, (by first | rfl | omega | (congr 1; omega) | assumption), ht⟩) (fun _ h => absurd h List.not_mem_nil) dX7_edges_6
set_option maxHeartbeats 4000000 in
set_option maxRecDepth 100000 in
theorem q_X7_words (l : Launch) (dC : Nat → ClassId) (dI : Nat → Nat → Nat) (sz : Nat) (cs : Nat → ClassId) (b : Nat → Nat) (u : RS) (dg : Nat → Int32) (hAc7 : rA u 7 = dg) : Met l yX7_words [.code yX7_words cX7_words 1 (some .int)] ({ frames := 0, cells := 0, slots := 0, locals := 0 }) (PQ [.ref (b 6)] sz dC dI cs b u) (vp_Si (fun (r : Int32) => r = dg 2)) 0 0 (fun _ => False) := by
  refine Met.ofW (cc := cX7_words) (maxL := 1) (ret := (some .int)) (by decide) rfl ?_
  intro p e s m args below meth c s₁ B hml hv
  obtain ⟨rfl, hsz, hP, hK, hJ, hE⟩ := hv
  have hx := B.exec
  have hb := B.bytes
  have hr := B.returns
  have hown : s.vm.findClass RX7 = some m.cls := findClass_of_methodNamed B.named
  have hlocks := B.notSynchronized
  subst hsz
  have hl := lv_entry ([.ref (b 6)]) (n := 1) (Nat.le_of_ble_eq_true rfl)
  rw [lg_entry_eq]
  generalize (lg_sl ([.ref (b 6)]) ++ List.replicate (1 - (lg_sl ([.ref (b 6)])).length) Slot.unset).toArray = ls at hl ⊢
  have hl : lv_has ls 1 [(0, .ref (b 6))] := hl
  refine lv_aload_n hx hb dX7_words_0 rfl (lv_at hl 0 rfl) ?_
  refine q_get (v := .ref (b 7)) hx hb 6 (by decide) rfl (ly_X7 hE) hown hK hP rfl 0 (by decide) (wd_149 hE) (fun _ h9 => h9) rfl dX7_words_1 ?_
  refine lv_iconst (v := 2) hx hb dX7_words_4 (by decide) ?_
  refine q_iald (j := 7) (k := 2) (n := 543) (x := dg 2) hx hb hK hP (by decide) rfl (by decide) (by decide) (by rw [hAc7]) dX7_words_5 ?_
  refine lv_topi (fun x2 ex2 => ?_)
  exact W.iret (v := x2) hx hb hr (fun t ht hW => ⟨x2, rfl, (by first | rfl | omega | (congr 1; omega) | assumption), ht⟩) (fun _ h => absurd h List.not_mem_nil) dX7_words_6
set_option maxHeartbeats 4000000 in
set_option maxRecDepth 100000 in
theorem q_X7_isFull (l : Launch) (dC : Nat → ClassId) (dI : Nat → Nat → Nat) (sz : Nat) (cs : Nat → ClassId) (b : Nat → Nat) (u : RS) (dg : Nat → Int32) (hAc7 : rA u 7 = dg) (gg : PGr) (hp0 : DG dg gg) : Met l yX7_isFull [.code yX7_isFull cX7_isFull 1 (some .boolean)] ({ frames := 0, cells := 0, slots := 0, locals := 0 }) (PQ [.ref (b 6)] sz dC dI cs b u) (vp_Si (fun (r : Int32) => (r = 1 ∧ (10 ≤ pW gg)) ∨ (r = 0 ∧ (pW gg < 10)))) 0 0 (fun _ => False) := by
  refine Met.ofW (cc := cX7_isFull) (maxL := 1) (ret := (some .boolean)) (by decide) rfl ?_
  intro p e s m args below meth c s₁ B hml hv
  obtain ⟨rfl, hsz, hP, hK, hJ, hE⟩ := hv
  have hx := B.exec
  have hb := B.bytes
  have hr := B.returns
  have hown : s.vm.findClass RX7 = some m.cls := findClass_of_methodNamed B.named
  have hlocks := B.notSynchronized
  subst hsz
  have hl := lv_entry ([.ref (b 6)]) (n := 1) (Nat.le_of_ble_eq_true rfl)
  rw [lg_entry_eq]
  generalize (lg_sl ([.ref (b 6)]) ++ List.replicate (1 - (lg_sl ([.ref (b 6)])).length) Slot.unset).toArray = ls at hl ⊢
  have hl : lv_has ls 1 [(0, .ref (b 6))] := hl
  have d6 := hp0.2.1
  have e6 := hp0.2.2.2.1
  have w10 := hp0.2.2.2.2.2.1
  refine lv_aload_n hx hb dX7_isFull_0 rfl (lv_at hl 0 rfl) ?_
  refine q_get (v := .ref (b 7)) hx hb 6 (by decide) rfl (ly_X7 hE) hown hK hP rfl 0 (by decide) (wd_149 hE) (fun _ h9 => h9) rfl dX7_isFull_1 ?_
  refine lv_iconst (v := 2) hx hb dX7_isFull_4 (by decide) ?_
  refine q_iald (j := 7) (k := 2) (n := 543) (x := nI (pW gg)) hx hb hK hP (by decide) rfl (by decide) (by decide) (by rw [hAc7]; exact hp0.2.2.2.2.1) dX7_isFull_5 ?_
  refine lv_bipush (v := 10) hx hb dX7_isFull_6 (by decide) ?_
  refine lv_icmp_lt (tgt := 15) hx hb dX7_isFull_8 (by decide) (fun c3 => ?_) (fun c3 => ?_)
  · have c3 := (b_lt (nI_toInt (n := pW gg) (by omega)) (show Int32.toInt 10 = 10 from rfl)).mp c3
    refine lv_iconst (v := 0) hx hb dX7_isFull_15 (by decide) ?_
    exact W.zret (v := 0) hx hb hr rfl (fun t ht hW => ⟨0, rfl, Or.inr ⟨rfl, by first | assumption | omega | rfl | (congr 1; omega)⟩, ht⟩) (fun _ h => absurd h List.not_mem_nil) dX7_isFull_16
  · have c3 := mt (b_lt (nI_toInt (n := pW gg) (by omega)) (show Int32.toInt 10 = 10 from rfl)).mpr c3
    refine lv_iconst (v := 1) hx hb dX7_isFull_11 (by decide) ?_
    refine lv_goto (tgt := 16) hx hb dX7_isFull_12 (by decide) ?_
    exact W.zret (v := 1) hx hb hr rfl (fun t ht hW => ⟨1, rfl, Or.inl ⟨rfl, by first | assumption | omega | rfl | (congr 1; omega)⟩, ht⟩) (fun _ h => absurd h List.not_mem_nil) dX7_isFull_16
set_option maxHeartbeats 4000000 in
set_option maxRecDepth 100000 in
theorem q_X7_hasVertex (l : Launch) (dC : Nat → ClassId) (dI : Nat → Nat → Nat) (sz : Nat) (cs : Nat → ClassId) (b : Nat → Nat) (u : RS) (dg : Nat → Int32) (hAc7 : rA u 7 = dg) (v : Nat) (gg : PGr) (hp0 : DG dg gg) (hp1 : v < 100000) : Met l yX7_hasVertex [.code yX7_hasVertex cX7_hasVertex 2 (some .boolean)] ({ frames := 0, cells := 0, slots := 0, locals := 0 }) (PQ [.ref (b 6), .int (nI v)] sz dC dI cs b u) (vp_Si (fun (r : Int32) => (r = 1 ∧ (v < pV gg)) ∨ (r = 0 ∧ (pV gg ≤ v)))) 0 0 (fun _ => False) := by
  refine Met.ofW (cc := cX7_hasVertex) (maxL := 2) (ret := (some .boolean)) (by decide) rfl ?_
  intro p e s m args below meth c s₁ B hml hv
  obtain ⟨rfl, hsz, hP, hK, hJ, hE⟩ := hv
  have hx := B.exec
  have hb := B.bytes
  have hr := B.returns
  have hown : s.vm.findClass RX7 = some m.cls := findClass_of_methodNamed B.named
  have hlocks := B.notSynchronized
  subst hsz
  have hl := lv_entry ([.ref (b 6), .int (nI v)]) (n := 2) (Nat.le_of_ble_eq_true rfl)
  rw [lg_entry_eq]
  generalize (lg_sl ([.ref (b 6), .int (nI v)]) ++ List.replicate (2 - (lg_sl ([.ref (b 6), .int (nI v)])).length) Slot.unset).toArray = ls at hl ⊢
  have hl : lv_has ls 2 [(0, .ref (b 6)), (1, .int (nI v))] := hl
  have d6 := hp0.2.1
  have e6 := hp0.2.2.2.1
  have w10 := hp0.2.2.2.2.2.1
  refine lv_iload_n hx hb dX7_hasVertex_0 rfl (lv_at hl 1 rfl) ?_
  refine lv_if_lt (tgt := 18) hx hb dX7_hasVertex_1 (by decide) (fun c3 => False.elim (by have c3 := (b_lt (nI_toInt (n := v) (by omega)) (show Int32.toInt 0 = 0 from rfl)).mp c3; omega)) (fun c3 => ?_)
  have c3 := mt (b_lt (nI_toInt (n := v) (by omega)) (show Int32.toInt 0 = 0 from rfl)).mpr c3
  refine lv_iload_n hx hb dX7_hasVertex_4 rfl (lv_at hl 1 rfl) ?_
  refine lv_aload_n hx hb dX7_hasVertex_5 rfl (lv_at hl 0 rfl) ?_
  refine q_get (v := .ref (b 7)) hx hb 6 (by decide) rfl (ly_X7 hE) hown hK hP rfl 0 (by decide) (wd_149 hE) (fun _ h9 => h9) rfl dX7_hasVertex_6 ?_
  refine lv_iconst (v := 0) hx hb dX7_hasVertex_9 (by decide) ?_
  refine q_iald (j := 7) (k := 0) (n := 543) (x := nI (pV gg)) hx hb hK hP (by decide) rfl (by decide) (by decide) (by rw [hAc7]; exact hp0.1) dX7_hasVertex_10 ?_
  refine lv_icmp_ge (tgt := 18) hx hb dX7_hasVertex_11 (by decide) (fun c5 => ?_) (fun c5 => ?_)
  · have c5 := (b_le (nI_toInt (n := pV gg) (by omega)) (nI_toInt (n := v) (by omega))).mp c5
    refine lv_iconst (v := 0) hx hb dX7_hasVertex_18 (by decide) ?_
    exact W.zret (v := 0) hx hb hr rfl (fun t ht hW => ⟨0, rfl, Or.inr ⟨rfl, by first | assumption | omega | rfl | (congr 1; omega)⟩, ht⟩) (fun _ h => absurd h List.not_mem_nil) dX7_hasVertex_19
  · have c5 := mt (b_le (nI_toInt (n := pV gg) (by omega)) (nI_toInt (n := v) (by omega))).mpr c5
    refine lv_iconst (v := 1) hx hb dX7_hasVertex_14 (by decide) ?_
    refine lv_goto (tgt := 19) hx hb dX7_hasVertex_15 (by decide) ?_
    exact W.zret (v := 1) hx hb hr rfl (fun t ht hW => ⟨1, rfl, Or.inl ⟨rfl, by first | assumption | omega | rfl | (congr 1; omega)⟩, ht⟩) (fun _ h => absurd h List.not_mem_nil) dX7_hasVertex_19
set_option maxHeartbeats 4000000 in
set_option maxRecDepth 100000 in
theorem q_X7_hasEdge (l : Launch) (dC : Nat → ClassId) (dI : Nat → Nat → Nat) (sz : Nat) (cs : Nat → ClassId) (b : Nat → Nat) (u : RS) (dg : Nat → Int32) (hAc7 : rA u 7 = dg) (v : Nat) (gg : PGr) (hp0 : DG dg gg) (hp1 : v < 100000) : Met l yX7_hasEdge [.code yX7_hasEdge cX7_hasEdge 2 (some .boolean)] ({ frames := 0, cells := 0, slots := 0, locals := 0 }) (PQ [.ref (b 6), .int (nI v)] sz dC dI cs b u) (vp_Si (fun (r : Int32) => (r = 1 ∧ (v < pE gg)) ∨ (r = 0 ∧ (pE gg ≤ v)))) 0 0 (fun _ => False) := by
  refine Met.ofW (cc := cX7_hasEdge) (maxL := 2) (ret := (some .boolean)) (by decide) rfl ?_
  intro p e s m args below meth c s₁ B hml hv
  obtain ⟨rfl, hsz, hP, hK, hJ, hE⟩ := hv
  have hx := B.exec
  have hb := B.bytes
  have hr := B.returns
  have hown : s.vm.findClass RX7 = some m.cls := findClass_of_methodNamed B.named
  have hlocks := B.notSynchronized
  subst hsz
  have hl := lv_entry ([.ref (b 6), .int (nI v)]) (n := 2) (Nat.le_of_ble_eq_true rfl)
  rw [lg_entry_eq]
  generalize (lg_sl ([.ref (b 6), .int (nI v)]) ++ List.replicate (2 - (lg_sl ([.ref (b 6), .int (nI v)])).length) Slot.unset).toArray = ls at hl ⊢
  have hl : lv_has ls 2 [(0, .ref (b 6)), (1, .int (nI v))] := hl
  have d6 := hp0.2.1
  have e6 := hp0.2.2.2.1
  have w10 := hp0.2.2.2.2.2.1
  refine lv_iload_n hx hb dX7_hasEdge_0 rfl (lv_at hl 1 rfl) ?_
  refine lv_if_lt (tgt := 18) hx hb dX7_hasEdge_1 (by decide) (fun c3 => False.elim (by have c3 := (b_lt (nI_toInt (n := v) (by omega)) (show Int32.toInt 0 = 0 from rfl)).mp c3; omega)) (fun c3 => ?_)
  have c3 := mt (b_lt (nI_toInt (n := v) (by omega)) (show Int32.toInt 0 = 0 from rfl)).mpr c3
  refine lv_iload_n hx hb dX7_hasEdge_4 rfl (lv_at hl 1 rfl) ?_
  refine lv_aload_n hx hb dX7_hasEdge_5 rfl (lv_at hl 0 rfl) ?_
  refine q_get (v := .ref (b 7)) hx hb 6 (by decide) rfl (ly_X7 hE) hown hK hP rfl 0 (by decide) (wd_149 hE) (fun _ h9 => h9) rfl dX7_hasEdge_6 ?_
  refine lv_iconst (v := 1) hx hb dX7_hasEdge_9 (by decide) ?_
  refine q_iald (j := 7) (k := 1) (n := 543) (x := nI (pE gg)) hx hb hK hP (by decide) rfl (by decide) (by decide) (by rw [hAc7]; exact hp0.2.2.1) dX7_hasEdge_10 ?_
  refine lv_icmp_ge (tgt := 18) hx hb dX7_hasEdge_11 (by decide) (fun c5 => ?_) (fun c5 => ?_)
  · have c5 := (b_le (nI_toInt (n := pE gg) (by omega)) (nI_toInt (n := v) (by omega))).mp c5
    refine lv_iconst (v := 0) hx hb dX7_hasEdge_18 (by decide) ?_
    exact W.zret (v := 0) hx hb hr rfl (fun t ht hW => ⟨0, rfl, Or.inr ⟨rfl, by first | assumption | omega | rfl | (congr 1; omega)⟩, ht⟩) (fun _ h => absurd h List.not_mem_nil) dX7_hasEdge_19
  · have c5 := mt (b_le (nI_toInt (n := pE gg) (by omega)) (nI_toInt (n := v) (by omega))).mpr c5
    refine lv_iconst (v := 1) hx hb dX7_hasEdge_14 (by decide) ?_
    refine lv_goto (tgt := 19) hx hb dX7_hasEdge_15 (by decide) ?_
    exact W.zret (v := 1) hx hb hr rfl (fun t ht hW => ⟨1, rfl, Or.inl ⟨rfl, by first | assumption | omega | rfl | (congr 1; omega)⟩, ht⟩) (fun _ h => absurd h List.not_mem_nil) dX7_hasEdge_19
set_option maxHeartbeats 4000000 in
set_option maxRecDepth 100000 in
theorem q_X7_hasWord (l : Launch) (dC : Nat → ClassId) (dI : Nat → Nat → Nat) (sz : Nat) (cs : Nat → ClassId) (b : Nat → Nat) (u : RS) (dg : Nat → Int32) (hAc7 : rA u 7 = dg) (v : Nat) (w1 : Nat) (hp0 : dg 2 = nI w1) (hp1 : w1 ≤ 10) (hp2 : v < w1) : Met l yX7_hasWord [.code yX7_hasWord cX7_hasWord 2 (some .boolean)] ({ frames := 0, cells := 0, slots := 0, locals := 0 }) (PQ [.ref (b 6), .int (nI v)] sz dC dI cs b u) (vp_Si (fun (r : Int32) => r = 1)) 0 0 (fun _ => False) := by
  refine Met.ofW (cc := cX7_hasWord) (maxL := 2) (ret := (some .boolean)) (by decide) rfl ?_
  intro p e s m args below meth c s₁ B hml hv
  obtain ⟨rfl, hsz, hP, hK, hJ, hE⟩ := hv
  have hx := B.exec
  have hb := B.bytes
  have hr := B.returns
  have hown : s.vm.findClass RX7 = some m.cls := findClass_of_methodNamed B.named
  have hlocks := B.notSynchronized
  subst hsz
  have hl := lv_entry ([.ref (b 6), .int (nI v)]) (n := 2) (Nat.le_of_ble_eq_true rfl)
  rw [lg_entry_eq]
  generalize (lg_sl ([.ref (b 6), .int (nI v)]) ++ List.replicate (2 - (lg_sl ([.ref (b 6), .int (nI v)])).length) Slot.unset).toArray = ls at hl ⊢
  have hl : lv_has ls 2 [(0, .ref (b 6)), (1, .int (nI v))] := hl
  refine lv_iload_n hx hb dX7_hasWord_0 rfl (lv_at hl 1 rfl) ?_
  refine lv_if_lt (tgt := 18) hx hb dX7_hasWord_1 (by decide) (fun c4 => False.elim (by have c4 := (b_lt (nI_toInt (n := v) (by omega)) (show Int32.toInt 0 = 0 from rfl)).mp c4; omega)) (fun c4 => ?_)
  have c4 := mt (b_lt (nI_toInt (n := v) (by omega)) (show Int32.toInt 0 = 0 from rfl)).mpr c4
  refine lv_iload_n hx hb dX7_hasWord_4 rfl (lv_at hl 1 rfl) ?_
  refine lv_aload_n hx hb dX7_hasWord_5 rfl (lv_at hl 0 rfl) ?_
  refine q_get (v := .ref (b 7)) hx hb 6 (by decide) rfl (ly_X7 hE) hown hK hP rfl 0 (by decide) (wd_149 hE) (fun _ h9 => h9) rfl dX7_hasWord_6 ?_
  refine lv_iconst (v := 2) hx hb dX7_hasWord_9 (by decide) ?_
  refine q_iald (j := 7) (k := 2) (n := 543) (x := nI w1) hx hb hK hP (by decide) rfl (by decide) (by decide) (by rw [hAc7]; exact hp0) dX7_hasWord_10 ?_
  refine lv_icmp_ge (tgt := 18) hx hb dX7_hasWord_11 (by decide) (fun c6 => False.elim (by have c6 := (b_le (nI_toInt (n := w1) (by omega)) (nI_toInt (n := v) (by omega))).mp c6; omega)) (fun c6 => ?_)
  have c6 := mt (b_le (nI_toInt (n := w1) (by omega)) (nI_toInt (n := v) (by omega))).mpr c6
  refine lv_iconst (v := 1) hx hb dX7_hasWord_14 (by decide) ?_
  refine lv_goto (tgt := 19) hx hb dX7_hasWord_15 (by decide) ?_
  exact W.zret (v := 1) hx hb hr rfl (fun t ht hW => ⟨1, rfl, (by first | rfl | omega | (congr 1; omega) | assumption), ht⟩) (fun _ h => absurd h List.not_mem_nil) dX7_hasWord_19
set_option maxHeartbeats 4000000 in
set_option maxRecDepth 100000 in
theorem q_X7_orderAt (l : Launch) (dC : Nat → ClassId) (dI : Nat → Nat → Nat) (sz : Nat) (cs : Nat → ClassId) (b : Nat → Nat) (u : RS) (dg : Nat → Int32) (hAc7 : rA u 7 = dg) (v : Nat) (hp0 : v < 6) : Met l yX7_orderAt [.code yX7_orderAt cX7_orderAt 2 (some .int)] ({ frames := 0, cells := 0, slots := 0, locals := 0 }) (PQ [.ref (b 6), .int (nI v)] sz dC dI cs b u) (vp_Si (fun (r : Int32) => r = dg (3 + v))) 0 0 (fun _ => False) := by
  refine Met.ofW (cc := cX7_orderAt) (maxL := 2) (ret := (some .int)) (by decide) rfl ?_
  intro p e s m args below meth c s₁ B hml hv
  obtain ⟨rfl, hsz, hP, hK, hJ, hE⟩ := hv
  have hx := B.exec
  have hb := B.bytes
  have hr := B.returns
  have hown : s.vm.findClass RX7 = some m.cls := findClass_of_methodNamed B.named
  have hlocks := B.notSynchronized
  subst hsz
  have hl := lv_entry ([.ref (b 6), .int (nI v)]) (n := 2) (Nat.le_of_ble_eq_true rfl)
  rw [lg_entry_eq]
  generalize (lg_sl ([.ref (b 6), .int (nI v)]) ++ List.replicate (2 - (lg_sl ([.ref (b 6), .int (nI v)])).length) Slot.unset).toArray = ls at hl ⊢
  have hl : lv_has ls 2 [(0, .ref (b 6)), (1, .int (nI v))] := hl
  refine lv_iload_n hx hb dX7_orderAt_0 rfl (lv_at hl 1 rfl) ?_
  refine lv_if_lt (tgt := 10) hx hb dX7_orderAt_1 (by decide) (fun c2 => False.elim (by have c2 := (b_lt (nI_toInt (n := v) (by omega)) (show Int32.toInt 0 = 0 from rfl)).mp c2; omega)) (fun c2 => ?_)
  have c2 := mt (b_lt (nI_toInt (n := v) (by omega)) (show Int32.toInt 0 = 0 from rfl)).mpr c2
  refine lv_iload_n hx hb dX7_orderAt_4 rfl (lv_at hl 1 rfl) ?_
  refine lv_bipush (v := 6) hx hb dX7_orderAt_5 (by decide) ?_
  refine lv_icmp_lt (tgt := 14) hx hb dX7_orderAt_7 (by decide) (fun c3 => ?_) (fun c3 => False.elim (by have c3 := mt (b_lt (nI_toInt (n := v) (by omega)) (show Int32.toInt 6 = 6 from rfl)).mpr c3; omega))
  have c3 := (b_lt (nI_toInt (n := v) (by omega)) (show Int32.toInt 6 = 6 from rfl)).mp c3
  refine lv_aload_n hx hb dX7_orderAt_14 rfl (lv_at hl 0 rfl) ?_
  refine q_get (v := .ref (b 7)) hx hb 6 (by decide) rfl (ly_X7 hE) hown hK hP rfl 0 (by decide) (wd_149 hE) (fun _ h9 => h9) rfl dX7_orderAt_15 ?_
  refine lv_iconst (v := 3) hx hb dX7_orderAt_18 (by decide) ?_
  refine lv_iload_n hx hb dX7_orderAt_19 rfl (lv_at hl 1 rfl) ?_
  refine lv_iadd hx hb dX7_orderAt_20 ?_
  refine W.eq (g2 := F0 m 21 ls [.int (nI (3 + v)), .ref (b 7)]) (congrArg (fun z : Int32 => F0 m 21 ls (.int z :: [.ref (b 7)])) (nI_add 3 v)) ?_
  refine q_iald (j := 7) (k := 3 + v) (n := 543) (x := dg (3 + v)) hx hb hK hP (by decide) rfl (by omega) (by decide) (by rw [hAc7]) dX7_orderAt_21 ?_
  refine lv_topi (fun x5 ex5 => ?_)
  exact W.iret (v := x5) hx hb hr (fun t ht hW => ⟨x5, rfl, (by assumption), ht⟩) (fun _ h => absurd h List.not_mem_nil) dX7_orderAt_22
set_option maxHeartbeats 4000000 in
set_option maxRecDepth 100000 in
theorem q_X7_orderAt_m (l : Launch) (dC : Nat → ClassId) (dI : Nat → Nat → Nat) (sz : Nat) (cs : Nat → ClassId) (b : Nat → Nat) (u : RS) (dg : Nat → Int32) (hAc7 : rA u 7 = dg) : Met l yX7_orderAt [.code yX7_orderAt cX7_orderAt 2 (some .int)] ({ frames := 0, cells := 0, slots := 0, locals := 0 }) (PQ [.ref (b 6), .int (-1)] sz dC dI cs b u) (vp_Si (fun (r : Int32) => r = 0)) 0 0 (fun _ => False) := by
  refine Met.ofW (cc := cX7_orderAt) (maxL := 2) (ret := (some .int)) (by decide) rfl ?_
  intro p e s m args below meth c s₁ B hml hv
  obtain ⟨rfl, hsz, hP, hK, hJ, hE⟩ := hv
  have hx := B.exec
  have hb := B.bytes
  have hr := B.returns
  have hown : s.vm.findClass RX7 = some m.cls := findClass_of_methodNamed B.named
  have hlocks := B.notSynchronized
  subst hsz
  have hl := lv_entry ([.ref (b 6), .int (-1)]) (n := 2) (Nat.le_of_ble_eq_true rfl)
  rw [lg_entry_eq]
  generalize (lg_sl ([.ref (b 6), .int (-1)]) ++ List.replicate (2 - (lg_sl ([.ref (b 6), .int (-1)])).length) Slot.unset).toArray = ls at hl ⊢
  have hl : lv_has ls 2 [(0, .ref (b 6)), (1, .int (-1))] := hl
  refine lv_iload_n hx hb dX7_orderAt_0 rfl (lv_at hl 1 rfl) ?_
  refine lv_if_lt (tgt := 10) hx hb dX7_orderAt_1 (by decide) (fun c1 => ?_) (fun c1 => absurd c1 (by decide))
  refine lv_iconst (v := 0) hx hb dX7_orderAt_10 (by decide) ?_
  refine lv_goto (tgt := 22) hx hb dX7_orderAt_11 (by decide) ?_
  exact W.iret (v := 0) hx hb hr (fun t ht hW => ⟨0, rfl, (by first | rfl | omega | (congr 1; omega) | assumption), ht⟩) (fun _ h => absurd h List.not_mem_nil) dX7_orderAt_22
set_option maxHeartbeats 4000000 in
set_option maxRecDepth 100000 in
theorem q_X7_edgePart (l : Launch) (dC : Nat → ClassId) (dI : Nat → Nat → Nat) (sz : Nat) (cs : Nat → ClassId) (b : Nat → Nat) (u : RS) (dg : Nat → Int32) (hAc7 : rA u 7 = dg) (eg : Nat) (k : Nat) (hp0 : eg < 6) (hp1 : k < 4) : Met l yX7_edgePart [.code yX7_edgePart cX7_edgePart 4 (some .int)] ({ frames := 0, cells := 0, slots := 0, locals := 0 }) (PQ [.ref (b 6), .int (nI eg), .int (nI k)] sz dC dI cs b u) (vp_Si (fun (r : Int32) => r = dg (9 + 4 * eg + k))) 0 0 (fun _ => False) := by
  refine Met.ofW (cc := cX7_edgePart) (maxL := 4) (ret := (some .int)) (by decide) rfl ?_
  intro p e s m args below meth c s₁ B hml hv
  obtain ⟨rfl, hsz, hP, hK, hJ, hE⟩ := hv
  have hx := B.exec
  have hb := B.bytes
  have hr := B.returns
  have hown : s.vm.findClass RX7 = some m.cls := findClass_of_methodNamed B.named
  have hlocks := B.notSynchronized
  subst hsz
  have hl := lv_entry ([.ref (b 6), .int (nI eg), .int (nI k)]) (n := 4) (Nat.le_of_ble_eq_true rfl)
  rw [lg_entry_eq]
  generalize (lg_sl ([.ref (b 6), .int (nI eg), .int (nI k)]) ++ List.replicate (4 - (lg_sl ([.ref (b 6), .int (nI eg), .int (nI k)])).length) Slot.unset).toArray = ls at hl ⊢
  have hl : lv_has ls 4 [(0, .ref (b 6)), (1, .int (nI eg)), (2, .int (nI k))] := hl
  refine lv_iload_n hx hb dX7_edgePart_0 rfl (lv_at hl 1 rfl) ?_
  refine lv_if_lt (tgt := 23) hx hb dX7_edgePart_1 (by decide) (fun c3 => False.elim (by have c3 := (b_lt (nI_toInt (n := eg) (by omega)) (show Int32.toInt 0 = 0 from rfl)).mp c3; omega)) (fun c3 => ?_)
  have c3 := mt (b_lt (nI_toInt (n := eg) (by omega)) (show Int32.toInt 0 = 0 from rfl)).mpr c3
  refine lv_iload_n hx hb dX7_edgePart_4 rfl (lv_at hl 1 rfl) ?_
  refine lv_bipush (v := 6) hx hb dX7_edgePart_5 (by decide) ?_
  refine lv_icmp_ge (tgt := 23) hx hb dX7_edgePart_7 (by decide) (fun c4 => False.elim (by have c4 := (b_le (show Int32.toInt 6 = 6 from rfl) (nI_toInt (n := eg) (by omega))).mp c4; omega)) (fun c4 => ?_)
  have c4 := mt (b_le (show Int32.toInt 6 = 6 from rfl) (nI_toInt (n := eg) (by omega))).mpr c4
  refine lv_iload_n hx hb dX7_edgePart_10 rfl (lv_at hl 2 rfl) ?_
  refine lv_if_lt (tgt := 23) hx hb dX7_edgePart_11 (by decide) (fun c5 => False.elim (by have c5 := (b_lt (nI_toInt (n := k) (by omega)) (show Int32.toInt 0 = 0 from rfl)).mp c5; omega)) (fun c5 => ?_)
  have c5 := mt (b_lt (nI_toInt (n := k) (by omega)) (show Int32.toInt 0 = 0 from rfl)).mpr c5
  refine lv_iload_n hx hb dX7_edgePart_14 rfl (lv_at hl 2 rfl) ?_
  refine lv_iconst (v := 4) hx hb dX7_edgePart_15 (by decide) ?_
  refine lv_icmp_ge (tgt := 23) hx hb dX7_edgePart_16 (by decide) (fun c6 => False.elim (by have c6 := (b_le (show Int32.toInt 4 = 4 from rfl) (nI_toInt (n := k) (by omega))).mp c6; omega)) (fun c6 => ?_)
  have c6 := mt (b_le (show Int32.toInt 4 = 4 from rfl) (nI_toInt (n := k) (by omega))).mpr c6
  refine lv_iconst (v := 1) hx hb dX7_edgePart_19 (by decide) ?_
  refine lv_goto (tgt := 24) hx hb dX7_edgePart_20 (by decide) ?_
  refine lv_istore_n (lv' := [(3, .int 1), (0, .ref (b 6)), (1, .int (nI eg)), (2, .int (nI k))]) hx hb dX7_edgePart_24 rfl hl (by decide) rfl (fun ls hl => ?_)
  refine lv_iload_n hx hb dX7_edgePart_25 rfl (lv_at hl 0 rfl) ?_
  refine lv_if_eq (tgt := 45) hx hb dX7_edgePart_26 (by decide) (fun c7 => absurd c7 (by decide)) (fun c7 => ?_)
  refine lv_aload_n hx hb dX7_edgePart_29 rfl (lv_at hl 1 rfl) ?_
  refine q_get (v := .ref (b 7)) hx hb 6 (by decide) rfl (ly_X7 hE) hown hK hP rfl 0 (by decide) (wd_149 hE) (fun _ h9 => h9) rfl dX7_edgePart_30 ?_
  refine lv_bipush (v := 9) hx hb dX7_edgePart_33 (by decide) ?_
  refine lv_iconst (v := 4) hx hb dX7_edgePart_35 (by decide) ?_
  refine lv_iload_n hx hb dX7_edgePart_36 rfl (lv_at hl 2 rfl) ?_
  refine lv_imul hx hb dX7_edgePart_37 ?_
  refine W.eq (g2 := F0 m 38 ls [.int (nI (4 * eg)), .int 9, .ref (b 7)]) (congrArg (fun z : Int32 => F0 m 38 ls (.int z :: [.int 9, .ref (b 7)])) (pk_mul 4 eg)) ?_
  refine lv_iadd hx hb dX7_edgePart_38 ?_
  refine W.eq (g2 := F0 m 39 ls [.int (nI (9 + (4 * eg))), .ref (b 7)]) (congrArg (fun z : Int32 => F0 m 39 ls (.int z :: [.ref (b 7)])) (nI_add 9 (4 * eg))) ?_
  refine lv_iload_n hx hb dX7_edgePart_39 rfl (lv_at hl 3 rfl) ?_
  refine lv_iadd hx hb dX7_edgePart_40 ?_
  refine W.eq (g2 := F0 m 41 ls [.int (nI ((9 + (4 * eg)) + k)), .ref (b 7)]) (congrArg (fun z : Int32 => F0 m 41 ls (.int z :: [.ref (b 7)])) (nI_add (9 + (4 * eg)) k)) ?_
  refine q_iald (j := 7) (k := (9 + (4 * eg)) + k) (n := 543) (x := dg ((9 + (4 * eg)) + k)) hx hb hK hP (by decide) rfl (by omega) (by decide) (by rw [hAc7]) dX7_edgePart_41 ?_
  refine lv_topi (fun x9 ex9 => ?_)
  refine lv_goto (tgt := 46) hx hb dX7_edgePart_42 (by decide) ?_
  exact W.iret (v := x9) hx hb hr (fun t ht hW => ⟨x9, rfl, (by assumption), ht⟩) (fun _ h => absurd h List.not_mem_nil) dX7_edgePart_46
set_option maxHeartbeats 4000000 in
set_option maxRecDepth 100000 in
theorem q_X11_isBackwards (l : Launch) (dC : Nat → ClassId) (dI : Nat → Nat → Nat) (sz : Nat) (cs : Nat → ClassId) (b : Nat → Nat) (u : RS) (sx : Nat) (hp0 : sx < 2048) : Met l yX11_isBackwards [.code yX11_isBackwards cX11_isBackwards 1 (some .boolean)] ({ frames := 0, cells := 0, slots := 0, locals := 0 }) (PQ [.int (nI sx)] sz dC dI cs b u) (vp_Si (fun (r : Int32) => (r = 1 ∧ (sx % 2 = 1)) ∨ (r = 0 ∧ (sx % 2 = 0)))) 0 0 (fun _ => False) := by
  refine Met.ofW (cc := cX11_isBackwards) (maxL := 1) (ret := (some .boolean)) (by decide) rfl ?_
  intro p e s m args below meth c s₁ B hml hv
  obtain ⟨rfl, hsz, hP, hK, hJ, hE⟩ := hv
  have hx := B.exec
  have hb := B.bytes
  have hr := B.returns
  have hown : s.vm.findClass RX11 = some m.cls := findClass_of_methodNamed B.named
  have hlocks := B.notSynchronized
  subst hsz
  have hl := lv_entry ([.int (nI sx)]) (n := 1) (Nat.le_of_ble_eq_true rfl)
  rw [lg_entry_eq]
  generalize (lg_sl ([.int (nI sx)]) ++ List.replicate (1 - (lg_sl ([.int (nI sx)])).length) Slot.unset).toArray = ls at hl ⊢
  have hl : lv_has ls 1 [(0, .int (nI sx))] := hl
  refine lv_iload_n hx hb dX11_isBackwards_0 rfl (lv_at hl 0 rfl) ?_
  refine lv_iconst (v := 1) hx hb dX11_isBackwards_1 (by decide) ?_
  refine lv_iand hx hb dX11_isBackwards_2 ?_
  refine lv_topi (fun x2 ex2 => ?_)
  have hi3 : x2 = nI (sx % 2) := (ex2).trans (nI_and1 (by omega))
  subst hi3
  have hti4 := nI_toInt (n := sx % 2) (by omega)
  refine lv_iconst (v := 1) hx hb dX11_isBackwards_3 (by decide) ?_
  refine lv_icmp_ne (tgt := 11) hx hb dX11_isBackwards_4 (by decide) (fun c5 => ?_) (fun c5 => ?_)
  · have c5 := mt (b_eq (nI_toInt (n := sx % 2) (by omega)) (show Int32.toInt 1 = 1 from rfl)).mpr c5
    refine lv_iconst (v := 0) hx hb dX11_isBackwards_11 (by decide) ?_
    exact W.zret (v := 0) hx hb hr rfl (fun t ht hW => ⟨0, rfl, Or.inr ⟨rfl, by first | assumption | omega | rfl | (congr 1; omega)⟩, ht⟩) (fun _ h => absurd h List.not_mem_nil) dX11_isBackwards_12
  · have c5 := (b_eq (nI_toInt (n := sx % 2) (by omega)) (show Int32.toInt 1 = 1 from rfl)).mp c5
    refine lv_iconst (v := 1) hx hb dX11_isBackwards_7 (by decide) ?_
    refine lv_goto (tgt := 12) hx hb dX11_isBackwards_8 (by decide) ?_
    exact W.zret (v := 1) hx hb hr rfl (fun t ht hW => ⟨1, rfl, Or.inl ⟨rfl, by first | assumption | omega | rfl | (congr 1; omega)⟩, ht⟩) (fun _ h => absurd h List.not_mem_nil) dX11_isBackwards_12
set_option maxHeartbeats 4000000 in
set_option maxRecDepth 100000 in
theorem q_X7_fromVertex (l : Launch) (dC : Nat → ClassId) (dI : Nat → Nat → Nat) (sz : Nat) (cs : Nat → ClassId) (b : Nat → Nat) (u : RS) (dg : Nat → Int32) (hAc7 : rA u 7 = dg) (sx : Nat) (gg : PGr) (hp0 : DG dg gg) (hp1 : sx < 2 * pE gg) : Met l yX7_fromVertex [.code yX7_fromVertex cX7_fromVertex 2 (some .int)] ({ frames := 1, cells := 0, slots := 0, locals := 40 }) (PQ [.ref (b 6), .int (nI sx)] sz dC dI cs b u) (vp_Si (fun (r : Int32) => r = nI (pSrc gg sx))) 0 0 (fun _ => False) := by
  refine Met.ofW (cc := cX7_fromVertex) (maxL := 2) (ret := (some .int)) (by decide) rfl ?_
  intro p e s m args below meth c s₁ B hml hv
  obtain ⟨rfl, hsz, hP, hK, hJ, hE⟩ := hv
  have hx := B.exec
  have hb := B.bytes
  have hr := B.returns
  have hown : s.vm.findClass RX7 = some m.cls := findClass_of_methodNamed B.named
  have hlocks := B.notSynchronized
  subst hsz
  have hl := lv_entry ([.ref (b 6), .int (nI sx)]) (n := 2) (Nat.le_of_ble_eq_true rfl)
  rw [lg_entry_eq]
  generalize (lg_sl ([.ref (b 6), .int (nI sx)]) ++ List.replicate (2 - (lg_sl ([.ref (b 6), .int (nI sx)])).length) Slot.unset).toArray = ls at hl ⊢
  have hl : lv_has ls 2 [(0, .ref (b 6)), (1, .int (nI sx))] := hl
  have d6 := hp0.2.1
  have e6 := hp0.2.2.2.1
  have w10 := hp0.2.2.2.2.2.1
  refine lv_aload_n hx hb dX7_fromVertex_0 rfl (lv_at hl 0 rfl) ?_
  refine lv_iload_n hx hb dX7_fromVertex_1 rfl (lv_at hl 1 rfl) ?_
  refine lv_iconst (v := 1) hx hb dX7_fromVertex_2 (by decide) ?_
  refine lv_ishr hx hb dX7_fromVertex_3 ?_
  refine lv_topi (fun x3 ex3 => ?_)
  have hi4 : x3 = nI (sx / 2) := (ex3).trans (nI_shr1 (by omega))
  subst hi4
  have hti5 := nI_toInt (n := sx / 2) (by omega)
  refine lv_iload_n hx hb dX7_fromVertex_4 rfl (lv_at hl 1 rfl) ?_
  refine vp_callSi (va_Run.run (va_runSN (As := [.int (nI sx)]) (rest := [.int (nI (sx / 2)), .ref (b 6)]) ⟨hx, hb, hml, hown, noTs⟩ (q_X11_isBackwards l dC dI s.heap.size cs b u sx (by first | assumption | omega | rfl | (congr 1; omega))) ⟨cnE 1 (wd_680 hE) (wd_115 hE) (wd_678 hE) rfl rfl (by decide +kernel) ⟨Nat.le_of_ble_eq_true rfl, Nat.le_of_ble_eq_true rfl⟩, (wd_679 hE), trivial⟩ ⟨PQ.blind, (q_pre (av := [.int (nI sx)]) hK hP hJ hE)⟩ rfl rfl hl.1 rfl (lv_room (Nat.le_of_ble_eq_true rfl)) dX7_fromVertex_5 ⟨Nat.le_of_ble_eq_true rfl, Nat.le_of_ble_eq_true rfl⟩)) (fun r6 hr6 => ?_)
  rcases hr6 with ⟨rfl, hb6⟩ | ⟨rfl, hb6⟩
  · refine lv_if_eq (tgt := 15) hx hb dX7_fromVertex_8 (by decide) (fun c7 => absurd c7 (by decide)) (fun c7 => ?_)
    refine lv_iconst (v := 2) hx hb dX7_fromVertex_11 (by decide) ?_
    refine lv_goto (tgt := 16) hx hb dX7_fromVertex_12 (by decide) ?_
    refine vp_callSi (va_Run.run (va_runV (As := [.int (nI (sx / 2)), .int (nI 2)]) (rest := []) ⟨hx, hb, hml, hown, noTs⟩ (q_X7_edgePart l dC dI s.heap.size cs b u dg hAc7 (sx / 2) 2 (by first | assumption | omega | rfl | (congr 1; omega)) (by first | assumption | omega | rfl | (congr 1; omega))) ⟨cbE 2 (wd_684 hE) (wd_116 hE) (wd_681 hE) rfl rfl (by decide +kernel) ⟨Nat.le_of_ble_eq_true rfl, Nat.le_of_ble_eq_true rfl⟩, (wd_682 hE), (wd_683 hE)⟩ ⟨PQ.blind, q_recv 6 (by decide) rfl hK hP rfl, (q_pre (av := [.ref (b 6), .int (nI (sx / 2)), .int (nI 2)]) hK hP hJ hE)⟩ rfl rfl hl.1 rfl (lv_room (Nat.le_of_ble_eq_true rfl)) dX7_fromVertex_16 ⟨Nat.le_of_ble_eq_true rfl, Nat.le_of_ble_eq_true rfl⟩)) (fun r8 hr8 => ?_)
    have HV := hr8
    exact W.iret (v := r8) hx hb hr (fun t ht hW => ⟨r8, rfl, (by unfold pSrc; first | (rw [if_pos (by omega)]; exact HV.trans (hp0.2.2.2.2.2.2.2 _ _ (by omega) (by decide)).1) | (rw [if_neg (by omega)]; exact HV.trans (hp0.2.2.2.2.2.2.2 _ _ (by omega) (by decide)).1)), ht⟩) (fun _ h => absurd h List.not_mem_nil) dX7_fromVertex_19
  · refine lv_if_eq (tgt := 15) hx hb dX7_fromVertex_8 (by decide) (fun c9 => ?_) (fun c9 => absurd c9 (by decide))
    refine lv_iconst (v := 0) hx hb dX7_fromVertex_15 (by decide) ?_
    refine vp_callSi (va_Run.run (va_runV (As := [.int (nI (sx / 2)), .int (nI 0)]) (rest := []) ⟨hx, hb, hml, hown, noTs⟩ (q_X7_edgePart l dC dI s.heap.size cs b u dg hAc7 (sx / 2) 0 (by first | assumption | omega | rfl | (congr 1; omega)) (by first | assumption | omega | rfl | (congr 1; omega))) ⟨cbE 2 (wd_684 hE) (wd_116 hE) (wd_681 hE) rfl rfl (by decide +kernel) ⟨Nat.le_of_ble_eq_true rfl, Nat.le_of_ble_eq_true rfl⟩, (wd_682 hE), (wd_683 hE)⟩ ⟨PQ.blind, q_recv 6 (by decide) rfl hK hP rfl, (q_pre (av := [.ref (b 6), .int (nI (sx / 2)), .int (nI 0)]) hK hP hJ hE)⟩ rfl rfl hl.1 rfl (lv_room (Nat.le_of_ble_eq_true rfl)) dX7_fromVertex_16 ⟨Nat.le_of_ble_eq_true rfl, Nat.le_of_ble_eq_true rfl⟩)) (fun r10 hr10 => ?_)
    have HV := hr10
    exact W.iret (v := r10) hx hb hr (fun t ht hW => ⟨r10, rfl, (by unfold pSrc; first | (rw [if_pos (by omega)]; exact HV.trans (hp0.2.2.2.2.2.2.2 _ _ (by omega) (by decide)).1) | (rw [if_neg (by omega)]; exact HV.trans (hp0.2.2.2.2.2.2.2 _ _ (by omega) (by decide)).1)), ht⟩) (fun _ h => absurd h List.not_mem_nil) dX7_fromVertex_19
set_option maxHeartbeats 4000000 in
set_option maxRecDepth 100000 in
theorem q_X7_toVertex (l : Launch) (dC : Nat → ClassId) (dI : Nat → Nat → Nat) (sz : Nat) (cs : Nat → ClassId) (b : Nat → Nat) (u : RS) (dg : Nat → Int32) (hAc7 : rA u 7 = dg) (sx : Nat) (gg : PGr) (hp0 : DG dg gg) (hp1 : sx < 2 * pE gg) : Met l yX7_toVertex [.code yX7_toVertex cX7_toVertex 2 (some .int)] ({ frames := 1, cells := 0, slots := 0, locals := 40 }) (PQ [.ref (b 6), .int (nI sx)] sz dC dI cs b u) (vp_Si (fun (r : Int32) => r = nI (pDst gg sx))) 0 0 (fun _ => False) := by
  refine Met.ofW (cc := cX7_toVertex) (maxL := 2) (ret := (some .int)) (by decide) rfl ?_
  intro p e s m args below meth c s₁ B hml hv
  obtain ⟨rfl, hsz, hP, hK, hJ, hE⟩ := hv
  have hx := B.exec
  have hb := B.bytes
  have hr := B.returns
  have hown : s.vm.findClass RX7 = some m.cls := findClass_of_methodNamed B.named
  have hlocks := B.notSynchronized
  subst hsz
  have hl := lv_entry ([.ref (b 6), .int (nI sx)]) (n := 2) (Nat.le_of_ble_eq_true rfl)
  rw [lg_entry_eq]
  generalize (lg_sl ([.ref (b 6), .int (nI sx)]) ++ List.replicate (2 - (lg_sl ([.ref (b 6), .int (nI sx)])).length) Slot.unset).toArray = ls at hl ⊢
  have hl : lv_has ls 2 [(0, .ref (b 6)), (1, .int (nI sx))] := hl
  have d6 := hp0.2.1
  have e6 := hp0.2.2.2.1
  have w10 := hp0.2.2.2.2.2.1
  refine lv_aload_n hx hb dX7_toVertex_0 rfl (lv_at hl 0 rfl) ?_
  refine lv_iload_n hx hb dX7_toVertex_1 rfl (lv_at hl 1 rfl) ?_
  refine lv_iconst (v := 1) hx hb dX7_toVertex_2 (by decide) ?_
  refine lv_ishr hx hb dX7_toVertex_3 ?_
  refine lv_topi (fun x3 ex3 => ?_)
  have hi4 : x3 = nI (sx / 2) := (ex3).trans (nI_shr1 (by omega))
  subst hi4
  have hti5 := nI_toInt (n := sx / 2) (by omega)
  refine lv_iload_n hx hb dX7_toVertex_4 rfl (lv_at hl 1 rfl) ?_
  refine vp_callSi (va_Run.run (va_runSN (As := [.int (nI sx)]) (rest := [.int (nI (sx / 2)), .ref (b 6)]) ⟨hx, hb, hml, hown, noTs⟩ (q_X11_isBackwards l dC dI s.heap.size cs b u sx (by first | assumption | omega | rfl | (congr 1; omega))) ⟨cnE 1 (wd_680 hE) (wd_115 hE) (wd_678 hE) rfl rfl (by decide +kernel) ⟨Nat.le_of_ble_eq_true rfl, Nat.le_of_ble_eq_true rfl⟩, (wd_679 hE), trivial⟩ ⟨PQ.blind, (q_pre (av := [.int (nI sx)]) hK hP hJ hE)⟩ rfl rfl hl.1 rfl (lv_room (Nat.le_of_ble_eq_true rfl)) dX7_toVertex_5 ⟨Nat.le_of_ble_eq_true rfl, Nat.le_of_ble_eq_true rfl⟩)) (fun r6 hr6 => ?_)
  rcases hr6 with ⟨rfl, hb6⟩ | ⟨rfl, hb6⟩
  · refine lv_if_eq (tgt := 15) hx hb dX7_toVertex_8 (by decide) (fun c7 => absurd c7 (by decide)) (fun c7 => ?_)
    refine lv_iconst (v := 0) hx hb dX7_toVertex_11 (by decide) ?_
    refine lv_goto (tgt := 16) hx hb dX7_toVertex_12 (by decide) ?_
    refine vp_callSi (va_Run.run (va_runV (As := [.int (nI (sx / 2)), .int (nI 0)]) (rest := []) ⟨hx, hb, hml, hown, noTs⟩ (q_X7_edgePart l dC dI s.heap.size cs b u dg hAc7 (sx / 2) 0 (by first | assumption | omega | rfl | (congr 1; omega)) (by first | assumption | omega | rfl | (congr 1; omega))) ⟨cbE 2 (wd_684 hE) (wd_116 hE) (wd_681 hE) rfl rfl (by decide +kernel) ⟨Nat.le_of_ble_eq_true rfl, Nat.le_of_ble_eq_true rfl⟩, (wd_682 hE), (wd_683 hE)⟩ ⟨PQ.blind, q_recv 6 (by decide) rfl hK hP rfl, (q_pre (av := [.ref (b 6), .int (nI (sx / 2)), .int (nI 0)]) hK hP hJ hE)⟩ rfl rfl hl.1 rfl (lv_room (Nat.le_of_ble_eq_true rfl)) dX7_toVertex_16 ⟨Nat.le_of_ble_eq_true rfl, Nat.le_of_ble_eq_true rfl⟩)) (fun r8 hr8 => ?_)
    have HV := hr8
    exact W.iret (v := r8) hx hb hr (fun t ht hW => ⟨r8, rfl, (by unfold pDst; first | (rw [if_pos (by omega)]; exact HV.trans (hp0.2.2.2.2.2.2.2 _ _ (by omega) (by decide)).1) | (rw [if_neg (by omega)]; exact HV.trans (hp0.2.2.2.2.2.2.2 _ _ (by omega) (by decide)).1)), ht⟩) (fun _ h => absurd h List.not_mem_nil) dX7_toVertex_19
  · refine lv_if_eq (tgt := 15) hx hb dX7_toVertex_8 (by decide) (fun c9 => ?_) (fun c9 => absurd c9 (by decide))
    refine lv_iconst (v := 2) hx hb dX7_toVertex_15 (by decide) ?_
    refine vp_callSi (va_Run.run (va_runV (As := [.int (nI (sx / 2)), .int (nI 2)]) (rest := []) ⟨hx, hb, hml, hown, noTs⟩ (q_X7_edgePart l dC dI s.heap.size cs b u dg hAc7 (sx / 2) 2 (by first | assumption | omega | rfl | (congr 1; omega)) (by first | assumption | omega | rfl | (congr 1; omega))) ⟨cbE 2 (wd_684 hE) (wd_116 hE) (wd_681 hE) rfl rfl (by decide +kernel) ⟨Nat.le_of_ble_eq_true rfl, Nat.le_of_ble_eq_true rfl⟩, (wd_682 hE), (wd_683 hE)⟩ ⟨PQ.blind, q_recv 6 (by decide) rfl hK hP rfl, (q_pre (av := [.ref (b 6), .int (nI (sx / 2)), .int (nI 2)]) hK hP hJ hE)⟩ rfl rfl hl.1 rfl (lv_room (Nat.le_of_ble_eq_true rfl)) dX7_toVertex_16 ⟨Nat.le_of_ble_eq_true rfl, Nat.le_of_ble_eq_true rfl⟩)) (fun r10 hr10 => ?_)
    have HV := hr10
    exact W.iret (v := r10) hx hb hr (fun t ht hW => ⟨r10, rfl, (by unfold pDst; first | (rw [if_pos (by omega)]; exact HV.trans (hp0.2.2.2.2.2.2.2 _ _ (by omega) (by decide)).1) | (rw [if_neg (by omega)]; exact HV.trans (hp0.2.2.2.2.2.2.2 _ _ (by omega) (by decide)).1)), ht⟩) (fun _ h => absurd h List.not_mem_nil) dX7_toVertex_19
set_option maxHeartbeats 4000000 in
set_option maxRecDepth 100000 in
theorem q_X7_addVertex (l : Launch) (dC : Nat → ClassId) (dI : Nat → Nat → Nat) (sz : Nat) (cs : Nat → ClassId) (b : Nat → Nat) (u : RS) (dg : Nat → Int32) (hAc7 : rA u 7 = dg) (v : Nat) (gg : PGr) (hp0 : DG dg gg) (hp1 : pV gg ≤ 5) (hp2 : 1 ≤ v) (hp3 : v ≤ 60) : Met l yX7_addVertex [.code yX7_addVertex cX7_addVertex 2 none] ({ frames := 1, cells := 0, slots := 0, locals := 40 }) (PQ [.ref (b 6), .int (nI v)] sz dC dI cs b u) (va_Qv (fun (u' : RS) => (DG (rA u' 7) (gV gg v)) ∧ FR [7] [] false u u') (BQ dC dI cs b) (AQ b sz)) 0 0 (AQ b sz) := by
  refine Met.ofW (cc := cX7_addVertex) (maxL := 2) (ret := none) (by decide) rfl ?_
  intro p e s m args below meth c s₁ B hml hv
  obtain ⟨rfl, hsz, hP, hK, hJ, hE⟩ := hv
  have hx := B.exec
  have hb := B.bytes
  have hr := B.returns
  have hown : s.vm.findClass RX7 = some m.cls := findClass_of_methodNamed B.named
  have hlocks := B.notSynchronized
  subst hsz
  have hAL : ∀ i, i < 12 → AQ b s.heap.size (b i) := fun i h => Or.inl ⟨i, h, rfl⟩
  have hA : ∀ q : Nat, s.heap.size ≤ q → AQ b s.heap.size q := fun q h => Or.inr h
  have hS : va_S (AQ b s.heap.size) s.heap s.heap [] := va_S.rf
  have hfr : FR [7] [] false u u := FR.refl
  have hl := lv_entry ([.ref (b 6), .int (nI v)]) (n := 2) (Nat.le_of_ble_eq_true rfl)
  rw [lg_entry_eq]
  generalize (lg_sl ([.ref (b 6), .int (nI v)]) ++ List.replicate (2 - (lg_sl ([.ref (b 6), .int (nI v)])).length) Slot.unset).toArray = ls at hl ⊢
  have hl : lv_has ls 2 [(0, .ref (b 6)), (1, .int (nI v))] := hl
  have d6 := hp0.2.1
  have e6 := hp0.2.2.2.1
  have w10 := hp0.2.2.2.2.2.1
  refine lv_aload_n hx hb dX7_addVertex_0 rfl (lv_at hl 0 rfl) ?_
  refine vp_callSi (va_Run.run (va_runV (As := []) (rest := []) ⟨hx, hb, hml, hown, noTs⟩ (q_X7_vertices l dC dI s.heap.size cs b u dg hAc7) ⟨cbE 0 (wd_557 hE) (wd_116 hE) (wd_586 hE) rfl rfl (by decide +kernel) ⟨Nat.le_of_ble_eq_true rfl, Nat.le_of_ble_eq_true rfl⟩, (wd_555 hE), (wd_556 hE)⟩ ⟨PQ.blind, q_recv 6 (by decide) rfl hK hP rfl, (q_pre (av := [.ref (b 6)]) hK hP hJ hE)⟩ rfl rfl hl.1 rfl (lv_room (Nat.le_of_ble_eq_true rfl)) dX7_addVertex_1 ⟨Nat.le_of_ble_eq_true rfl, Nat.le_of_ble_eq_true rfl⟩)) (fun r5 hr5 => ?_)
  have hr5 := hr5.trans (hp0.1)
  subst hr5
  refine lv_bipush (v := 6) hx hb dX7_addVertex_4 (by decide) ?_
  refine lv_icmp_ge (tgt := 31) hx hb dX7_addVertex_6 (by decide) (fun c6 => False.elim (by have c6 := (b_le (show Int32.toInt 6 = 6 from rfl) (nI_toInt (n := pV gg) (by omega))).mp c6; omega)) (fun c6 => ?_)
  have c6 := mt (b_le (show Int32.toInt 6 = 6 from rfl) (nI_toInt (n := pV gg) (by omega))).mpr c6
  refine lv_aload_n hx hb dX7_addVertex_9 rfl (lv_at hl 0 rfl) ?_
  refine lv_iconst (v := 3) hx hb dX7_addVertex_10 (by decide) ?_
  refine lv_aload_n hx hb dX7_addVertex_11 rfl (lv_at hl 0 rfl) ?_
  refine vp_callSi (va_Run.run (va_runV (As := []) (rest := [.int 3, .ref (b 6)]) ⟨hx, hb, hml, hown, noTs⟩ (q_X7_vertices l dC dI s.heap.size cs b u dg hAc7) ⟨cbE 0 (wd_557 hE) (wd_116 hE) (wd_586 hE) rfl rfl (by decide +kernel) ⟨Nat.le_of_ble_eq_true rfl, Nat.le_of_ble_eq_true rfl⟩, (wd_555 hE), (wd_556 hE)⟩ ⟨PQ.blind, q_recv 6 (by decide) rfl hK hP rfl, (q_pre (av := [.ref (b 6)]) hK hP hJ hE)⟩ rfl rfl hl.1 rfl (lv_room (Nat.le_of_ble_eq_true rfl)) dX7_addVertex_12 ⟨Nat.le_of_ble_eq_true rfl, Nat.le_of_ble_eq_true rfl⟩)) (fun r7 hr7 => ?_)
  have hr7 := hr7.trans (hp0.1)
  subst hr7
  refine lv_iadd hx hb dX7_addVertex_15 ?_
  refine W.eq (g2 := F0 m 16 ls [.int (nI (3 + (pV gg))), .ref (b 6)]) (congrArg (fun z : Int32 => F0 m 16 ls (.int z :: [.ref (b 6)])) (nI_add 3 (pV gg))) ?_
  refine lv_iload_n hx hb dX7_addVertex_16 rfl (lv_at hl 1 rfl) ?_
  refine qc_v hAL hS hA (va_runV (As := [.int (nI (3 + (pV gg))), .int (nI v)]) (rest := []) ⟨hx, hb, hml, hown, noTs⟩ (q_X7_put l dC dI s.heap.size cs b u dg hAc7 (3 + (pV gg)) (nI v) (by first | assumption | omega | rfl | (congr 1; omega))) ⟨cbE 2 (wd_590 hE) (wd_116 hE) (wd_587 hE) rfl rfl (by decide +kernel) ⟨Nat.le_of_ble_eq_true rfl, Nat.le_of_ble_eq_true rfl⟩, (wd_589 hE), (wd_14 hE)⟩ ⟨PQ.blind, q_recv 6 (by decide) rfl hK hP rfl, (q_pre (av := [.ref (b 6), .int (nI (3 + (pV gg))), .int (nI v)]) hK hP hJ hE)⟩ rfl rfl hl.1 rfl (lv_room (Nat.le_of_ble_eq_true rfl)) dX7_addVertex_17 ⟨Nat.le_of_ble_eq_true rfl, Nat.le_of_ble_eq_true rfl⟩) (fun u8 H locs hpo8 hP hS => ?_)
  obtain ⟨h8_0, hq8⟩ := hpo8
  obtain ⟨w9, hA9⟩ : ∃ g, rA u8 7 = g := ⟨_, rfl⟩
  rw [hA9] at h8_0
  have hfr := FR.step hfr hq8 (by decide) (fun _ h => absurd h List.not_mem_nil) (fun h => rfl)
  have P1 := h8_0
  refine lv_aload_n hx hb dX7_addVertex_20 rfl (lv_at hl 0 rfl) ?_
  refine lv_iconst (v := 0) hx hb dX7_addVertex_21 (by decide) ?_
  refine lv_aload_n hx hb dX7_addVertex_22 rfl (lv_at hl 0 rfl) ?_
  refine vp_callSi (va_Run.run (va_runV (As := []) (rest := [.int 0, .ref (b 6)]) ⟨hx, hb, hml, hown, noTs⟩ (q_X7_vertices l dC dI H.size cs b u8 w9 hA9) ⟨cbE 0 (wd_557 hE) (wd_116 hE) (wd_586 hE) rfl rfl (by decide +kernel) ⟨Nat.le_of_ble_eq_true rfl, Nat.le_of_ble_eq_true rfl⟩, (wd_555 hE), (wd_556 hE)⟩ ⟨PQ.blind, q_recv 6 (by decide) rfl hK hP rfl, (q_pre (av := [.ref (b 6)]) hK hP hJ hE)⟩ rfl rfl hl.1 rfl (lv_room (Nat.le_of_ble_eq_true rfl)) dX7_addVertex_23 ⟨Nat.le_of_ble_eq_true rfl, Nat.le_of_ble_eq_true rfl⟩)) (fun r10 hr10 => ?_)
  have hr10 := hr10.trans ((show w9 0 = nI (pV gg) by rw [P1, pk_un (by omega)]; exact hp0.1))
  subst hr10
  refine lv_iconst (v := 1) hx hb dX7_addVertex_26 (by decide) ?_
  refine lv_iadd hx hb dX7_addVertex_27 ?_
  refine W.eq (g2 := F0 m 28 ls [.int (nI ((pV gg) + 1)), .int 0, .ref (b 6)]) (congrArg (fun z : Int32 => F0 m 28 ls (.int z :: [.int 0, .ref (b 6)])) (nI_add (pV gg) 1)) ?_
  refine qc_v hAL hS hA (va_runV (As := [.int (nI 0), .int (nI ((pV gg) + 1))]) (rest := []) ⟨hx, hb, hml, hown, noTs⟩ (q_X7_put l dC dI H.size cs b u8 w9 hA9 0 (nI ((pV gg) + 1)) (by first | assumption | omega | rfl | (congr 1; omega))) ⟨cbE 2 (wd_590 hE) (wd_116 hE) (wd_587 hE) rfl rfl (by decide +kernel) ⟨Nat.le_of_ble_eq_true rfl, Nat.le_of_ble_eq_true rfl⟩, (wd_589 hE), (wd_14 hE)⟩ ⟨PQ.blind, q_recv 6 (by decide) rfl hK hP rfl, (q_pre (av := [.ref (b 6), .int (nI 0), .int (nI ((pV gg) + 1))]) hK hP hJ hE)⟩ rfl rfl hl.1 rfl (lv_room (Nat.le_of_ble_eq_true rfl)) dX7_addVertex_28 ⟨Nat.le_of_ble_eq_true rfl, Nat.le_of_ble_eq_true rfl⟩) (fun u11 H locs hpo11 hP hS => ?_)
  obtain ⟨h11_0, hq11⟩ := hpo11
  obtain ⟨w12, hA12⟩ : ∃ g, rA u11 7 = g := ⟨_, rfl⟩
  rw [hA12] at h11_0
  have hfr := FR.step hfr hq11 (by decide) (fun _ h => absurd h List.not_mem_nil) (fun h => rfl)
  have P2 := h11_0
  exact W.vret hx hb hr (fun t ht hW => ⟨⟨u11, rfl, ⟨(by first | (rw [hA12]; done) | (rw [hA12]; exact dg_v hp0 hp1 hp2 hp3 P1 P2)), hfr⟩, (show va_P (dC, dI) vwCl (qW cs b u11) t.heap by rw [ht]; exact hP)⟩, hS.F ht⟩) hS.2.2 dX7_addVertex_31
set_option maxHeartbeats 4000000 in
set_option maxRecDepth 100000 in
theorem q_X7_addEdge (l : Launch) (dC : Nat → ClassId) (dI : Nat → Nat → Nat) (sz : Nat) (cs : Nat → ClassId) (b : Nat → Nat) (u : RS) (dg : Nat → Int32) (hAc7 : rA u 7 = dg) (v0 : Nat) (v1 : Nat) (v2 : Nat) (v3 : Nat) (gg : PGr) (hp0 : DG dg gg) (hp1 : pE gg ≤ 5) (hp2 : v0 ≤ 999) (hp3 : v1 ≤ 999) (hp4 : v2 ≤ 999) (hp5 : v3 ≤ 999) : Met l yX7_addEdge [.code yX7_addEdge cX7_addEdge 6 none] ({ frames := 1, cells := 0, slots := 0, locals := 40 }) (PQ [.ref (b 6), .int (nI v0), .int (nI v1), .int (nI v2), .int (nI v3)] sz dC dI cs b u) (va_Qv (fun (u' : RS) => (DG (rA u' 7) (gE gg v0 v1 v2 v3)) ∧ FR [7] [] false u u') (BQ dC dI cs b) (AQ b sz)) 0 0 (AQ b sz) := by
  refine Met.ofW (cc := cX7_addEdge) (maxL := 6) (ret := none) (by decide) rfl ?_
  intro p e s m args below meth c s₁ B hml hv
  obtain ⟨rfl, hsz, hP, hK, hJ, hE⟩ := hv
  have hx := B.exec
  have hb := B.bytes
  have hr := B.returns
  have hown : s.vm.findClass RX7 = some m.cls := findClass_of_methodNamed B.named
  have hlocks := B.notSynchronized
  subst hsz
  have hAL : ∀ i, i < 12 → AQ b s.heap.size (b i) := fun i h => Or.inl ⟨i, h, rfl⟩
  have hA : ∀ q : Nat, s.heap.size ≤ q → AQ b s.heap.size q := fun q h => Or.inr h
  have hS : va_S (AQ b s.heap.size) s.heap s.heap [] := va_S.rf
  have hfr : FR [7] [] false u u := FR.refl
  have hl := lv_entry ([.ref (b 6), .int (nI v0), .int (nI v1), .int (nI v2), .int (nI v3)]) (n := 6) (Nat.le_of_ble_eq_true rfl)
  rw [lg_entry_eq]
  generalize (lg_sl ([.ref (b 6), .int (nI v0), .int (nI v1), .int (nI v2), .int (nI v3)]) ++ List.replicate (6 - (lg_sl ([.ref (b 6), .int (nI v0), .int (nI v1), .int (nI v2), .int (nI v3)])).length) Slot.unset).toArray = ls at hl ⊢
  have hl : lv_has ls 6 [(0, .ref (b 6)), (1, .int (nI v0)), (2, .int (nI v1)), (3, .int (nI v2)), (4, .int (nI v3))] := hl
  have d6 := hp0.2.1
  have e6 := hp0.2.2.2.1
  have w10 := hp0.2.2.2.2.2.1
  refine lv_aload_n hx hb dX7_addEdge_0 rfl (lv_at hl 0 rfl) ?_
  refine vp_callSi (va_Run.run (va_runV (As := []) (rest := []) ⟨hx, hb, hml, hown, noTs⟩ (q_X7_edges l dC dI s.heap.size cs b u dg hAc7) ⟨cbE 0 (wd_598 hE) (wd_116 hE) (wd_625 hE) rfl rfl (by decide +kernel) ⟨Nat.le_of_ble_eq_true rfl, Nat.le_of_ble_eq_true rfl⟩, (wd_596 hE), (wd_597 hE)⟩ ⟨PQ.blind, q_recv 6 (by decide) rfl hK hP rfl, (q_pre (av := [.ref (b 6)]) hK hP hJ hE)⟩ rfl rfl hl.1 rfl (lv_room (Nat.le_of_ble_eq_true rfl)) dX7_addEdge_1 ⟨Nat.le_of_ble_eq_true rfl, Nat.le_of_ble_eq_true rfl⟩)) (fun r7 hr7 => ?_)
  have hr7 := hr7.trans (hp0.2.2.1)
  subst hr7
  refine lv_bipush (v := 6) hx hb dX7_addEdge_4 (by decide) ?_
  refine lv_icmp_ge (tgt := 66) hx hb dX7_addEdge_6 (by decide) (fun c8 => False.elim (by have c8 := (b_le (show Int32.toInt 6 = 6 from rfl) (nI_toInt (n := pE gg) (by omega))).mp c8; omega)) (fun c8 => ?_)
  have c8 := mt (b_le (show Int32.toInt 6 = 6 from rfl) (nI_toInt (n := pE gg) (by omega))).mpr c8
  refine lv_bipush (v := 9) hx hb dX7_addEdge_9 (by decide) ?_
  refine lv_iconst (v := 4) hx hb dX7_addEdge_11 (by decide) ?_
  refine lv_aload_n hx hb dX7_addEdge_12 rfl (lv_at hl 0 rfl) ?_
  refine vp_callSi (va_Run.run (va_runV (As := []) (rest := [.int 4, .int 9]) ⟨hx, hb, hml, hown, noTs⟩ (q_X7_edges l dC dI s.heap.size cs b u dg hAc7) ⟨cbE 0 (wd_598 hE) (wd_116 hE) (wd_625 hE) rfl rfl (by decide +kernel) ⟨Nat.le_of_ble_eq_true rfl, Nat.le_of_ble_eq_true rfl⟩, (wd_596 hE), (wd_597 hE)⟩ ⟨PQ.blind, q_recv 6 (by decide) rfl hK hP rfl, (q_pre (av := [.ref (b 6)]) hK hP hJ hE)⟩ rfl rfl hl.1 rfl (lv_room (Nat.le_of_ble_eq_true rfl)) dX7_addEdge_13 ⟨Nat.le_of_ble_eq_true rfl, Nat.le_of_ble_eq_true rfl⟩)) (fun r9 hr9 => ?_)
  have hr9 := hr9.trans (hp0.2.2.1)
  subst hr9
  refine lv_imul hx hb dX7_addEdge_16 ?_
  refine W.eq (g2 := F0 m 17 ls [.int (nI (4 * (pE gg))), .int 9]) (congrArg (fun z : Int32 => F0 m 17 ls (.int z :: [.int 9])) (pk_mul 4 (pE gg))) ?_
  refine lv_iadd hx hb dX7_addEdge_17 ?_
  refine W.eq (g2 := F0 m 18 ls [.int (nI (9 + (4 * (pE gg))))]) (congrArg (fun z : Int32 => F0 m 18 ls (.int z :: [])) (nI_add 9 (4 * (pE gg)))) ?_
  refine lv_istore (lv' := [(5, .int (nI (9 + (4 * (pE gg))))), (0, .ref (b 6)), (1, .int (nI v0)), (2, .int (nI v1)), (3, .int (nI v2)), (4, .int (nI v3))]) hx hb dX7_addEdge_18 hl (by decide) rfl (fun ls hl => ?_)
  refine lv_aload_n hx hb dX7_addEdge_20 rfl (lv_at hl 1 rfl) ?_
  refine lv_iload hx hb dX7_addEdge_21 (lv_at hl 0 rfl) ?_
  refine lv_iload_n hx hb dX7_addEdge_23 rfl (lv_at hl 2 rfl) ?_
  refine qc_v hAL hS hA (va_runV (As := [.int (nI (9 + (4 * (pE gg)))), .int (nI v0)]) (rest := []) ⟨hx, hb, hml, hown, noTs⟩ (q_X7_put l dC dI s.heap.size cs b u dg hAc7 (9 + (4 * (pE gg))) (nI v0) (by first | assumption | omega | rfl | (congr 1; omega))) ⟨cbE 2 (wd_590 hE) (wd_116 hE) (wd_587 hE) rfl rfl (by decide +kernel) ⟨Nat.le_of_ble_eq_true rfl, Nat.le_of_ble_eq_true rfl⟩, (wd_589 hE), (wd_14 hE)⟩ ⟨PQ.blind, q_recv 6 (by decide) rfl hK hP rfl, (q_pre (av := [.ref (b 6), .int (nI (9 + (4 * (pE gg)))), .int (nI v0)]) hK hP hJ hE)⟩ rfl rfl hl.1 rfl (lv_room (Nat.le_of_ble_eq_true rfl)) dX7_addEdge_24 ⟨Nat.le_of_ble_eq_true rfl, Nat.le_of_ble_eq_true rfl⟩) (fun u10 H locs hpo10 hP hS => ?_)
  obtain ⟨h10_0, hq10⟩ := hpo10
  obtain ⟨w11, hA11⟩ : ∃ g, rA u10 7 = g := ⟨_, rfl⟩
  rw [hA11] at h10_0
  have hfr := FR.step hfr hq10 (by decide) (fun _ h => absurd h List.not_mem_nil) (fun h => rfl)
  have P1 := h10_0
  refine lv_aload_n hx hb dX7_addEdge_27 rfl (lv_at hl 1 rfl) ?_
  refine lv_iload hx hb dX7_addEdge_28 (lv_at hl 0 rfl) ?_
  refine lv_iconst (v := 1) hx hb dX7_addEdge_30 (by decide) ?_
  refine lv_iadd hx hb dX7_addEdge_31 ?_
  refine W.eq (g2 := F0 m 32 ls [.int (nI ((9 + (4 * (pE gg))) + 1)), .ref (b 6)]) (congrArg (fun z : Int32 => F0 m 32 ls (.int z :: [.ref (b 6)])) (nI_add (9 + (4 * (pE gg))) 1)) ?_
  refine lv_iload_n hx hb dX7_addEdge_32 rfl (lv_at hl 3 rfl) ?_
  refine qc_v hAL hS hA (va_runV (As := [.int (nI ((9 + (4 * (pE gg))) + 1)), .int (nI v1)]) (rest := []) ⟨hx, hb, hml, hown, noTs⟩ (q_X7_put l dC dI H.size cs b u10 w11 hA11 ((9 + (4 * (pE gg))) + 1) (nI v1) (by first | assumption | omega | rfl | (congr 1; omega))) ⟨cbE 2 (wd_590 hE) (wd_116 hE) (wd_587 hE) rfl rfl (by decide +kernel) ⟨Nat.le_of_ble_eq_true rfl, Nat.le_of_ble_eq_true rfl⟩, (wd_589 hE), (wd_14 hE)⟩ ⟨PQ.blind, q_recv 6 (by decide) rfl hK hP rfl, (q_pre (av := [.ref (b 6), .int (nI ((9 + (4 * (pE gg))) + 1)), .int (nI v1)]) hK hP hJ hE)⟩ rfl rfl hl.1 rfl (lv_room (Nat.le_of_ble_eq_true rfl)) dX7_addEdge_33 ⟨Nat.le_of_ble_eq_true rfl, Nat.le_of_ble_eq_true rfl⟩) (fun u12 H locs hpo12 hP hS => ?_)
  obtain ⟨h12_0, hq12⟩ := hpo12
  obtain ⟨w13, hA13⟩ : ∃ g, rA u12 7 = g := ⟨_, rfl⟩
  rw [hA13] at h12_0
  have hfr := FR.step hfr hq12 (by decide) (fun _ h => absurd h List.not_mem_nil) (fun h => rfl)
  have P2 := h12_0
  refine lv_aload_n hx hb dX7_addEdge_36 rfl (lv_at hl 1 rfl) ?_
  refine lv_iload hx hb dX7_addEdge_37 (lv_at hl 0 rfl) ?_
  refine lv_iconst (v := 2) hx hb dX7_addEdge_39 (by decide) ?_
  refine lv_iadd hx hb dX7_addEdge_40 ?_
  refine W.eq (g2 := F0 m 41 ls [.int (nI ((9 + (4 * (pE gg))) + 2)), .ref (b 6)]) (congrArg (fun z : Int32 => F0 m 41 ls (.int z :: [.ref (b 6)])) (nI_add (9 + (4 * (pE gg))) 2)) ?_
  refine lv_iload_n hx hb dX7_addEdge_41 rfl (lv_at hl 4 rfl) ?_
  refine qc_v hAL hS hA (va_runV (As := [.int (nI ((9 + (4 * (pE gg))) + 2)), .int (nI v2)]) (rest := []) ⟨hx, hb, hml, hown, noTs⟩ (q_X7_put l dC dI H.size cs b u12 w13 hA13 ((9 + (4 * (pE gg))) + 2) (nI v2) (by first | assumption | omega | rfl | (congr 1; omega))) ⟨cbE 2 (wd_590 hE) (wd_116 hE) (wd_587 hE) rfl rfl (by decide +kernel) ⟨Nat.le_of_ble_eq_true rfl, Nat.le_of_ble_eq_true rfl⟩, (wd_589 hE), (wd_14 hE)⟩ ⟨PQ.blind, q_recv 6 (by decide) rfl hK hP rfl, (q_pre (av := [.ref (b 6), .int (nI ((9 + (4 * (pE gg))) + 2)), .int (nI v2)]) hK hP hJ hE)⟩ rfl rfl hl.1 rfl (lv_room (Nat.le_of_ble_eq_true rfl)) dX7_addEdge_42 ⟨Nat.le_of_ble_eq_true rfl, Nat.le_of_ble_eq_true rfl⟩) (fun u14 H locs hpo14 hP hS => ?_)
  obtain ⟨h14_0, hq14⟩ := hpo14
  obtain ⟨w15, hA15⟩ : ∃ g, rA u14 7 = g := ⟨_, rfl⟩
  rw [hA15] at h14_0
  have hfr := FR.step hfr hq14 (by decide) (fun _ h => absurd h List.not_mem_nil) (fun h => rfl)
  have P3 := h14_0
  refine lv_aload_n hx hb dX7_addEdge_45 rfl (lv_at hl 1 rfl) ?_
  refine lv_iload hx hb dX7_addEdge_46 (lv_at hl 0 rfl) ?_
  refine lv_iconst (v := 3) hx hb dX7_addEdge_48 (by decide) ?_
  refine lv_iadd hx hb dX7_addEdge_49 ?_
  refine W.eq (g2 := F0 m 50 ls [.int (nI ((9 + (4 * (pE gg))) + 3)), .ref (b 6)]) (congrArg (fun z : Int32 => F0 m 50 ls (.int z :: [.ref (b 6)])) (nI_add (9 + (4 * (pE gg))) 3)) ?_
  refine lv_iload hx hb dX7_addEdge_50 (lv_at hl 5 rfl) ?_
  refine qc_v hAL hS hA (va_runV (As := [.int (nI ((9 + (4 * (pE gg))) + 3)), .int (nI v3)]) (rest := []) ⟨hx, hb, hml, hown, noTs⟩ (q_X7_put l dC dI H.size cs b u14 w15 hA15 ((9 + (4 * (pE gg))) + 3) (nI v3) (by first | assumption | omega | rfl | (congr 1; omega))) ⟨cbE 2 (wd_590 hE) (wd_116 hE) (wd_587 hE) rfl rfl (by decide +kernel) ⟨Nat.le_of_ble_eq_true rfl, Nat.le_of_ble_eq_true rfl⟩, (wd_589 hE), (wd_14 hE)⟩ ⟨PQ.blind, q_recv 6 (by decide) rfl hK hP rfl, (q_pre (av := [.ref (b 6), .int (nI ((9 + (4 * (pE gg))) + 3)), .int (nI v3)]) hK hP hJ hE)⟩ rfl rfl hl.1 rfl (lv_room (Nat.le_of_ble_eq_true rfl)) dX7_addEdge_52 ⟨Nat.le_of_ble_eq_true rfl, Nat.le_of_ble_eq_true rfl⟩) (fun u16 H locs hpo16 hP hS => ?_)
  obtain ⟨h16_0, hq16⟩ := hpo16
  obtain ⟨w17, hA17⟩ : ∃ g, rA u16 7 = g := ⟨_, rfl⟩
  rw [hA17] at h16_0
  have hfr := FR.step hfr hq16 (by decide) (fun _ h => absurd h List.not_mem_nil) (fun h => rfl)
  have P4 := h16_0
  refine lv_aload_n hx hb dX7_addEdge_55 rfl (lv_at hl 1 rfl) ?_
  refine lv_iconst (v := 1) hx hb dX7_addEdge_56 (by decide) ?_
  refine lv_aload_n hx hb dX7_addEdge_57 rfl (lv_at hl 1 rfl) ?_
  refine vp_callSi (va_Run.run (va_runV (As := []) (rest := [.int 1, .ref (b 6)]) ⟨hx, hb, hml, hown, noTs⟩ (q_X7_edges l dC dI H.size cs b u16 w17 hA17) ⟨cbE 0 (wd_598 hE) (wd_116 hE) (wd_625 hE) rfl rfl (by decide +kernel) ⟨Nat.le_of_ble_eq_true rfl, Nat.le_of_ble_eq_true rfl⟩, (wd_596 hE), (wd_597 hE)⟩ ⟨PQ.blind, q_recv 6 (by decide) rfl hK hP rfl, (q_pre (av := [.ref (b 6)]) hK hP hJ hE)⟩ rfl rfl hl.1 rfl (lv_room (Nat.le_of_ble_eq_true rfl)) dX7_addEdge_58 ⟨Nat.le_of_ble_eq_true rfl, Nat.le_of_ble_eq_true rfl⟩)) (fun r18 hr18 => ?_)
  have hr18 := hr18.trans ((show w17 1 = nI (pE gg) by rw [P4, pk_un (by omega), P3, pk_un (by omega), P2, pk_un (by omega), P1, pk_un (by omega)]; exact hp0.2.2.1))
  subst hr18
  refine lv_iconst (v := 1) hx hb dX7_addEdge_61 (by decide) ?_
  refine lv_iadd hx hb dX7_addEdge_62 ?_
  refine W.eq (g2 := F0 m 63 ls [.int (nI ((pE gg) + 1)), .int 1, .ref (b 6)]) (congrArg (fun z : Int32 => F0 m 63 ls (.int z :: [.int 1, .ref (b 6)])) (nI_add (pE gg) 1)) ?_
  refine qc_v hAL hS hA (va_runV (As := [.int (nI 1), .int (nI ((pE gg) + 1))]) (rest := []) ⟨hx, hb, hml, hown, noTs⟩ (q_X7_put l dC dI H.size cs b u16 w17 hA17 1 (nI ((pE gg) + 1)) (by first | assumption | omega | rfl | (congr 1; omega))) ⟨cbE 2 (wd_590 hE) (wd_116 hE) (wd_587 hE) rfl rfl (by decide +kernel) ⟨Nat.le_of_ble_eq_true rfl, Nat.le_of_ble_eq_true rfl⟩, (wd_589 hE), (wd_14 hE)⟩ ⟨PQ.blind, q_recv 6 (by decide) rfl hK hP rfl, (q_pre (av := [.ref (b 6), .int (nI 1), .int (nI ((pE gg) + 1))]) hK hP hJ hE)⟩ rfl rfl hl.1 rfl (lv_room (Nat.le_of_ble_eq_true rfl)) dX7_addEdge_63 ⟨Nat.le_of_ble_eq_true rfl, Nat.le_of_ble_eq_true rfl⟩) (fun u19 H locs hpo19 hP hS => ?_)
  obtain ⟨h19_0, hq19⟩ := hpo19
  obtain ⟨w20, hA20⟩ : ∃ g, rA u19 7 = g := ⟨_, rfl⟩
  rw [hA20] at h19_0
  have hfr := FR.step hfr hq19 (by decide) (fun _ h => absurd h List.not_mem_nil) (fun h => rfl)
  have P5 := h19_0
  exact W.vret hx hb hr (fun t ht hW => ⟨⟨u19, rfl, ⟨(by first | (rw [hA20]; done) | (rw [hA20]; exact dg_e hp0 hp1 hp2 hp3 hp4 hp5 P1 P2 P3 P4 P5)), hfr⟩, (show va_P (dC, dI) vwCl (qW cs b u19) t.heap by rw [ht]; exact hP)⟩, hS.F ht⟩) hS.2.2 dX7_addEdge_66
set_option maxHeartbeats 4000000 in
set_option maxRecDepth 100000 in
theorem q_X10_start (l : Launch) (dC : Nat → ClassId) (dI : Nat → Nat → Nat) (sz : Nat) (cs : Nat → ClassId) (b : Nat → Nat) (u : RS) (x : Int32) (y : Int32) : Met l yX10_start [.code yX10_start cX10_start 3 none] ({ frames := 0, cells := 0, slots := 0, locals := 0 }) (PQ [.ref (b 8), .int x, .int y] sz dC dI cs b u) (va_Qv (fun (u' : RS) => (rF u' 23 = 0) ∧ FR [9] [22, 23] false u u') (BQ dC dI cs b) (AQ b sz)) 0 0 (AQ b sz) := by
  refine Met.ofW (cc := cX10_start) (maxL := 3) (ret := none) (by decide) rfl ?_
  intro p e s m args below meth c s₁ B hml hv
  obtain ⟨rfl, hsz, hP, hK, hJ, hE⟩ := hv
  have hx := B.exec
  have hb := B.bytes
  have hr := B.returns
  have hown : s.vm.findClass RX10 = some m.cls := findClass_of_methodNamed B.named
  have hlocks := B.notSynchronized
  subst hsz
  have hAL : ∀ i, i < 12 → AQ b s.heap.size (b i) := fun i h => Or.inl ⟨i, h, rfl⟩
  have hA : ∀ q : Nat, s.heap.size ≤ q → AQ b s.heap.size q := fun q h => Or.inr h
  have hS : va_S (AQ b s.heap.size) s.heap s.heap [] := va_S.rf
  have hfr : FR [9] [22, 23] false u u := FR.refl
  have hl := lv_entry ([.ref (b 8), .int x, .int y]) (n := 3) (Nat.le_of_ble_eq_true rfl)
  rw [lg_entry_eq]
  generalize (lg_sl ([.ref (b 8), .int x, .int y]) ++ List.replicate (3 - (lg_sl ([.ref (b 8), .int x, .int y])).length) Slot.unset).toArray = ls at hl ⊢
  have hl : lv_has ls 3 [(0, .ref (b 8)), (1, .int x), (2, .int y)] := hl
  refine lv_aload_n hx hb dX10_start_0 rfl (lv_at hl 0 rfl) ?_
  refine lv_iload_n hx hb dX10_start_1 rfl (lv_at hl 1 rfl) ?_
  refine q_put (v := x) (ty := .int) hx hb 8 22 (by decide) (ly_X10 hE) tyX10 tyX10_ok nmX10 hown hK hP hJ hAL hS rfl 2 (by decide) (wd_216 hE) (fun _ h9 => h9) rfl (by decide +kernel) rfl rfl rfl rfl (qE_put8 (by decide) (by decide)) (Nat.le_of_ble_eq_true rfl) dX10_start_2 (fun u1 H locs hf1 hq1 hP hS => ?_)
  have hfr := FR.step hfr hq1 (fun _ h => absurd h List.not_mem_nil) (by decide) (fun h => rfl)
  refine lv_aload_n hx hb dX10_start_5 rfl (lv_at hl 0 rfl) ?_
  refine lv_iconst (v := 0) hx hb dX10_start_6 (by decide) ?_
  refine q_put (v := 0) (ty := .int) hx hb 8 23 (by decide) (ly_X10 hE) tyX10 tyX10_ok nmX10 hown hK hP hJ hAL hS rfl 3 (by decide) (wd_217 hE) (fun _ h9 => h9) rfl (by decide +kernel) rfl rfl rfl rfl (qE_put8 (by decide) (by decide)) (Nat.le_of_ble_eq_true rfl) dX10_start_7 (fun u2 H locs hf2 hq2 hP hS => ?_)
  have hF3x := (hq2.2.1 22 (by decide)).trans hf1
  have hfr := FR.step hfr hq2 (fun _ h => absurd h List.not_mem_nil) (by decide) (fun h => rfl)
  refine lv_aload_n hx hb dX10_start_10 rfl (lv_at hl 0 rfl) ?_
  refine q_get (v := .ref (b 9)) hx hb 8 (by decide) rfl (ly_X10 hE) hown hK hP rfl 0 (by decide) (wd_214 hE) (fun _ h9 => h9) rfl dX10_start_11 ?_
  refine lv_iconst (v := 0) hx hb dX10_start_14 (by decide) ?_
  refine lv_iload_n hx hb dX10_start_15 rfl (lv_at hl 2 rfl) ?_
  obtain ⟨g5, hg5⟩ : ∃ g, rA u2 9 = g := ⟨_, rfl⟩
  refine q_iast (j := 9) (k := 0) (n := 73) (x := y) hx hb hK hP hJ hAL hS (by decide) (fun _ => rfl) hg5 (by decide) (by decide) dX10_start_16 (fun u4 H locs hs4 hq4 hP hS => ?_)
  obtain ⟨w4, hw4⟩ : ∃ g, g = upd g5 0 y := ⟨_, rfl⟩
  rw [← hw4] at hs4
  have hF6x := (hq4.2.1 22 List.not_mem_nil).trans hF3x
  have hF7x := (hq4.2.1 23 List.not_mem_nil).trans hf2
  have hfr := FR.step hfr hq4 (by decide) (fun _ h => absurd h List.not_mem_nil) (fun h => rfl)
  exact W.vret hx hb hr (fun t ht hW => ⟨⟨u4, rfl, ⟨(by first | (rw [hF7x]; done) | (rw [hF7x]; first | assumption | omega | rfl | (congr 1; omega))), hfr⟩, (show va_P (dC, dI) vwCl (qW cs b u4) t.heap by rw [ht]; exact hP)⟩, hS.F ht⟩) hS.2.2 dX10_start_17
set_option maxHeartbeats 4000000 in
set_option maxRecDepth 100000 in
theorem q_X10_size (l : Launch) (dC : Nat → ClassId) (dI : Nat → Nat → Nat) (sz : Nat) (cs : Nat → ClassId) (b : Nat → Nat) (u : RS) (cw : Nat) (hF23 : rF u 23 = nI cw) : Met l yX10_size [.code yX10_size cX10_size 1 (some .int)] ({ frames := 0, cells := 0, slots := 0, locals := 0 }) (PQ [.ref (b 8)] sz dC dI cs b u) (vp_Si (fun (r : Int32) => r = nI cw)) 0 0 (fun _ => False) := by
  refine Met.ofW (cc := cX10_size) (maxL := 1) (ret := (some .int)) (by decide) rfl ?_
  intro p e s m args below meth c s₁ B hml hv
  obtain ⟨rfl, hsz, hP, hK, hJ, hE⟩ := hv
  have hx := B.exec
  have hb := B.bytes
  have hr := B.returns
  have hown : s.vm.findClass RX10 = some m.cls := findClass_of_methodNamed B.named
  have hlocks := B.notSynchronized
  subst hsz
  have hl := lv_entry ([.ref (b 8)]) (n := 1) (Nat.le_of_ble_eq_true rfl)
  rw [lg_entry_eq]
  generalize (lg_sl ([.ref (b 8)]) ++ List.replicate (1 - (lg_sl ([.ref (b 8)])).length) Slot.unset).toArray = ls at hl ⊢
  have hl : lv_has ls 1 [(0, .ref (b 8))] := hl
  refine lv_aload_n hx hb dX10_size_0 rfl (lv_at hl 0 rfl) ?_
  refine q_get (v := .int (nI cw)) hx hb 8 (by decide) rfl (ly_X10 hE) hown hK hP rfl 3 (by decide) (wd_217 hE) (fun _ h9 => h9) (congrArg (fun z : Int32 => some (Value.int z)) hF23) dX10_size_1 ?_
  exact W.iret (v := nI cw) hx hb hr (fun t ht hW => ⟨nI cw, rfl, (by first | rfl | omega | (congr 1; omega) | assumption), ht⟩) (fun _ h => absurd h List.not_mem_nil) dX10_size_4
set_option maxHeartbeats 4000000 in
set_option maxRecDepth 100000 in
theorem q_X10_begin (l : Launch) (dC : Nat → ClassId) (dI : Nat → Nat → Nat) (sz : Nat) (cs : Nat → ClassId) (b : Nat → Nat) (u : RS) : Met l yX10_begin [.code yX10_begin cX10_begin 1 (some .int)] ({ frames := 0, cells := 0, slots := 0, locals := 0 }) (PQ [.ref (b 8)] sz dC dI cs b u) (vp_Si (fun (r : Int32) => True)) 0 0 (fun _ => False) := by
  refine Met.ofW (cc := cX10_begin) (maxL := 1) (ret := (some .int)) (by decide) rfl ?_
  intro p e s m args below meth c s₁ B hml hv
  obtain ⟨rfl, hsz, hP, hK, hJ, hE⟩ := hv
  have hx := B.exec
  have hb := B.bytes
  have hr := B.returns
  have hown : s.vm.findClass RX10 = some m.cls := findClass_of_methodNamed B.named
  have hlocks := B.notSynchronized
  subst hsz
  have hl := lv_entry ([.ref (b 8)]) (n := 1) (Nat.le_of_ble_eq_true rfl)
  rw [lg_entry_eq]
  generalize (lg_sl ([.ref (b 8)]) ++ List.replicate (1 - (lg_sl ([.ref (b 8)])).length) Slot.unset).toArray = ls at hl ⊢
  have hl : lv_has ls 1 [(0, .ref (b 8))] := hl
  refine lv_aload_n hx hb dX10_begin_0 rfl (lv_at hl 0 rfl) ?_
  obtain ⟨y1, hy1⟩ : ∃ z : Int32, rF u 22 = z := ⟨_, rfl⟩
  refine q_get (v := .int y1) hx hb 8 (by decide) rfl (ly_X10 hE) hown hK hP rfl 2 (by decide) (wd_216 hE) (fun _ h9 => h9) (congrArg (fun z : Int32 => some (Value.int z)) hy1) dX10_begin_1 ?_
  exact W.iret (v := y1) hx hb hr (fun t ht hW => ⟨y1, rfl, trivial, ht⟩) (fun _ h => absurd h List.not_mem_nil) dX10_begin_4
set_option maxHeartbeats 4000000 in
set_option maxRecDepth 100000 in
theorem q_X10_numberAt (l : Launch) (dC : Nat → ClassId) (dI : Nat → Nat → Nat) (sz : Nat) (cs : Nat → ClassId) (b : Nat → Nat) (u : RS) (k : Nat) (cw : Nat) (hF23 : rF u 23 = nI cw) (hp0 : cw ≤ 72) (hp1 : k < 1000) : Met l yX10_numberAt [.code yX10_numberAt cX10_numberAt 2 (some .int)] ({ frames := 0, cells := 0, slots := 0, locals := 0 }) (PQ [.ref (b 8), .int (nI k)] sz dC dI cs b u) (vp_Si (fun (r : Int32) => True)) 0 0 (fun _ => False) := by
  refine Met.ofW (cc := cX10_numberAt) (maxL := 2) (ret := (some .int)) (by decide) rfl ?_
  intro p e s m args below meth c s₁ B hml hv
  obtain ⟨rfl, hsz, hP, hK, hJ, hE⟩ := hv
  have hx := B.exec
  have hb := B.bytes
  have hr := B.returns
  have hown : s.vm.findClass RX10 = some m.cls := findClass_of_methodNamed B.named
  have hlocks := B.notSynchronized
  subst hsz
  have hl := lv_entry ([.ref (b 8), .int (nI k)]) (n := 2) (Nat.le_of_ble_eq_true rfl)
  rw [lg_entry_eq]
  generalize (lg_sl ([.ref (b 8), .int (nI k)]) ++ List.replicate (2 - (lg_sl ([.ref (b 8), .int (nI k)])).length) Slot.unset).toArray = ls at hl ⊢
  have hl : lv_has ls 2 [(0, .ref (b 8)), (1, .int (nI k))] := hl
  refine lv_iload_n hx hb dX10_numberAt_0 rfl (lv_at hl 1 rfl) ?_
  refine lv_if_lt (tgt := 21) hx hb dX10_numberAt_1 (by decide) (fun c3 => False.elim (by have c3 := (b_lt (nI_toInt (n := k) (by omega)) (show Int32.toInt 0 = 0 from rfl)).mp c3; omega)) (fun c3 => ?_)
  have c3 := mt (b_lt (nI_toInt (n := k) (by omega)) (show Int32.toInt 0 = 0 from rfl)).mpr c3
  refine lv_iload_n hx hb dX10_numberAt_4 rfl (lv_at hl 1 rfl) ?_
  refine lv_aload_n hx hb dX10_numberAt_5 rfl (lv_at hl 0 rfl) ?_
  refine q_get (v := .int (nI cw)) hx hb 8 (by decide) rfl (ly_X10 hE) hown hK hP rfl 3 (by decide) (wd_217 hE) (fun _ h9 => h9) (congrArg (fun z : Int32 => some (Value.int z)) hF23) dX10_numberAt_6 ?_
  refine lv_icmp_gt (tgt := 21) hx hb dX10_numberAt_9 (by decide) (fun c4 => ?_) (fun c4 => ?_)
  · have c4 := (b_lt (nI_toInt (n := cw) (by omega)) (nI_toInt (n := k) (by omega))).mp c4
    refine lv_iconst (v := 0) hx hb dX10_numberAt_21 (by decide) ?_
    refine lv_goto (tgt := 31) hx hb dX10_numberAt_22 (by decide) ?_
    exact W.iret (v := 0) hx hb hr (fun t ht hW => ⟨0, rfl, trivial, ht⟩) (fun _ h => absurd h List.not_mem_nil) dX10_numberAt_31
  · have c4 := mt (b_lt (nI_toInt (n := cw) (by omega)) (nI_toInt (n := k) (by omega))).mpr c4
    refine lv_iload_n hx hb dX10_numberAt_12 rfl (lv_at hl 1 rfl) ?_
    refine lv_aload_n hx hb dX10_numberAt_13 rfl (lv_at hl 0 rfl) ?_
    refine q_get (v := .ref (b 9)) hx hb 8 (by decide) rfl (ly_X10 hE) hown hK hP rfl 0 (by decide) (wd_214 hE) (fun _ h9 => h9) rfl dX10_numberAt_14 ?_
    refine q_alen (j := 9) (t0 := 0) (v := 73) hx hb hK hP (by decide) rfl rfl rfl dX10_numberAt_17 ?_
    refine lv_icmp_lt (tgt := 25) hx hb dX10_numberAt_18 (by decide) (fun c5 => ?_) (fun c5 => ?_)
    · have c5 := (b_lt (nI_toInt (n := k) (by omega)) (show Int32.toInt 73 = 73 from rfl)).mp c5
      refine lv_aload_n hx hb dX10_numberAt_25 rfl (lv_at hl 0 rfl) ?_
      refine q_get (v := .ref (b 9)) hx hb 8 (by decide) rfl (ly_X10 hE) hown hK hP rfl 0 (by decide) (wd_214 hE) (fun _ h9 => h9) rfl dX10_numberAt_26 ?_
      refine lv_iload_n hx hb dX10_numberAt_29 rfl (lv_at hl 1 rfl) ?_
      obtain ⟨y6, hy6⟩ : ∃ z : Int32, rA u 9 k = z := ⟨_, rfl⟩
      refine q_iald (j := 9) (k := k) (n := 73) (x := y6) hx hb hK hP (by decide) rfl (by omega) (by decide) hy6 dX10_numberAt_30 ?_
      exact W.iret (v := y6) hx hb hr (fun t ht hW => ⟨y6, rfl, trivial, ht⟩) (fun _ h => absurd h List.not_mem_nil) dX10_numberAt_31
    · have c5 := mt (b_lt (nI_toInt (n := k) (by omega)) (show Int32.toInt 73 = 73 from rfl)).mpr c5
      refine lv_iconst (v := 0) hx hb dX10_numberAt_21 (by decide) ?_
      refine lv_goto (tgt := 31) hx hb dX10_numberAt_22 (by decide) ?_
      exact W.iret (v := 0) hx hb hr (fun t ht hW => ⟨0, rfl, trivial, ht⟩) (fun _ h => absurd h List.not_mem_nil) dX10_numberAt_31
set_option maxHeartbeats 4000000 in
set_option maxRecDepth 100000 in
theorem q_X10_stepAt (l : Launch) (dC : Nat → ClassId) (dI : Nat → Nat → Nat) (sz : Nat) (cs : Nat → ClassId) (b : Nat → Nat) (u : RS) (k : Nat) (cw : Nat) (hF23 : rF u 23 = nI cw) (hp0 : cw ≤ 72) (hp1 : k < 1000) : Met l yX10_stepAt [.code yX10_stepAt cX10_stepAt 2 (some .int)] ({ frames := 0, cells := 0, slots := 0, locals := 0 }) (PQ [.ref (b 8), .int (nI k)] sz dC dI cs b u) (vp_Si (fun (r : Int32) => True)) 0 0 (fun _ => False) := by
  refine Met.ofW (cc := cX10_stepAt) (maxL := 2) (ret := (some .int)) (by decide) rfl ?_
  intro p e s m args below meth c s₁ B hml hv
  obtain ⟨rfl, hsz, hP, hK, hJ, hE⟩ := hv
  have hx := B.exec
  have hb := B.bytes
  have hr := B.returns
  have hown : s.vm.findClass RX10 = some m.cls := findClass_of_methodNamed B.named
  have hlocks := B.notSynchronized
  subst hsz
  have hl := lv_entry ([.ref (b 8), .int (nI k)]) (n := 2) (Nat.le_of_ble_eq_true rfl)
  rw [lg_entry_eq]
  generalize (lg_sl ([.ref (b 8), .int (nI k)]) ++ List.replicate (2 - (lg_sl ([.ref (b 8), .int (nI k)])).length) Slot.unset).toArray = ls at hl ⊢
  have hl : lv_has ls 2 [(0, .ref (b 8)), (1, .int (nI k))] := hl
  refine lv_iload_n hx hb dX10_stepAt_0 rfl (lv_at hl 1 rfl) ?_
  refine lv_if_lt (tgt := 21) hx hb dX10_stepAt_1 (by decide) (fun c3 => False.elim (by have c3 := (b_lt (nI_toInt (n := k) (by omega)) (show Int32.toInt 0 = 0 from rfl)).mp c3; omega)) (fun c3 => ?_)
  have c3 := mt (b_lt (nI_toInt (n := k) (by omega)) (show Int32.toInt 0 = 0 from rfl)).mpr c3
  refine lv_iload_n hx hb dX10_stepAt_4 rfl (lv_at hl 1 rfl) ?_
  refine lv_aload_n hx hb dX10_stepAt_5 rfl (lv_at hl 0 rfl) ?_
  refine q_get (v := .int (nI cw)) hx hb 8 (by decide) rfl (ly_X10 hE) hown hK hP rfl 3 (by decide) (wd_217 hE) (fun _ h9 => h9) (congrArg (fun z : Int32 => some (Value.int z)) hF23) dX10_stepAt_6 ?_
  refine lv_icmp_ge (tgt := 21) hx hb dX10_stepAt_9 (by decide) (fun c4 => ?_) (fun c4 => ?_)
  · have c4 := (b_le (nI_toInt (n := cw) (by omega)) (nI_toInt (n := k) (by omega))).mp c4
    refine lv_bipush (v := 12) hx hb dX10_stepAt_21 (by decide) ?_
    refine lv_goto (tgt := 32) hx hb dX10_stepAt_23 (by decide) ?_
    exact W.iret (v := 12) hx hb hr (fun t ht hW => ⟨12, rfl, trivial, ht⟩) (fun _ h => absurd h List.not_mem_nil) dX10_stepAt_32
  · have c4 := mt (b_le (nI_toInt (n := cw) (by omega)) (nI_toInt (n := k) (by omega))).mpr c4
    refine lv_iload_n hx hb dX10_stepAt_12 rfl (lv_at hl 1 rfl) ?_
    refine lv_aload_n hx hb dX10_stepAt_13 rfl (lv_at hl 0 rfl) ?_
    refine q_get (v := .ref (b 10)) hx hb 8 (by decide) rfl (ly_X10 hE) hown hK hP rfl 1 (by decide) (wd_215 hE) (fun _ h9 => h9) rfl dX10_stepAt_14 ?_
    refine q_alen (j := 10) (t0 := 0) (v := 72) hx hb hK hP (by decide) rfl rfl rfl dX10_stepAt_17 ?_
    refine lv_icmp_lt (tgt := 26) hx hb dX10_stepAt_18 (by decide) (fun c5 => ?_) (fun c5 => ?_)
    · have c5 := (b_lt (nI_toInt (n := k) (by omega)) (show Int32.toInt 72 = 72 from rfl)).mp c5
      refine lv_aload_n hx hb dX10_stepAt_26 rfl (lv_at hl 0 rfl) ?_
      refine q_get (v := .ref (b 10)) hx hb 8 (by decide) rfl (ly_X10 hE) hown hK hP rfl 1 (by decide) (wd_215 hE) (fun _ h9 => h9) rfl dX10_stepAt_27 ?_
      refine lv_iload_n hx hb dX10_stepAt_30 rfl (lv_at hl 1 rfl) ?_
      obtain ⟨y6, hy6⟩ : ∃ z : Int32, rA u 10 k = z := ⟨_, rfl⟩
      refine q_iald (j := 10) (k := k) (n := 72) (x := y6) hx hb hK hP (by decide) rfl (by omega) (by decide) hy6 dX10_stepAt_31 ?_
      exact W.iret (v := y6) hx hb hr (fun t ht hW => ⟨y6, rfl, trivial, ht⟩) (fun _ h => absurd h List.not_mem_nil) dX10_stepAt_32
    · have c5 := mt (b_lt (nI_toInt (n := k) (by omega)) (show Int32.toInt 72 = 72 from rfl)).mpr c5
      refine lv_bipush (v := 12) hx hb dX10_stepAt_21 (by decide) ?_
      refine lv_goto (tgt := 32) hx hb dX10_stepAt_23 (by decide) ?_
      exact W.iret (v := 12) hx hb hr (fun t ht hW => ⟨12, rfl, trivial, ht⟩) (fun _ h => absurd h List.not_mem_nil) dX10_stepAt_32
