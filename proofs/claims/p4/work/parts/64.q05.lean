set_option maxHeartbeats 4000000 in
set_option maxRecDepth 100000 in
theorem q_X5_readStep (l : Launch) (dC : Nat → ClassId) (dI : Nat → Nat → Nat) (sz : Nat) (cs : Nat → ClassId) (b : Nat → Nat) (u : RS) (tx : Nat → Int32) (hAc5 : rA u 5 = tx) (k2 : Nat → Int32) (hAc2 : rA u 2 = k2) (k3 : Nat → Int32) (hAc3 : rA u 3 = k3) (k4 : Nat → Int32) (hAc4 : rA u 4 = k4) (dg : Nat → Int32) (hAc7 : rA u 7 = dg) (sz1 : Nat) (c1 : Nat) (i0 : Nat) (ln : Nat) (x8 : Int32) (x9 : Int32) (gg : PGr) (cw : Nat) (h0 : Nat) (hF13 : rF u 13 = nI c1) (hF14 : rF u 14 = 1) (hF15 : rF u 15 = nI sz1) (hF4 : rF u 4 = nI i0) (hF6 : rF u 6 = nI ln) (hF7 : rF u 7 = 0) (hF8 : rF u 8 = x8) (hF9 : rF u 9 = x9) (hF23 : rF u 23 = nI cw) (hF5 : rF u 5 = nI h0) (hp0 : BY tx) (hp1 : sz1 ≤ 700) (hp2 : QTK k2 k3 k4 tx sz1 c1) (hp3 : i0 ≤ c1) (hp4 : DG dg gg) (hp5 : kd tx sz1 (bgi tx sz1 i0) = 7 ∨ kd tx sz1 (bgi tx sz1 i0) = 8) (hp6 : cw ≤ 24) (hp7 : h0 ≤ 999) : Met l yX5_readStep [.code yX5_readStep cX5_readStep 3 none] ({ frames := 3, cells := 0, slots := 0, locals := 120 }) (PQ [.ref (b 0)] sz dC dI cs b u) (va_Qv (fun (u' : RS) => ((∃ k q j : Nat, 1 ≤ k ∧ k ≤ 9 ∧ FQ u' k q ln ∧ (j ≤ c1 ∧ rF u' 4 = nI j) ∧ ∀ f, pSteps tx sz1 gg (f + 1) h0 cw (bgi tx sz1 i0) = (k, q)) ∨ (rF u' 7 = 0 ∧ rF u' 8 = x8 ∧ rF u' 9 = x9 ∧ cw ≤ 23 ∧ rF u' 23 = nI (cw + 1) ∧ rF u' 4 = nI (i0 + 1 + 1) ∧ i0 + 1 + 1 ≤ c1 ∧ ∃ h1 : Nat, h1 ≤ 999 ∧ rF u' 5 = nI h1 ∧ ∀ f, pSteps tx sz1 gg (f + 1) h0 cw (bgi tx sz1 i0) = pSteps tx sz1 gg f h1 (cw + 1) (pNum tx sz1 (bgi tx sz1 (i0 + 1 + 1))))) ∧ FR [9, 10] [4, 5, 23, 7, 8, 9] false u u') (BQ dC dI cs b) (AQ b sz)) 0 0 (AQ b sz) := by
  refine Met.ofW (cc := cX5_readStep) (maxL := 3) (ret := none) (by decide) rfl ?_
  intro p e s m args below meth c s₁ B hml hv
  obtain ⟨rfl, hsz, hP, hK, hJ, hE⟩ := hv
  have hx := B.exec
  have hb := B.bytes
  have hr := B.returns
  have hown : s.vm.findClass RX5 = some m.cls := findClass_of_methodNamed B.named
  have hlocks := B.notSynchronized
  subst hsz
  have hAL : ∀ i, i < 12 → AQ b s.heap.size (b i) := fun i h => Or.inl ⟨i, h, rfl⟩
  have hA : ∀ q : Nat, s.heap.size ≤ q → AQ b s.heap.size q := fun q h => Or.inr h
  have hS : va_S (AQ b s.heap.size) s.heap s.heap [] := va_S.rf
  have hfr : FR [9, 10] [4, 5, 23, 7, 8, 9] false u u := FR.refl
  have hl := lv_entry ([.ref (b 0)]) (n := 3) (Nat.le_of_ble_eq_true rfl)
  rw [lg_entry_eq]
  generalize (lg_sl ([.ref (b 0)]) ++ List.replicate (3 - (lg_sl ([.ref (b 0)])).length) Slot.unset).toArray = ls at hl ⊢
  have hl : lv_has ls 3 [(0, .ref (b 0))] := hl
  have hc7 := hp2.1
  have kdf := kd_f tx sz1 (bgi tx sz1 (i0))
  have bq : i0 = c1 → bgi tx sz1 (i0) = sz1 := fun h => by rw [h]; exact hp2.2.1
  have bz : i0 < c1 → bgi tx sz1 (i0) < sz1 := fun h => (hp2.2.2 _ h).1
  have d6 := hp4.2.1
  have e6 := hp4.2.2.2.1
  have w10 := hp4.2.2.2.2.2.1
  refine lv_aload_n hx hb dX5_readStep_0 rfl (lv_at hl 0 rfl) ?_
  refine lv_aload_n hx hb dX5_readStep_1 rfl (lv_at hl 0 rfl) ?_
  refine q_get (v := .ref (b 8)) hx hb 0 (by decide) rfl (ly_X5 hE) hown hK hP rfl 2 (by decide) (wd_229 hE) (fun _ h9 => h9) rfl dX5_readStep_2 ?_
  refine vp_callSi (va_Run.run (va_runV (As := []) (rest := [.ref (b 0)]) ⟨hx, hb, hml, hown, noTs⟩ (q_X10_size l dC dI s.heap.size cs b u cw hF23) ⟨cbE 0 (wd_666 hE) (wd_120 hE) (wd_663 hE) rfl rfl (by decide +kernel) ⟨Nat.le_of_ble_eq_true rfl, Nat.le_of_ble_eq_true rfl⟩, (wd_664 hE), (wd_665 hE)⟩ ⟨PQ.blind, q_recv 8 (by decide) rfl hK hP rfl, (q_pre (av := [.ref (b 8)]) hK hP hJ hE)⟩ rfl rfl hl.1 rfl (lv_room (Nat.le_of_ble_eq_true rfl)) dX5_readStep_5 ⟨Nat.le_of_ble_eq_true rfl, Nat.le_of_ble_eq_true rfl⟩)) (fun r9 hr9 => ?_)
  subst hr9
  refine lv_bipush (v := 24) hx hb dX5_readStep_8 (by decide) ?_
  refine lv_icmp_ge (tgt := 17) hx hb dX5_readStep_10 (by decide) (fun c10 => ?_) (fun c10 => ?_)
  · have c10 := (b_le (show Int32.toInt 24 = 24 from rfl) (nI_toInt (n := cw) (by omega))).mp c10
    refine lv_iconst (v := 0) hx hb dX5_readStep_17 (by decide) ?_
    refine lv_bipush (v := 6) hx hb dX5_readStep_18 (by decide) ?_
    refine qc_i hAL hS hA (va_runV (As := [.int 0, .int (nI 6)]) (rest := []) ⟨hx, hb, hml, hown, noTs⟩ (q_X5_passes_0 l dC dI s.heap.size cs b u tx hAc5 k2 hAc2 k3 hAc3 k4 hAc4 6 sz1 c1 i0 ln hF13 hF14 hF15 hF4 hF6 hF7 (by first | assumption | omega | rfl | (congr 1; omega)) (by first | assumption | omega | rfl | (congr 1; omega)) (by first | assumption | omega | rfl | (congr 1; omega)) (by first | assumption | omega | rfl | (congr 1; omega)) (by first | assumption | omega | rfl | (congr 1; omega)) (by first | assumption | omega | rfl | (congr 1; omega))) ⟨cbE 2 (wd_561 hE) (wd_118 hE) (wd_558 hE) rfl rfl (by decide +kernel) ⟨Nat.le_of_ble_eq_true rfl, Nat.le_of_ble_eq_true rfl⟩, (wd_560 hE), (wd_10 hE)⟩ ⟨PQ.blind, q_recv 0 (by decide) rfl hK hP rfl, (q_pre (av := [.ref (b 0), .int 0, .int (nI 6)]) hK hP hJ hE)⟩ rfl rfl hl.1 rfl (lv_room (Nat.le_of_ble_eq_true rfl)) dX5_readStep_20 ⟨Nat.le_of_ble_eq_true rfl, Nat.le_of_ble_eq_true rfl⟩) (fun r11 u11 H locs hpo11 hP hS => ?_)
    obtain ⟨hr11, h11_0, h11_1, h11_2, hq11⟩ := hpo11
    have hA12 := (hq11.1 5 List.not_mem_nil).trans hAc5
    have hA13 := (hq11.1 2 List.not_mem_nil).trans hAc2
    have hA14 := (hq11.1 3 List.not_mem_nil).trans hAc3
    have hA15 := (hq11.1 4 List.not_mem_nil).trans hAc4
    have hA16 := (hq11.1 7 List.not_mem_nil).trans hAc7
    have hF17x := (hq11.2.1 13 (by decide)).trans hF13
    have hF18x := (hq11.2.1 14 (by decide)).trans hF14
    have hF19x := (hq11.2.1 15 (by decide)).trans hF15
    have hF20x := (hq11.2.1 4 (by decide)).trans hF4
    have hF21x := (hq11.2.1 6 (by decide)).trans hF6
    have hF22x := (hq11.2.1 23 (by decide)).trans hF23
    have hF23x := (hq11.2.1 5 (by decide)).trans hF5
    have hfr := FR.step hfr hq11 (fun _ h => absurd h List.not_mem_nil) (by decide) (fun h => rfl)
    subst hr11
    refine lv_if_ne (tgt := 27) hx hb dX5_readStep_23 (by decide) (fun c24 => absurd c24 (by decide)) (fun c24 => ?_)
    have SF : ∃ k q j : Nat, 1 ≤ k ∧ k ≤ 9 ∧ FQ u11 k q ln ∧ (j ≤ c1 ∧ rF u11 4 = nI j) ∧ ∀ f, pSteps tx sz1 gg (f + 1) h0 cw (bgi tx sz1 i0) = (k, q) := ⟨6, (bgi tx sz1 i0), _, by decide, by decide, ⟨h11_0, h11_1, h11_2⟩, ⟨by omega, hF20x⟩, fun f => by rw [show cw = 24 by omega]; exact pt_6 hp5⟩
    exact W.vret hx hb hr (fun t ht hW => ⟨⟨u11, rfl, ⟨(by first | exact Or.inl SF | exact Or.inl ⟨3, bgi tx sz1 (i0 + 1), _, by decide, by decide, ⟨h11_0, h11_1, h11_2⟩, ⟨by omega, hF20x⟩, fun f => pt_3 hp5 (show cw ≠ 24 by omega) K6 EV⟩ | exact Or.inl ⟨5, bgi tx sz1 (i0 + 1), _, by decide, by decide, ⟨h11_0, h11_1, h11_2⟩, ⟨by omega, hF20x⟩, fun f => pt_5 hp5 (show cw ≠ 24 by omega) K6 EV NE⟩ | exact Or.inr ⟨h11_0, h11_1, h11_2, by omega, hF22x, hF20x, by omega, _, DL, hF23x, fun f => by rw [PO f, SG, ← VQ]⟩), hfr⟩, (show va_P (dC, dI) vwCl (qW cs b u11) t.heap by rw [ht]; exact hP)⟩, hS.F ht⟩) hS.2.2 dX5_readStep_26
  · have c10 := mt (b_le (show Int32.toInt 24 = 24 from rfl) (nI_toInt (n := cw) (by omega))).mpr c10
    refine lv_iconst (v := 1) hx hb dX5_readStep_13 (by decide) ?_
    refine lv_goto (tgt := 18) hx hb dX5_readStep_14 (by decide) ?_
    refine lv_bipush (v := 6) hx hb dX5_readStep_18 (by decide) ?_
    refine vp_callSi (va_Run.run (va_runV (As := [.int 1, .int (nI 6)]) (rest := []) ⟨hx, hb, hml, hown, noTs⟩ (q_X5_passes_1 l dC dI s.heap.size cs b u 6 hF7) ⟨cbE 2 (wd_561 hE) (wd_118 hE) (wd_558 hE) rfl rfl (by decide +kernel) ⟨Nat.le_of_ble_eq_true rfl, Nat.le_of_ble_eq_true rfl⟩, (wd_560 hE), (wd_10 hE)⟩ ⟨PQ.blind, q_recv 0 (by decide) rfl hK hP rfl, (q_pre (av := [.ref (b 0), .int 1, .int (nI 6)]) hK hP hJ hE)⟩ rfl rfl hl.1 rfl (lv_room (Nat.le_of_ble_eq_true rfl)) dX5_readStep_20 ⟨Nat.le_of_ble_eq_true rfl, Nat.le_of_ble_eq_true rfl⟩)) (fun r25 hr25 => ?_)
    subst hr25
    refine lv_if_ne (tgt := 27) hx hb dX5_readStep_23 (by decide) (fun c26 => ?_) (fun c26 => absurd c26 (by decide))
    refine lv_aload_n hx hb dX5_readStep_27 rfl (lv_at hl 0 rfl) ?_
    refine vp_callSi (va_Run.run (va_runV (As := []) (rest := []) ⟨hx, hb, hml, hown, noTs⟩ (q_X5_kind l dC dI s.heap.size cs b u tx hAc5 k2 hAc2 k3 hAc3 k4 hAc4 sz1 c1 i0 hF13 hF14 hF15 hF4 (by first | assumption | omega | rfl | (congr 1; omega)) (by first | assumption | omega | rfl | (congr 1; omega)) (by first | assumption | omega | rfl | (congr 1; omega)) (by first | assumption | omega | rfl | (congr 1; omega))) ⟨cbE 0 (wd_545 hE) (wd_118 hE) (wd_542 hE) rfl rfl (by decide +kernel) ⟨Nat.le_of_ble_eq_true rfl, Nat.le_of_ble_eq_true rfl⟩, (wd_544 hE), (wd_8 hE)⟩ ⟨PQ.blind, q_recv 0 (by decide) rfl hK hP rfl, (q_pre (av := [.ref (b 0)]) hK hP hJ hE)⟩ rfl rfl hl.1 rfl (lv_room (Nat.le_of_ble_eq_true rfl)) dX5_readStep_28 ⟨Nat.le_of_ble_eq_true rfl, Nat.le_of_ble_eq_true rfl⟩)) (fun r27 hr27 => ?_)
    subst hr27
    refine lv_bipush (v := 8) hx hb dX5_readStep_31 (by decide) ?_
    refine lv_icmp_ne (tgt := 40) hx hb dX5_readStep_33 (by decide) (fun c28 => ?_) (fun c28 => ?_)
    · have c28 := mt (b_eq (nI_toInt (n := kd tx sz1 (bgi tx sz1 i0)) (by omega)) (show Int32.toInt 8 = 8 from rfl)).mpr c28
      have SG : sgn tx sz1 (bgi tx sz1 i0) = 0 := sgn_0 (by omega)
      refine lv_iconst (v := 0) hx hb dX5_readStep_40 (by decide) ?_
      refine vp_callSi (va_Run.run (va_runSN (As := [.int 0]) (rest := []) ⟨hx, hb, hml, hown, noTs⟩ (q_X11_bit_0 l dC dI s.heap.size cs b u) ⟨cnE 1 (wd_669 hE) (wd_115 hE) (wd_667 hE) rfl rfl (by decide +kernel) ⟨Nat.le_of_ble_eq_true rfl, Nat.le_of_ble_eq_true rfl⟩, (wd_668 hE), trivial⟩ ⟨PQ.blind, (q_pre (av := [.int 0]) hK hP hJ hE)⟩ rfl rfl hl.1 rfl (lv_room (Nat.le_of_ble_eq_true rfl)) dX5_readStep_41 ⟨Nat.le_of_ble_eq_true rfl, Nat.le_of_ble_eq_true rfl⟩)) (fun r29 hr29 => ?_)
      subst hr29
      refine lv_istore_n (lv' := [(1, .int 0), (0, .ref (b 0))]) hx hb dX5_readStep_44 rfl hl (by decide) rfl (fun ls hl => ?_)
      refine lv_aload_n hx hb dX5_readStep_45 rfl (lv_at hl 1 rfl) ?_
      refine lv_dup hx hb dX5_readStep_46 rfl ?_
      refine q_get (v := .int (nI i0)) hx hb 0 (by decide) rfl (ly_X5 hE) hown hK hP rfl 4 (by decide) (wd_231 hE) (fun _ h9 => h9) (congrArg (fun z : Int32 => some (Value.int z)) hF4) dX5_readStep_47 ?_
      refine lv_iconst (v := 1) hx hb dX5_readStep_50 (by decide) ?_
      refine lv_iadd hx hb dX5_readStep_51 ?_
      refine W.eq (g2 := F0 m 52 ls [.int (nI (i0 + 1)), .ref (b 0)]) (congrArg (fun z : Int32 => F0 m 52 ls (.int z :: [.ref (b 0)])) (nI_add i0 1)) ?_
      refine q_put (v := nI (i0 + 1)) (ty := .int) hx hb 0 4 (by decide) (ly_X5 hE) tyX5 tyX5_ok nmX5 hown hK hP hJ hAL hS rfl 4 (by decide) (wd_231 hE) (fun _ h9 => h9) rfl (by decide +kernel) rfl rfl rfl rfl (qE_put0 (by decide)) (Nat.le_of_ble_eq_true rfl) dX5_readStep_52 (fun u30 H locs hf30 hq30 hP hS => ?_)
      have hA31 := (hq30.1 5 List.not_mem_nil).trans hAc5
      have hA32 := (hq30.1 2 List.not_mem_nil).trans hAc2
      have hA33 := (hq30.1 3 List.not_mem_nil).trans hAc3
      have hA34 := (hq30.1 4 List.not_mem_nil).trans hAc4
      have hA35 := (hq30.1 7 List.not_mem_nil).trans hAc7
      have hF36x := (hq30.2.1 13 (by decide)).trans hF13
      have hF37x := (hq30.2.1 14 (by decide)).trans hF14
      have hF38x := (hq30.2.1 15 (by decide)).trans hF15
      have hF39x := (hq30.2.1 6 (by decide)).trans hF6
      have hF40x := (hq30.2.1 7 (by decide)).trans hF7
      have hF41x := (hq30.2.1 8 (by decide)).trans hF8
      have hF42x := (hq30.2.1 9 (by decide)).trans hF9
      have hF43x := (hq30.2.1 23 (by decide)).trans hF23
      have hF44x := (hq30.2.1 5 (by decide)).trans hF5
      have hfr := FR.step hfr hq30 (fun _ h => absurd h List.not_mem_nil) (by decide) (fun h => rfl)
      have kdf1 := kd_f tx sz1 (bgi tx sz1 (i0 + 1))
      have bq1 : i0 + 1 = c1 → bgi tx sz1 (i0 + 1) = sz1 := fun h => by rw [h]; exact hp2.2.1
      have bz1 : i0 + 1 < c1 → bgi tx sz1 (i0 + 1) < sz1 := fun h => (hp2.2.2 _ h).1
      have vvl := vv_lt (tx := tx) (n := sz1) (p := bgi tx sz1 (i0 + 1))
      refine lv_iconst (v := 2) hx hb dX5_readStep_55 (by decide) ?_
      refine lv_aload_n hx hb dX5_readStep_56 rfl (lv_at hl 1 rfl) ?_
      refine vp_callSi (va_Run.run (va_runV (As := []) (rest := [.int 2]) ⟨hx, hb, hml, hown, noTs⟩ (q_X5_value l dC dI H.size cs b u30 tx hA31 k2 hA32 k3 hA33 k4 hA34 sz1 c1 (i0 + 1) hF36x hF37x hF38x hf30 (by first | assumption | omega | rfl | (congr 1; omega)) (by first | assumption | omega | rfl | (congr 1; omega)) (by first | assumption | omega | rfl | (congr 1; omega)) (by first | assumption | omega | rfl | (congr 1; omega))) ⟨cbE 0 (wd_569 hE) (wd_118 hE) (wd_566 hE) rfl rfl (by decide +kernel) ⟨Nat.le_of_ble_eq_true rfl, Nat.le_of_ble_eq_true rfl⟩, (wd_568 hE), (wd_11 hE)⟩ ⟨PQ.blind, q_recv 0 (by decide) rfl hK hP rfl, (q_pre (av := [.ref (b 0)]) hK hP hJ hE)⟩ rfl rfl hl.1 rfl (lv_room (Nat.le_of_ble_eq_true rfl)) dX5_readStep_57 ⟨Nat.le_of_ble_eq_true rfl, Nat.le_of_ble_eq_true rfl⟩)) (fun r45 hr45 => ?_)
      subst hr45
      refine lv_imul hx hb dX5_readStep_60 ?_
      refine W.eq (g2 := F0 m 61 ls [.int (nI (2 * (vv tx sz1 (bgi tx sz1 (i0 + 1)))))]) (congrArg (fun z : Int32 => F0 m 61 ls (.int z :: [])) (pk_mul 2 (vv tx sz1 (bgi tx sz1 (i0 + 1))))) ?_
      refine lv_iload_n hx hb dX5_readStep_61 rfl (lv_at hl 0 rfl) ?_
      refine lv_iadd hx hb dX5_readStep_62 ?_
      refine W.eq (g2 := F0 m 63 ls [.int (nI ((2 * (vv tx sz1 (bgi tx sz1 (i0 + 1)))) + 0))]) (congrArg (fun z : Int32 => F0 m 63 ls (.int z :: [])) (nI_add (2 * (vv tx sz1 (bgi tx sz1 (i0 + 1)))) 0)) ?_
      refine lv_istore_n (lv' := [(2, .int (nI ((2 * (vv tx sz1 (bgi tx sz1 (i0 + 1)))) + 0))), (1, .int 0), (0, .ref (b 0))]) hx hb dX5_readStep_63 rfl hl (by decide) rfl (fun ls hl => ?_)
      refine lv_aload_n hx hb dX5_readStep_64 rfl (lv_at hl 2 rfl) ?_
      refine lv_bipush (v := 6) hx hb dX5_readStep_65 (by decide) ?_
      refine qc_i hAL hS hA (va_runV (As := [.int (nI 6)]) (rest := []) ⟨hx, hb, hml, hown, noTs⟩ (q_X5_stands l dC dI H.size cs b u30 tx hA31 k2 hA32 k3 hA33 k4 hA34 6 sz1 c1 (i0 + 1) ln x8 x9 hF36x hF37x hF38x hf30 hF39x hF40x hF41x hF42x (by first | assumption | omega | rfl | (congr 1; omega)) (by first | assumption | omega | rfl | (congr 1; omega)) (by first | assumption | omega | rfl | (congr 1; omega)) (by first | assumption | omega | rfl | (congr 1; omega)) (by first | assumption | omega | rfl | (congr 1; omega))) ⟨cbE 1 (wd_577 hE) (wd_118 hE) (wd_574 hE) rfl rfl (by decide +kernel) ⟨Nat.le_of_ble_eq_true rfl, Nat.le_of_ble_eq_true rfl⟩, (wd_576 hE), (wd_12 hE)⟩ ⟨PQ.blind, q_recv 0 (by decide) rfl hK hP rfl, (q_pre (av := [.ref (b 0), .int (nI 6)]) hK hP hJ hE)⟩ rfl rfl hl.1 rfl (lv_room (Nat.le_of_ble_eq_true rfl)) dX5_readStep_67 ⟨Nat.le_of_ble_eq_true rfl, Nat.le_of_ble_eq_true rfl⟩) (fun r46 u46 H locs hpo46 hP hS => ?_)
      obtain ⟨hr46, hq46⟩ := hpo46
      have hA47 := (hq46.1 5 List.not_mem_nil).trans hA31
      have hA48 := (hq46.1 2 List.not_mem_nil).trans hA32
      have hA49 := (hq46.1 3 List.not_mem_nil).trans hA33
      have hA50 := (hq46.1 4 List.not_mem_nil).trans hA34
      have hA51 := (hq46.1 7 List.not_mem_nil).trans hA35
      have hF52x := (hq46.2.1 13 (by decide)).trans hF36x
      have hF53x := (hq46.2.1 14 (by decide)).trans hF37x
      have hF54x := (hq46.2.1 15 (by decide)).trans hF38x
      have hF55x := (hq46.2.1 6 (by decide)).trans hF39x
      have hF56x := (hq46.2.1 23 (by decide)).trans hF43x
      have hF57x := (hq46.2.1 5 (by decide)).trans hF44x
      have hF58x := (hq46.2.1 4 (by decide)).trans hf30
      have hfr := FR.step hfr hq46 (fun _ h => absurd h List.not_mem_nil) (by decide) (fun h => rfl)
      rcases hr46 with ⟨rfl, hb46⟩ | ⟨rfl, hb46⟩
      · have K6 := hb46.1
        have VQ : vv tx sz1 (bgi tx sz1 (i0 + 1)) = vl tx sz1 (bgi tx sz1 (i0 + 1)) := by unfold vv; rw [if_pos K6]
        refine lv_if_eq (tgt := 119) hx hb dX5_readStep_70 (by decide) (fun c59 => absurd c59 (by decide)) (fun c59 => ?_)
        refine lv_aload_n hx hb dX5_readStep_73 rfl (lv_at hl 2 rfl) ?_
        refine lv_aload_n hx hb dX5_readStep_74 rfl (lv_at hl 2 rfl) ?_
        refine q_get (v := .ref (b 6)) hx hb 0 (by decide) rfl (ly_X5 hE) hown hK hP rfl 1 (by decide) (wd_228 hE) (fun _ h9 => h9) rfl dX5_readStep_75 ?_
        refine lv_iload_n hx hb dX5_readStep_78 rfl (lv_at hl 0 rfl) ?_
        refine lv_iconst (v := 1) hx hb dX5_readStep_79 (by decide) ?_
        refine lv_ishr hx hb dX5_readStep_80 ?_
        refine lv_topi (fun x60 ex60 => ?_)
        have hi61 : x60 = nI (vl tx sz1 (bgi tx sz1 (i0 + 1))) := (ex60).trans ((nI_shr1 (by omega)).trans (congrArg nI (by omega)))
        subst hi61
        have hti62 := nI_toInt (n := vl tx sz1 (bgi tx sz1 (i0 + 1))) (by omega)
        refine vp_callSi (va_Run.run (va_runV (As := [.int (nI (vl tx sz1 (bgi tx sz1 (i0 + 1))))]) (rest := [.ref (b 0)]) ⟨hx, hb, hml, hown, noTs⟩ (q_X7_hasEdge l dC dI H.size cs b u46 dg hA51 (vl tx sz1 (bgi tx sz1 (i0 + 1))) gg (by first | assumption | omega | rfl | (congr 1; omega)) (by first | assumption | omega | rfl | (congr 1; omega))) ⟨cbE 1 (wd_673 hE) (wd_116 hE) (wd_670 hE) rfl rfl (by decide +kernel) ⟨Nat.le_of_ble_eq_true rfl, Nat.le_of_ble_eq_true rfl⟩, (wd_671 hE), (wd_672 hE)⟩ ⟨PQ.blind, q_recv 6 (by decide) rfl hK hP rfl, (q_pre (av := [.ref (b 6), .int (nI (vl tx sz1 (bgi tx sz1 (i0 + 1))))]) hK hP hJ hE)⟩ rfl rfl hl.1 rfl (lv_room (Nat.le_of_ble_eq_true rfl)) dX5_readStep_81 ⟨Nat.le_of_ble_eq_true rfl, Nat.le_of_ble_eq_true rfl⟩)) (fun r63 hr63 => ?_)
        rcases hr63 with ⟨rfl, hb63⟩ | ⟨rfl, hb63⟩
        · have EV := hb63
          refine lv_iconst (v := 3) hx hb dX5_readStep_84 (by decide) ?_
          refine vp_callSi (va_Run.run (va_runV (As := [.int 1, .int (nI 3)]) (rest := []) ⟨hx, hb, hml, hown, noTs⟩ (q_X5_passes_1 l dC dI H.size cs b u46 3 hb46.2.1) ⟨cbE 2 (wd_561 hE) (wd_118 hE) (wd_558 hE) rfl rfl (by decide +kernel) ⟨Nat.le_of_ble_eq_true rfl, Nat.le_of_ble_eq_true rfl⟩, (wd_560 hE), (wd_10 hE)⟩ ⟨PQ.blind, q_recv 0 (by decide) rfl hK hP rfl, (q_pre (av := [.ref (b 0), .int 1, .int (nI 3)]) hK hP hJ hE)⟩ rfl rfl hl.1 rfl (lv_room (Nat.le_of_ble_eq_true rfl)) dX5_readStep_85 ⟨Nat.le_of_ble_eq_true rfl, Nat.le_of_ble_eq_true rfl⟩)) (fun r64 hr64 => ?_)
          subst hr64
          refine lv_if_eq (tgt := 119) hx hb dX5_readStep_88 (by decide) (fun c65 => absurd c65 (by decide)) (fun c65 => ?_)
          refine lv_aload_n hx hb dX5_readStep_91 rfl (lv_at hl 2 rfl) ?_
          refine lv_aload_n hx hb dX5_readStep_92 rfl (lv_at hl 2 rfl) ?_
          refine q_get (v := .ref (b 6)) hx hb 0 (by decide) rfl (ly_X5 hE) hown hK hP rfl 1 (by decide) (wd_228 hE) (fun _ h9 => h9) rfl dX5_readStep_93 ?_
          refine lv_iload_n hx hb dX5_readStep_96 rfl (lv_at hl 0 rfl) ?_
          refine vp_callSi (va_Run.run (va_runV (As := [.int (nI ((2 * (vv tx sz1 (bgi tx sz1 (i0 + 1)))) + 0))]) (rest := [.ref (b 0)]) ⟨hx, hb, hml, hown, noTs⟩ (q_X7_fromVertex l dC dI H.size cs b u46 dg hA51 ((2 * (vv tx sz1 (bgi tx sz1 (i0 + 1)))) + 0) gg (by first | assumption | omega | rfl | (congr 1; omega)) (by first | assumption | omega | rfl | (congr 1; omega))) ⟨cbE 1 (wd_677 hE) (wd_116 hE) (wd_674 hE) rfl rfl (by decide +kernel) ⟨Nat.le_of_ble_eq_true rfl, Nat.le_of_ble_eq_true rfl⟩, (wd_675 hE), (wd_676 hE)⟩ ⟨PQ.blind, q_recv 6 (by decide) rfl hK hP rfl, (q_pre (av := [.ref (b 6), .int (nI ((2 * (vv tx sz1 (bgi tx sz1 (i0 + 1)))) + 0))]) hK hP hJ hE)⟩ rfl rfl hl.1 rfl (lv_room (Nat.le_of_ble_eq_true rfl)) dX5_readStep_97 ⟨Nat.le_of_ble_eq_true rfl, Nat.le_of_ble_eq_true rfl⟩)) (fun r66 hr66 => ?_)
          have SL := dg_src (s := ((2 * (vv tx sz1 (bgi tx sz1 (i0 + 1)))) + 0)) hp4 (by omega)
          subst hr66
          refine lv_aload_n hx hb dX5_readStep_100 rfl (lv_at hl 2 rfl) ?_
          refine q_get (v := .int (nI h0)) hx hb 0 (by decide) rfl (ly_X5 hE) hown hK hP rfl 5 (by decide) (wd_232 hE) (fun _ h9 => h9) (congrArg (fun z : Int32 => some (Value.int z)) hF57x) dX5_readStep_101 ?_
          refine lv_icmp_ne (tgt := 111) hx hb dX5_readStep_104 (by decide) (fun c67 => ?_) (fun c67 => ?_)
          · have c67 := mt (b_eq (nI_toInt (n := pSrc gg ((2 * (vv tx sz1 (bgi tx sz1 (i0 + 1)))) + 0)) (by omega)) (nI_toInt (n := h0) (by omega))).mpr c67
            have NE : pSrc gg (2 * vl tx sz1 (bgi tx sz1 (i0 + 1)) + sgn tx sz1 (bgi tx sz1 i0)) ≠ h0 := by rw [SG, ← VQ]; omega
            refine lv_iconst (v := 0) hx hb dX5_readStep_111 (by decide) ?_
            refine lv_iconst (v := 5) hx hb dX5_readStep_112 (by decide) ?_
            refine qc_i hAL hS hA (va_runV (As := [.int 0, .int (nI 5)]) (rest := []) ⟨hx, hb, hml, hown, noTs⟩ (q_X5_passes_0 l dC dI H.size cs b u46 tx hA47 k2 hA48 k3 hA49 k4 hA50 5 sz1 c1 (i0 + 1) ln hF52x hF53x hF54x hF58x hF55x hb46.2.1 (by first | assumption | omega | rfl | (congr 1; omega)) (by first | assumption | omega | rfl | (congr 1; omega)) (by first | assumption | omega | rfl | (congr 1; omega)) (by first | assumption | omega | rfl | (congr 1; omega)) (by first | assumption | omega | rfl | (congr 1; omega)) (by first | assumption | omega | rfl | (congr 1; omega))) ⟨cbE 2 (wd_561 hE) (wd_118 hE) (wd_558 hE) rfl rfl (by decide +kernel) ⟨Nat.le_of_ble_eq_true rfl, Nat.le_of_ble_eq_true rfl⟩, (wd_560 hE), (wd_10 hE)⟩ ⟨PQ.blind, q_recv 0 (by decide) rfl hK hP rfl, (q_pre (av := [.ref (b 0), .int 0, .int (nI 5)]) hK hP hJ hE)⟩ rfl rfl hl.1 rfl (lv_room (Nat.le_of_ble_eq_true rfl)) dX5_readStep_113 ⟨Nat.le_of_ble_eq_true rfl, Nat.le_of_ble_eq_true rfl⟩) (fun r68 u68 H locs hpo68 hP hS => ?_)
            obtain ⟨hr68, h68_0, h68_1, h68_2, hq68⟩ := hpo68
            have hA69 := (hq68.1 5 List.not_mem_nil).trans hA47
            have hA70 := (hq68.1 2 List.not_mem_nil).trans hA48
            have hA71 := (hq68.1 3 List.not_mem_nil).trans hA49
            have hA72 := (hq68.1 4 List.not_mem_nil).trans hA50
            have hA73 := (hq68.1 7 List.not_mem_nil).trans hA51
            have hF74x := (hq68.2.1 13 (by decide)).trans hF52x
            have hF75x := (hq68.2.1 14 (by decide)).trans hF53x
            have hF76x := (hq68.2.1 15 (by decide)).trans hF54x
            have hF77x := (hq68.2.1 6 (by decide)).trans hF55x
            have hF78x := (hq68.2.1 23 (by decide)).trans hF56x
            have hF79x := (hq68.2.1 5 (by decide)).trans hF57x
            have hF80x := (hq68.2.1 4 (by decide)).trans hF58x
            have hfr := FR.step hfr hq68 (fun _ h => absurd h List.not_mem_nil) (by decide) (fun h => rfl)
            subst hr68
            refine lv_if_ne (tgt := 120) hx hb dX5_readStep_116 (by decide) (fun c81 => absurd c81 (by decide)) (fun c81 => ?_)
            exact W.vret hx hb hr (fun t ht hW => ⟨⟨u68, rfl, ⟨(by first | exact Or.inl SF | exact Or.inl ⟨3, bgi tx sz1 (i0 + 1), _, by decide, by decide, ⟨h68_0, h68_1, h68_2⟩, ⟨by omega, hF80x⟩, fun f => pt_3 hp5 (show cw ≠ 24 by omega) K6 EV⟩ | exact Or.inl ⟨5, bgi tx sz1 (i0 + 1), _, by decide, by decide, ⟨h68_0, h68_1, h68_2⟩, ⟨by omega, hF80x⟩, fun f => pt_5 hp5 (show cw ≠ 24 by omega) K6 EV NE⟩ | exact Or.inr ⟨h68_0, h68_1, h68_2, by omega, hF78x, hF80x, by omega, _, DL, hF79x, fun f => by rw [PO f, SG, ← VQ]⟩), hfr⟩, (show va_P (dC, dI) vwCl (qW cs b u68) t.heap by rw [ht]; exact hP)⟩, hS.F ht⟩) hS.2.2 dX5_readStep_119
          · have c67 := (b_eq (nI_toInt (n := pSrc gg ((2 * (vv tx sz1 (bgi tx sz1 (i0 + 1)))) + 0)) (by omega)) (nI_toInt (n := h0) (by omega))).mp c67
            have QE : pSrc gg (2 * vl tx sz1 (bgi tx sz1 (i0 + 1)) + sgn tx sz1 (bgi tx sz1 i0)) = h0 := by rw [SG, ← VQ]; omega
            have PO : ∀ f, pSteps tx sz1 gg (f + 1) h0 cw (bgi tx sz1 i0) = pSteps tx sz1 gg f (pDst gg (2 * vl tx sz1 (bgi tx sz1 (i0 + 1)) + sgn tx sz1 (bgi tx sz1 i0))) (cw + 1) (pNum tx sz1 (bgi tx sz1 (i0 + 1 + 1))) := fun f => pt_ok hp5 (show cw ≠ 24 by omega) K6 EV QE
            refine lv_iconst (v := 1) hx hb dX5_readStep_107 (by decide) ?_
            refine lv_goto (tgt := 112) hx hb dX5_readStep_108 (by decide) ?_
            refine lv_iconst (v := 5) hx hb dX5_readStep_112 (by decide) ?_
            refine vp_callSi (va_Run.run (va_runV (As := [.int 1, .int (nI 5)]) (rest := []) ⟨hx, hb, hml, hown, noTs⟩ (q_X5_passes_1 l dC dI H.size cs b u46 5 hb46.2.1) ⟨cbE 2 (wd_561 hE) (wd_118 hE) (wd_558 hE) rfl rfl (by decide +kernel) ⟨Nat.le_of_ble_eq_true rfl, Nat.le_of_ble_eq_true rfl⟩, (wd_560 hE), (wd_10 hE)⟩ ⟨PQ.blind, q_recv 0 (by decide) rfl hK hP rfl, (q_pre (av := [.ref (b 0), .int 1, .int (nI 5)]) hK hP hJ hE)⟩ rfl rfl hl.1 rfl (lv_room (Nat.le_of_ble_eq_true rfl)) dX5_readStep_113 ⟨Nat.le_of_ble_eq_true rfl, Nat.le_of_ble_eq_true rfl⟩)) (fun r82 hr82 => ?_)
            subst hr82
            refine lv_if_ne (tgt := 120) hx hb dX5_readStep_116 (by decide) (fun c83 => ?_) (fun c83 => absurd c83 (by decide))
            refine lv_aload_n hx hb dX5_readStep_120 rfl (lv_at hl 2 rfl) ?_
            refine q_get (v := .ref (b 8)) hx hb 0 (by decide) rfl (ly_X5 hE) hown hK hP rfl 2 (by decide) (wd_229 hE) (fun _ h9 => h9) rfl dX5_readStep_121 ?_
            refine lv_iload_n hx hb dX5_readStep_124 rfl (lv_at hl 0 rfl) ?_
            refine lv_iconst (v := 0) hx hb dX5_readStep_125 (by decide) ?_
            refine qc_v hAL hS hA (va_runV (As := [.int (nI ((2 * (vv tx sz1 (bgi tx sz1 (i0 + 1)))) + 0)), .int 0]) (rest := []) ⟨hx, hb, hml, hown, noTs⟩ (q_X10_push l dC dI H.size cs b u46 (nI ((2 * (vv tx sz1 (bgi tx sz1 (i0 + 1)))) + 0)) 0 cw hF56x (by first | assumption | omega | rfl | (congr 1; omega))) ⟨cbE 2 (wd_688 hE) (wd_120 hE) (wd_685 hE) rfl rfl (by decide +kernel) ⟨Nat.le_of_ble_eq_true rfl, Nat.le_of_ble_eq_true rfl⟩, (wd_686 hE), (wd_687 hE)⟩ ⟨PQ.blind, q_recv 8 (by decide) rfl hK hP rfl, (q_pre (av := [.ref (b 8), .int (nI ((2 * (vv tx sz1 (bgi tx sz1 (i0 + 1)))) + 0)), .int 0]) hK hP hJ hE)⟩ rfl rfl hl.1 rfl (lv_room (Nat.le_of_ble_eq_true rfl)) dX5_readStep_126 ⟨Nat.le_of_ble_eq_true rfl, Nat.le_of_ble_eq_true rfl⟩) (fun u84 H locs hpo84 hP hS => ?_)
            obtain ⟨h84_0, hq84⟩ := hpo84
            have hA85 := (hq84.1 5 (by decide)).trans hA47
            have hA86 := (hq84.1 2 (by decide)).trans hA48
            have hA87 := (hq84.1 3 (by decide)).trans hA49
            have hA88 := (hq84.1 4 (by decide)).trans hA50
            have hA89 := (hq84.1 7 (by decide)).trans hA51
            have hF90x := (hq84.2.1 13 (by decide)).trans hF52x
            have hF91x := (hq84.2.1 14 (by decide)).trans hF53x
            have hF92x := (hq84.2.1 15 (by decide)).trans hF54x
            have hF93x := (hq84.2.1 6 (by decide)).trans hF55x
            have hF94x := (hq84.2.1 5 (by decide)).trans hF57x
            have hF95x := (hq84.2.1 4 (by decide)).trans hF58x
            have hF96x := (hq84.2.1 7 (by decide)).trans hb46.2.1
            have hF97x := (hq84.2.1 8 (by decide)).trans hb46.2.2.1
            have hF98x := (hq84.2.1 9 (by decide)).trans hb46.2.2.2
            have hfr := FR.step hfr hq84 (by decide) (by decide) (fun h => rfl)
            refine lv_aload_n hx hb dX5_readStep_129 rfl (lv_at hl 2 rfl) ?_
            refine lv_aload_n hx hb dX5_readStep_130 rfl (lv_at hl 2 rfl) ?_
            refine q_get (v := .ref (b 6)) hx hb 0 (by decide) rfl (ly_X5 hE) hown hK hP rfl 1 (by decide) (wd_228 hE) (fun _ h9 => h9) rfl dX5_readStep_131 ?_
            refine lv_iload_n hx hb dX5_readStep_134 rfl (lv_at hl 0 rfl) ?_
            refine vp_callSi (va_Run.run (va_runV (As := [.int (nI ((2 * (vv tx sz1 (bgi tx sz1 (i0 + 1)))) + 0))]) (rest := [.ref (b 0)]) ⟨hx, hb, hml, hown, noTs⟩ (q_X7_toVertex l dC dI H.size cs b u84 dg hA89 ((2 * (vv tx sz1 (bgi tx sz1 (i0 + 1)))) + 0) gg (by first | assumption | omega | rfl | (congr 1; omega)) (by first | assumption | omega | rfl | (congr 1; omega))) ⟨cbE 1 (wd_692 hE) (wd_116 hE) (wd_689 hE) rfl rfl (by decide +kernel) ⟨Nat.le_of_ble_eq_true rfl, Nat.le_of_ble_eq_true rfl⟩, (wd_690 hE), (wd_691 hE)⟩ ⟨PQ.blind, q_recv 6 (by decide) rfl hK hP rfl, (q_pre (av := [.ref (b 6), .int (nI ((2 * (vv tx sz1 (bgi tx sz1 (i0 + 1)))) + 0))]) hK hP hJ hE)⟩ rfl rfl hl.1 rfl (lv_room (Nat.le_of_ble_eq_true rfl)) dX5_readStep_135 ⟨Nat.le_of_ble_eq_true rfl, Nat.le_of_ble_eq_true rfl⟩)) (fun r99 hr99 => ?_)
            have DL := dg_dst (s := ((2 * (vv tx sz1 (bgi tx sz1 (i0 + 1)))) + 0)) hp4 (by omega)
            subst hr99
            refine q_put (v := nI (pDst gg ((2 * (vv tx sz1 (bgi tx sz1 (i0 + 1)))) + 0))) (ty := .int) hx hb 0 5 (by decide) (ly_X5 hE) tyX5 tyX5_ok nmX5 hown hK hP hJ hAL hS rfl 5 (by decide) (wd_232 hE) (fun _ h9 => h9) rfl (by decide +kernel) rfl rfl rfl rfl (qE_put0 (by decide)) (Nat.le_of_ble_eq_true rfl) dX5_readStep_138 (fun u100 H locs hf100 hq100 hP hS => ?_)
            have hA101 := (hq100.1 5 List.not_mem_nil).trans hA85
            have hA102 := (hq100.1 2 List.not_mem_nil).trans hA86
            have hA103 := (hq100.1 3 List.not_mem_nil).trans hA87
            have hA104 := (hq100.1 4 List.not_mem_nil).trans hA88
            have hA105 := (hq100.1 7 List.not_mem_nil).trans hA89
            have hF106x := (hq100.2.1 13 (by decide)).trans hF90x
            have hF107x := (hq100.2.1 14 (by decide)).trans hF91x
            have hF108x := (hq100.2.1 15 (by decide)).trans hF92x
            have hF109x := (hq100.2.1 6 (by decide)).trans hF93x
            have hF110x := (hq100.2.1 4 (by decide)).trans hF95x
            have hF111x := (hq100.2.1 7 (by decide)).trans hF96x
            have hF112x := (hq100.2.1 8 (by decide)).trans hF97x
            have hF113x := (hq100.2.1 9 (by decide)).trans hF98x
            have hF114x := (hq100.2.1 23 (by decide)).trans h84_0
            have hfr := FR.step hfr hq100 (fun _ h => absurd h List.not_mem_nil) (by decide) (fun h => rfl)
            refine lv_aload_n hx hb dX5_readStep_141 rfl (lv_at hl 2 rfl) ?_
            refine lv_dup hx hb dX5_readStep_142 rfl ?_
            refine q_get (v := .int (nI (i0 + 1))) hx hb 0 (by decide) rfl (ly_X5 hE) hown hK hP rfl 4 (by decide) (wd_231 hE) (fun _ h9 => h9) (congrArg (fun z : Int32 => some (Value.int z)) hF110x) dX5_readStep_143 ?_
            refine lv_iconst (v := 1) hx hb dX5_readStep_146 (by decide) ?_
            refine lv_iadd hx hb dX5_readStep_147 ?_
            refine W.eq (g2 := F0 m 148 ls [.int (nI ((i0 + 1) + 1)), .ref (b 0)]) (congrArg (fun z : Int32 => F0 m 148 ls (.int z :: [.ref (b 0)])) (nI_add (i0 + 1) 1)) ?_
            refine q_put (v := nI ((i0 + 1) + 1)) (ty := .int) hx hb 0 4 (by decide) (ly_X5 hE) tyX5 tyX5_ok nmX5 hown hK hP hJ hAL hS rfl 4 (by decide) (wd_231 hE) (fun _ h9 => h9) rfl (by decide +kernel) rfl rfl rfl rfl (qE_put0 (by decide)) (Nat.le_of_ble_eq_true rfl) dX5_readStep_148 (fun u115 H locs hf115 hq115 hP hS => ?_)
            have hA116 := (hq115.1 5 List.not_mem_nil).trans hA101
            have hA117 := (hq115.1 2 List.not_mem_nil).trans hA102
            have hA118 := (hq115.1 3 List.not_mem_nil).trans hA103
            have hA119 := (hq115.1 4 List.not_mem_nil).trans hA104
            have hA120 := (hq115.1 7 List.not_mem_nil).trans hA105
            have hF121x := (hq115.2.1 13 (by decide)).trans hF106x
            have hF122x := (hq115.2.1 14 (by decide)).trans hF107x
            have hF123x := (hq115.2.1 15 (by decide)).trans hF108x
            have hF124x := (hq115.2.1 6 (by decide)).trans hF109x
            have hF125x := (hq115.2.1 7 (by decide)).trans hF111x
            have hF126x := (hq115.2.1 8 (by decide)).trans hF112x
            have hF127x := (hq115.2.1 9 (by decide)).trans hF113x
            have hF128x := (hq115.2.1 23 (by decide)).trans hF114x
            have hF129x := (hq115.2.1 5 (by decide)).trans hf100
            have hfr := FR.step hfr hq115 (fun _ h => absurd h List.not_mem_nil) (by decide) (fun h => rfl)
            exact W.vret hx hb hr (fun t ht hW => ⟨⟨u115, rfl, ⟨(by first | exact Or.inl SF | exact Or.inl ⟨3, bgi tx sz1 (i0 + 1), _, by decide, by decide, ⟨hF125x, hF126x, hF127x⟩, ⟨by omega, hf115⟩, fun f => pt_3 hp5 (show cw ≠ 24 by omega) K6 EV⟩ | exact Or.inl ⟨5, bgi tx sz1 (i0 + 1), _, by decide, by decide, ⟨hF125x, hF126x, hF127x⟩, ⟨by omega, hf115⟩, fun f => pt_5 hp5 (show cw ≠ 24 by omega) K6 EV NE⟩ | exact Or.inr ⟨hF125x, hF126x, hF127x, by omega, hF128x, hf115, by omega, _, DL, hF129x, fun f => by rw [PO f, SG, ← VQ]⟩), hfr⟩, (show va_P (dC, dI) vwCl (qW cs b u115) t.heap by rw [ht]; exact hP)⟩, hS.F ht⟩) hS.2.2 dX5_readStep_151
        · have EV := hb63
          refine lv_iconst (v := 3) hx hb dX5_readStep_84 (by decide) ?_
          refine qc_i hAL hS hA (va_runV (As := [.int 0, .int (nI 3)]) (rest := []) ⟨hx, hb, hml, hown, noTs⟩ (q_X5_passes_0 l dC dI H.size cs b u46 tx hA47 k2 hA48 k3 hA49 k4 hA50 3 sz1 c1 (i0 + 1) ln hF52x hF53x hF54x hF58x hF55x hb46.2.1 (by first | assumption | omega | rfl | (congr 1; omega)) (by first | assumption | omega | rfl | (congr 1; omega)) (by first | assumption | omega | rfl | (congr 1; omega)) (by first | assumption | omega | rfl | (congr 1; omega)) (by first | assumption | omega | rfl | (congr 1; omega)) (by first | assumption | omega | rfl | (congr 1; omega))) ⟨cbE 2 (wd_561 hE) (wd_118 hE) (wd_558 hE) rfl rfl (by decide +kernel) ⟨Nat.le_of_ble_eq_true rfl, Nat.le_of_ble_eq_true rfl⟩, (wd_560 hE), (wd_10 hE)⟩ ⟨PQ.blind, q_recv 0 (by decide) rfl hK hP rfl, (q_pre (av := [.ref (b 0), .int 0, .int (nI 3)]) hK hP hJ hE)⟩ rfl rfl hl.1 rfl (lv_room (Nat.le_of_ble_eq_true rfl)) dX5_readStep_85 ⟨Nat.le_of_ble_eq_true rfl, Nat.le_of_ble_eq_true rfl⟩) (fun r130 u130 H locs hpo130 hP hS => ?_)
          obtain ⟨hr130, h130_0, h130_1, h130_2, hq130⟩ := hpo130
          have hA131 := (hq130.1 5 List.not_mem_nil).trans hA47
          have hA132 := (hq130.1 2 List.not_mem_nil).trans hA48
          have hA133 := (hq130.1 3 List.not_mem_nil).trans hA49
          have hA134 := (hq130.1 4 List.not_mem_nil).trans hA50
          have hA135 := (hq130.1 7 List.not_mem_nil).trans hA51
          have hF136x := (hq130.2.1 13 (by decide)).trans hF52x
          have hF137x := (hq130.2.1 14 (by decide)).trans hF53x
          have hF138x := (hq130.2.1 15 (by decide)).trans hF54x
          have hF139x := (hq130.2.1 6 (by decide)).trans hF55x
          have hF140x := (hq130.2.1 23 (by decide)).trans hF56x
          have hF141x := (hq130.2.1 5 (by decide)).trans hF57x
          have hF142x := (hq130.2.1 4 (by decide)).trans hF58x
          have hfr := FR.step hfr hq130 (fun _ h => absurd h List.not_mem_nil) (by decide) (fun h => rfl)
          subst hr130
          refine lv_if_eq (tgt := 119) hx hb dX5_readStep_88 (by decide) (fun c143 => ?_) (fun c143 => absurd c143 (by decide))
          exact W.vret hx hb hr (fun t ht hW => ⟨⟨u130, rfl, ⟨(by first | exact Or.inl SF | exact Or.inl ⟨3, bgi tx sz1 (i0 + 1), _, by decide, by decide, ⟨h130_0, h130_1, h130_2⟩, ⟨by omega, hF142x⟩, fun f => pt_3 hp5 (show cw ≠ 24 by omega) K6 EV⟩ | exact Or.inl ⟨5, bgi tx sz1 (i0 + 1), _, by decide, by decide, ⟨h130_0, h130_1, h130_2⟩, ⟨by omega, hF142x⟩, fun f => pt_5 hp5 (show cw ≠ 24 by omega) K6 EV NE⟩ | exact Or.inr ⟨h130_0, h130_1, h130_2, by omega, hF140x, hF142x, by omega, _, DL, hF141x, fun f => by rw [PO f, SG, ← VQ]⟩), hfr⟩, (show va_P (dC, dI) vwCl (qW cs b u130) t.heap by rw [ht]; exact hP)⟩, hS.F ht⟩) hS.2.2 dX5_readStep_119
      · have bb := bad_b (kd tx sz1 (bgi tx sz1 (i0 + 1)))
        have SF : ∃ k q j : Nat, 1 ≤ k ∧ k ≤ 9 ∧ FQ u46 k q ln ∧ (j ≤ c1 ∧ rF u46 4 = nI j) ∧ ∀ f, pSteps tx sz1 gg (f + 1) h0 cw (bgi tx sz1 i0) = (k, q) := ⟨bad (kd tx sz1 (bgi tx sz1 (i0 + 1))), bgi tx sz1 (i0 + 1), _, bb.1, by omega, ⟨hb46.2.1, hb46.2.2.1, hb46.2.2.2⟩, ⟨by omega, hF58x⟩, fun f => pt_n hp5 (show cw ≠ 24 by omega) hb46.1⟩
        refine lv_if_eq (tgt := 119) hx hb dX5_readStep_70 (by decide) (fun c144 => ?_) (fun c144 => absurd c144 (by decide))
        exact W.vret hx hb hr (fun t ht hW => ⟨⟨u46, rfl, ⟨(by first | exact Or.inl SF | exact Or.inl ⟨3, bgi tx sz1 (i0 + 1), _, by decide, by decide, ⟨hb46.2.1, hb46.2.2.1, hb46.2.2.2⟩, ⟨by omega, hF58x⟩, fun f => pt_3 hp5 (show cw ≠ 24 by omega) K6 EV⟩ | exact Or.inl ⟨5, bgi tx sz1 (i0 + 1), _, by decide, by decide, ⟨hb46.2.1, hb46.2.2.1, hb46.2.2.2⟩, ⟨by omega, hF58x⟩, fun f => pt_5 hp5 (show cw ≠ 24 by omega) K6 EV NE⟩ | exact Or.inr ⟨hb46.2.1, hb46.2.2.1, hb46.2.2.2, by omega, hF56x, hF58x, by omega, _, DL, hF57x, fun f => by rw [PO f, SG, ← VQ]⟩), hfr⟩, (show va_P (dC, dI) vwCl (qW cs b u46) t.heap by rw [ht]; exact hP)⟩, hS.F ht⟩) hS.2.2 dX5_readStep_119
    · have c28 := (b_eq (nI_toInt (n := kd tx sz1 (bgi tx sz1 i0)) (by omega)) (show Int32.toInt 8 = 8 from rfl)).mp c28
      have SG : sgn tx sz1 (bgi tx sz1 i0) = 1 := sgn_1 (by omega)
      refine lv_iconst (v := 1) hx hb dX5_readStep_36 (by decide) ?_
      refine lv_goto (tgt := 41) hx hb dX5_readStep_37 (by decide) ?_
      refine vp_callSi (va_Run.run (va_runSN (As := [.int 1]) (rest := []) ⟨hx, hb, hml, hown, noTs⟩ (q_X11_bit_1 l dC dI s.heap.size cs b u) ⟨cnE 1 (wd_669 hE) (wd_115 hE) (wd_667 hE) rfl rfl (by decide +kernel) ⟨Nat.le_of_ble_eq_true rfl, Nat.le_of_ble_eq_true rfl⟩, (wd_668 hE), trivial⟩ ⟨PQ.blind, (q_pre (av := [.int 1]) hK hP hJ hE)⟩ rfl rfl hl.1 rfl (lv_room (Nat.le_of_ble_eq_true rfl)) dX5_readStep_41 ⟨Nat.le_of_ble_eq_true rfl, Nat.le_of_ble_eq_true rfl⟩)) (fun r145 hr145 => ?_)
      subst hr145
      refine lv_istore_n (lv' := [(1, .int 1), (0, .ref (b 0))]) hx hb dX5_readStep_44 rfl hl (by decide) rfl (fun ls hl => ?_)
      refine lv_aload_n hx hb dX5_readStep_45 rfl (lv_at hl 1 rfl) ?_
      refine lv_dup hx hb dX5_readStep_46 rfl ?_
      refine q_get (v := .int (nI i0)) hx hb 0 (by decide) rfl (ly_X5 hE) hown hK hP rfl 4 (by decide) (wd_231 hE) (fun _ h9 => h9) (congrArg (fun z : Int32 => some (Value.int z)) hF4) dX5_readStep_47 ?_
      refine lv_iconst (v := 1) hx hb dX5_readStep_50 (by decide) ?_
      refine lv_iadd hx hb dX5_readStep_51 ?_
      refine W.eq (g2 := F0 m 52 ls [.int (nI (i0 + 1)), .ref (b 0)]) (congrArg (fun z : Int32 => F0 m 52 ls (.int z :: [.ref (b 0)])) (nI_add i0 1)) ?_
      refine q_put (v := nI (i0 + 1)) (ty := .int) hx hb 0 4 (by decide) (ly_X5 hE) tyX5 tyX5_ok nmX5 hown hK hP hJ hAL hS rfl 4 (by decide) (wd_231 hE) (fun _ h9 => h9) rfl (by decide +kernel) rfl rfl rfl rfl (qE_put0 (by decide)) (Nat.le_of_ble_eq_true rfl) dX5_readStep_52 (fun u146 H locs hf146 hq146 hP hS => ?_)
      have hA147 := (hq146.1 5 List.not_mem_nil).trans hAc5
      have hA148 := (hq146.1 2 List.not_mem_nil).trans hAc2
      have hA149 := (hq146.1 3 List.not_mem_nil).trans hAc3
      have hA150 := (hq146.1 4 List.not_mem_nil).trans hAc4
      have hA151 := (hq146.1 7 List.not_mem_nil).trans hAc7
      have hF152x := (hq146.2.1 13 (by decide)).trans hF13
      have hF153x := (hq146.2.1 14 (by decide)).trans hF14
      have hF154x := (hq146.2.1 15 (by decide)).trans hF15
      have hF155x := (hq146.2.1 6 (by decide)).trans hF6
      have hF156x := (hq146.2.1 7 (by decide)).trans hF7
      have hF157x := (hq146.2.1 8 (by decide)).trans hF8
      have hF158x := (hq146.2.1 9 (by decide)).trans hF9
      have hF159x := (hq146.2.1 23 (by decide)).trans hF23
      have hF160x := (hq146.2.1 5 (by decide)).trans hF5
      have hfr := FR.step hfr hq146 (fun _ h => absurd h List.not_mem_nil) (by decide) (fun h => rfl)
      have kdf1 := kd_f tx sz1 (bgi tx sz1 (i0 + 1))
      have bq1 : i0 + 1 = c1 → bgi tx sz1 (i0 + 1) = sz1 := fun h => by rw [h]; exact hp2.2.1
      have bz1 : i0 + 1 < c1 → bgi tx sz1 (i0 + 1) < sz1 := fun h => (hp2.2.2 _ h).1
      have vvl := vv_lt (tx := tx) (n := sz1) (p := bgi tx sz1 (i0 + 1))
      refine lv_iconst (v := 2) hx hb dX5_readStep_55 (by decide) ?_
      refine lv_aload_n hx hb dX5_readStep_56 rfl (lv_at hl 1 rfl) ?_
      refine vp_callSi (va_Run.run (va_runV (As := []) (rest := [.int 2]) ⟨hx, hb, hml, hown, noTs⟩ (q_X5_value l dC dI H.size cs b u146 tx hA147 k2 hA148 k3 hA149 k4 hA150 sz1 c1 (i0 + 1) hF152x hF153x hF154x hf146 (by first | assumption | omega | rfl | (congr 1; omega)) (by first | assumption | omega | rfl | (congr 1; omega)) (by first | assumption | omega | rfl | (congr 1; omega)) (by first | assumption | omega | rfl | (congr 1; omega))) ⟨cbE 0 (wd_569 hE) (wd_118 hE) (wd_566 hE) rfl rfl (by decide +kernel) ⟨Nat.le_of_ble_eq_true rfl, Nat.le_of_ble_eq_true rfl⟩, (wd_568 hE), (wd_11 hE)⟩ ⟨PQ.blind, q_recv 0 (by decide) rfl hK hP rfl, (q_pre (av := [.ref (b 0)]) hK hP hJ hE)⟩ rfl rfl hl.1 rfl (lv_room (Nat.le_of_ble_eq_true rfl)) dX5_readStep_57 ⟨Nat.le_of_ble_eq_true rfl, Nat.le_of_ble_eq_true rfl⟩)) (fun r161 hr161 => ?_)
      subst hr161
      refine lv_imul hx hb dX5_readStep_60 ?_
      refine W.eq (g2 := F0 m 61 ls [.int (nI (2 * (vv tx sz1 (bgi tx sz1 (i0 + 1)))))]) (congrArg (fun z : Int32 => F0 m 61 ls (.int z :: [])) (pk_mul 2 (vv tx sz1 (bgi tx sz1 (i0 + 1))))) ?_
      refine lv_iload_n hx hb dX5_readStep_61 rfl (lv_at hl 0 rfl) ?_
      refine lv_iadd hx hb dX5_readStep_62 ?_
      refine W.eq (g2 := F0 m 63 ls [.int (nI ((2 * (vv tx sz1 (bgi tx sz1 (i0 + 1)))) + 1))]) (congrArg (fun z : Int32 => F0 m 63 ls (.int z :: [])) (nI_add (2 * (vv tx sz1 (bgi tx sz1 (i0 + 1)))) 1)) ?_
      refine lv_istore_n (lv' := [(2, .int (nI ((2 * (vv tx sz1 (bgi tx sz1 (i0 + 1)))) + 1))), (1, .int 1), (0, .ref (b 0))]) hx hb dX5_readStep_63 rfl hl (by decide) rfl (fun ls hl => ?_)
      refine lv_aload_n hx hb dX5_readStep_64 rfl (lv_at hl 2 rfl) ?_
      refine lv_bipush (v := 6) hx hb dX5_readStep_65 (by decide) ?_
      refine qc_i hAL hS hA (va_runV (As := [.int (nI 6)]) (rest := []) ⟨hx, hb, hml, hown, noTs⟩ (q_X5_stands l dC dI H.size cs b u146 tx hA147 k2 hA148 k3 hA149 k4 hA150 6 sz1 c1 (i0 + 1) ln x8 x9 hF152x hF153x hF154x hf146 hF155x hF156x hF157x hF158x (by first | assumption | omega | rfl | (congr 1; omega)) (by first | assumption | omega | rfl | (congr 1; omega)) (by first | assumption | omega | rfl | (congr 1; omega)) (by first | assumption | omega | rfl | (congr 1; omega)) (by first | assumption | omega | rfl | (congr 1; omega))) ⟨cbE 1 (wd_577 hE) (wd_118 hE) (wd_574 hE) rfl rfl (by decide +kernel) ⟨Nat.le_of_ble_eq_true rfl, Nat.le_of_ble_eq_true rfl⟩, (wd_576 hE), (wd_12 hE)⟩ ⟨PQ.blind, q_recv 0 (by decide) rfl hK hP rfl, (q_pre (av := [.ref (b 0), .int (nI 6)]) hK hP hJ hE)⟩ rfl rfl hl.1 rfl (lv_room (Nat.le_of_ble_eq_true rfl)) dX5_readStep_67 ⟨Nat.le_of_ble_eq_true rfl, Nat.le_of_ble_eq_true rfl⟩) (fun r162 u162 H locs hpo162 hP hS => ?_)
      obtain ⟨hr162, hq162⟩ := hpo162
      have hA163 := (hq162.1 5 List.not_mem_nil).trans hA147
      have hA164 := (hq162.1 2 List.not_mem_nil).trans hA148
      have hA165 := (hq162.1 3 List.not_mem_nil).trans hA149
      have hA166 := (hq162.1 4 List.not_mem_nil).trans hA150
      have hA167 := (hq162.1 7 List.not_mem_nil).trans hA151
      have hF168x := (hq162.2.1 13 (by decide)).trans hF152x
      have hF169x := (hq162.2.1 14 (by decide)).trans hF153x
      have hF170x := (hq162.2.1 15 (by decide)).trans hF154x
      have hF171x := (hq162.2.1 6 (by decide)).trans hF155x
      have hF172x := (hq162.2.1 23 (by decide)).trans hF159x
      have hF173x := (hq162.2.1 5 (by decide)).trans hF160x
      have hF174x := (hq162.2.1 4 (by decide)).trans hf146
      have hfr := FR.step hfr hq162 (fun _ h => absurd h List.not_mem_nil) (by decide) (fun h => rfl)
      rcases hr162 with ⟨rfl, hb162⟩ | ⟨rfl, hb162⟩
      · have K6 := hb162.1
        have VQ : vv tx sz1 (bgi tx sz1 (i0 + 1)) = vl tx sz1 (bgi tx sz1 (i0 + 1)) := by unfold vv; rw [if_pos K6]
        refine lv_if_eq (tgt := 119) hx hb dX5_readStep_70 (by decide) (fun c175 => absurd c175 (by decide)) (fun c175 => ?_)
        refine lv_aload_n hx hb dX5_readStep_73 rfl (lv_at hl 2 rfl) ?_
        refine lv_aload_n hx hb dX5_readStep_74 rfl (lv_at hl 2 rfl) ?_
        refine q_get (v := .ref (b 6)) hx hb 0 (by decide) rfl (ly_X5 hE) hown hK hP rfl 1 (by decide) (wd_228 hE) (fun _ h9 => h9) rfl dX5_readStep_75 ?_
        refine lv_iload_n hx hb dX5_readStep_78 rfl (lv_at hl 0 rfl) ?_
        refine lv_iconst (v := 1) hx hb dX5_readStep_79 (by decide) ?_
        refine lv_ishr hx hb dX5_readStep_80 ?_
        refine lv_topi (fun x176 ex176 => ?_)
        have hi177 : x176 = nI (vl tx sz1 (bgi tx sz1 (i0 + 1))) := (ex176).trans ((nI_shr1 (by omega)).trans (congrArg nI (by omega)))
        subst hi177
        have hti178 := nI_toInt (n := vl tx sz1 (bgi tx sz1 (i0 + 1))) (by omega)
        refine vp_callSi (va_Run.run (va_runV (As := [.int (nI (vl tx sz1 (bgi tx sz1 (i0 + 1))))]) (rest := [.ref (b 0)]) ⟨hx, hb, hml, hown, noTs⟩ (q_X7_hasEdge l dC dI H.size cs b u162 dg hA167 (vl tx sz1 (bgi tx sz1 (i0 + 1))) gg (by first | assumption | omega | rfl | (congr 1; omega)) (by first | assumption | omega | rfl | (congr 1; omega))) ⟨cbE 1 (wd_673 hE) (wd_116 hE) (wd_670 hE) rfl rfl (by decide +kernel) ⟨Nat.le_of_ble_eq_true rfl, Nat.le_of_ble_eq_true rfl⟩, (wd_671 hE), (wd_672 hE)⟩ ⟨PQ.blind, q_recv 6 (by decide) rfl hK hP rfl, (q_pre (av := [.ref (b 6), .int (nI (vl tx sz1 (bgi tx sz1 (i0 + 1))))]) hK hP hJ hE)⟩ rfl rfl hl.1 rfl (lv_room (Nat.le_of_ble_eq_true rfl)) dX5_readStep_81 ⟨Nat.le_of_ble_eq_true rfl, Nat.le_of_ble_eq_true rfl⟩)) (fun r179 hr179 => ?_)
        rcases hr179 with ⟨rfl, hb179⟩ | ⟨rfl, hb179⟩
        · have EV := hb179
          refine lv_iconst (v := 3) hx hb dX5_readStep_84 (by decide) ?_
          refine vp_callSi (va_Run.run (va_runV (As := [.int 1, .int (nI 3)]) (rest := []) ⟨hx, hb, hml, hown, noTs⟩ (q_X5_passes_1 l dC dI H.size cs b u162 3 hb162.2.1) ⟨cbE 2 (wd_561 hE) (wd_118 hE) (wd_558 hE) rfl rfl (by decide +kernel) ⟨Nat.le_of_ble_eq_true rfl, Nat.le_of_ble_eq_true rfl⟩, (wd_560 hE), (wd_10 hE)⟩ ⟨PQ.blind, q_recv 0 (by decide) rfl hK hP rfl, (q_pre (av := [.ref (b 0), .int 1, .int (nI 3)]) hK hP hJ hE)⟩ rfl rfl hl.1 rfl (lv_room (Nat.le_of_ble_eq_true rfl)) dX5_readStep_85 ⟨Nat.le_of_ble_eq_true rfl, Nat.le_of_ble_eq_true rfl⟩)) (fun r180 hr180 => ?_)
          subst hr180
          refine lv_if_eq (tgt := 119) hx hb dX5_readStep_88 (by decide) (fun c181 => absurd c181 (by decide)) (fun c181 => ?_)
          refine lv_aload_n hx hb dX5_readStep_91 rfl (lv_at hl 2 rfl) ?_
          refine lv_aload_n hx hb dX5_readStep_92 rfl (lv_at hl 2 rfl) ?_
          refine q_get (v := .ref (b 6)) hx hb 0 (by decide) rfl (ly_X5 hE) hown hK hP rfl 1 (by decide) (wd_228 hE) (fun _ h9 => h9) rfl dX5_readStep_93 ?_
          refine lv_iload_n hx hb dX5_readStep_96 rfl (lv_at hl 0 rfl) ?_
          refine vp_callSi (va_Run.run (va_runV (As := [.int (nI ((2 * (vv tx sz1 (bgi tx sz1 (i0 + 1)))) + 1))]) (rest := [.ref (b 0)]) ⟨hx, hb, hml, hown, noTs⟩ (q_X7_fromVertex l dC dI H.size cs b u162 dg hA167 ((2 * (vv tx sz1 (bgi tx sz1 (i0 + 1)))) + 1) gg (by first | assumption | omega | rfl | (congr 1; omega)) (by first | assumption | omega | rfl | (congr 1; omega))) ⟨cbE 1 (wd_677 hE) (wd_116 hE) (wd_674 hE) rfl rfl (by decide +kernel) ⟨Nat.le_of_ble_eq_true rfl, Nat.le_of_ble_eq_true rfl⟩, (wd_675 hE), (wd_676 hE)⟩ ⟨PQ.blind, q_recv 6 (by decide) rfl hK hP rfl, (q_pre (av := [.ref (b 6), .int (nI ((2 * (vv tx sz1 (bgi tx sz1 (i0 + 1)))) + 1))]) hK hP hJ hE)⟩ rfl rfl hl.1 rfl (lv_room (Nat.le_of_ble_eq_true rfl)) dX5_readStep_97 ⟨Nat.le_of_ble_eq_true rfl, Nat.le_of_ble_eq_true rfl⟩)) (fun r182 hr182 => ?_)
          have SL := dg_src (s := ((2 * (vv tx sz1 (bgi tx sz1 (i0 + 1)))) + 1)) hp4 (by omega)
          subst hr182
          refine lv_aload_n hx hb dX5_readStep_100 rfl (lv_at hl 2 rfl) ?_
          refine q_get (v := .int (nI h0)) hx hb 0 (by decide) rfl (ly_X5 hE) hown hK hP rfl 5 (by decide) (wd_232 hE) (fun _ h9 => h9) (congrArg (fun z : Int32 => some (Value.int z)) hF173x) dX5_readStep_101 ?_
          refine lv_icmp_ne (tgt := 111) hx hb dX5_readStep_104 (by decide) (fun c183 => ?_) (fun c183 => ?_)
          · have c183 := mt (b_eq (nI_toInt (n := pSrc gg ((2 * (vv tx sz1 (bgi tx sz1 (i0 + 1)))) + 1)) (by omega)) (nI_toInt (n := h0) (by omega))).mpr c183
            have NE : pSrc gg (2 * vl tx sz1 (bgi tx sz1 (i0 + 1)) + sgn tx sz1 (bgi tx sz1 i0)) ≠ h0 := by rw [SG, ← VQ]; omega
            refine lv_iconst (v := 0) hx hb dX5_readStep_111 (by decide) ?_
            refine lv_iconst (v := 5) hx hb dX5_readStep_112 (by decide) ?_
            refine qc_i hAL hS hA (va_runV (As := [.int 0, .int (nI 5)]) (rest := []) ⟨hx, hb, hml, hown, noTs⟩ (q_X5_passes_0 l dC dI H.size cs b u162 tx hA163 k2 hA164 k3 hA165 k4 hA166 5 sz1 c1 (i0 + 1) ln hF168x hF169x hF170x hF174x hF171x hb162.2.1 (by first | assumption | omega | rfl | (congr 1; omega)) (by first | assumption | omega | rfl | (congr 1; omega)) (by first | assumption | omega | rfl | (congr 1; omega)) (by first | assumption | omega | rfl | (congr 1; omega)) (by first | assumption | omega | rfl | (congr 1; omega)) (by first | assumption | omega | rfl | (congr 1; omega))) ⟨cbE 2 (wd_561 hE) (wd_118 hE) (wd_558 hE) rfl rfl (by decide +kernel) ⟨Nat.le_of_ble_eq_true rfl, Nat.le_of_ble_eq_true rfl⟩, (wd_560 hE), (wd_10 hE)⟩ ⟨PQ.blind, q_recv 0 (by decide) rfl hK hP rfl, (q_pre (av := [.ref (b 0), .int 0, .int (nI 5)]) hK hP hJ hE)⟩ rfl rfl hl.1 rfl (lv_room (Nat.le_of_ble_eq_true rfl)) dX5_readStep_113 ⟨Nat.le_of_ble_eq_true rfl, Nat.le_of_ble_eq_true rfl⟩) (fun r184 u184 H locs hpo184 hP hS => ?_)
            obtain ⟨hr184, h184_0, h184_1, h184_2, hq184⟩ := hpo184
            have hA185 := (hq184.1 5 List.not_mem_nil).trans hA163
            have hA186 := (hq184.1 2 List.not_mem_nil).trans hA164
            have hA187 := (hq184.1 3 List.not_mem_nil).trans hA165
            have hA188 := (hq184.1 4 List.not_mem_nil).trans hA166
            have hA189 := (hq184.1 7 List.not_mem_nil).trans hA167
            have hF190x := (hq184.2.1 13 (by decide)).trans hF168x
            have hF191x := (hq184.2.1 14 (by decide)).trans hF169x
            have hF192x := (hq184.2.1 15 (by decide)).trans hF170x
            have hF193x := (hq184.2.1 6 (by decide)).trans hF171x
            have hF194x := (hq184.2.1 23 (by decide)).trans hF172x
            have hF195x := (hq184.2.1 5 (by decide)).trans hF173x
            have hF196x := (hq184.2.1 4 (by decide)).trans hF174x
            have hfr := FR.step hfr hq184 (fun _ h => absurd h List.not_mem_nil) (by decide) (fun h => rfl)
            subst hr184
            refine lv_if_ne (tgt := 120) hx hb dX5_readStep_116 (by decide) (fun c197 => absurd c197 (by decide)) (fun c197 => ?_)
            exact W.vret hx hb hr (fun t ht hW => ⟨⟨u184, rfl, ⟨(by first | exact Or.inl SF | exact Or.inl ⟨3, bgi tx sz1 (i0 + 1), _, by decide, by decide, ⟨h184_0, h184_1, h184_2⟩, ⟨by omega, hF196x⟩, fun f => pt_3 hp5 (show cw ≠ 24 by omega) K6 EV⟩ | exact Or.inl ⟨5, bgi tx sz1 (i0 + 1), _, by decide, by decide, ⟨h184_0, h184_1, h184_2⟩, ⟨by omega, hF196x⟩, fun f => pt_5 hp5 (show cw ≠ 24 by omega) K6 EV NE⟩ | exact Or.inr ⟨h184_0, h184_1, h184_2, by omega, hF194x, hF196x, by omega, _, DL, hF195x, fun f => by rw [PO f, SG, ← VQ]⟩), hfr⟩, (show va_P (dC, dI) vwCl (qW cs b u184) t.heap by rw [ht]; exact hP)⟩, hS.F ht⟩) hS.2.2 dX5_readStep_119
          · have c183 := (b_eq (nI_toInt (n := pSrc gg ((2 * (vv tx sz1 (bgi tx sz1 (i0 + 1)))) + 1)) (by omega)) (nI_toInt (n := h0) (by omega))).mp c183
            have QE : pSrc gg (2 * vl tx sz1 (bgi tx sz1 (i0 + 1)) + sgn tx sz1 (bgi tx sz1 i0)) = h0 := by rw [SG, ← VQ]; omega
            have PO : ∀ f, pSteps tx sz1 gg (f + 1) h0 cw (bgi tx sz1 i0) = pSteps tx sz1 gg f (pDst gg (2 * vl tx sz1 (bgi tx sz1 (i0 + 1)) + sgn tx sz1 (bgi tx sz1 i0))) (cw + 1) (pNum tx sz1 (bgi tx sz1 (i0 + 1 + 1))) := fun f => pt_ok hp5 (show cw ≠ 24 by omega) K6 EV QE
            refine lv_iconst (v := 1) hx hb dX5_readStep_107 (by decide) ?_
            refine lv_goto (tgt := 112) hx hb dX5_readStep_108 (by decide) ?_
            refine lv_iconst (v := 5) hx hb dX5_readStep_112 (by decide) ?_
            refine vp_callSi (va_Run.run (va_runV (As := [.int 1, .int (nI 5)]) (rest := []) ⟨hx, hb, hml, hown, noTs⟩ (q_X5_passes_1 l dC dI H.size cs b u162 5 hb162.2.1) ⟨cbE 2 (wd_561 hE) (wd_118 hE) (wd_558 hE) rfl rfl (by decide +kernel) ⟨Nat.le_of_ble_eq_true rfl, Nat.le_of_ble_eq_true rfl⟩, (wd_560 hE), (wd_10 hE)⟩ ⟨PQ.blind, q_recv 0 (by decide) rfl hK hP rfl, (q_pre (av := [.ref (b 0), .int 1, .int (nI 5)]) hK hP hJ hE)⟩ rfl rfl hl.1 rfl (lv_room (Nat.le_of_ble_eq_true rfl)) dX5_readStep_113 ⟨Nat.le_of_ble_eq_true rfl, Nat.le_of_ble_eq_true rfl⟩)) (fun r198 hr198 => ?_)
            subst hr198
            refine lv_if_ne (tgt := 120) hx hb dX5_readStep_116 (by decide) (fun c199 => ?_) (fun c199 => absurd c199 (by decide))
            refine lv_aload_n hx hb dX5_readStep_120 rfl (lv_at hl 2 rfl) ?_
            refine q_get (v := .ref (b 8)) hx hb 0 (by decide) rfl (ly_X5 hE) hown hK hP rfl 2 (by decide) (wd_229 hE) (fun _ h9 => h9) rfl dX5_readStep_121 ?_
            refine lv_iload_n hx hb dX5_readStep_124 rfl (lv_at hl 0 rfl) ?_
            refine lv_iconst (v := 0) hx hb dX5_readStep_125 (by decide) ?_
            refine qc_v hAL hS hA (va_runV (As := [.int (nI ((2 * (vv tx sz1 (bgi tx sz1 (i0 + 1)))) + 1)), .int 0]) (rest := []) ⟨hx, hb, hml, hown, noTs⟩ (q_X10_push l dC dI H.size cs b u162 (nI ((2 * (vv tx sz1 (bgi tx sz1 (i0 + 1)))) + 1)) 0 cw hF172x (by first | assumption | omega | rfl | (congr 1; omega))) ⟨cbE 2 (wd_688 hE) (wd_120 hE) (wd_685 hE) rfl rfl (by decide +kernel) ⟨Nat.le_of_ble_eq_true rfl, Nat.le_of_ble_eq_true rfl⟩, (wd_686 hE), (wd_687 hE)⟩ ⟨PQ.blind, q_recv 8 (by decide) rfl hK hP rfl, (q_pre (av := [.ref (b 8), .int (nI ((2 * (vv tx sz1 (bgi tx sz1 (i0 + 1)))) + 1)), .int 0]) hK hP hJ hE)⟩ rfl rfl hl.1 rfl (lv_room (Nat.le_of_ble_eq_true rfl)) dX5_readStep_126 ⟨Nat.le_of_ble_eq_true rfl, Nat.le_of_ble_eq_true rfl⟩) (fun u200 H locs hpo200 hP hS => ?_)
            obtain ⟨h200_0, hq200⟩ := hpo200
            have hA201 := (hq200.1 5 (by decide)).trans hA163
            have hA202 := (hq200.1 2 (by decide)).trans hA164
            have hA203 := (hq200.1 3 (by decide)).trans hA165
            have hA204 := (hq200.1 4 (by decide)).trans hA166
            have hA205 := (hq200.1 7 (by decide)).trans hA167
            have hF206x := (hq200.2.1 13 (by decide)).trans hF168x
            have hF207x := (hq200.2.1 14 (by decide)).trans hF169x
            have hF208x := (hq200.2.1 15 (by decide)).trans hF170x
            have hF209x := (hq200.2.1 6 (by decide)).trans hF171x
            have hF210x := (hq200.2.1 5 (by decide)).trans hF173x
            have hF211x := (hq200.2.1 4 (by decide)).trans hF174x
            have hF212x := (hq200.2.1 7 (by decide)).trans hb162.2.1
            have hF213x := (hq200.2.1 8 (by decide)).trans hb162.2.2.1
            have hF214x := (hq200.2.1 9 (by decide)).trans hb162.2.2.2
            have hfr := FR.step hfr hq200 (by decide) (by decide) (fun h => rfl)
            refine lv_aload_n hx hb dX5_readStep_129 rfl (lv_at hl 2 rfl) ?_
            refine lv_aload_n hx hb dX5_readStep_130 rfl (lv_at hl 2 rfl) ?_
            refine q_get (v := .ref (b 6)) hx hb 0 (by decide) rfl (ly_X5 hE) hown hK hP rfl 1 (by decide) (wd_228 hE) (fun _ h9 => h9) rfl dX5_readStep_131 ?_
            refine lv_iload_n hx hb dX5_readStep_134 rfl (lv_at hl 0 rfl) ?_
            refine vp_callSi (va_Run.run (va_runV (As := [.int (nI ((2 * (vv tx sz1 (bgi tx sz1 (i0 + 1)))) + 1))]) (rest := [.ref (b 0)]) ⟨hx, hb, hml, hown, noTs⟩ (q_X7_toVertex l dC dI H.size cs b u200 dg hA205 ((2 * (vv tx sz1 (bgi tx sz1 (i0 + 1)))) + 1) gg (by first | assumption | omega | rfl | (congr 1; omega)) (by first | assumption | omega | rfl | (congr 1; omega))) ⟨cbE 1 (wd_692 hE) (wd_116 hE) (wd_689 hE) rfl rfl (by decide +kernel) ⟨Nat.le_of_ble_eq_true rfl, Nat.le_of_ble_eq_true rfl⟩, (wd_690 hE), (wd_691 hE)⟩ ⟨PQ.blind, q_recv 6 (by decide) rfl hK hP rfl, (q_pre (av := [.ref (b 6), .int (nI ((2 * (vv tx sz1 (bgi tx sz1 (i0 + 1)))) + 1))]) hK hP hJ hE)⟩ rfl rfl hl.1 rfl (lv_room (Nat.le_of_ble_eq_true rfl)) dX5_readStep_135 ⟨Nat.le_of_ble_eq_true rfl, Nat.le_of_ble_eq_true rfl⟩)) (fun r215 hr215 => ?_)
            have DL := dg_dst (s := ((2 * (vv tx sz1 (bgi tx sz1 (i0 + 1)))) + 1)) hp4 (by omega)
            subst hr215
            refine q_put (v := nI (pDst gg ((2 * (vv tx sz1 (bgi tx sz1 (i0 + 1)))) + 1))) (ty := .int) hx hb 0 5 (by decide) (ly_X5 hE) tyX5 tyX5_ok nmX5 hown hK hP hJ hAL hS rfl 5 (by decide) (wd_232 hE) (fun _ h9 => h9) rfl (by decide +kernel) rfl rfl rfl rfl (qE_put0 (by decide)) (Nat.le_of_ble_eq_true rfl) dX5_readStep_138 (fun u216 H locs hf216 hq216 hP hS => ?_)
            have hA217 := (hq216.1 5 List.not_mem_nil).trans hA201
            have hA218 := (hq216.1 2 List.not_mem_nil).trans hA202
            have hA219 := (hq216.1 3 List.not_mem_nil).trans hA203
            have hA220 := (hq216.1 4 List.not_mem_nil).trans hA204
            have hA221 := (hq216.1 7 List.not_mem_nil).trans hA205
            have hF222x := (hq216.2.1 13 (by decide)).trans hF206x
            have hF223x := (hq216.2.1 14 (by decide)).trans hF207x
            have hF224x := (hq216.2.1 15 (by decide)).trans hF208x
            have hF225x := (hq216.2.1 6 (by decide)).trans hF209x
            have hF226x := (hq216.2.1 4 (by decide)).trans hF211x
            have hF227x := (hq216.2.1 7 (by decide)).trans hF212x
            have hF228x := (hq216.2.1 8 (by decide)).trans hF213x
            have hF229x := (hq216.2.1 9 (by decide)).trans hF214x
            have hF230x := (hq216.2.1 23 (by decide)).trans h200_0
            have hfr := FR.step hfr hq216 (fun _ h => absurd h List.not_mem_nil) (by decide) (fun h => rfl)
            refine lv_aload_n hx hb dX5_readStep_141 rfl (lv_at hl 2 rfl) ?_
            refine lv_dup hx hb dX5_readStep_142 rfl ?_
            refine q_get (v := .int (nI (i0 + 1))) hx hb 0 (by decide) rfl (ly_X5 hE) hown hK hP rfl 4 (by decide) (wd_231 hE) (fun _ h9 => h9) (congrArg (fun z : Int32 => some (Value.int z)) hF226x) dX5_readStep_143 ?_
            refine lv_iconst (v := 1) hx hb dX5_readStep_146 (by decide) ?_
            refine lv_iadd hx hb dX5_readStep_147 ?_
            refine W.eq (g2 := F0 m 148 ls [.int (nI ((i0 + 1) + 1)), .ref (b 0)]) (congrArg (fun z : Int32 => F0 m 148 ls (.int z :: [.ref (b 0)])) (nI_add (i0 + 1) 1)) ?_
            refine q_put (v := nI ((i0 + 1) + 1)) (ty := .int) hx hb 0 4 (by decide) (ly_X5 hE) tyX5 tyX5_ok nmX5 hown hK hP hJ hAL hS rfl 4 (by decide) (wd_231 hE) (fun _ h9 => h9) rfl (by decide +kernel) rfl rfl rfl rfl (qE_put0 (by decide)) (Nat.le_of_ble_eq_true rfl) dX5_readStep_148 (fun u231 H locs hf231 hq231 hP hS => ?_)
            have hA232 := (hq231.1 5 List.not_mem_nil).trans hA217
            have hA233 := (hq231.1 2 List.not_mem_nil).trans hA218
            have hA234 := (hq231.1 3 List.not_mem_nil).trans hA219
            have hA235 := (hq231.1 4 List.not_mem_nil).trans hA220
            have hA236 := (hq231.1 7 List.not_mem_nil).trans hA221
            have hF237x := (hq231.2.1 13 (by decide)).trans hF222x
            have hF238x := (hq231.2.1 14 (by decide)).trans hF223x
            have hF239x := (hq231.2.1 15 (by decide)).trans hF224x
            have hF240x := (hq231.2.1 6 (by decide)).trans hF225x
            have hF241x := (hq231.2.1 7 (by decide)).trans hF227x
            have hF242x := (hq231.2.1 8 (by decide)).trans hF228x
            have hF243x := (hq231.2.1 9 (by decide)).trans hF229x
            have hF244x := (hq231.2.1 23 (by decide)).trans hF230x
            have hF245x := (hq231.2.1 5 (by decide)).trans hf216
            have hfr := FR.step hfr hq231 (fun _ h => absurd h List.not_mem_nil) (by decide) (fun h => rfl)
            exact W.vret hx hb hr (fun t ht hW => ⟨⟨u231, rfl, ⟨(by first | exact Or.inl SF | exact Or.inl ⟨3, bgi tx sz1 (i0 + 1), _, by decide, by decide, ⟨hF241x, hF242x, hF243x⟩, ⟨by omega, hf231⟩, fun f => pt_3 hp5 (show cw ≠ 24 by omega) K6 EV⟩ | exact Or.inl ⟨5, bgi tx sz1 (i0 + 1), _, by decide, by decide, ⟨hF241x, hF242x, hF243x⟩, ⟨by omega, hf231⟩, fun f => pt_5 hp5 (show cw ≠ 24 by omega) K6 EV NE⟩ | exact Or.inr ⟨hF241x, hF242x, hF243x, by omega, hF244x, hf231, by omega, _, DL, hF245x, fun f => by rw [PO f, SG, ← VQ]⟩), hfr⟩, (show va_P (dC, dI) vwCl (qW cs b u231) t.heap by rw [ht]; exact hP)⟩, hS.F ht⟩) hS.2.2 dX5_readStep_151
        · have EV := hb179
          refine lv_iconst (v := 3) hx hb dX5_readStep_84 (by decide) ?_
          refine qc_i hAL hS hA (va_runV (As := [.int 0, .int (nI 3)]) (rest := []) ⟨hx, hb, hml, hown, noTs⟩ (q_X5_passes_0 l dC dI H.size cs b u162 tx hA163 k2 hA164 k3 hA165 k4 hA166 3 sz1 c1 (i0 + 1) ln hF168x hF169x hF170x hF174x hF171x hb162.2.1 (by first | assumption | omega | rfl | (congr 1; omega)) (by first | assumption | omega | rfl | (congr 1; omega)) (by first | assumption | omega | rfl | (congr 1; omega)) (by first | assumption | omega | rfl | (congr 1; omega)) (by first | assumption | omega | rfl | (congr 1; omega)) (by first | assumption | omega | rfl | (congr 1; omega))) ⟨cbE 2 (wd_561 hE) (wd_118 hE) (wd_558 hE) rfl rfl (by decide +kernel) ⟨Nat.le_of_ble_eq_true rfl, Nat.le_of_ble_eq_true rfl⟩, (wd_560 hE), (wd_10 hE)⟩ ⟨PQ.blind, q_recv 0 (by decide) rfl hK hP rfl, (q_pre (av := [.ref (b 0), .int 0, .int (nI 3)]) hK hP hJ hE)⟩ rfl rfl hl.1 rfl (lv_room (Nat.le_of_ble_eq_true rfl)) dX5_readStep_85 ⟨Nat.le_of_ble_eq_true rfl, Nat.le_of_ble_eq_true rfl⟩) (fun r246 u246 H locs hpo246 hP hS => ?_)
          obtain ⟨hr246, h246_0, h246_1, h246_2, hq246⟩ := hpo246
          have hA247 := (hq246.1 5 List.not_mem_nil).trans hA163
          have hA248 := (hq246.1 2 List.not_mem_nil).trans hA164
          have hA249 := (hq246.1 3 List.not_mem_nil).trans hA165
          have hA250 := (hq246.1 4 List.not_mem_nil).trans hA166
          have hA251 := (hq246.1 7 List.not_mem_nil).trans hA167
          have hF252x := (hq246.2.1 13 (by decide)).trans hF168x
          have hF253x := (hq246.2.1 14 (by decide)).trans hF169x
          have hF254x := (hq246.2.1 15 (by decide)).trans hF170x
          have hF255x := (hq246.2.1 6 (by decide)).trans hF171x
          have hF256x := (hq246.2.1 23 (by decide)).trans hF172x
          have hF257x := (hq246.2.1 5 (by decide)).trans hF173x
          have hF258x := (hq246.2.1 4 (by decide)).trans hF174x
          have hfr := FR.step hfr hq246 (fun _ h => absurd h List.not_mem_nil) (by decide) (fun h => rfl)
          subst hr246
          refine lv_if_eq (tgt := 119) hx hb dX5_readStep_88 (by decide) (fun c259 => ?_) (fun c259 => absurd c259 (by decide))
          exact W.vret hx hb hr (fun t ht hW => ⟨⟨u246, rfl, ⟨(by first | exact Or.inl SF | exact Or.inl ⟨3, bgi tx sz1 (i0 + 1), _, by decide, by decide, ⟨h246_0, h246_1, h246_2⟩, ⟨by omega, hF258x⟩, fun f => pt_3 hp5 (show cw ≠ 24 by omega) K6 EV⟩ | exact Or.inl ⟨5, bgi tx sz1 (i0 + 1), _, by decide, by decide, ⟨h246_0, h246_1, h246_2⟩, ⟨by omega, hF258x⟩, fun f => pt_5 hp5 (show cw ≠ 24 by omega) K6 EV NE⟩ | exact Or.inr ⟨h246_0, h246_1, h246_2, by omega, hF256x, hF258x, by omega, _, DL, hF257x, fun f => by rw [PO f, SG, ← VQ]⟩), hfr⟩, (show va_P (dC, dI) vwCl (qW cs b u246) t.heap by rw [ht]; exact hP)⟩, hS.F ht⟩) hS.2.2 dX5_readStep_119
      · have bb := bad_b (kd tx sz1 (bgi tx sz1 (i0 + 1)))
        have SF : ∃ k q j : Nat, 1 ≤ k ∧ k ≤ 9 ∧ FQ u162 k q ln ∧ (j ≤ c1 ∧ rF u162 4 = nI j) ∧ ∀ f, pSteps tx sz1 gg (f + 1) h0 cw (bgi tx sz1 i0) = (k, q) := ⟨bad (kd tx sz1 (bgi tx sz1 (i0 + 1))), bgi tx sz1 (i0 + 1), _, bb.1, by omega, ⟨hb162.2.1, hb162.2.2.1, hb162.2.2.2⟩, ⟨by omega, hF174x⟩, fun f => pt_n hp5 (show cw ≠ 24 by omega) hb162.1⟩
        refine lv_if_eq (tgt := 119) hx hb dX5_readStep_70 (by decide) (fun c260 => ?_) (fun c260 => absurd c260 (by decide))
        exact W.vret hx hb hr (fun t ht hW => ⟨⟨u162, rfl, ⟨(by first | exact Or.inl SF | exact Or.inl ⟨3, bgi tx sz1 (i0 + 1), _, by decide, by decide, ⟨hb162.2.1, hb162.2.2.1, hb162.2.2.2⟩, ⟨by omega, hF174x⟩, fun f => pt_3 hp5 (show cw ≠ 24 by omega) K6 EV⟩ | exact Or.inl ⟨5, bgi tx sz1 (i0 + 1), _, by decide, by decide, ⟨hb162.2.1, hb162.2.2.1, hb162.2.2.2⟩, ⟨by omega, hF174x⟩, fun f => pt_5 hp5 (show cw ≠ 24 by omega) K6 EV NE⟩ | exact Or.inr ⟨hb162.2.1, hb162.2.2.1, hb162.2.2.2, by omega, hF172x, hF174x, by omega, _, DL, hF173x, fun f => by rw [PO f, SG, ← VQ]⟩), hfr⟩, (show va_P (dC, dI) vwCl (qW cs b u162) t.heap by rw [ht]; exact hP)⟩, hS.F ht⟩) hS.2.2 dX5_readStep_119
