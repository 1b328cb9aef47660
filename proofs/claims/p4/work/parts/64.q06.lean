set_option maxHeartbeats 4000000 in
set_option maxRecDepth 100000 in
theorem q_X5_readWalk (l : Launch) (dC : Nat → ClassId) (dI : Nat → Nat → Nat) (sz : Nat) (cs : Nat → ClassId) (b : Nat → Nat) (u : RS) (tx : Nat → Int32) (hAc5 : rA u 5 = tx) (k2 : Nat → Int32) (hAc2 : rA u 2 = k2) (k3 : Nat → Int32) (hAc3 : rA u 3 = k3) (k4 : Nat → Int32) (hAc4 : rA u 4 = k4) (dg : Nat → Int32) (hAc7 : rA u 7 = dg) (sz1 : Nat) (c1 : Nat) (i0 : Nat) (ln : Nat) (x8 : Int32) (x9 : Int32) (gg : PGr) (hF13 : rF u 13 = nI c1) (hF14 : rF u 14 = 1) (hF15 : rF u 15 = nI sz1) (hF4 : rF u 4 = nI i0) (hF6 : rF u 6 = nI ln) (hF7 : rF u 7 = 0) (hF8 : rF u 8 = x8) (hF9 : rF u 9 = x9) (hp0 : BY tx) (hp1 : sz1 ≤ 700) (hp2 : QTK k2 k3 k4 tx sz1 c1) (hp3 : i0 ≤ c1) (hp4 : DG dg gg) (hp5 : kd tx sz1 (bgi tx sz1 i0) ≠ 3) (hp6 : kd tx sz1 (bgi tx sz1 i0) ≠ 4) : Met l yX5_readWalk [.code yX5_readWalk cX5_readWalk 2 none] ({ frames := 4, cells := 0, slots := 0, locals := 160 }) (PQ [.ref (b 0)] sz dC dI cs b u) (va_Qv (fun (u' : RS) => (((pLine tx sz1 gg (bgi tx sz1 i0)).1 ≠ 0 ∧ FQ u' (pLine tx sz1 gg (bgi tx sz1 i0)).1 (pLine tx sz1 gg (bgi tx sz1 i0)).2.1 ln) ∨ ((pLine tx sz1 gg (bgi tx sz1 i0)).1 = 0 ∧ rF u' 7 = 0 ∧ rF u' 8 = x8 ∧ rF u' 9 = x9 ∧ rF u' 6 = nI (ln + 1) ∧ ∃ i1, i1 ≤ c1 ∧ rF u' 4 = nI i1 ∧ bgi tx sz1 i1 = (pLine tx sz1 gg (bgi tx sz1 i0)).2.1 ∧ DG (rA u' 7) (pLine tx sz1 gg (bgi tx sz1 i0)).2.2)) ∧ FR [7, 9, 10] [4, 5, 6, 22, 23, 7, 8, 9] false u u') (BQ dC dI cs b) (AQ b sz)) 0 0 (AQ b sz) := by
  refine Met.ofW (cc := cX5_readWalk) (maxL := 2) (ret := none) (by decide) rfl ?_
  intro p e s m args below meth c s₁ B hml hv
  obtain ⟨rfl, hsz, hP, hK, hJ, hE⟩ := hv
  have hx := B.exec
  have hb := B.bytes
  have hr := B.returns
  have hown : s.vm.findClass RX5 = some m.cls := findClass_of_methodNamed B.named
  have hlocks := B.notSynchronized
  subst hsz
  have hAL : ∀ i, i < 12 → AQ b s.heap.size (b i) := fun i h => Or.inl ⟨i, h, rfl⟩
  have hA : ∀ q : Nat, s.heap.size ≤ q → AQ b s.heap.size q := fun q h => Or.inr h
  have hS : va_S (AQ b s.heap.size) s.heap s.heap [] := va_S.rf
  have hfr : FR [7, 9, 10] [4, 5, 6, 22, 23, 7, 8, 9] false u u := FR.refl
  have hl := lv_entry ([.ref (b 0)]) (n := 2) (Nat.le_of_ble_eq_true rfl)
  rw [lg_entry_eq]
  generalize (lg_sl ([.ref (b 0)]) ++ List.replicate (2 - (lg_sl ([.ref (b 0)])).length) Slot.unset).toArray = ls at hl ⊢
  have hl : lv_has ls 2 [(0, .ref (b 0))] := hl
  have hc7 := hp2.1
  have kdf := kd_f tx sz1 (bgi tx sz1 (i0))
  have bq : i0 = c1 → bgi tx sz1 (i0) = sz1 := fun h => by rw [h]; exact hp2.2.1
  have bz : i0 < c1 → bgi tx sz1 (i0) < sz1 := fun h => (hp2.2.2 _ h).1
  have d6 := hp4.2.1
  have e6 := hp4.2.2.2.1
  have w10 := hp4.2.2.2.2.2.1
  refine lv_aload_n hx hb dX5_readWalk_0 rfl (lv_at hl 0 rfl) ?_
  refine lv_iconst (v := 5) hx hb dX5_readWalk_1 (by decide) ?_
  refine qc_i hAL hS hA (va_runV (As := [.int (nI 5)]) (rest := []) ⟨hx, hb, hml, hown, noTs⟩ (q_X5_stands l dC dI s.heap.size cs b u tx hAc5 k2 hAc2 k3 hAc3 k4 hAc4 5 sz1 c1 i0 ln x8 x9 hF13 hF14 hF15 hF4 hF6 hF7 hF8 hF9 (by first | assumption | omega | rfl | (congr 1; omega)) (by first | assumption | omega | rfl | (congr 1; omega)) (by first | assumption | omega | rfl | (congr 1; omega)) (by first | assumption | omega | rfl | (congr 1; omega)) (by first | assumption | omega | rfl | (congr 1; omega))) ⟨cbE 1 (wd_577 hE) (wd_118 hE) (wd_574 hE) rfl rfl (by decide +kernel) ⟨Nat.le_of_ble_eq_true rfl, Nat.le_of_ble_eq_true rfl⟩, (wd_576 hE), (wd_12 hE)⟩ ⟨PQ.blind, q_recv 0 (by decide) rfl hK hP rfl, (q_pre (av := [.ref (b 0), .int (nI 5)]) hK hP hJ hE)⟩ rfl rfl hl.1 rfl (lv_room (Nat.le_of_ble_eq_true rfl)) dX5_readWalk_2 ⟨Nat.le_of_ble_eq_true rfl, Nat.le_of_ble_eq_true rfl⟩) (fun r8 u8 H locs hpo8 hP hS => ?_)
  obtain ⟨hr8, hq8⟩ := hpo8
  have hA9 := (hq8.1 5 List.not_mem_nil).trans hAc5
  have hA10 := (hq8.1 2 List.not_mem_nil).trans hAc2
  have hA11 := (hq8.1 3 List.not_mem_nil).trans hAc3
  have hA12 := (hq8.1 4 List.not_mem_nil).trans hAc4
  have hA13 := (hq8.1 7 List.not_mem_nil).trans hAc7
  have hF14x := (hq8.2.1 13 (by decide)).trans hF13
  have hF15x := (hq8.2.1 14 (by decide)).trans hF14
  have hF16x := (hq8.2.1 15 (by decide)).trans hF15
  have hF17x := (hq8.2.1 4 (by decide)).trans hF4
  have hF18x := (hq8.2.1 6 (by decide)).trans hF6
  have hfr := FR.step hfr hq8 (fun _ h => absurd h List.not_mem_nil) (by decide) (fun h => rfl)
  rcases hr8 with ⟨rfl, hb8⟩ | ⟨rfl, hb8⟩
  · have W5 := hb8.1
    refine lv_if_eq (tgt := 32) hx hb dX5_readWalk_5 (by decide) (fun c19 => absurd c19 (by decide)) (fun c19 => ?_)
    refine lv_aload_n hx hb dX5_readWalk_8 rfl (lv_at hl 0 rfl) ?_
    refine lv_aload_n hx hb dX5_readWalk_9 rfl (lv_at hl 0 rfl) ?_
    refine q_get (v := .ref (b 6)) hx hb 0 (by decide) rfl (ly_X5 hE) hown hK hP rfl 1 (by decide) (wd_228 hE) (fun _ h9 => h9) rfl dX5_readWalk_10 ?_
    refine vp_callSi (va_Run.run (va_runV (As := []) (rest := [.ref (b 0)]) ⟨hx, hb, hml, hown, noTs⟩ (q_X7_isFull l dC dI H.size cs b u8 dg hA13 gg (by first | assumption | omega | rfl | (congr 1; omega))) ⟨cbE 0 (wd_633 hE) (wd_116 hE) (wd_630 hE) rfl rfl (by decide +kernel) ⟨Nat.le_of_ble_eq_true rfl, Nat.le_of_ble_eq_true rfl⟩, (wd_631 hE), (wd_632 hE)⟩ ⟨PQ.blind, q_recv 6 (by decide) rfl hK hP rfl, (q_pre (av := [.ref (b 6)]) hK hP hJ hE)⟩ rfl rfl hl.1 rfl (lv_room (Nat.le_of_ble_eq_true rfl)) dX5_readWalk_13 ⟨Nat.le_of_ble_eq_true rfl, Nat.le_of_ble_eq_true rfl⟩)) (fun r20 hr20 => ?_)
    rcases hr20 with ⟨rfl, hb20⟩ | ⟨rfl, hb20⟩
    · have E : pLine tx sz1 gg (bgi tx sz1 i0) = (6, (bgi tx sz1 i0), gg) := (pl_h (by rw [(ph_w W5).trans (pw_6 (by omega))]; exact (show (6 : Nat) ≠ 0 by decide))).trans ((ph_w W5).trans (pw_6 (by omega)))
      have EN : 6 ≠ 0 := (show (6 : Nat) ≠ 0 by decide)
      refine lv_if_ne (tgt := 23) hx hb dX5_readWalk_16 (by decide) (fun c21 => ?_) (fun c21 => absurd c21 (by decide))
      refine lv_iconst (v := 0) hx hb dX5_readWalk_23 (by decide) ?_
      refine lv_bipush (v := 6) hx hb dX5_readWalk_24 (by decide) ?_
      refine qc_i hAL hS hA (va_runV (As := [.int 0, .int (nI 6)]) (rest := []) ⟨hx, hb, hml, hown, noTs⟩ (q_X5_passes_0 l dC dI H.size cs b u8 tx hA9 k2 hA10 k3 hA11 k4 hA12 6 sz1 c1 i0 ln hF14x hF15x hF16x hF17x hF18x hb8.2.1 (by first | assumption | omega | rfl | (congr 1; omega)) (by first | assumption | omega | rfl | (congr 1; omega)) (by first | assumption | omega | rfl | (congr 1; omega)) (by first | assumption | omega | rfl | (congr 1; omega)) (by first | assumption | omega | rfl | (congr 1; omega)) (by first | assumption | omega | rfl | (congr 1; omega))) ⟨cbE 2 (wd_561 hE) (wd_118 hE) (wd_558 hE) rfl rfl (by decide +kernel) ⟨Nat.le_of_ble_eq_true rfl, Nat.le_of_ble_eq_true rfl⟩, (wd_560 hE), (wd_10 hE)⟩ ⟨PQ.blind, q_recv 0 (by decide) rfl hK hP rfl, (q_pre (av := [.ref (b 0), .int 0, .int (nI 6)]) hK hP hJ hE)⟩ rfl rfl hl.1 rfl (lv_room (Nat.le_of_ble_eq_true rfl)) dX5_readWalk_26 ⟨Nat.le_of_ble_eq_true rfl, Nat.le_of_ble_eq_true rfl⟩) (fun r22 u22 H locs hpo22 hP hS => ?_)
      obtain ⟨hr22, h22_0, h22_1, h22_2, hq22⟩ := hpo22
      have hA23 := (hq22.1 5 List.not_mem_nil).trans hA9
      have hA24 := (hq22.1 2 List.not_mem_nil).trans hA10
      have hA25 := (hq22.1 3 List.not_mem_nil).trans hA11
      have hA26 := (hq22.1 4 List.not_mem_nil).trans hA12
      have hA27 := (hq22.1 7 List.not_mem_nil).trans hA13
      have hF28x := (hq22.2.1 13 (by decide)).trans hF14x
      have hF29x := (hq22.2.1 14 (by decide)).trans hF15x
      have hF30x := (hq22.2.1 15 (by decide)).trans hF16x
      have hF31x := (hq22.2.1 4 (by decide)).trans hF17x
      have hF32x := (hq22.2.1 6 (by decide)).trans hF18x
      have hfr := FR.step hfr hq22 (fun _ h => absurd h List.not_mem_nil) (by decide) (fun h => rfl)
      subst hr22
      refine lv_if_ne (tgt := 33) hx hb dX5_readWalk_29 (by decide) (fun c33 => absurd c33 (by decide)) (fun c33 => ?_)
      exact W.vret hx hb hr (fun t ht hW => ⟨⟨u22, rfl, ⟨(by first | (rw [hA27]; done) | (rw [hA27]; first | (exact Or.inl ⟨by rw [E]; exact EN, by rw [E]; exact ⟨h22_0, h22_1, h22_2⟩⟩) | (rw [E]; exact Or.inr ⟨rfl, h22_0, h22_1, h22_2, hF32x, _, by omega, hF31x, rfl, DV⟩))), hfr⟩, (show va_P (dC, dI) vwCl (qW cs b u22) t.heap by rw [ht]; exact hP)⟩, hS.F ht⟩) hS.2.2 dX5_readWalk_32
    · refine lv_if_ne (tgt := 23) hx hb dX5_readWalk_16 (by decide) (fun c34 => absurd c34 (by decide)) (fun c34 => ?_)
      refine lv_iconst (v := 1) hx hb dX5_readWalk_19 (by decide) ?_
      refine lv_goto (tgt := 24) hx hb dX5_readWalk_20 (by decide) ?_
      refine lv_bipush (v := 6) hx hb dX5_readWalk_24 (by decide) ?_
      refine vp_callSi (va_Run.run (va_runV (As := [.int 1, .int (nI 6)]) (rest := []) ⟨hx, hb, hml, hown, noTs⟩ (q_X5_passes_1 l dC dI H.size cs b u8 6 hb8.2.1) ⟨cbE 2 (wd_561 hE) (wd_118 hE) (wd_558 hE) rfl rfl (by decide +kernel) ⟨Nat.le_of_ble_eq_true rfl, Nat.le_of_ble_eq_true rfl⟩, (wd_560 hE), (wd_10 hE)⟩ ⟨PQ.blind, q_recv 0 (by decide) rfl hK hP rfl, (q_pre (av := [.ref (b 0), .int 1, .int (nI 6)]) hK hP hJ hE)⟩ rfl rfl hl.1 rfl (lv_room (Nat.le_of_ble_eq_true rfl)) dX5_readWalk_26 ⟨Nat.le_of_ble_eq_true rfl, Nat.le_of_ble_eq_true rfl⟩)) (fun r35 hr35 => ?_)
      subst hr35
      refine lv_if_ne (tgt := 33) hx hb dX5_readWalk_29 (by decide) (fun c36 => ?_) (fun c36 => absurd c36 (by decide))
      refine lv_aload_n hx hb dX5_readWalk_33 rfl (lv_at hl 0 rfl) ?_
      refine lv_dup hx hb dX5_readWalk_34 rfl ?_
      refine q_get (v := .int (nI i0)) hx hb 0 (by decide) rfl (ly_X5 hE) hown hK hP rfl 4 (by decide) (wd_231 hE) (fun _ h9 => h9) (congrArg (fun z : Int32 => some (Value.int z)) hF17x) dX5_readWalk_35 ?_
      refine lv_iconst (v := 1) hx hb dX5_readWalk_38 (by decide) ?_
      refine lv_iadd hx hb dX5_readWalk_39 ?_
      refine W.eq (g2 := F0 m 40 ls [.int (nI (i0 + 1)), .ref (b 0)]) (congrArg (fun z : Int32 => F0 m 40 ls (.int z :: [.ref (b 0)])) (nI_add i0 1)) ?_
      refine q_put (v := nI (i0 + 1)) (ty := .int) hx hb 0 4 (by decide) (ly_X5 hE) tyX5 tyX5_ok nmX5 hown hK hP hJ hAL hS rfl 4 (by decide) (wd_231 hE) (fun _ h9 => h9) rfl (by decide +kernel) rfl rfl rfl rfl (qE_put0 (by decide)) (Nat.le_of_ble_eq_true rfl) dX5_readWalk_40 (fun u37 H locs hf37 hq37 hP hS => ?_)
      have hA38 := (hq37.1 5 List.not_mem_nil).trans hA9
      have hA39 := (hq37.1 2 List.not_mem_nil).trans hA10
      have hA40 := (hq37.1 3 List.not_mem_nil).trans hA11
      have hA41 := (hq37.1 4 List.not_mem_nil).trans hA12
      have hA42 := (hq37.1 7 List.not_mem_nil).trans hA13
      have hF43x := (hq37.2.1 13 (by decide)).trans hF14x
      have hF44x := (hq37.2.1 14 (by decide)).trans hF15x
      have hF45x := (hq37.2.1 15 (by decide)).trans hF16x
      have hF46x := (hq37.2.1 6 (by decide)).trans hF18x
      have hF47x := (hq37.2.1 7 (by decide)).trans hb8.2.1
      have hF48x := (hq37.2.1 8 (by decide)).trans hb8.2.2.1
      have hF49x := (hq37.2.1 9 (by decide)).trans hb8.2.2.2
      have hfr := FR.step hfr hq37 (fun _ h => absurd h List.not_mem_nil) (by decide) (fun h => rfl)
      have kdf1 := kd_f tx sz1 (bgi tx sz1 (i0 + 1))
      have bq1 : i0 + 1 = c1 → bgi tx sz1 (i0 + 1) = sz1 := fun h => by rw [h]; exact hp2.2.1
      have bz1 : i0 + 1 < c1 → bgi tx sz1 (i0 + 1) < sz1 := fun h => (hp2.2.2 _ h).1
      refine lv_aload_n hx hb dX5_readWalk_43 rfl (lv_at hl 0 rfl) ?_
      refine lv_aload_n hx hb dX5_readWalk_44 rfl (lv_at hl 0 rfl) ?_
      refine qc_i hAL hS hA (va_runV (As := []) (rest := [.ref (b 0)]) ⟨hx, hb, hml, hown, noTs⟩ (q_X5_readPlace l dC dI H.size cs b u37 tx hA38 k2 hA39 k3 hA40 k4 hA41 dg hA42 sz1 c1 (i0 + 1) ln x8 x9 gg hF43x hF44x hF45x hf37 hF46x hF47x hF48x hF49x (by first | assumption | omega | rfl | (congr 1; omega)) (by first | assumption | omega | rfl | (congr 1; omega)) (by first | assumption | omega | rfl | (congr 1; omega)) (by first | assumption | omega | rfl | (congr 1; omega)) (by first | assumption | omega | rfl | (congr 1; omega))) ⟨cbE 0 (wd_602 hE) (wd_118 hE) (wd_599 hE) rfl rfl (by decide +kernel) ⟨Nat.le_of_ble_eq_true rfl, Nat.le_of_ble_eq_true rfl⟩, (wd_601 hE), (wd_16 hE)⟩ ⟨PQ.blind, q_recv 0 (by decide) rfl hK hP rfl, (q_pre (av := [.ref (b 0)]) hK hP hJ hE)⟩ rfl rfl hl.1 rfl (lv_room (Nat.le_of_ble_eq_true rfl)) dX5_readWalk_45 ⟨Nat.le_of_ble_eq_true rfl, Nat.le_of_ble_eq_true rfl⟩) (fun r50 u50 H locs hpo50 hP hS => ?_)
      obtain ⟨hr50, hq50⟩ := hpo50
      have hA51 := (hq50.1 5 List.not_mem_nil).trans hA38
      have hA52 := (hq50.1 2 List.not_mem_nil).trans hA39
      have hA53 := (hq50.1 3 List.not_mem_nil).trans hA40
      have hA54 := (hq50.1 4 List.not_mem_nil).trans hA41
      have hA55 := (hq50.1 7 List.not_mem_nil).trans hA42
      have hF56x := (hq50.2.1 13 (by decide)).trans hF43x
      have hF57x := (hq50.2.1 14 (by decide)).trans hF44x
      have hF58x := (hq50.2.1 15 (by decide)).trans hF45x
      have hF59x := (hq50.2.1 6 (by decide)).trans hF46x
      have hfr := FR.step hfr hq50 (fun _ h => absurd h List.not_mem_nil) (by decide) (fun h => rfl)
      rcases hr50 with ⟨rfl, hb50⟩ | ⟨rfl, hb50⟩ | ⟨rfl, hb50⟩
      · have EHd : pHead tx sz1 gg (bgi tx sz1 i0) = (bad (kd tx sz1 (bgi tx sz1 (i0 + 1))), bgi tx sz1 (i0 + 1), gg) := (ph_w W5).trans (pw_n (show pW gg ≠ 10 by omega) hb50.1)
        have E : pLine tx sz1 gg (bgi tx sz1 i0) = (bad (kd tx sz1 (bgi tx sz1 (i0 + 1))), bgi tx sz1 (i0 + 1), gg) := (pl_h (by rw [EHd]; exact bad_ne)).trans EHd
        have EN : bad (kd tx sz1 (bgi tx sz1 (i0 + 1))) ≠ 0 := bad_ne
        have bb := bad_b (kd tx sz1 (bgi tx sz1 (i0 + 1)))
        refine q_put (v := -1) (ty := .int) hx hb 0 5 (by decide) (ly_X5 hE) tyX5 tyX5_ok nmX5 hown hK hP hJ hAL hS rfl 5 (by decide) (wd_232 hE) (fun _ h9 => h9) rfl (by decide +kernel) rfl rfl rfl rfl (qE_put0 (by decide)) (Nat.le_of_ble_eq_true rfl) dX5_readWalk_48 (fun u60 H locs hf60 hq60 hP hS => ?_)
        have hA61 := (hq60.1 5 List.not_mem_nil).trans hA51
        have hA62 := (hq60.1 2 List.not_mem_nil).trans hA52
        have hA63 := (hq60.1 3 List.not_mem_nil).trans hA53
        have hA64 := (hq60.1 4 List.not_mem_nil).trans hA54
        have hA65 := (hq60.1 7 List.not_mem_nil).trans hA55
        have hF66x := (hq60.2.1 13 (by decide)).trans hF56x
        have hF67x := (hq60.2.1 14 (by decide)).trans hF57x
        have hF68x := (hq60.2.1 15 (by decide)).trans hF58x
        have hF69x := (hq60.2.1 6 (by decide)).trans hF59x
        have hF70x := (hq60.2.1 7 (by decide)).trans hb50.2.1.1
        have hF71x := (hq60.2.1 8 (by decide)).trans hb50.2.1.2.1
        have hF72x := (hq60.2.1 9 (by decide)).trans hb50.2.1.2.2
        have hF73x := (hq60.2.1 4 (by decide)).trans hb50.2.2
        have hfr := FR.step hfr hq60 (fun _ h => absurd h List.not_mem_nil) (by decide) (fun h => rfl)
        refine lv_aload_n hx hb dX5_readWalk_51 rfl (lv_at hl 0 rfl) ?_
        refine q_get (v := .ref (b 8)) hx hb 0 (by decide) rfl (ly_X5 hE) hown hK hP rfl 2 (by decide) (wd_229 hE) (fun _ h9 => h9) rfl dX5_readWalk_52 ?_
        refine lv_aload_n hx hb dX5_readWalk_55 rfl (lv_at hl 0 rfl) ?_
        refine q_get (v := .int (-1)) hx hb 0 (by decide) rfl (ly_X5 hE) hown hK hP rfl 5 (by decide) (wd_232 hE) (fun _ h9 => h9) (congrArg (fun z : Int32 => some (Value.int z)) hf60) dX5_readWalk_56 ?_
        refine lv_iconst (v := 0) hx hb dX5_readWalk_59 (by decide) ?_
        refine qc_v hAL hS hA (va_runV (As := [.int (-1), .int 0]) (rest := []) ⟨hx, hb, hml, hown, noTs⟩ (q_X10_start l dC dI H.size cs b u60 (-1) 0) ⟨cbE 2 (wd_637 hE) (wd_120 hE) (wd_634 hE) rfl rfl (by decide +kernel) ⟨Nat.le_of_ble_eq_true rfl, Nat.le_of_ble_eq_true rfl⟩, (wd_635 hE), (wd_636 hE)⟩ ⟨PQ.blind, q_recv 8 (by decide) rfl hK hP rfl, (q_pre (av := [.ref (b 8), .int (-1), .int 0]) hK hP hJ hE)⟩ rfl rfl hl.1 rfl (lv_room (Nat.le_of_ble_eq_true rfl)) dX5_readWalk_60 ⟨Nat.le_of_ble_eq_true rfl, Nat.le_of_ble_eq_true rfl⟩) (fun u74 H locs hpo74 hP hS => ?_)
        obtain ⟨h74_0, hq74⟩ := hpo74
        have hA75 := (hq74.1 5 (by decide)).trans hA61
        have hA76 := (hq74.1 2 (by decide)).trans hA62
        have hA77 := (hq74.1 3 (by decide)).trans hA63
        have hA78 := (hq74.1 4 (by decide)).trans hA64
        have hA79 := (hq74.1 7 (by decide)).trans hA65
        have hF80x := (hq74.2.1 13 (by decide)).trans hF66x
        have hF81x := (hq74.2.1 14 (by decide)).trans hF67x
        have hF82x := (hq74.2.1 15 (by decide)).trans hF68x
        have hF83x := (hq74.2.1 6 (by decide)).trans hF69x
        have hF84x := (hq74.2.1 7 (by decide)).trans hF70x
        have hF85x := (hq74.2.1 8 (by decide)).trans hF71x
        have hF86x := (hq74.2.1 9 (by decide)).trans hF72x
        have hF87x := (hq74.2.1 4 (by decide)).trans hF73x
        have hF88x := (hq74.2.1 5 (by decide)).trans hf60
        have hfr := FR.step hfr hq74 (by decide) (by decide) (fun h => rfl)
        refine lv_aload_n hx hb dX5_readWalk_63 rfl (lv_at hl 0 rfl) ?_
        refine va_csv (va_Run.run (va_runV (As := []) (rest := []) ⟨hx, hb, hml, hown, noTs⟩ (q_X5_readNumber_f l dC dI H.size cs b u74 ((bad (kd tx sz1 (bgi tx sz1 (i0 + 1))))) hF84x (by first | assumption | omega | rfl | (congr 1; omega)) (by first | assumption | omega | rfl | (congr 1; omega))) ⟨cbE 0 (wd_641 hE) (wd_118 hE) (wd_638 hE) rfl rfl (by decide +kernel) ⟨Nat.le_of_ble_eq_true rfl, Nat.le_of_ble_eq_true rfl⟩, (wd_640 hE), (wd_19 hE)⟩ ⟨PQ.blind, q_recv 0 (by decide) rfl hK hP rfl, (q_pre (av := [.ref (b 0)]) hK hP hJ hE)⟩ rfl rfl hl.1 rfl (lv_room (Nat.le_of_ble_eq_true rfl)) dX5_readWalk_64 ⟨Nat.le_of_ble_eq_true rfl, Nat.le_of_ble_eq_true rfl⟩)) (fun _ => ?_)
        refine lv_iconst (v := 0) hx hb dX5_readWalk_67 (by decide) ?_
        refine lv_istore_n (lv' := [(1, .int 0), (0, .ref (b 0))]) hx hb dX5_readWalk_68 rfl hl (by decide) rfl (fun ls hl => ?_)
        refine lv_iload_n hx hb dX5_readWalk_69 rfl (lv_at hl 0 rfl) ?_
        refine lv_bipush (v := 24) hx hb dX5_readWalk_70 (by decide) ?_
        refine lv_icmp_gt (tgt := 96) hx hb dX5_readWalk_72 (by decide) (fun c90 => absurd c90 (by decide)) (fun c90 => ?_)
        refine lv_aload_n hx hb dX5_readWalk_75 rfl (lv_at hl 1 rfl) ?_
        refine vp_callSi (va_Run.run (va_runV (As := []) (rest := []) ⟨hx, hb, hml, hown, noTs⟩ (q_X5_isSign_f l dC dI H.size cs b u74 tx hA75 k2 hA76 k3 hA77 k4 hA78 sz1 c1 ((i0 + 1)) ((bad (kd tx sz1 (bgi tx sz1 (i0 + 1))))) hF80x hF81x hF82x hF87x hF84x (by first | assumption | omega | rfl | (congr 1; omega)) (by first | assumption | omega | rfl | (congr 1; omega)) (by first | assumption | omega | rfl | (congr 1; omega)) (by first | assumption | omega | rfl | (congr 1; omega)) (by first | assumption | omega | rfl | (congr 1; omega)) (by first | assumption | omega | rfl | (congr 1; omega))) ⟨cbE 0 (wd_658 hE) (wd_118 hE) (wd_655 hE) rfl rfl (by decide +kernel) ⟨Nat.le_of_ble_eq_true rfl, Nat.le_of_ble_eq_true rfl⟩, (wd_657 hE), (wd_20 hE)⟩ ⟨PQ.blind, q_recv 0 (by decide) rfl hK hP rfl, (q_pre (av := [.ref (b 0)]) hK hP hJ hE)⟩ rfl rfl hl.1 rfl (lv_room (Nat.le_of_ble_eq_true rfl)) dX5_readWalk_76 ⟨Nat.le_of_ble_eq_true rfl, Nat.le_of_ble_eq_true rfl⟩)) (fun r91 hr91 => ?_)
        subst hr91
        refine lv_if_eq (tgt := 96) hx hb dX5_readWalk_79 (by decide) (fun c92 => ?_) (fun c92 => absurd c92 (by decide))
        refine lv_aload_n hx hb dX5_readWalk_96 rfl (lv_at hl 1 rfl) ?_
        refine q_get (v := .int (nI ((bad (kd tx sz1 (bgi tx sz1 (i0 + 1))))))) hx hb 0 (by decide) rfl (ly_X5 hE) hown hK hP rfl 7 (by decide) (wd_234 hE) (fun _ h9 => h9) (congrArg (fun z : Int32 => some (Value.int z)) hF84x) dX5_readWalk_97 ?_
        refine lv_if_ne (tgt := 122) hx hb dX5_readWalk_100 (by decide) (fun c93 => ?_) (fun c93 => False.elim (by have c93 := (b_eq (nI_toInt (n := (bad (kd tx sz1 (bgi tx sz1 (i0 + 1))))) (by omega)) (show Int32.toInt 0 = 0 from rfl)).mp c93; omega))
        have c93 := mt (b_eq (nI_toInt (n := (bad (kd tx sz1 (bgi tx sz1 (i0 + 1))))) (by omega)) (show Int32.toInt 0 = 0 from rfl)).mpr c93
        exact W.vret hx hb hr (fun t ht hW => ⟨⟨u74, rfl, ⟨(by first | (rw [hA79]; done) | (rw [hA79]; first | (exact Or.inl ⟨by rw [E]; exact EN, by rw [E]; exact ⟨hF84x, hF85x, hF86x⟩⟩) | (rw [E]; exact Or.inr ⟨rfl, hF84x, hF85x, hF86x, hF83x, _, by omega, hF87x, rfl, DV⟩))), hfr⟩, (show va_P (dC, dI) vwCl (qW cs b u74) t.heap by rw [ht]; exact hP)⟩, hS.F ht⟩) hS.2.2 dX5_readWalk_122
      · have EHd : pHead tx sz1 gg (bgi tx sz1 i0) = (3, bgi tx sz1 (i0 + 1), gg) := (ph_w W5).trans (pw_3 (show pW gg ≠ 10 by omega) hb50.1 hb50.2.1)
        have E : pLine tx sz1 gg (bgi tx sz1 i0) = (3, bgi tx sz1 (i0 + 1), gg) := (pl_h (by rw [EHd]; exact (show (3 : Nat) ≠ 0 by decide))).trans EHd
        have EN : 3 ≠ 0 := (show (3 : Nat) ≠ 0 by decide)
        refine q_put (v := -1) (ty := .int) hx hb 0 5 (by decide) (ly_X5 hE) tyX5 tyX5_ok nmX5 hown hK hP hJ hAL hS rfl 5 (by decide) (wd_232 hE) (fun _ h9 => h9) rfl (by decide +kernel) rfl rfl rfl rfl (qE_put0 (by decide)) (Nat.le_of_ble_eq_true rfl) dX5_readWalk_48 (fun u94 H locs hf94 hq94 hP hS => ?_)
        have hA95 := (hq94.1 5 List.not_mem_nil).trans hA51
        have hA96 := (hq94.1 2 List.not_mem_nil).trans hA52
        have hA97 := (hq94.1 3 List.not_mem_nil).trans hA53
        have hA98 := (hq94.1 4 List.not_mem_nil).trans hA54
        have hA99 := (hq94.1 7 List.not_mem_nil).trans hA55
        have hF100x := (hq94.2.1 13 (by decide)).trans hF56x
        have hF101x := (hq94.2.1 14 (by decide)).trans hF57x
        have hF102x := (hq94.2.1 15 (by decide)).trans hF58x
        have hF103x := (hq94.2.1 6 (by decide)).trans hF59x
        have hF104x := (hq94.2.1 7 (by decide)).trans hb50.2.2.1.1
        have hF105x := (hq94.2.1 8 (by decide)).trans hb50.2.2.1.2.1
        have hF106x := (hq94.2.1 9 (by decide)).trans hb50.2.2.1.2.2
        have hF107x := (hq94.2.1 4 (by decide)).trans hb50.2.2.2
        have hfr := FR.step hfr hq94 (fun _ h => absurd h List.not_mem_nil) (by decide) (fun h => rfl)
        refine lv_aload_n hx hb dX5_readWalk_51 rfl (lv_at hl 0 rfl) ?_
        refine q_get (v := .ref (b 8)) hx hb 0 (by decide) rfl (ly_X5 hE) hown hK hP rfl 2 (by decide) (wd_229 hE) (fun _ h9 => h9) rfl dX5_readWalk_52 ?_
        refine lv_aload_n hx hb dX5_readWalk_55 rfl (lv_at hl 0 rfl) ?_
        refine q_get (v := .int (-1)) hx hb 0 (by decide) rfl (ly_X5 hE) hown hK hP rfl 5 (by decide) (wd_232 hE) (fun _ h9 => h9) (congrArg (fun z : Int32 => some (Value.int z)) hf94) dX5_readWalk_56 ?_
        refine lv_iconst (v := 0) hx hb dX5_readWalk_59 (by decide) ?_
        refine qc_v hAL hS hA (va_runV (As := [.int (-1), .int 0]) (rest := []) ⟨hx, hb, hml, hown, noTs⟩ (q_X10_start l dC dI H.size cs b u94 (-1) 0) ⟨cbE 2 (wd_637 hE) (wd_120 hE) (wd_634 hE) rfl rfl (by decide +kernel) ⟨Nat.le_of_ble_eq_true rfl, Nat.le_of_ble_eq_true rfl⟩, (wd_635 hE), (wd_636 hE)⟩ ⟨PQ.blind, q_recv 8 (by decide) rfl hK hP rfl, (q_pre (av := [.ref (b 8), .int (-1), .int 0]) hK hP hJ hE)⟩ rfl rfl hl.1 rfl (lv_room (Nat.le_of_ble_eq_true rfl)) dX5_readWalk_60 ⟨Nat.le_of_ble_eq_true rfl, Nat.le_of_ble_eq_true rfl⟩) (fun u108 H locs hpo108 hP hS => ?_)
        obtain ⟨h108_0, hq108⟩ := hpo108
        have hA109 := (hq108.1 5 (by decide)).trans hA95
        have hA110 := (hq108.1 2 (by decide)).trans hA96
        have hA111 := (hq108.1 3 (by decide)).trans hA97
        have hA112 := (hq108.1 4 (by decide)).trans hA98
        have hA113 := (hq108.1 7 (by decide)).trans hA99
        have hF114x := (hq108.2.1 13 (by decide)).trans hF100x
        have hF115x := (hq108.2.1 14 (by decide)).trans hF101x
        have hF116x := (hq108.2.1 15 (by decide)).trans hF102x
        have hF117x := (hq108.2.1 6 (by decide)).trans hF103x
        have hF118x := (hq108.2.1 7 (by decide)).trans hF104x
        have hF119x := (hq108.2.1 8 (by decide)).trans hF105x
        have hF120x := (hq108.2.1 9 (by decide)).trans hF106x
        have hF121x := (hq108.2.1 4 (by decide)).trans hF107x
        have hF122x := (hq108.2.1 5 (by decide)).trans hf94
        have hfr := FR.step hfr hq108 (by decide) (by decide) (fun h => rfl)
        refine lv_aload_n hx hb dX5_readWalk_63 rfl (lv_at hl 0 rfl) ?_
        refine va_csv (va_Run.run (va_runV (As := []) (rest := []) ⟨hx, hb, hml, hown, noTs⟩ (q_X5_readNumber_f l dC dI H.size cs b u108 3 hF118x (by first | assumption | omega | rfl | (congr 1; omega)) (by first | assumption | omega | rfl | (congr 1; omega))) ⟨cbE 0 (wd_641 hE) (wd_118 hE) (wd_638 hE) rfl rfl (by decide +kernel) ⟨Nat.le_of_ble_eq_true rfl, Nat.le_of_ble_eq_true rfl⟩, (wd_640 hE), (wd_19 hE)⟩ ⟨PQ.blind, q_recv 0 (by decide) rfl hK hP rfl, (q_pre (av := [.ref (b 0)]) hK hP hJ hE)⟩ rfl rfl hl.1 rfl (lv_room (Nat.le_of_ble_eq_true rfl)) dX5_readWalk_64 ⟨Nat.le_of_ble_eq_true rfl, Nat.le_of_ble_eq_true rfl⟩)) (fun _ => ?_)
        refine lv_iconst (v := 0) hx hb dX5_readWalk_67 (by decide) ?_
        refine lv_istore_n (lv' := [(1, .int 0), (0, .ref (b 0))]) hx hb dX5_readWalk_68 rfl hl (by decide) rfl (fun ls hl => ?_)
        refine lv_iload_n hx hb dX5_readWalk_69 rfl (lv_at hl 0 rfl) ?_
        refine lv_bipush (v := 24) hx hb dX5_readWalk_70 (by decide) ?_
        refine lv_icmp_gt (tgt := 96) hx hb dX5_readWalk_72 (by decide) (fun c124 => absurd c124 (by decide)) (fun c124 => ?_)
        refine lv_aload_n hx hb dX5_readWalk_75 rfl (lv_at hl 1 rfl) ?_
        refine vp_callSi (va_Run.run (va_runV (As := []) (rest := []) ⟨hx, hb, hml, hown, noTs⟩ (q_X5_isSign_f l dC dI H.size cs b u108 tx hA109 k2 hA110 k3 hA111 k4 hA112 sz1 c1 ((i0 + 1)) 3 hF114x hF115x hF116x hF121x hF118x (by first | assumption | omega | rfl | (congr 1; omega)) (by first | assumption | omega | rfl | (congr 1; omega)) (by first | assumption | omega | rfl | (congr 1; omega)) (by first | assumption | omega | rfl | (congr 1; omega)) (by first | assumption | omega | rfl | (congr 1; omega)) (by first | assumption | omega | rfl | (congr 1; omega))) ⟨cbE 0 (wd_658 hE) (wd_118 hE) (wd_655 hE) rfl rfl (by decide +kernel) ⟨Nat.le_of_ble_eq_true rfl, Nat.le_of_ble_eq_true rfl⟩, (wd_657 hE), (wd_20 hE)⟩ ⟨PQ.blind, q_recv 0 (by decide) rfl hK hP rfl, (q_pre (av := [.ref (b 0)]) hK hP hJ hE)⟩ rfl rfl hl.1 rfl (lv_room (Nat.le_of_ble_eq_true rfl)) dX5_readWalk_76 ⟨Nat.le_of_ble_eq_true rfl, Nat.le_of_ble_eq_true rfl⟩)) (fun r125 hr125 => ?_)
        subst hr125
        refine lv_if_eq (tgt := 96) hx hb dX5_readWalk_79 (by decide) (fun c126 => ?_) (fun c126 => absurd c126 (by decide))
        refine lv_aload_n hx hb dX5_readWalk_96 rfl (lv_at hl 1 rfl) ?_
        refine q_get (v := .int (nI 3)) hx hb 0 (by decide) rfl (ly_X5 hE) hown hK hP rfl 7 (by decide) (wd_234 hE) (fun _ h9 => h9) (congrArg (fun z : Int32 => some (Value.int z)) hF118x) dX5_readWalk_97 ?_
        refine lv_if_ne (tgt := 122) hx hb dX5_readWalk_100 (by decide) (fun c127 => ?_) (fun c127 => False.elim (by have c127 := (b_eq (nI_toInt (n := 3) (by omega)) (show Int32.toInt 0 = 0 from rfl)).mp c127; omega))
        have c127 := mt (b_eq (nI_toInt (n := 3) (by omega)) (show Int32.toInt 0 = 0 from rfl)).mpr c127
        exact W.vret hx hb hr (fun t ht hW => ⟨⟨u108, rfl, ⟨(by first | (rw [hA113]; done) | (rw [hA113]; first | (exact Or.inl ⟨by rw [E]; exact EN, by rw [E]; exact ⟨hF118x, hF119x, hF120x⟩⟩) | (rw [E]; exact Or.inr ⟨rfl, hF118x, hF119x, hF120x, hF117x, _, by omega, hF121x, rfl, DV⟩))), hfr⟩, (show va_P (dC, dI) vwCl (qW cs b u108) t.heap by rw [ht]; exact hP)⟩, hS.F ht⟩) hS.2.2 dX5_readWalk_122
      · have A1 := hb50.1
        have A2 := hb50.2.1
        have A3 := vl_lt A1
        have kdf2 := kd_f tx sz1 (bgi tx sz1 (i0 + 1 + 1))
        have bq2 : i0 + 1 + 1 = c1 → bgi tx sz1 (i0 + 1 + 1) = sz1 := fun h => by rw [h]; exact hp2.2.1
        have bz2 : i0 + 1 + 1 < c1 → bgi tx sz1 (i0 + 1 + 1) < sz1 := fun h => (hp2.2.2 _ h).1
        refine q_put (v := nI (vl tx sz1 (bgi tx sz1 (i0 + 1)))) (ty := .int) hx hb 0 5 (by decide) (ly_X5 hE) tyX5 tyX5_ok nmX5 hown hK hP hJ hAL hS rfl 5 (by decide) (wd_232 hE) (fun _ h9 => h9) rfl (by decide +kernel) rfl rfl rfl rfl (qE_put0 (by decide)) (Nat.le_of_ble_eq_true rfl) dX5_readWalk_48 (fun u128 H locs hf128 hq128 hP hS => ?_)
        have hA129 := (hq128.1 5 List.not_mem_nil).trans hA51
        have hA130 := (hq128.1 2 List.not_mem_nil).trans hA52
        have hA131 := (hq128.1 3 List.not_mem_nil).trans hA53
        have hA132 := (hq128.1 4 List.not_mem_nil).trans hA54
        have hA133 := (hq128.1 7 List.not_mem_nil).trans hA55
        have hF134x := (hq128.2.1 13 (by decide)).trans hF56x
        have hF135x := (hq128.2.1 14 (by decide)).trans hF57x
        have hF136x := (hq128.2.1 15 (by decide)).trans hF58x
        have hF137x := (hq128.2.1 6 (by decide)).trans hF59x
        have hF138x := (hq128.2.1 4 (by decide)).trans hb50.2.2.1
        have hF139x := (hq128.2.1 7 (by decide)).trans hb50.2.2.2.1
        have hF140x := (hq128.2.1 8 (by decide)).trans hb50.2.2.2.2.1
        have hF141x := (hq128.2.1 9 (by decide)).trans hb50.2.2.2.2.2
        have hfr := FR.step hfr hq128 (fun _ h => absurd h List.not_mem_nil) (by decide) (fun h => rfl)
        refine lv_aload_n hx hb dX5_readWalk_51 rfl (lv_at hl 0 rfl) ?_
        refine q_get (v := .ref (b 8)) hx hb 0 (by decide) rfl (ly_X5 hE) hown hK hP rfl 2 (by decide) (wd_229 hE) (fun _ h9 => h9) rfl dX5_readWalk_52 ?_
        refine lv_aload_n hx hb dX5_readWalk_55 rfl (lv_at hl 0 rfl) ?_
        refine q_get (v := .int (nI (vl tx sz1 (bgi tx sz1 (i0 + 1))))) hx hb 0 (by decide) rfl (ly_X5 hE) hown hK hP rfl 5 (by decide) (wd_232 hE) (fun _ h9 => h9) (congrArg (fun z : Int32 => some (Value.int z)) hf128) dX5_readWalk_56 ?_
        refine lv_iconst (v := 0) hx hb dX5_readWalk_59 (by decide) ?_
        refine qc_v hAL hS hA (va_runV (As := [.int (nI (vl tx sz1 (bgi tx sz1 (i0 + 1)))), .int 0]) (rest := []) ⟨hx, hb, hml, hown, noTs⟩ (q_X10_start l dC dI H.size cs b u128 (nI (vl tx sz1 (bgi tx sz1 (i0 + 1)))) 0) ⟨cbE 2 (wd_637 hE) (wd_120 hE) (wd_634 hE) rfl rfl (by decide +kernel) ⟨Nat.le_of_ble_eq_true rfl, Nat.le_of_ble_eq_true rfl⟩, (wd_635 hE), (wd_636 hE)⟩ ⟨PQ.blind, q_recv 8 (by decide) rfl hK hP rfl, (q_pre (av := [.ref (b 8), .int (nI (vl tx sz1 (bgi tx sz1 (i0 + 1)))), .int 0]) hK hP hJ hE)⟩ rfl rfl hl.1 rfl (lv_room (Nat.le_of_ble_eq_true rfl)) dX5_readWalk_60 ⟨Nat.le_of_ble_eq_true rfl, Nat.le_of_ble_eq_true rfl⟩) (fun u142 H locs hpo142 hP hS => ?_)
        obtain ⟨h142_0, hq142⟩ := hpo142
        have hA143 := (hq142.1 5 (by decide)).trans hA129
        have hA144 := (hq142.1 2 (by decide)).trans hA130
        have hA145 := (hq142.1 3 (by decide)).trans hA131
        have hA146 := (hq142.1 4 (by decide)).trans hA132
        have hA147 := (hq142.1 7 (by decide)).trans hA133
        have hF148x := (hq142.2.1 13 (by decide)).trans hF134x
        have hF149x := (hq142.2.1 14 (by decide)).trans hF135x
        have hF150x := (hq142.2.1 15 (by decide)).trans hF136x
        have hF151x := (hq142.2.1 6 (by decide)).trans hF137x
        have hF152x := (hq142.2.1 4 (by decide)).trans hF138x
        have hF153x := (hq142.2.1 7 (by decide)).trans hF139x
        have hF154x := (hq142.2.1 8 (by decide)).trans hF140x
        have hF155x := (hq142.2.1 9 (by decide)).trans hF141x
        have hF156x := (hq142.2.1 5 (by decide)).trans hf128
        have hfr := FR.step hfr hq142 (by decide) (by decide) (fun h => rfl)
        refine lv_aload_n hx hb dX5_readWalk_63 rfl (lv_at hl 0 rfl) ?_
        refine qc_v hAL hS hA (va_runV (As := []) (rest := []) ⟨hx, hb, hml, hown, noTs⟩ (q_X5_readNumber l dC dI H.size cs b u142 tx hA143 k2 hA144 k3 hA145 k4 hA146 dg hA147 sz1 c1 (((i0 + 1) + 1)) 0 hF148x hF149x hF150x hF152x hF153x h142_0 (by first | assumption | omega | rfl | (congr 1; omega)) (by first | assumption | omega | rfl | (congr 1; omega)) (by first | assumption | omega | rfl | (congr 1; omega)) (by first | assumption | omega | rfl | (congr 1; omega)) (by first | assumption | omega | rfl | (congr 1; omega))) ⟨cbE 0 (wd_641 hE) (wd_118 hE) (wd_638 hE) rfl rfl (by decide +kernel) ⟨Nat.le_of_ble_eq_true rfl, Nat.le_of_ble_eq_true rfl⟩, (wd_640 hE), (wd_19 hE)⟩ ⟨PQ.blind, q_recv 0 (by decide) rfl hK hP rfl, (q_pre (av := [.ref (b 0)]) hK hP hJ hE)⟩ rfl rfl hl.1 rfl (lv_room (Nat.le_of_ble_eq_true rfl)) dX5_readWalk_64 ⟨Nat.le_of_ble_eq_true rfl, Nat.le_of_ble_eq_true rfl⟩) (fun u157 H locs hpo157 hP hS => ?_)
        obtain ⟨h157_0, hq157⟩ := hpo157
        have hA158 := (hq157.1 5 (by decide)).trans hA143
        have hA159 := (hq157.1 2 (by decide)).trans hA144
        have hA160 := (hq157.1 3 (by decide)).trans hA145
        have hA161 := (hq157.1 4 (by decide)).trans hA146
        have hA162 := (hq157.1 7 (by decide)).trans hA147
        have hF163x := (hq157.2.1 13 (by decide)).trans hF148x
        have hF164x := (hq157.2.1 14 (by decide)).trans hF149x
        have hF165x := (hq157.2.1 15 (by decide)).trans hF150x
        have hF166x := (hq157.2.1 6 (by decide)).trans hF151x
        have hF167x := (hq157.2.1 7 (by decide)).trans hF153x
        have hF168x := (hq157.2.1 8 (by decide)).trans hF154x
        have hF169x := (hq157.2.1 9 (by decide)).trans hF155x
        have hF170x := (hq157.2.1 5 (by decide)).trans hF156x
        have hF171x := (hq157.2.1 23 (by decide)).trans h142_0
        have hfr := FR.step hfr hq157 (by decide) (by decide) (fun h => rfl)
        obtain ⟨ib, IB1, IB2, IB3⟩ := h157_0
        refine lv_iconst (v := 0) hx hb dX5_readWalk_67 (by decide) ?_
        refine lv_istore_n (lv' := [(1, .int 0), (0, .ref (b 0))]) hx hb dX5_readWalk_68 rfl hl (by decide) rfl (fun ls hl => ?_)
        refine q_ind (I := fun n u_ H locs ls => va_P (dC, dI) vwCl (qW cs b u_) H ∧ va_S (AQ b s.heap.size) s.heap H locs ∧ FR [7, 9, 10] [4, 5, 6, 22, 23, 7, 8, 9] false u u_ ∧ ∃ (i_172 : Nat) (jt_172 : Nat) (hh_172 : Nat), n = 25 - i_172 ∧ (i_172 ≤ 24) ∧ (jt_172 ≤ c1) ∧ (hh_172 ≤ 999) ∧ (pSteps tx sz1 gg (25 - i_172) hh_172 i_172 (bgi tx sz1 jt_172) = pSteps tx sz1 gg 25 (vl tx sz1 (bgi tx sz1 (i0 + 1))) 0 (pNum tx sz1 (bgi tx sz1 (i0 + 1 + 1)))) ∧ (rA u_ 7 = dg) ∧ (rF u_ 4 = nI jt_172) ∧ (rF u_ 5 = nI hh_172) ∧ (rF u_ 6 = nI ln) ∧ (rF u_ 7 = 0) ∧ (rF u_ 8 = x8) ∧ (rF u_ 9 = x9) ∧ (rF u_ 23 = nI i_172) ∧ lv_has ls 2 [(0, .ref (b 0)), (1, .int (nI i_172))]) (fun n u172 H locs ls hI ih172 => ?_) _ u157 _ _ _ ⟨hP, hS, hfr, 0, ib, (vl tx sz1 (bgi tx sz1 (i0 + 1))), rfl, (by first | assumption | omega | rfl | (congr 1; omega)), (by first | assumption | omega | rfl | (congr 1; omega)), (by first | assumption | omega | rfl | (congr 1; omega)), (by show pSteps tx sz1 gg 25 _ 0 _ = _; rw [IB3]), hA162, IB2, hF170x, hF166x, hF167x, hF168x, hF169x, hF171x, lv_sub hl [1, 0] rfl⟩
        obtain ⟨hP, hS, hfr, i_172, jt_172, hh_172, hmu172, hL172_0, hL172_1, hL172_2, hL172_3, hL172_4, hL172_5, hL172_6, hL172_7, hL172_8, hL172_9, hL172_10, hL172_11, hl⟩ := hI
        have hA173 := (hfr.1 5 (by decide)).trans hAc5
        have hA174 := (hfr.1 2 (by decide)).trans hAc2
        have hA175 := (hfr.1 3 (by decide)).trans hAc3
        have hA176 := (hfr.1 4 (by decide)).trans hAc4
        have hF177x := (hfr.2.1 13 (by decide)).trans hF13
        have hF178x := (hfr.2.1 14 (by decide)).trans hF14
        have hF179x := (hfr.2.1 15 (by decide)).trans hF15
        subst hmu172
        have kdfj := kd_f tx sz1 (bgi tx sz1 (jt_172))
        have bqj : jt_172 = c1 → bgi tx sz1 (jt_172) = sz1 := fun h => by rw [h]; exact hp2.2.1
        have bzj : jt_172 < c1 → bgi tx sz1 (jt_172) < sz1 := fun h => (hp2.2.2 _ h).1
        refine lv_iload_n hx hb dX5_readWalk_69 rfl (lv_at hl 1 rfl) ?_
        refine lv_bipush (v := 24) hx hb dX5_readWalk_70 (by decide) ?_
        refine lv_icmp_gt (tgt := 96) hx hb dX5_readWalk_72 (by decide) (fun c180 => False.elim (by have c180 := (b_lt (show Int32.toInt 24 = 24 from rfl) (nI_toInt (n := i_172) (by omega))).mp c180; omega)) (fun c180 => ?_)
        have c180 := mt (b_lt (show Int32.toInt 24 = 24 from rfl) (nI_toInt (n := i_172) (by omega))).mpr c180
        refine lv_aload_n hx hb dX5_readWalk_75 rfl (lv_at hl 0 rfl) ?_
        refine vp_callSi (va_Run.run (va_runV (As := []) (rest := []) ⟨hx, hb, hml, hown, noTs⟩ (q_X5_isSign l dC dI H.size cs b u172 tx hA173 k2 hA174 k3 hA175 k4 hA176 sz1 c1 jt_172 hF177x hF178x hF179x hL172_5 hL172_8 (by first | assumption | omega | rfl | (congr 1; omega)) (by first | assumption | omega | rfl | (congr 1; omega)) (by first | assumption | omega | rfl | (congr 1; omega)) (by first | assumption | omega | rfl | (congr 1; omega))) ⟨cbE 0 (wd_658 hE) (wd_118 hE) (wd_655 hE) rfl rfl (by decide +kernel) ⟨Nat.le_of_ble_eq_true rfl, Nat.le_of_ble_eq_true rfl⟩, (wd_657 hE), (wd_20 hE)⟩ ⟨PQ.blind, q_recv 0 (by decide) rfl hK hP rfl, (q_pre (av := [.ref (b 0)]) hK hP hJ hE)⟩ rfl rfl hl.1 rfl (lv_room (Nat.le_of_ble_eq_true rfl)) dX5_readWalk_76 ⟨Nat.le_of_ble_eq_true rfl, Nat.le_of_ble_eq_true rfl⟩)) (fun r181 hr181 => ?_)
        rcases hr181 with ⟨rfl, hb181⟩ | ⟨rfl, hb181⟩
        · have SN := hb181
          refine lv_if_eq (tgt := 96) hx hb dX5_readWalk_79 (by decide) (fun c182 => absurd c182 (by decide)) (fun c182 => ?_)
          refine lv_aload_n hx hb dX5_readWalk_82 rfl (lv_at hl 0 rfl) ?_
          refine qc_v hAL hS hA (va_runV (As := []) (rest := []) ⟨hx, hb, hml, hown, noTs⟩ (q_X5_readStep l dC dI H.size cs b u172 tx hA173 k2 hA174 k3 hA175 k4 hA176 dg hL172_4 sz1 c1 jt_172 ln x8 x9 gg i_172 hh_172 hF177x hF178x hF179x hL172_5 hL172_7 hL172_8 hL172_9 hL172_10 hL172_11 hL172_6 (by first | assumption | omega | rfl | (congr 1; omega)) (by first | assumption | omega | rfl | (congr 1; omega)) (by first | assumption | omega | rfl | (congr 1; omega)) (by first | assumption | omega | rfl | (congr 1; omega)) (by first | assumption | omega | rfl | (congr 1; omega)) (by first | assumption | omega | rfl | (congr 1; omega)) (by first | assumption | omega | rfl | (congr 1; omega)) (by first | assumption | omega | rfl | (congr 1; omega))) ⟨cbE 0 (wd_662 hE) (wd_118 hE) (wd_659 hE) rfl rfl (by decide +kernel) ⟨Nat.le_of_ble_eq_true rfl, Nat.le_of_ble_eq_true rfl⟩, (wd_661 hE), (wd_21 hE)⟩ ⟨PQ.blind, q_recv 0 (by decide) rfl hK hP rfl, (q_pre (av := [.ref (b 0)]) hK hP hJ hE)⟩ rfl rfl hl.1 rfl (lv_room (Nat.le_of_ble_eq_true rfl)) dX5_readWalk_83 ⟨Nat.le_of_ble_eq_true rfl, Nat.le_of_ble_eq_true rfl⟩) (fun u183 H locs hpo183 hP hS => ?_)
          obtain ⟨h183_0, hq183⟩ := hpo183
          have hA184 := (hq183.1 5 (by decide)).trans hA173
          have hA185 := (hq183.1 2 (by decide)).trans hA174
          have hA186 := (hq183.1 3 (by decide)).trans hA175
          have hA187 := (hq183.1 4 (by decide)).trans hA176
          have hA188 := (hq183.1 7 (by decide)).trans hL172_4
          have hF189x := (hq183.2.1 13 (by decide)).trans hF177x
          have hF190x := (hq183.2.1 14 (by decide)).trans hF178x
          have hF191x := (hq183.2.1 15 (by decide)).trans hF179x
          have hF192x := (hq183.2.1 6 (by decide)).trans hL172_7
          have hfr := FR.step hfr hq183 (by decide) (by decide) (fun h => rfl)
          rcases h183_0 with ⟨kf, qf, jf, kf1, kf9, hFQ, ⟨jf1, jf4⟩, hST⟩ | ⟨t7, t8, t9, t23, f23, f4, tl, hn, hn9, f5, hST⟩
          · have RZ : pSteps tx sz1 gg 25 (vl tx sz1 (bgi tx sz1 (i0 + 1))) 0 (pNum tx sz1 (bgi tx sz1 (i0 + 1 + 1))) = (kf, qf) := hL172_3.symm.trans (by rw [show 25 - i_172 = (24 - i_172) + 1 by omega]; exact hST _)
            have EHd : pHead tx sz1 gg (bgi tx sz1 i0) = (kf, qf, gg) := (ph_w W5).trans ((pw_s (show pW gg ≠ 10 by omega) A1 A2 RZ).trans (if_pos (by show kf ≠ 0; omega)))
            have E : pLine tx sz1 gg (bgi tx sz1 i0) = (kf, qf, gg) := (pl_h (by rw [EHd]; exact (show kf ≠ 0 by omega))).trans EHd
            have EN : kf ≠ 0 := (show kf ≠ 0 by omega)
            refine lv_aload_n hx hb dX5_readWalk_86 rfl (lv_at hl 0 rfl) ?_
            refine va_csv (va_Run.run (va_runV (As := []) (rest := []) ⟨hx, hb, hml, hown, noTs⟩ (q_X5_readNumber_f l dC dI H.size cs b u183 kf hFQ.1 (by first | assumption | omega | rfl | (congr 1; omega)) (by first | assumption | omega | rfl | (congr 1; omega))) ⟨cbE 0 (wd_641 hE) (wd_118 hE) (wd_638 hE) rfl rfl (by decide +kernel) ⟨Nat.le_of_ble_eq_true rfl, Nat.le_of_ble_eq_true rfl⟩, (wd_640 hE), (wd_19 hE)⟩ ⟨PQ.blind, q_recv 0 (by decide) rfl hK hP rfl, (q_pre (av := [.ref (b 0)]) hK hP hJ hE)⟩ rfl rfl hl.1 rfl (lv_room (Nat.le_of_ble_eq_true rfl)) dX5_readWalk_87 ⟨Nat.le_of_ble_eq_true rfl, Nat.le_of_ble_eq_true rfl⟩)) (fun _ => ?_)
            refine lv_iinc (v := nI (i_172 + 1)) (lv' := [(1, .int (nI (i_172 + 1))), (0, .ref (b 0))]) hx hb dX5_readWalk_90 hl (k := 1) rfl (nI_1 i_172) (by decide) rfl (fun ls hl => ?_)
            refine lv_goto (tgt := 69) hx hb dX5_readWalk_93 (by decide) ?_
            refine lv_iload_n hx hb dX5_readWalk_69 rfl (lv_at hl 0 rfl) ?_
            refine lv_bipush (v := 24) hx hb dX5_readWalk_70 (by decide) ?_
            refine lv_icmp_gt (tgt := 96) hx hb dX5_readWalk_72 (by decide) (fun c194 => ?_) (fun c194 => ?_)
            · have c194 := (b_lt (show Int32.toInt 24 = 24 from rfl) (nI_toInt (n := i_172 + 1) (by omega))).mp c194
              refine lv_aload_n hx hb dX5_readWalk_96 rfl (lv_at hl 1 rfl) ?_
              refine q_get (v := .int (nI kf)) hx hb 0 (by decide) rfl (ly_X5 hE) hown hK hP rfl 7 (by decide) (wd_234 hE) (fun _ h9 => h9) (congrArg (fun z : Int32 => some (Value.int z)) hFQ.1) dX5_readWalk_97 ?_
              refine lv_if_ne (tgt := 122) hx hb dX5_readWalk_100 (by decide) (fun c195 => ?_) (fun c195 => False.elim (by have c195 := (b_eq (nI_toInt (n := kf) (by omega)) (show Int32.toInt 0 = 0 from rfl)).mp c195; omega))
              have c195 := mt (b_eq (nI_toInt (n := kf) (by omega)) (show Int32.toInt 0 = 0 from rfl)).mpr c195
              exact W.vret hx hb hr (fun t ht hW => ⟨⟨u183, rfl, ⟨(by first | (rw [hA188]; done) | (rw [hA188]; first | (exact Or.inl ⟨by rw [E]; exact EN, by rw [E]; exact ⟨hFQ.1, hFQ.2.1, hFQ.2.2⟩⟩) | (rw [E]; exact Or.inr ⟨rfl, hFQ.1, hFQ.2.1, hFQ.2.2, hF192x, _, by omega, jf4, rfl, DV⟩))), hfr⟩, (show va_P (dC, dI) vwCl (qW cs b u183) t.heap by rw [ht]; exact hP)⟩, hS.F ht⟩) hS.2.2 dX5_readWalk_122
            · have c194 := mt (b_lt (show Int32.toInt 24 = 24 from rfl) (nI_toInt (n := i_172 + 1) (by omega))).mpr c194
              refine lv_aload_n hx hb dX5_readWalk_75 rfl (lv_at hl 1 rfl) ?_
              refine vp_callSi (va_Run.run (va_runV (As := []) (rest := []) ⟨hx, hb, hml, hown, noTs⟩ (q_X5_isSign_f l dC dI H.size cs b u183 tx hA184 k2 hA185 k3 hA186 k4 hA187 sz1 c1 jf kf hF189x hF190x hF191x jf4 hFQ.1 (by first | assumption | omega | rfl | (congr 1; omega)) (by first | assumption | omega | rfl | (congr 1; omega)) (by first | assumption | omega | rfl | (congr 1; omega)) (by first | assumption | omega | rfl | (congr 1; omega)) (by first | assumption | omega | rfl | (congr 1; omega)) (by first | assumption | omega | rfl | (congr 1; omega))) ⟨cbE 0 (wd_658 hE) (wd_118 hE) (wd_655 hE) rfl rfl (by decide +kernel) ⟨Nat.le_of_ble_eq_true rfl, Nat.le_of_ble_eq_true rfl⟩, (wd_657 hE), (wd_20 hE)⟩ ⟨PQ.blind, q_recv 0 (by decide) rfl hK hP rfl, (q_pre (av := [.ref (b 0)]) hK hP hJ hE)⟩ rfl rfl hl.1 rfl (lv_room (Nat.le_of_ble_eq_true rfl)) dX5_readWalk_76 ⟨Nat.le_of_ble_eq_true rfl, Nat.le_of_ble_eq_true rfl⟩)) (fun r196 hr196 => ?_)
              subst hr196
              refine lv_if_eq (tgt := 96) hx hb dX5_readWalk_79 (by decide) (fun c197 => ?_) (fun c197 => absurd c197 (by decide))
              refine lv_aload_n hx hb dX5_readWalk_96 rfl (lv_at hl 1 rfl) ?_
              refine q_get (v := .int (nI kf)) hx hb 0 (by decide) rfl (ly_X5 hE) hown hK hP rfl 7 (by decide) (wd_234 hE) (fun _ h9 => h9) (congrArg (fun z : Int32 => some (Value.int z)) hFQ.1) dX5_readWalk_97 ?_
              refine lv_if_ne (tgt := 122) hx hb dX5_readWalk_100 (by decide) (fun c198 => ?_) (fun c198 => False.elim (by have c198 := (b_eq (nI_toInt (n := kf) (by omega)) (show Int32.toInt 0 = 0 from rfl)).mp c198; omega))
              have c198 := mt (b_eq (nI_toInt (n := kf) (by omega)) (show Int32.toInt 0 = 0 from rfl)).mpr c198
              exact W.vret hx hb hr (fun t ht hW => ⟨⟨u183, rfl, ⟨(by first | (rw [hA188]; done) | (rw [hA188]; first | (exact Or.inl ⟨by rw [E]; exact EN, by rw [E]; exact ⟨hFQ.1, hFQ.2.1, hFQ.2.2⟩⟩) | (rw [E]; exact Or.inr ⟨rfl, hFQ.1, hFQ.2.1, hFQ.2.2, hF192x, _, by omega, jf4, rfl, DV⟩))), hfr⟩, (show va_P (dC, dI) vwCl (qW cs b u183) t.heap by rw [ht]; exact hP)⟩, hS.F ht⟩) hS.2.2 dX5_readWalk_122
          · have hST := hST
            refine lv_aload_n hx hb dX5_readWalk_86 rfl (lv_at hl 0 rfl) ?_
            refine qc_v hAL hS hA (va_runV (As := []) (rest := []) ⟨hx, hb, hml, hown, noTs⟩ (q_X5_readNumber l dC dI H.size cs b u183 tx hA184 k2 hA185 k3 hA186 k4 hA187 dg hA188 sz1 c1 (jt_172 + 1 + 1) (i_172 + 1) hF189x hF190x hF191x f4 t7 f23 (by first | assumption | omega | rfl | (congr 1; omega)) (by first | assumption | omega | rfl | (congr 1; omega)) (by first | assumption | omega | rfl | (congr 1; omega)) (by first | assumption | omega | rfl | (congr 1; omega)) (by first | assumption | omega | rfl | (congr 1; omega))) ⟨cbE 0 (wd_641 hE) (wd_118 hE) (wd_638 hE) rfl rfl (by decide +kernel) ⟨Nat.le_of_ble_eq_true rfl, Nat.le_of_ble_eq_true rfl⟩, (wd_640 hE), (wd_19 hE)⟩ ⟨PQ.blind, q_recv 0 (by decide) rfl hK hP rfl, (q_pre (av := [.ref (b 0)]) hK hP hJ hE)⟩ rfl rfl hl.1 rfl (lv_room (Nat.le_of_ble_eq_true rfl)) dX5_readWalk_87 ⟨Nat.le_of_ble_eq_true rfl, Nat.le_of_ble_eq_true rfl⟩) (fun u199 H locs hpo199 hP hS => ?_)
            obtain ⟨h199_0, hq199⟩ := hpo199
            have hA200 := (hq199.1 5 (by decide)).trans hA184
            have hA201 := (hq199.1 2 (by decide)).trans hA185
            have hA202 := (hq199.1 3 (by decide)).trans hA186
            have hA203 := (hq199.1 4 (by decide)).trans hA187
            have hA204 := (hq199.1 7 (by decide)).trans hA188
            have hF205x := (hq199.2.1 13 (by decide)).trans hF189x
            have hF206x := (hq199.2.1 14 (by decide)).trans hF190x
            have hF207x := (hq199.2.1 15 (by decide)).trans hF191x
            have hF208x := (hq199.2.1 6 (by decide)).trans hF192x
            have hF209x := (hq199.2.1 7 (by decide)).trans t7
            have hF210x := (hq199.2.1 8 (by decide)).trans t8
            have hF211x := (hq199.2.1 9 (by decide)).trans t9
            have hF212x := (hq199.2.1 23 (by decide)).trans f23
            have hF213x := (hq199.2.1 5 (by decide)).trans f5
            have hfr := FR.step hfr hq199 (by decide) (by decide) (fun h => rfl)
            obtain ⟨jb, JB1, JB2, JB3⟩ := h199_0
            refine lv_iinc (v := nI (i_172 + 1)) (lv' := [(1, .int (nI (i_172 + 1))), (0, .ref (b 0))]) hx hb dX5_readWalk_90 hl (k := 1) rfl (nI_1 i_172) (by decide) rfl (fun ls hl => ?_)
            refine lv_goto (tgt := 69) hx hb dX5_readWalk_93 (by decide) ?_
            exact ih172 _ u199 _ _ _ (by omega) ⟨hP, hS, hfr, (i_172 + 1), jb, hn, rfl, (by first | assumption | omega | rfl | (congr 1; omega)), (by first | assumption | omega | rfl | (congr 1; omega)), (by first | assumption | omega | rfl | (congr 1; omega)), (by rw [JB3, show 25 - (i_172 + 1) = 24 - i_172 by omega, ← hST (24 - i_172), show 24 - i_172 + 1 = 25 - i_172 by omega]; exact hL172_3), hA204, JB2, hF213x, hF208x, hF209x, hF210x, hF211x, hF212x, lv_sub hl [1, 0] rfl⟩
        · have RZ : pSteps tx sz1 gg 25 (vl tx sz1 (bgi tx sz1 (i0 + 1))) 0 (pNum tx sz1 (bgi tx sz1 (i0 + 1 + 1))) = (0, bgi tx sz1 jt_172) := hL172_3.symm.trans (by rw [show 25 - i_172 = (24 - i_172) + 1 by omega]; exact pt_z hb181)
          have PV : pHead tx sz1 gg (bgi tx sz1 i0) = (0, bgi tx sz1 jt_172, gW gg) := (ph_w W5).trans ((pw_s (show pW gg ≠ 10 by omega) A1 A2 RZ).trans (if_neg (fun h => h rfl)))
          refine lv_if_eq (tgt := 96) hx hb dX5_readWalk_79 (by decide) (fun c214 => ?_) (fun c214 => absurd c214 (by decide))
          refine lv_aload_n hx hb dX5_readWalk_96 rfl (lv_at hl 0 rfl) ?_
          refine q_get (v := .int 0) hx hb 0 (by decide) rfl (ly_X5 hE) hown hK hP rfl 7 (by decide) (wd_234 hE) (fun _ h9 => h9) (congrArg (fun z : Int32 => some (Value.int z)) hL172_8) dX5_readWalk_97 ?_
          refine lv_if_ne (tgt := 122) hx hb dX5_readWalk_100 (by decide) (fun c215 => absurd c215 (by decide)) (fun c215 => ?_)
          refine lv_aload_n hx hb dX5_readWalk_103 rfl (lv_at hl 0 rfl) ?_
          refine qc_i hAL hS hA (va_runV (As := []) (rest := []) ⟨hx, hb, hml, hown, noTs⟩ (q_X5_endsLine l dC dI H.size cs b u172 tx hA173 k2 hA174 k3 hA175 k4 hA176 sz1 c1 jt_172 ln x8 x9 hF177x hF178x hF179x hL172_5 hL172_7 hL172_8 hL172_9 hL172_10 (by first | assumption | omega | rfl | (congr 1; omega)) (by first | assumption | omega | rfl | (congr 1; omega)) (by first | assumption | omega | rfl | (congr 1; omega)) (by first | assumption | omega | rfl | (congr 1; omega))) ⟨cbE 0 (wd_581 hE) (wd_118 hE) (wd_578 hE) rfl rfl (by decide +kernel) ⟨Nat.le_of_ble_eq_true rfl, Nat.le_of_ble_eq_true rfl⟩, (wd_580 hE), (wd_13 hE)⟩ ⟨PQ.blind, q_recv 0 (by decide) rfl hK hP rfl, (q_pre (av := [.ref (b 0)]) hK hP hJ hE)⟩ rfl rfl hl.1 rfl (lv_room (Nat.le_of_ble_eq_true rfl)) dX5_readWalk_104 ⟨Nat.le_of_ble_eq_true rfl, Nat.le_of_ble_eq_true rfl⟩) (fun r216 u216 H locs hpo216 hP hS => ?_)
          obtain ⟨hr216, hq216⟩ := hpo216
          have hA217 := (hq216.1 5 List.not_mem_nil).trans hA173
          have hA218 := (hq216.1 2 List.not_mem_nil).trans hA174
          have hA219 := (hq216.1 3 List.not_mem_nil).trans hA175
          have hA220 := (hq216.1 4 List.not_mem_nil).trans hA176
          have hA221 := (hq216.1 7 List.not_mem_nil).trans hL172_4
          have hF222x := (hq216.2.1 13 (by decide)).trans hF177x
          have hF223x := (hq216.2.1 14 (by decide)).trans hF178x
          have hF224x := (hq216.2.1 15 (by decide)).trans hF179x
          have hF225x := (hq216.2.1 5 (by decide)).trans hL172_6
          have hF226x := (hq216.2.1 23 (by decide)).trans hL172_11
          have hfr := FR.step hfr hq216 (fun _ h => absurd h List.not_mem_nil) (by decide) (fun h => rfl)
          rcases hr216 with ⟨rfl, hb216⟩ | ⟨rfl, hb216⟩
          · have K9 := hb216.1
            have E := pl_ok (g := gg) (p := (bgi tx sz1 i0)) (by rw [PV]) (by rw [PV]; exact K9)
            rw [PV] at E
            refine lv_if_eq (tgt := 122) hx hb dX5_readWalk_107 (by decide) (fun c227 => absurd c227 (by decide)) (fun c227 => ?_)
            refine lv_aload_n hx hb dX5_readWalk_110 rfl (lv_at hl 0 rfl) ?_
            refine q_get (v := .ref (b 6)) hx hb 0 (by decide) rfl (ly_X5 hE) hown hK hP rfl 1 (by decide) (wd_228 hE) (fun _ h9 => h9) rfl dX5_readWalk_111 ?_
            refine lv_aload_n hx hb dX5_readWalk_114 rfl (lv_at hl 0 rfl) ?_
            refine q_get (v := .ref (b 8)) hx hb 0 (by decide) rfl (ly_X5 hE) hown hK hP rfl 2 (by decide) (wd_229 hE) (fun _ h9 => h9) rfl dX5_readWalk_115 ?_
            refine qc_i hAL hS hA (va_runV (As := [.ref (b 8)]) (rest := []) ⟨hx, hb, hml, hown, noTs⟩ (q_X7_addWord l dC dI H.size cs b u216 dg hA221 gg i_172 hF226x (by first | assumption | omega | rfl | (congr 1; omega)) (by first | assumption | omega | rfl | (congr 1; omega)) (by first | assumption | omega | rfl | (congr 1; omega))) ⟨cbE 1 (wd_696 hE) (wd_116 hE) (wd_693 hE) rfl rfl (by decide +kernel) ⟨Nat.le_of_ble_eq_true rfl, Nat.le_of_ble_eq_true rfl⟩, (wd_694 hE), (wd_695 hE)⟩ ⟨PQ.blind, q_recv 6 (by decide) rfl hK hP rfl, (q_pre (av := [.ref (b 6), .ref (b 8)]) hK hP hJ hE)⟩ rfl rfl hl.1 rfl (lv_room (Nat.le_of_ble_eq_true rfl)) dX5_readWalk_118 ⟨Nat.le_of_ble_eq_true rfl, Nat.le_of_ble_eq_true rfl⟩) (fun r228 u228 H locs hpo228 hP hS => ?_)
            obtain ⟨hr228, h228_0, hq228⟩ := hpo228
            obtain ⟨w229, hA229⟩ : ∃ g, rA u228 7 = g := ⟨_, rfl⟩
            rw [hA229] at h228_0
            have hA230 := (hq228.1 5 (by decide)).trans hA217
            have hA231 := (hq228.1 2 (by decide)).trans hA218
            have hA232 := (hq228.1 3 (by decide)).trans hA219
            have hA233 := (hq228.1 4 (by decide)).trans hA220
            have hF234x := (hq228.2.1 13 List.not_mem_nil).trans hF222x
            have hF235x := (hq228.2.1 14 List.not_mem_nil).trans hF223x
            have hF236x := (hq228.2.1 15 List.not_mem_nil).trans hF224x
            have hF237x := (hq228.2.1 5 List.not_mem_nil).trans hF225x
            have hF238x := (hq228.2.1 23 List.not_mem_nil).trans hF226x
            have hF239x := (hq228.2.1 4 List.not_mem_nil).trans hb216.2.1
            have hF240x := (hq228.2.1 6 List.not_mem_nil).trans hb216.2.2.1
            have hF241x := (hq228.2.1 7 List.not_mem_nil).trans hb216.2.2.2.1
            have hF242x := (hq228.2.1 8 List.not_mem_nil).trans hb216.2.2.2.2.1
            have hF243x := (hq228.2.1 9 List.not_mem_nil).trans hb216.2.2.2.2.2
            have hfr := FR.step hfr hq228 (by decide) (fun _ h => absurd h List.not_mem_nil) (fun h => rfl)
            have DV := h228_0
            refine lv_pop hx hb dX5_readWalk_121 rfl ?_
            exact W.vret hx hb hr (fun t ht hW => ⟨⟨u228, rfl, ⟨(by first | (rw [hA229]; done) | (rw [hA229]; first | (exact Or.inl ⟨by rw [E]; exact EN, by rw [E]; exact ⟨hF241x, hF242x, hF243x⟩⟩) | (rw [E]; exact Or.inr ⟨rfl, hF241x, hF242x, hF243x, hF240x, _, by omega, hF239x, rfl, DV⟩))), hfr⟩, (show va_P (dC, dI) vwCl (qW cs b u228) t.heap by rw [ht]; exact hP)⟩, hS.F ht⟩) hS.2.2 dX5_readWalk_122
          · have E := pl_e (g := gg) (p := (bgi tx sz1 i0)) (by rw [PV]) (by rw [PV]; exact hb216.1)
            rw [PV] at E
            have EN := bad_ne (k := kd tx sz1 (bgi tx sz1 jt_172))
            refine lv_if_eq (tgt := 122) hx hb dX5_readWalk_107 (by decide) (fun c244 => ?_) (fun c244 => absurd c244 (by decide))
            exact W.vret hx hb hr (fun t ht hW => ⟨⟨u216, rfl, ⟨(by first | (rw [hA221]; done) | (rw [hA221]; first | (exact Or.inl ⟨by rw [E]; exact EN, by rw [E]; exact ⟨hb216.2.1, hb216.2.2.1, hb216.2.2.2⟩⟩) | (rw [E]; exact Or.inr ⟨rfl, hb216.2.1, hb216.2.2.1, hb216.2.2.2, MISSING, _, by omega, MISSING, rfl, DV⟩))), hfr⟩, (show va_P (dC, dI) vwCl (qW cs b u216) t.heap by rw [ht]; exact hP)⟩, hS.F ht⟩) hS.2.2 dX5_readWalk_122
  · have E : pLine tx sz1 gg (bgi tx sz1 i0) = (bad (kd tx sz1 (bgi tx sz1 i0)), (bgi tx sz1 i0), gg) := (pl_h (by rw [ph_x hp5 hp6 hb8.1]; exact bad_ne)).trans (ph_x hp5 hp6 hb8.1)
    have EN : bad (kd tx sz1 (bgi tx sz1 i0)) ≠ 0 := bad_ne
    refine lv_if_eq (tgt := 32) hx hb dX5_readWalk_5 (by decide) (fun c245 => ?_) (fun c245 => absurd c245 (by decide))
    exact W.vret hx hb hr (fun t ht hW => ⟨⟨u8, rfl, ⟨(by first | (rw [hA13]; done) | (rw [hA13]; first | (exact Or.inl ⟨by rw [E]; exact EN, by rw [E]; exact ⟨hb8.2.1, hb8.2.2.1, hb8.2.2.2⟩⟩) | (rw [E]; exact Or.inr ⟨rfl, hb8.2.1, hb8.2.2.1, hb8.2.2.2, hF18x, _, by omega, hF17x, rfl, DV⟩))), hfr⟩, (show va_P (dC, dI) vwCl (qW cs b u8) t.heap by rw [ht]; exact hP)⟩, hS.F ht⟩) hS.2.2 dX5_readWalk_32
set_option maxHeartbeats 4000000 in
set_option maxRecDepth 100000 in
theorem q_X5_read (l : Launch) (dC : Nat → ClassId) (dI : Nat → Nat → Nat) (sz : Nat) (cs : Nat → ClassId) (b : Nat → Nat) (u : RS) (adK adV : Nat → Nat) (tx : Nat → Int32) (hAc5 : rA u 5 = tx) (k2 : Nat → Int32) (hAc2 : rA u 2 = k2) (k3 : Nat → Int32) (hAc3 : rA u 3 = k3) (k4 : Nat → Int32) (hAc4 : rA u 4 = k4) (dg : Nat → Int32) (hAc7 : rA u 7 = dg) (xn : Nat) (hp0 : BY tx) (hp1 : xn ≤ 700) : Met l yX5_read [.code yX5_read cX5_read 4 (some .boolean)] ({ frames := 8, cells := 0, slots := 0, locals := 320 }) (PQX [.ref (b 0), .ref (b 5), .int (nI xn)] sz dC dI cs b u adK adV) (va_Qi (fun (r : Int32) (u' : RS) => ((r = 1 ∧ ((pLoad tx xn).1 = 0 ∧ rF u' 7 = 0 ∧ rF u' 8 = -1 ∧ rF u' 9 = -1 ∧ DG (rA u' 7) (pLoad tx xn).2.2.2)) ∨ (r = 0 ∧ ((pLoad tx xn).1 ≠ 0 ∧ FQ u' (pLoad tx xn).1 (pLoad tx xn).2.1 (pLoad tx xn).2.2.1))) ∧ (rF u' 3 = 1) ∧ FR [2, 3, 4, 7, 9, 10] [3, 4, 5, 6, 7, 8, 9, 13, 14, 15, 22, 23] false u u') (BQ dC dI cs b) (AQ b sz)) 0 0 (AQ b sz) := by
  refine Met.ofW (cc := cX5_read) (maxL := 4) (ret := (some .boolean)) (by decide) rfl ?_
  intro p e s m args below meth c s₁ B hml hv
  obtain ⟨rfl, hsz, hP, hK, hJ, hE, hX, hZ0, hZ1, hZ2⟩ := hv
  have hx := B.exec
  have hb := B.bytes
  have hr := B.returns
  have hown : s.vm.findClass RX5 = some m.cls := findClass_of_methodNamed B.named
  have hlocks := B.notSynchronized
  subst hsz
  have hAL : ∀ i, i < 12 → AQ b s.heap.size (b i) := fun i h => Or.inl ⟨i, h, rfl⟩
  have hA : ∀ q : Nat, s.heap.size ≤ q → AQ b s.heap.size q := fun q h => Or.inr h
  have hS : va_S (AQ b s.heap.size) s.heap s.heap [] := va_S.rf
  have hfr : FR [2, 3, 4, 7, 9, 10] [3, 4, 5, 6, 7, 8, 9, 13, 14, 15, 22, 23] false u u := FR.refl
  have hl := lv_entry ([.ref (b 0), .ref (b 5), .int (nI xn)]) (n := 4) (Nat.le_of_ble_eq_true rfl)
  rw [lg_entry_eq]
  generalize (lg_sl ([.ref (b 0), .ref (b 5), .int (nI xn)]) ++ List.replicate (4 - (lg_sl ([.ref (b 0), .ref (b 5), .int (nI xn)])).length) Slot.unset).toArray = ls at hl ⊢
  have hl : lv_has ls 4 [(0, .ref (b 0)), (1, .ref (b 5)), (2, .int (nI xn))] := hl
  refine lv_aload_n hx hb dX5_read_0 rfl (lv_at hl 0 rfl) ?_
  refine lv_iconst (v := 1) hx hb dX5_read_1 (by decide) ?_
  refine q_put (v := 1) (ty := .boolean) hx hb 0 3 (by decide) (ly_X5 hE) tyX5 tyX5_ok nmX5 hown hK hP hJ hAL hS rfl 3 (by decide) (wd_230 hE) (fun _ h9 => h9) rfl (by decide +kernel) rfl rfl rfl rfl (qE_put0 (by decide)) (Nat.le_of_ble_eq_true rfl) dX5_read_2 (fun u3 H locs hf3 hq3 hP hS => ?_)
  have hA4 := (hq3.1 5 List.not_mem_nil).trans hAc5
  have hA5 := (hq3.1 2 List.not_mem_nil).trans hAc2
  have hA6 := (hq3.1 3 List.not_mem_nil).trans hAc3
  have hA7 := (hq3.1 4 List.not_mem_nil).trans hAc4
  have hA8 := (hq3.1 7 List.not_mem_nil).trans hAc7
  have hfr := FR.step hfr hq3 (fun _ h => absurd h List.not_mem_nil) (by decide) (fun h => rfl)
  refine lv_aload_n hx hb dX5_read_5 rfl (lv_at hl 0 rfl) ?_
  refine lv_iconst (v := 0) hx hb dX5_read_6 (by decide) ?_
  refine q_put (v := 0) (ty := .int) hx hb 0 4 (by decide) (ly_X5 hE) tyX5 tyX5_ok nmX5 hown hK hP hJ hAL hS rfl 4 (by decide) (wd_231 hE) (fun _ h9 => h9) rfl (by decide +kernel) rfl rfl rfl rfl (qE_put0 (by decide)) (Nat.le_of_ble_eq_true rfl) dX5_read_7 (fun u9 H locs hf9 hq9 hP hS => ?_)
  have hA10 := (hq9.1 5 List.not_mem_nil).trans hA4
  have hA11 := (hq9.1 2 List.not_mem_nil).trans hA5
  have hA12 := (hq9.1 3 List.not_mem_nil).trans hA6
  have hA13 := (hq9.1 4 List.not_mem_nil).trans hA7
  have hA14 := (hq9.1 7 List.not_mem_nil).trans hA8
  have hF15x := (hq9.2.1 3 (by decide)).trans hf3
  have hfr := FR.step hfr hq9 (fun _ h => absurd h List.not_mem_nil) (by decide) (fun h => rfl)
  refine lv_aload_n hx hb dX5_read_10 rfl (lv_at hl 0 rfl) ?_
  refine lv_iconst (v := 0) hx hb dX5_read_11 (by decide) ?_
  refine q_put (v := 0) (ty := .int) hx hb 0 6 (by decide) (ly_X5 hE) tyX5 tyX5_ok nmX5 hown hK hP hJ hAL hS rfl 6 (by decide) (wd_233 hE) (fun _ h9 => h9) rfl (by decide +kernel) rfl rfl rfl rfl (qE_put0 (by decide)) (Nat.le_of_ble_eq_true rfl) dX5_read_12 (fun u16 H locs hf16 hq16 hP hS => ?_)
  have hA17 := (hq16.1 5 List.not_mem_nil).trans hA10
  have hA18 := (hq16.1 2 List.not_mem_nil).trans hA11
  have hA19 := (hq16.1 3 List.not_mem_nil).trans hA12
  have hA20 := (hq16.1 4 List.not_mem_nil).trans hA13
  have hA21 := (hq16.1 7 List.not_mem_nil).trans hA14
  have hF22x := (hq16.2.1 3 (by decide)).trans hF15x
  have hF23x := (hq16.2.1 4 (by decide)).trans hf9
  have hfr := FR.step hfr hq16 (fun _ h => absurd h List.not_mem_nil) (by decide) (fun h => rfl)
  refine lv_aload_n hx hb dX5_read_15 rfl (lv_at hl 0 rfl) ?_
  refine lv_iconst (v := 0) hx hb dX5_read_16 (by decide) ?_
  refine q_put (v := 0) (ty := .int) hx hb 0 7 (by decide) (ly_X5 hE) tyX5 tyX5_ok nmX5 hown hK hP hJ hAL hS rfl 7 (by decide) (wd_234 hE) (fun _ h9 => h9) rfl (by decide +kernel) rfl rfl rfl rfl (qE_put0 (by decide)) (Nat.le_of_ble_eq_true rfl) dX5_read_17 (fun u24 H locs hf24 hq24 hP hS => ?_)
  have hA25 := (hq24.1 5 List.not_mem_nil).trans hA17
  have hA26 := (hq24.1 2 List.not_mem_nil).trans hA18
  have hA27 := (hq24.1 3 List.not_mem_nil).trans hA19
  have hA28 := (hq24.1 4 List.not_mem_nil).trans hA20
  have hA29 := (hq24.1 7 List.not_mem_nil).trans hA21
  have hF30x := (hq24.2.1 3 (by decide)).trans hF22x
  have hF31x := (hq24.2.1 4 (by decide)).trans hF23x
  have hF32x := (hq24.2.1 6 (by decide)).trans hf16
  have hfr := FR.step hfr hq24 (fun _ h => absurd h List.not_mem_nil) (by decide) (fun h => rfl)
  refine lv_aload_n hx hb dX5_read_20 rfl (lv_at hl 0 rfl) ?_
  refine lv_iconst (v := -1) hx hb dX5_read_21 (by decide) ?_
  refine q_put (v := -1) (ty := .int) hx hb 0 8 (by decide) (ly_X5 hE) tyX5 tyX5_ok nmX5 hown hK hP hJ hAL hS rfl 8 (by decide) (wd_235 hE) (fun _ h9 => h9) rfl (by decide +kernel) rfl rfl rfl rfl (qE_put0 (by decide)) (Nat.le_of_ble_eq_true rfl) dX5_read_22 (fun u33 H locs hf33 hq33 hP hS => ?_)
  have hA34 := (hq33.1 5 List.not_mem_nil).trans hA25
  have hA35 := (hq33.1 2 List.not_mem_nil).trans hA26
  have hA36 := (hq33.1 3 List.not_mem_nil).trans hA27
  have hA37 := (hq33.1 4 List.not_mem_nil).trans hA28
  have hA38 := (hq33.1 7 List.not_mem_nil).trans hA29
  have hF39x := (hq33.2.1 3 (by decide)).trans hF30x
  have hF40x := (hq33.2.1 4 (by decide)).trans hF31x
  have hF41x := (hq33.2.1 6 (by decide)).trans hF32x
  have hF42x := (hq33.2.1 7 (by decide)).trans hf24
  have hfr := FR.step hfr hq33 (fun _ h => absurd h List.not_mem_nil) (by decide) (fun h => rfl)
  refine lv_aload_n hx hb dX5_read_25 rfl (lv_at hl 0 rfl) ?_
  refine lv_iconst (v := -1) hx hb dX5_read_26 (by decide) ?_
  refine q_put (v := -1) (ty := .int) hx hb 0 9 (by decide) (ly_X5 hE) tyX5 tyX5_ok nmX5 hown hK hP hJ hAL hS rfl 9 (by decide) (wd_236 hE) (fun _ h9 => h9) rfl (by decide +kernel) rfl rfl rfl rfl (qE_put0 (by decide)) (Nat.le_of_ble_eq_true rfl) dX5_read_27 (fun u43 H locs hf43 hq43 hP hS => ?_)
  have hA44 := (hq43.1 5 List.not_mem_nil).trans hA34
  have hA45 := (hq43.1 2 List.not_mem_nil).trans hA35
  have hA46 := (hq43.1 3 List.not_mem_nil).trans hA36
  have hA47 := (hq43.1 4 List.not_mem_nil).trans hA37
  have hA48 := (hq43.1 7 List.not_mem_nil).trans hA38
  have hF49x := (hq43.2.1 3 (by decide)).trans hF39x
  have hF50x := (hq43.2.1 4 (by decide)).trans hF40x
  have hF51x := (hq43.2.1 6 (by decide)).trans hF41x
  have hF52x := (hq43.2.1 7 (by decide)).trans hF42x
  have hF53x := (hq43.2.1 8 (by decide)).trans hf33
  have hfr := FR.step hfr hq43 (fun _ h => absurd h List.not_mem_nil) (by decide) (fun h => rfl)
  refine lv_aload_n hx hb dX5_read_30 rfl (lv_at hl 0 rfl) ?_
  refine q_get (v := .ref (b 6)) hx hb 0 (by decide) rfl (ly_X5 hE) hown hK hP rfl 1 (by decide) (wd_228 hE) (fun _ h9 => h9) rfl dX5_read_31 ?_
  refine qc_v hAL hS hA (va_runV (As := []) (rest := []) ⟨hx, hb, hml, hown, noTs⟩ (q_X7_clear l dC dI H.size cs b u43 dg hA48) ⟨cbE 0 (wd_444 hE) (wd_116 hE) (wd_441 hE) rfl rfl (by decide +kernel) ⟨Nat.le_of_ble_eq_true rfl, Nat.le_of_ble_eq_true rfl⟩, (wd_442 hE), (wd_443 hE)⟩ ⟨PQ.blind, q_recv 6 (by decide) rfl hK hP rfl, (q_pre (av := [.ref (b 6)]) hK hP hJ hE)⟩ rfl rfl hl.1 rfl (lv_room (Nat.le_of_ble_eq_true rfl)) dX5_read_34 ⟨Nat.le_of_ble_eq_true rfl, Nat.le_of_ble_eq_true rfl⟩) (fun u54 H locs hpo54 hP hS => ?_)
  obtain ⟨h54_0, hq54⟩ := hpo54
  obtain ⟨w55, hA55⟩ : ∃ g, rA u54 7 = g := ⟨_, rfl⟩
  rw [hA55] at h54_0
  have hA56 := (hq54.1 5 (by decide)).trans hA44
  have hA57 := (hq54.1 2 (by decide)).trans hA45
  have hA58 := (hq54.1 3 (by decide)).trans hA46
  have hA59 := (hq54.1 4 (by decide)).trans hA47
  have hF60x := (hq54.2.1 3 List.not_mem_nil).trans hF49x
  have hF61x := (hq54.2.1 4 List.not_mem_nil).trans hF50x
  have hF62x := (hq54.2.1 6 List.not_mem_nil).trans hF51x
  have hF63x := (hq54.2.1 7 List.not_mem_nil).trans hF52x
  have hF64x := (hq54.2.1 8 List.not_mem_nil).trans hF53x
  have hF65x := (hq54.2.1 9 List.not_mem_nil).trans hf43
  have hfr := FR.step hfr hq54 (by decide) (fun _ h => absurd h List.not_mem_nil) (fun h => rfl)
  have DZ := dg_zero h54_0
  refine lv_aload_n hx hb dX5_read_37 rfl (lv_at hl 0 rfl) ?_
  refine q_get (v := .ref (b 1)) hx hb 0 (by decide) rfl (ly_X5 hE) hown hK hP rfl 0 (by decide) (wd_227 hE) (fun _ h9 => h9) rfl dX5_read_38 ?_
  refine lv_aload_n hx hb dX5_read_41 rfl (lv_at hl 1 rfl) ?_
  refine lv_iload_n hx hb dX5_read_42 rfl (lv_at hl 2 rfl) ?_
  refine qc_v hAL hS hA (va_runV (As := [.ref (b 5), .int (nI xn)]) (rest := []) ⟨hx, hb, hml, hown, noTs⟩ (q_X9_cut l dC dI H.size cs b u54 adK adV tx hA56 k2 hA57 k3 hA58 k4 hA59 xn (by first | assumption | omega | rfl | (congr 1; omega)) (by first | assumption | omega | rfl | (congr 1; omega))) ⟨cbE 2 (wd_451 hE) (wd_119 hE) (wd_448 hE) rfl rfl (by decide +kernel) ⟨Nat.le_of_ble_eq_true rfl, Nat.le_of_ble_eq_true rfl⟩, (wd_449 hE), (wd_450 hE)⟩ ⟨PQX.blind, q_recv 1 (by decide) rfl hK hP rfl, (qx_pre (av := [.ref (b 1), .ref (b 5), .int (nI xn)]) hK hP hJ hE hX hZ0 hZ1 hZ2 hS)⟩ rfl rfl hl.1 rfl (lv_room (Nat.le_of_ble_eq_true rfl)) dX5_read_43 ⟨Nat.le_of_ble_eq_true rfl, Nat.le_of_ble_eq_true rfl⟩) (fun u66 H locs hpo66 hP hS => ?_)
  obtain ⟨h66_0, h66_1, h66_2, hq66⟩ := hpo66
  obtain ⟨w67, hA67⟩ : ∃ g, rA u66 2 = g := ⟨_, rfl⟩
  rw [hA67] at h66_0
  obtain ⟨w68, hA68⟩ : ∃ g, rA u66 3 = g := ⟨_, rfl⟩
  rw [hA68] at h66_0
  obtain ⟨w69, hA69⟩ : ∃ g, rA u66 4 = g := ⟨_, rfl⟩
  rw [hA69] at h66_0
  have hA70 := (hq66.1 5 (by decide)).trans hA56
  have hA71 := (hq66.1 7 (by decide)).trans hA55
  have hF72x := (hq66.2.1 3 (by decide)).trans hF60x
  have hF73x := (hq66.2.1 4 (by decide)).trans hF61x
  have hF74x := (hq66.2.1 6 (by decide)).trans hF62x
  have hF75x := (hq66.2.1 7 (by decide)).trans hF63x
  have hF76x := (hq66.2.1 8 (by decide)).trans hF64x
  have hF77x := (hq66.2.1 9 (by decide)).trans hF65x
  have hfr := FR.step hfr hq66 (by decide) (by decide) (fun h => rfl)
  obtain ⟨cc, HC, HQ⟩ := h66_0
  refine lv_iconst (v := 0) hx hb dX5_read_46 (by decide) ?_
  refine lv_istore_n (lv' := [(3, .int 0), (0, .ref (b 0)), (1, .ref (b 5)), (2, .int (nI xn))]) hx hb dX5_read_47 rfl hl (by decide) rfl (fun ls hl => ?_)
  refine q_ind (I := fun n u_ H locs ls => va_P (dC, dI) vwCl (qW cs b u_) H ∧ va_S (AQ b s.heap.size) s.heap H locs ∧ FR [2, 3, 4, 7, 9, 10] [3, 4, 5, 6, 7, 8, 9, 13, 14, 15, 22, 23] false u u_ ∧ ∃ (i_78 : Nat) (jt_78 : Nat) (g1_78 : PGr) (d1_78 : Nat → Int32), n = 701 - i_78 ∧ (i_78 ≤ 700) ∧ (jt_78 ≤ cc) ∧ (DG d1_78 g1_78) ∧ (pAll tx xn (700 - i_78) g1_78 (bgi tx xn jt_78) i_78 = pLoad tx xn) ∧ (i_78 ≤ bgi tx xn jt_78) ∧ (rA u_ 2 = w67) ∧ (rA u_ 3 = w68) ∧ (rA u_ 4 = w69) ∧ (rA u_ 7 = d1_78) ∧ (rF u_ 3 = 1) ∧ (rF u_ 4 = nI jt_78) ∧ (rF u_ 6 = nI i_78) ∧ (rF u_ 7 = 0) ∧ (rF u_ 8 = -1) ∧ (rF u_ 9 = -1) ∧ (rF u_ 13 = nI cc) ∧ (rF u_ 14 = 1) ∧ (rF u_ 15 = nI xn) ∧ lv_has ls 4 [(0, .ref (b 0)), (1, .ref (b 5)), (2, .int (nI xn)), (3, .int (nI i_78))]) (fun n u78 H locs ls hI ih78 => ?_) _ u66 _ _ _ ⟨hP, hS, hfr, 0, 0, g0, w55, rfl, (by first | assumption | omega | rfl | (congr 1; omega)), (by first | assumption | omega | rfl | (congr 1; omega)), (by exact DZ), (by rfl), (by first | assumption | omega | rfl | (congr 1; omega)), hA67, hA68, hA69, hA71, hF72x, hF73x, hF74x, hF75x, hF76x, hF77x, HC, h66_1, h66_2, lv_sub hl [1, 2, 3, 0] rfl⟩
  obtain ⟨hP, hS, hfr, i_78, jt_78, g1_78, d1_78, hmu78, hL78_0, hL78_1, hL78_2, hL78_3, hL78_4, hL78_5, hL78_6, hL78_7, hL78_8, hL78_9, hL78_10, hL78_11, hL78_12, hL78_13, hL78_14, hL78_15, hL78_16, hL78_17, hl⟩ := hI
  have hA79 := (hfr.1 5 (by decide)).trans hAc5
  subst hmu78
  have kdfj := kd_f tx xn (bgi tx xn (jt_78))
  have bqj : jt_78 = cc → bgi tx xn (jt_78) = xn := fun h => by rw [h]; exact HQ.2.1
  have bzj : jt_78 < cc → bgi tx xn (jt_78) < xn := fun h => (HQ.2.2 _ h).1
  have hc7 := HQ.1
  refine lv_iload_n hx hb dX5_read_48 rfl (lv_at hl 3 rfl) ?_
  refine lv_sipush (v := 700) hx hb dX5_read_49 (by decide) ?_
  refine lv_icmp_ge (tgt := 124) hx hb dX5_read_52 (by decide) (fun c80 => ?_) (fun c80 => ?_)
  · have c80 := (b_le (show Int32.toInt 700 = 700 from rfl) (nI_toInt (n := i_78) (by omega))).mp c80
    have PF : pLoad tx xn = (0, (bgi tx xn jt_78), i_78, g1_78) := hL78_3.symm.trans (pa_e (kd_end (by omega)))
    refine lv_aload_n hx hb dX5_read_124 rfl (lv_at hl 0 rfl) ?_
    refine q_get (v := .int 0) hx hb 0 (by decide) rfl (ly_X5 hE) hown hK hP rfl 7 (by decide) (wd_234 hE) (fun _ h9 => h9) (congrArg (fun z : Int32 => some (Value.int z)) hL78_12) dX5_read_125 ?_
    refine lv_if_ne (tgt := 135) hx hb dX5_read_128 (by decide) (fun c81 => absurd c81 (by decide)) (fun c81 => ?_)
    refine lv_iconst (v := 1) hx hb dX5_read_131 (by decide) ?_
    refine lv_goto (tgt := 136) hx hb dX5_read_132 (by decide) ?_
    exact W.zret (v := 1) hx hb hr rfl (fun t ht hW => ⟨⟨1, u78, rfl, ⟨Or.inl ⟨rfl, by rw [PF]; exact ⟨rfl, hL78_12, hL78_13, hL78_14, by rw [hL78_8]; exact hL78_2⟩⟩, (by first | (rw [hL78_9]; done) | (rw [hL78_9]; first | assumption | omega | rfl | (congr 1; omega))), hfr⟩, (show va_P (dC, dI) vwCl (qW cs b u78) t.heap by rw [ht]; exact hP)⟩, hS.F ht⟩) hS.2.2 dX5_read_136
  · have c80 := mt (b_le (show Int32.toInt 700 = 700 from rfl) (nI_toInt (n := i_78) (by omega))).mpr c80
    refine lv_aload_n hx hb dX5_read_55 rfl (lv_at hl 0 rfl) ?_
    refine q_get (v := .int 0) hx hb 0 (by decide) rfl (ly_X5 hE) hown hK hP rfl 7 (by decide) (wd_234 hE) (fun _ h9 => h9) (congrArg (fun z : Int32 => some (Value.int z)) hL78_12) dX5_read_56 ?_
    refine lv_if_ne (tgt := 124) hx hb dX5_read_59 (by decide) (fun c82 => absurd c82 (by decide)) (fun c82 => ?_)
    refine lv_aload_n hx hb dX5_read_62 rfl (lv_at hl 0 rfl) ?_
    refine vp_callSi (va_Run.run (va_runV (As := []) (rest := []) ⟨hx, hb, hml, hown, noTs⟩ (q_X5_kind l dC dI H.size cs b u78 tx hA79 w67 hL78_5 w68 hL78_6 w69 hL78_7 xn cc jt_78 hL78_15 hL78_16 hL78_17 hL78_10 (by first | assumption | omega | rfl | (congr 1; omega)) (by first | assumption | omega | rfl | (congr 1; omega)) (by first | assumption | omega | rfl | (congr 1; omega)) (by first | assumption | omega | rfl | (congr 1; omega))) ⟨cbE 0 (wd_545 hE) (wd_118 hE) (wd_542 hE) rfl rfl (by decide +kernel) ⟨Nat.le_of_ble_eq_true rfl, Nat.le_of_ble_eq_true rfl⟩, (wd_544 hE), (wd_8 hE)⟩ ⟨PQ.blind, q_recv 0 (by decide) rfl hK hP rfl, (q_pre (av := [.ref (b 0)]) hK hP hJ hE)⟩ rfl rfl hl.1 rfl (lv_room (Nat.le_of_ble_eq_true rfl)) dX5_read_63 ⟨Nat.le_of_ble_eq_true rfl, Nat.le_of_ble_eq_true rfl⟩)) (fun r83 hr83 => ?_)
    subst hr83
    refine lv_if_eq (tgt := 124) hx hb dX5_read_66 (by decide) (fun c84 => ?_) (fun c84 => ?_)
    · have c84 := (b_eq (nI_toInt (n := kd tx xn (bgi tx xn jt_78)) (by omega)) (show Int32.toInt 0 = 0 from rfl)).mp c84
      have PF : pLoad tx xn = (0, (bgi tx xn jt_78), i_78, g1_78) := hL78_3.symm.trans (pa_e (by omega))
      refine lv_aload_n hx hb dX5_read_124 rfl (lv_at hl 0 rfl) ?_
      refine q_get (v := .int 0) hx hb 0 (by decide) rfl (ly_X5 hE) hown hK hP rfl 7 (by decide) (wd_234 hE) (fun _ h9 => h9) (congrArg (fun z : Int32 => some (Value.int z)) hL78_12) dX5_read_125 ?_
      refine lv_if_ne (tgt := 135) hx hb dX5_read_128 (by decide) (fun c85 => absurd c85 (by decide)) (fun c85 => ?_)
      refine lv_iconst (v := 1) hx hb dX5_read_131 (by decide) ?_
      refine lv_goto (tgt := 136) hx hb dX5_read_132 (by decide) ?_
      exact W.zret (v := 1) hx hb hr rfl (fun t ht hW => ⟨⟨1, u78, rfl, ⟨Or.inl ⟨rfl, by rw [PF]; exact ⟨rfl, hL78_12, hL78_13, hL78_14, by rw [hL78_8]; exact hL78_2⟩⟩, (by first | (rw [hL78_9]; done) | (rw [hL78_9]; first | assumption | omega | rfl | (congr 1; omega))), hfr⟩, (show va_P (dC, dI) vwCl (qW cs b u78) t.heap by rw [ht]; exact hP)⟩, hS.F ht⟩) hS.2.2 dX5_read_136
    · have c84 := mt (b_eq (nI_toInt (n := kd tx xn (bgi tx xn jt_78)) (by omega)) (show Int32.toInt 0 = 0 from rfl)).mpr c84
      have KN : kd tx xn (bgi tx xn jt_78) ≠ 0 := by omega
      refine lv_aload_n hx hb dX5_read_69 rfl (lv_at hl 0 rfl) ?_
      refine vp_callSi (va_Run.run (va_runV (As := []) (rest := []) ⟨hx, hb, hml, hown, noTs⟩ (q_X5_kind l dC dI H.size cs b u78 tx hA79 w67 hL78_5 w68 hL78_6 w69 hL78_7 xn cc jt_78 hL78_15 hL78_16 hL78_17 hL78_10 (by first | assumption | omega | rfl | (congr 1; omega)) (by first | assumption | omega | rfl | (congr 1; omega)) (by first | assumption | omega | rfl | (congr 1; omega)) (by first | assumption | omega | rfl | (congr 1; omega))) ⟨cbE 0 (wd_545 hE) (wd_118 hE) (wd_542 hE) rfl rfl (by decide +kernel) ⟨Nat.le_of_ble_eq_true rfl, Nat.le_of_ble_eq_true rfl⟩, (wd_544 hE), (wd_8 hE)⟩ ⟨PQ.blind, q_recv 0 (by decide) rfl hK hP rfl, (q_pre (av := [.ref (b 0)]) hK hP hJ hE)⟩ rfl rfl hl.1 rfl (lv_room (Nat.le_of_ble_eq_true rfl)) dX5_read_70 ⟨Nat.le_of_ble_eq_true rfl, Nat.le_of_ble_eq_true rfl⟩)) (fun r86 hr86 => ?_)
      subst hr86
      by_cases t87 : nI (kd tx xn (bgi tx xn jt_78)) = 3
      · refine lv_lookup (tgt := 100) (off := 27) hx hb dX5_read_73 (by decide) (by rw [t87]; rfl) (by decide) ?_
        have t87 := (b_eq (nI_toInt (n := kd tx xn (bgi tx xn jt_78)) (by omega)) (show Int32.toInt 3 = 3 from rfl)).mp t87
        refine lv_aload_n hx hb dX5_read_100 rfl (lv_at hl 0 rfl) ?_
        refine qc_v hAL hS hA (va_runV (As := []) (rest := []) ⟨hx, hb, hml, hown, noTs⟩ (q_X5_readVertex l dC dI H.size cs b u78 tx hA79 w67 hL78_5 w68 hL78_6 w69 hL78_7 d1_78 hL78_8 xn cc jt_78 i_78 ((-1)) ((-1)) g1_78 hL78_15 hL78_16 hL78_17 hL78_10 hL78_11 hL78_12 hL78_13 hL78_14 (by first | assumption | omega | rfl | (congr 1; omega)) (by first | assumption | omega | rfl | (congr 1; omega)) (by first | assumption | omega | rfl | (congr 1; omega)) (by first | assumption | omega | rfl | (congr 1; omega)) (by first | assumption | omega | rfl | (congr 1; omega)) (by first | assumption | omega | rfl | (congr 1; omega))) ⟨cbE 0 (wd_553 hE) (wd_118 hE) (wd_550 hE) rfl rfl (by decide +kernel) ⟨Nat.le_of_ble_eq_true rfl, Nat.le_of_ble_eq_true rfl⟩, (wd_552 hE), (wd_9 hE)⟩ ⟨PQ.blind, q_recv 0 (by decide) rfl hK hP rfl, (q_pre (av := [.ref (b 0)]) hK hP hJ hE)⟩ rfl rfl hl.1 rfl (lv_room (Nat.le_of_ble_eq_true rfl)) dX5_read_101 ⟨Nat.le_of_ble_eq_true rfl, Nat.le_of_ble_eq_true rfl⟩) (fun u88 H locs hpo88 hP hS => ?_)
        obtain ⟨h88_0, hq88⟩ := hpo88
        obtain ⟨w89, hA89⟩ : ∃ g, rA u88 7 = g := ⟨_, rfl⟩
        rw [hA89] at h88_0
        have hA90 := (hq88.1 5 (by decide)).trans hA79
        have hA91 := (hq88.1 2 (by decide)).trans hL78_5
        have hA92 := (hq88.1 3 (by decide)).trans hL78_6
        have hA93 := (hq88.1 4 (by decide)).trans hL78_7
        have hF94x := (hq88.2.1 3 (by decide)).trans hL78_9
        have hF95x := (hq88.2.1 13 (by decide)).trans hL78_15
        have hF96x := (hq88.2.1 14 (by decide)).trans hL78_16
        have hF97x := (hq88.2.1 15 (by decide)).trans hL78_17
        have hfr := FR.step hfr hq88 (by decide) (by decide) (fun h => rfl)
        rcases h88_0 with ⟨NLE, hFQ⟩ | ⟨PL1, t7, t8, t9, t6, j1, tj, t4, tb, DV⟩
        · have PF : pLoad tx xn = ((pLine tx xn g1_78 (bgi tx xn jt_78)).1, (pLine tx xn g1_78 (bgi tx xn jt_78)).2.1, i_78, g1_78) := hL78_3.symm.trans (by rw [show 700 - i_78 = (699 - i_78) + 1 by omega]; exact pa_f KN NLE)
          have PK := pline_k (tx := tx) (n := xn) (g := g1_78) (p := (bgi tx xn jt_78))
          refine lv_goto (tgt := 118) hx hb dX5_read_104 (by decide) ?_
          refine lv_iinc (v := nI (i_78 + 1)) (lv' := [(3, .int (nI (i_78 + 1))), (0, .ref (b 0)), (1, .ref (b 5)), (2, .int (nI xn))]) hx hb dX5_read_118 hl (k := 3) rfl (nI_1 i_78) (by decide) rfl (fun ls hl => ?_)
          refine lv_goto (tgt := 48) hx hb dX5_read_121 (by decide) ?_
          refine lv_iload_n hx hb dX5_read_48 rfl (lv_at hl 0 rfl) ?_
          refine lv_sipush (v := 700) hx hb dX5_read_49 (by decide) ?_
          refine lv_icmp_ge (tgt := 124) hx hb dX5_read_52 (by decide) (fun c98 => ?_) (fun c98 => ?_)
          · have c98 := (b_le (show Int32.toInt 700 = 700 from rfl) (nI_toInt (n := i_78 + 1) (by omega))).mp c98
            refine lv_aload_n hx hb dX5_read_124 rfl (lv_at hl 1 rfl) ?_
            refine q_get (v := .int (nI ((pLine tx xn g1_78 (bgi tx xn jt_78)).1))) hx hb 0 (by decide) rfl (ly_X5 hE) hown hK hP rfl 7 (by decide) (wd_234 hE) (fun _ h9 => h9) (congrArg (fun z : Int32 => some (Value.int z)) hFQ.1) dX5_read_125 ?_
            refine lv_if_ne (tgt := 135) hx hb dX5_read_128 (by decide) (fun c99 => ?_) (fun c99 => False.elim (by have c99 := (b_eq (nI_toInt (n := (pLine tx xn g1_78 (bgi tx xn jt_78)).1) (by omega)) (show Int32.toInt 0 = 0 from rfl)).mp c99; omega))
            have c99 := mt (b_eq (nI_toInt (n := (pLine tx xn g1_78 (bgi tx xn jt_78)).1) (by omega)) (show Int32.toInt 0 = 0 from rfl)).mpr c99
            refine lv_iconst (v := 0) hx hb dX5_read_135 (by decide) ?_
            exact W.zret (v := 0) hx hb hr rfl (fun t ht hW => ⟨⟨0, u88, rfl, ⟨Or.inr ⟨rfl, by rw [PF]; exact ⟨NLE, hFQ.1, hFQ.2.1, hFQ.2.2⟩⟩, (by first | (rw [hF94x]; done) | (rw [hF94x]; first | assumption | omega | rfl | (congr 1; omega))), hfr⟩, (show va_P (dC, dI) vwCl (qW cs b u88) t.heap by rw [ht]; exact hP)⟩, hS.F ht⟩) hS.2.2 dX5_read_136
          · have c98 := mt (b_le (show Int32.toInt 700 = 700 from rfl) (nI_toInt (n := i_78 + 1) (by omega))).mpr c98
            refine lv_aload_n hx hb dX5_read_55 rfl (lv_at hl 1 rfl) ?_
            refine q_get (v := .int (nI ((pLine tx xn g1_78 (bgi tx xn jt_78)).1))) hx hb 0 (by decide) rfl (ly_X5 hE) hown hK hP rfl 7 (by decide) (wd_234 hE) (fun _ h9 => h9) (congrArg (fun z : Int32 => some (Value.int z)) hFQ.1) dX5_read_56 ?_
            refine lv_if_ne (tgt := 124) hx hb dX5_read_59 (by decide) (fun c100 => ?_) (fun c100 => False.elim (by have c100 := (b_eq (nI_toInt (n := (pLine tx xn g1_78 (bgi tx xn jt_78)).1) (by omega)) (show Int32.toInt 0 = 0 from rfl)).mp c100; omega))
            have c100 := mt (b_eq (nI_toInt (n := (pLine tx xn g1_78 (bgi tx xn jt_78)).1) (by omega)) (show Int32.toInt 0 = 0 from rfl)).mpr c100
            refine lv_aload_n hx hb dX5_read_124 rfl (lv_at hl 1 rfl) ?_
            refine q_get (v := .int (nI ((pLine tx xn g1_78 (bgi tx xn jt_78)).1))) hx hb 0 (by decide) rfl (ly_X5 hE) hown hK hP rfl 7 (by decide) (wd_234 hE) (fun _ h9 => h9) (congrArg (fun z : Int32 => some (Value.int z)) hFQ.1) dX5_read_125 ?_
            refine lv_if_ne (tgt := 135) hx hb dX5_read_128 (by decide) (fun c101 => ?_) (fun c101 => False.elim (by have c101 := (b_eq (nI_toInt (n := (pLine tx xn g1_78 (bgi tx xn jt_78)).1) (by omega)) (show Int32.toInt 0 = 0 from rfl)).mp c101; omega))
            have c101 := mt (b_eq (nI_toInt (n := (pLine tx xn g1_78 (bgi tx xn jt_78)).1) (by omega)) (show Int32.toInt 0 = 0 from rfl)).mpr c101
            refine lv_iconst (v := 0) hx hb dX5_read_135 (by decide) ?_
            exact W.zret (v := 0) hx hb hr rfl (fun t ht hW => ⟨⟨0, u88, rfl, ⟨Or.inr ⟨rfl, by rw [PF]; exact ⟨NLE, hFQ.1, hFQ.2.1, hFQ.2.2⟩⟩, (by first | (rw [hF94x]; done) | (rw [hF94x]; first | assumption | omega | rfl | (congr 1; omega))), hfr⟩, (show va_P (dC, dI) vwCl (qW cs b u88) t.heap by rw [ht]; exact hP)⟩, hS.F ht⟩) hS.2.2 dX5_read_136
        · have PGT := pline_gt (tx := tx) (n := xn) (g := g1_78) (p := (bgi tx xn jt_78)) (bgi_le _) PL1
          refine lv_goto (tgt := 118) hx hb dX5_read_104 (by decide) ?_
          refine lv_iinc (v := nI (i_78 + 1)) (lv' := [(3, .int (nI (i_78 + 1))), (0, .ref (b 0)), (1, .ref (b 5)), (2, .int (nI xn))]) hx hb dX5_read_118 hl (k := 3) rfl (nI_1 i_78) (by decide) rfl (fun ls hl => ?_)
          refine lv_goto (tgt := 48) hx hb dX5_read_121 (by decide) ?_
          exact ih78 _ u88 _ _ _ (by omega) ⟨hP, hS, hfr, (i_78 + 1), j1, (pLine tx xn g1_78 (bgi tx xn jt_78)).2.2, w89, rfl, (by first | assumption | omega | rfl | (congr 1; omega)), (by first | assumption | omega | rfl | (congr 1; omega)), (by exact DV), (by rw [tb, ← pa_s KN PL1, show 700 - (i_78 + 1) + 1 = 700 - i_78 by omega]; exact hL78_3), (by first | assumption | omega | rfl | (congr 1; omega)), hA91, hA92, hA93, hA89, hF94x, t4, t6, t7, t8, t9, hF95x, hF96x, hF97x, lv_sub hl [1, 2, 3, 0] rfl⟩
      by_cases t102 : nI (kd tx xn (bgi tx xn jt_78)) = 4
      · refine lv_lookup (tgt := 107) (off := 34) hx hb dX5_read_73 (by decide) (by rw [t102]; rfl) (by decide) ?_
        have t102 := (b_eq (nI_toInt (n := kd tx xn (bgi tx xn jt_78)) (by omega)) (show Int32.toInt 4 = 4 from rfl)).mp t102
        refine lv_aload_n hx hb dX5_read_107 rfl (lv_at hl 0 rfl) ?_
        refine qc_v hAL hS hA (va_runV (As := []) (rest := []) ⟨hx, hb, hml, hown, noTs⟩ (q_X5_readEdge l dC dI H.size cs b u78 tx hA79 w67 hL78_5 w68 hL78_6 w69 hL78_7 d1_78 hL78_8 xn cc jt_78 i_78 ((-1)) ((-1)) g1_78 hL78_15 hL78_16 hL78_17 hL78_10 hL78_11 hL78_12 hL78_13 hL78_14 (by first | assumption | omega | rfl | (congr 1; omega)) (by first | assumption | omega | rfl | (congr 1; omega)) (by first | assumption | omega | rfl | (congr 1; omega)) (by first | assumption | omega | rfl | (congr 1; omega)) (by first | assumption | omega | rfl | (congr 1; omega)) (by first | assumption | omega | rfl | (congr 1; omega))) ⟨cbE 0 (wd_594 hE) (wd_118 hE) (wd_591 hE) rfl rfl (by decide +kernel) ⟨Nat.le_of_ble_eq_true rfl, Nat.le_of_ble_eq_true rfl⟩, (wd_593 hE), (wd_15 hE)⟩ ⟨PQ.blind, q_recv 0 (by decide) rfl hK hP rfl, (q_pre (av := [.ref (b 0)]) hK hP hJ hE)⟩ rfl rfl hl.1 rfl (lv_room (Nat.le_of_ble_eq_true rfl)) dX5_read_108 ⟨Nat.le_of_ble_eq_true rfl, Nat.le_of_ble_eq_true rfl⟩) (fun u103 H locs hpo103 hP hS => ?_)
        obtain ⟨h103_0, hq103⟩ := hpo103
        obtain ⟨w104, hA104⟩ : ∃ g, rA u103 7 = g := ⟨_, rfl⟩
        rw [hA104] at h103_0
        have hA105 := (hq103.1 5 (by decide)).trans hA79
        have hA106 := (hq103.1 2 (by decide)).trans hL78_5
        have hA107 := (hq103.1 3 (by decide)).trans hL78_6
        have hA108 := (hq103.1 4 (by decide)).trans hL78_7
        have hF109x := (hq103.2.1 3 (by decide)).trans hL78_9
        have hF110x := (hq103.2.1 13 (by decide)).trans hL78_15
        have hF111x := (hq103.2.1 14 (by decide)).trans hL78_16
        have hF112x := (hq103.2.1 15 (by decide)).trans hL78_17
        have hfr := FR.step hfr hq103 (by decide) (by decide) (fun h => rfl)
        rcases h103_0 with ⟨NLE, hFQ⟩ | ⟨PL1, t7, t8, t9, t6, j1, tj, t4, tb, DV⟩
        · have PF : pLoad tx xn = ((pLine tx xn g1_78 (bgi tx xn jt_78)).1, (pLine tx xn g1_78 (bgi tx xn jt_78)).2.1, i_78, g1_78) := hL78_3.symm.trans (by rw [show 700 - i_78 = (699 - i_78) + 1 by omega]; exact pa_f KN NLE)
          have PK := pline_k (tx := tx) (n := xn) (g := g1_78) (p := (bgi tx xn jt_78))
          refine lv_goto (tgt := 118) hx hb dX5_read_111 (by decide) ?_
          refine lv_iinc (v := nI (i_78 + 1)) (lv' := [(3, .int (nI (i_78 + 1))), (0, .ref (b 0)), (1, .ref (b 5)), (2, .int (nI xn))]) hx hb dX5_read_118 hl (k := 3) rfl (nI_1 i_78) (by decide) rfl (fun ls hl => ?_)
          refine lv_goto (tgt := 48) hx hb dX5_read_121 (by decide) ?_
          refine lv_iload_n hx hb dX5_read_48 rfl (lv_at hl 0 rfl) ?_
          refine lv_sipush (v := 700) hx hb dX5_read_49 (by decide) ?_
          refine lv_icmp_ge (tgt := 124) hx hb dX5_read_52 (by decide) (fun c113 => ?_) (fun c113 => ?_)
          · have c113 := (b_le (show Int32.toInt 700 = 700 from rfl) (nI_toInt (n := i_78 + 1) (by omega))).mp c113
            refine lv_aload_n hx hb dX5_read_124 rfl (lv_at hl 1 rfl) ?_
            refine q_get (v := .int (nI ((pLine tx xn g1_78 (bgi tx xn jt_78)).1))) hx hb 0 (by decide) rfl (ly_X5 hE) hown hK hP rfl 7 (by decide) (wd_234 hE) (fun _ h9 => h9) (congrArg (fun z : Int32 => some (Value.int z)) hFQ.1) dX5_read_125 ?_
            refine lv_if_ne (tgt := 135) hx hb dX5_read_128 (by decide) (fun c114 => ?_) (fun c114 => False.elim (by have c114 := (b_eq (nI_toInt (n := (pLine tx xn g1_78 (bgi tx xn jt_78)).1) (by omega)) (show Int32.toInt 0 = 0 from rfl)).mp c114; omega))
            have c114 := mt (b_eq (nI_toInt (n := (pLine tx xn g1_78 (bgi tx xn jt_78)).1) (by omega)) (show Int32.toInt 0 = 0 from rfl)).mpr c114
            refine lv_iconst (v := 0) hx hb dX5_read_135 (by decide) ?_
            exact W.zret (v := 0) hx hb hr rfl (fun t ht hW => ⟨⟨0, u103, rfl, ⟨Or.inr ⟨rfl, by rw [PF]; exact ⟨NLE, hFQ.1, hFQ.2.1, hFQ.2.2⟩⟩, (by first | (rw [hF109x]; done) | (rw [hF109x]; first | assumption | omega | rfl | (congr 1; omega))), hfr⟩, (show va_P (dC, dI) vwCl (qW cs b u103) t.heap by rw [ht]; exact hP)⟩, hS.F ht⟩) hS.2.2 dX5_read_136
          · have c113 := mt (b_le (show Int32.toInt 700 = 700 from rfl) (nI_toInt (n := i_78 + 1) (by omega))).mpr c113
            refine lv_aload_n hx hb dX5_read_55 rfl (lv_at hl 1 rfl) ?_
            refine q_get (v := .int (nI ((pLine tx xn g1_78 (bgi tx xn jt_78)).1))) hx hb 0 (by decide) rfl (ly_X5 hE) hown hK hP rfl 7 (by decide) (wd_234 hE) (fun _ h9 => h9) (congrArg (fun z : Int32 => some (Value.int z)) hFQ.1) dX5_read_56 ?_
            refine lv_if_ne (tgt := 124) hx hb dX5_read_59 (by decide) (fun c115 => ?_) (fun c115 => False.elim (by have c115 := (b_eq (nI_toInt (n := (pLine tx xn g1_78 (bgi tx xn jt_78)).1) (by omega)) (show Int32.toInt 0 = 0 from rfl)).mp c115; omega))
            have c115 := mt (b_eq (nI_toInt (n := (pLine tx xn g1_78 (bgi tx xn jt_78)).1) (by omega)) (show Int32.toInt 0 = 0 from rfl)).mpr c115
            refine lv_aload_n hx hb dX5_read_124 rfl (lv_at hl 1 rfl) ?_
            refine q_get (v := .int (nI ((pLine tx xn g1_78 (bgi tx xn jt_78)).1))) hx hb 0 (by decide) rfl (ly_X5 hE) hown hK hP rfl 7 (by decide) (wd_234 hE) (fun _ h9 => h9) (congrArg (fun z : Int32 => some (Value.int z)) hFQ.1) dX5_read_125 ?_
            refine lv_if_ne (tgt := 135) hx hb dX5_read_128 (by decide) (fun c116 => ?_) (fun c116 => False.elim (by have c116 := (b_eq (nI_toInt (n := (pLine tx xn g1_78 (bgi tx xn jt_78)).1) (by omega)) (show Int32.toInt 0 = 0 from rfl)).mp c116; omega))
            have c116 := mt (b_eq (nI_toInt (n := (pLine tx xn g1_78 (bgi tx xn jt_78)).1) (by omega)) (show Int32.toInt 0 = 0 from rfl)).mpr c116
            refine lv_iconst (v := 0) hx hb dX5_read_135 (by decide) ?_
            exact W.zret (v := 0) hx hb hr rfl (fun t ht hW => ⟨⟨0, u103, rfl, ⟨Or.inr ⟨rfl, by rw [PF]; exact ⟨NLE, hFQ.1, hFQ.2.1, hFQ.2.2⟩⟩, (by first | (rw [hF109x]; done) | (rw [hF109x]; first | assumption | omega | rfl | (congr 1; omega))), hfr⟩, (show va_P (dC, dI) vwCl (qW cs b u103) t.heap by rw [ht]; exact hP)⟩, hS.F ht⟩) hS.2.2 dX5_read_136
        · have PGT := pline_gt (tx := tx) (n := xn) (g := g1_78) (p := (bgi tx xn jt_78)) (bgi_le _) PL1
          refine lv_goto (tgt := 118) hx hb dX5_read_111 (by decide) ?_
          refine lv_iinc (v := nI (i_78 + 1)) (lv' := [(3, .int (nI (i_78 + 1))), (0, .ref (b 0)), (1, .ref (b 5)), (2, .int (nI xn))]) hx hb dX5_read_118 hl (k := 3) rfl (nI_1 i_78) (by decide) rfl (fun ls hl => ?_)
          refine lv_goto (tgt := 48) hx hb dX5_read_121 (by decide) ?_
          exact ih78 _ u103 _ _ _ (by omega) ⟨hP, hS, hfr, (i_78 + 1), j1, (pLine tx xn g1_78 (bgi tx xn jt_78)).2.2, w104, rfl, (by first | assumption | omega | rfl | (congr 1; omega)), (by first | assumption | omega | rfl | (congr 1; omega)), (by exact DV), (by rw [tb, ← pa_s KN PL1, show 700 - (i_78 + 1) + 1 = 700 - i_78 by omega]; exact hL78_3), (by first | assumption | omega | rfl | (congr 1; omega)), hA106, hA107, hA108, hA104, hF109x, t4, t6, t7, t8, t9, hF110x, hF111x, hF112x, lv_sub hl [1, 2, 3, 0] rfl⟩
      refine lv_lookup (tgt := 114) (off := 41) hx hb dX5_read_73 (by decide) (by rw [lv_osw t87 (k := 3) (by decide)]; rw [lv_osw t102 (k := 4) (by decide)]; rfl) (by decide) ?_
      have t87 := mt (b_eq (nI_toInt (n := kd tx xn (bgi tx xn jt_78)) (by omega)) (show Int32.toInt 3 = 3 from rfl)).mpr t87
      have t102 := mt (b_eq (nI_toInt (n := kd tx xn (bgi tx xn jt_78)) (by omega)) (show Int32.toInt 4 = 4 from rfl)).mpr t102
      refine lv_aload_n hx hb dX5_read_114 rfl (lv_at hl 0 rfl) ?_
      refine qc_v hAL hS hA (va_runV (As := []) (rest := []) ⟨hx, hb, hml, hown, noTs⟩ (q_X5_readWalk l dC dI H.size cs b u78 tx hA79 w67 hL78_5 w68 hL78_6 w69 hL78_7 d1_78 hL78_8 xn cc jt_78 i_78 ((-1)) ((-1)) g1_78 hL78_15 hL78_16 hL78_17 hL78_10 hL78_11 hL78_12 hL78_13 hL78_14 (by first | assumption | omega | rfl | (congr 1; omega)) (by first | assumption | omega | rfl | (congr 1; omega)) (by first | assumption | omega | rfl | (congr 1; omega)) (by first | assumption | omega | rfl | (congr 1; omega)) (by first | assumption | omega | rfl | (congr 1; omega)) (by first | assumption | omega | rfl | (congr 1; omega)) (by first | assumption | omega | rfl | (congr 1; omega))) ⟨cbE 0 (wd_629 hE) (wd_118 hE) (wd_626 hE) rfl rfl (by decide +kernel) ⟨Nat.le_of_ble_eq_true rfl, Nat.le_of_ble_eq_true rfl⟩, (wd_628 hE), (wd_18 hE)⟩ ⟨PQ.blind, q_recv 0 (by decide) rfl hK hP rfl, (q_pre (av := [.ref (b 0)]) hK hP hJ hE)⟩ rfl rfl hl.1 rfl (lv_room (Nat.le_of_ble_eq_true rfl)) dX5_read_115 ⟨Nat.le_of_ble_eq_true rfl, Nat.le_of_ble_eq_true rfl⟩) (fun u117 H locs hpo117 hP hS => ?_)
      obtain ⟨h117_0, hq117⟩ := hpo117
      obtain ⟨w118, hA118⟩ : ∃ g, rA u117 7 = g := ⟨_, rfl⟩
      rw [hA118] at h117_0
      have hA119 := (hq117.1 5 (by decide)).trans hA79
      have hA120 := (hq117.1 2 (by decide)).trans hL78_5
      have hA121 := (hq117.1 3 (by decide)).trans hL78_6
      have hA122 := (hq117.1 4 (by decide)).trans hL78_7
      have hF123x := (hq117.2.1 3 (by decide)).trans hL78_9
      have hF124x := (hq117.2.1 13 (by decide)).trans hL78_15
      have hF125x := (hq117.2.1 14 (by decide)).trans hL78_16
      have hF126x := (hq117.2.1 15 (by decide)).trans hL78_17
      have hfr := FR.step hfr hq117 (by decide) (by decide) (fun h => rfl)
      rcases h117_0 with ⟨NLE, hFQ⟩ | ⟨PL1, t7, t8, t9, t6, j1, tj, t4, tb, DV⟩
      · have PF : pLoad tx xn = ((pLine tx xn g1_78 (bgi tx xn jt_78)).1, (pLine tx xn g1_78 (bgi tx xn jt_78)).2.1, i_78, g1_78) := hL78_3.symm.trans (by rw [show 700 - i_78 = (699 - i_78) + 1 by omega]; exact pa_f KN NLE)
        have PK := pline_k (tx := tx) (n := xn) (g := g1_78) (p := (bgi tx xn jt_78))
        refine lv_iinc (v := nI (i_78 + 1)) (lv' := [(3, .int (nI (i_78 + 1))), (0, .ref (b 0)), (1, .ref (b 5)), (2, .int (nI xn))]) hx hb dX5_read_118 hl (k := 3) rfl (nI_1 i_78) (by decide) rfl (fun ls hl => ?_)
        refine lv_goto (tgt := 48) hx hb dX5_read_121 (by decide) ?_
        refine lv_iload_n hx hb dX5_read_48 rfl (lv_at hl 0 rfl) ?_
        refine lv_sipush (v := 700) hx hb dX5_read_49 (by decide) ?_
        refine lv_icmp_ge (tgt := 124) hx hb dX5_read_52 (by decide) (fun c127 => ?_) (fun c127 => ?_)
        · have c127 := (b_le (show Int32.toInt 700 = 700 from rfl) (nI_toInt (n := i_78 + 1) (by omega))).mp c127
          refine lv_aload_n hx hb dX5_read_124 rfl (lv_at hl 1 rfl) ?_
          refine q_get (v := .int (nI ((pLine tx xn g1_78 (bgi tx xn jt_78)).1))) hx hb 0 (by decide) rfl (ly_X5 hE) hown hK hP rfl 7 (by decide) (wd_234 hE) (fun _ h9 => h9) (congrArg (fun z : Int32 => some (Value.int z)) hFQ.1) dX5_read_125 ?_
          refine lv_if_ne (tgt := 135) hx hb dX5_read_128 (by decide) (fun c128 => ?_) (fun c128 => False.elim (by have c128 := (b_eq (nI_toInt (n := (pLine tx xn g1_78 (bgi tx xn jt_78)).1) (by omega)) (show Int32.toInt 0 = 0 from rfl)).mp c128; omega))
          have c128 := mt (b_eq (nI_toInt (n := (pLine tx xn g1_78 (bgi tx xn jt_78)).1) (by omega)) (show Int32.toInt 0 = 0 from rfl)).mpr c128
          refine lv_iconst (v := 0) hx hb dX5_read_135 (by decide) ?_
          exact W.zret (v := 0) hx hb hr rfl (fun t ht hW => ⟨⟨0, u117, rfl, ⟨Or.inr ⟨rfl, by rw [PF]; exact ⟨NLE, hFQ.1, hFQ.2.1, hFQ.2.2⟩⟩, (by first | (rw [hF123x]; done) | (rw [hF123x]; first | assumption | omega | rfl | (congr 1; omega))), hfr⟩, (show va_P (dC, dI) vwCl (qW cs b u117) t.heap by rw [ht]; exact hP)⟩, hS.F ht⟩) hS.2.2 dX5_read_136
        · have c127 := mt (b_le (show Int32.toInt 700 = 700 from rfl) (nI_toInt (n := i_78 + 1) (by omega))).mpr c127
          refine lv_aload_n hx hb dX5_read_55 rfl (lv_at hl 1 rfl) ?_
          refine q_get (v := .int (nI ((pLine tx xn g1_78 (bgi tx xn jt_78)).1))) hx hb 0 (by decide) rfl (ly_X5 hE) hown hK hP rfl 7 (by decide) (wd_234 hE) (fun _ h9 => h9) (congrArg (fun z : Int32 => some (Value.int z)) hFQ.1) dX5_read_56 ?_
          refine lv_if_ne (tgt := 124) hx hb dX5_read_59 (by decide) (fun c129 => ?_) (fun c129 => False.elim (by have c129 := (b_eq (nI_toInt (n := (pLine tx xn g1_78 (bgi tx xn jt_78)).1) (by omega)) (show Int32.toInt 0 = 0 from rfl)).mp c129; omega))
          have c129 := mt (b_eq (nI_toInt (n := (pLine tx xn g1_78 (bgi tx xn jt_78)).1) (by omega)) (show Int32.toInt 0 = 0 from rfl)).mpr c129
          refine lv_aload_n hx hb dX5_read_124 rfl (lv_at hl 1 rfl) ?_
          refine q_get (v := .int (nI ((pLine tx xn g1_78 (bgi tx xn jt_78)).1))) hx hb 0 (by decide) rfl (ly_X5 hE) hown hK hP rfl 7 (by decide) (wd_234 hE) (fun _ h9 => h9) (congrArg (fun z : Int32 => some (Value.int z)) hFQ.1) dX5_read_125 ?_
          refine lv_if_ne (tgt := 135) hx hb dX5_read_128 (by decide) (fun c130 => ?_) (fun c130 => False.elim (by have c130 := (b_eq (nI_toInt (n := (pLine tx xn g1_78 (bgi tx xn jt_78)).1) (by omega)) (show Int32.toInt 0 = 0 from rfl)).mp c130; omega))
          have c130 := mt (b_eq (nI_toInt (n := (pLine tx xn g1_78 (bgi tx xn jt_78)).1) (by omega)) (show Int32.toInt 0 = 0 from rfl)).mpr c130
          refine lv_iconst (v := 0) hx hb dX5_read_135 (by decide) ?_
          exact W.zret (v := 0) hx hb hr rfl (fun t ht hW => ⟨⟨0, u117, rfl, ⟨Or.inr ⟨rfl, by rw [PF]; exact ⟨NLE, hFQ.1, hFQ.2.1, hFQ.2.2⟩⟩, (by first | (rw [hF123x]; done) | (rw [hF123x]; first | assumption | omega | rfl | (congr 1; omega))), hfr⟩, (show va_P (dC, dI) vwCl (qW cs b u117) t.heap by rw [ht]; exact hP)⟩, hS.F ht⟩) hS.2.2 dX5_read_136
      · have PGT := pline_gt (tx := tx) (n := xn) (g := g1_78) (p := (bgi tx xn jt_78)) (bgi_le _) PL1
        refine lv_iinc (v := nI (i_78 + 1)) (lv' := [(3, .int (nI (i_78 + 1))), (0, .ref (b 0)), (1, .ref (b 5)), (2, .int (nI xn))]) hx hb dX5_read_118 hl (k := 3) rfl (nI_1 i_78) (by decide) rfl (fun ls hl => ?_)
        refine lv_goto (tgt := 48) hx hb dX5_read_121 (by decide) ?_
        exact ih78 _ u117 _ _ _ (by omega) ⟨hP, hS, hfr, (i_78 + 1), j1, (pLine tx xn g1_78 (bgi tx xn jt_78)).2.2, w118, rfl, (by first | assumption | omega | rfl | (congr 1; omega)), (by first | assumption | omega | rfl | (congr 1; omega)), (by exact DV), (by rw [tb, ← pa_s KN PL1, show 700 - (i_78 + 1) + 1 = 700 - i_78 by omega]; exact hL78_3), (by first | assumption | omega | rfl | (congr 1; omega)), hA120, hA121, hA122, hA118, hF123x, t4, t6, t7, t8, t9, hF124x, hF125x, hF126x, lv_sub hl [1, 2, 3, 0] rfl⟩
set_option maxHeartbeats 4000000 in
set_option maxRecDepth 100000 in
theorem q_X5_tellFault (l : Launch) (dC : Nat → ClassId) (dI : Nat → Nat → Nat) (sz : Nat) (cs : Nat → ClassId) (b : Nat → Nat) (u : RS) (x : Int32) (y7 : Int32) (y8 : Int32) (y9 : Int32) (hF3 : rF u 3 = 1) (hF7 : rF u 7 = y7) (hF8 : rF u 8 = y8) (hF9 : rF u 9 = y9) : Met l yX5_tellFault [.code yX5_tellFault cX5_tellFault 2 (some .int)] ({ frames := 0, cells := 0, slots := 0, locals := 0 }) (PQ [.ref (b 0), .int x] sz dC dI cs b u) (vp_Si (fun (r : Int32) => r = if x.toInt = 0 then y7 else if x.toInt = 1 then y8 else if x.toInt = 2 then y9 else -1)) 0 0 (fun _ => False) := by
  refine Met.ofW (cc := cX5_tellFault) (maxL := 2) (ret := (some .int)) (by decide) rfl ?_
  intro p e s m args below meth c s₁ B hml hv
  obtain ⟨rfl, hsz, hP, hK, hJ, hE⟩ := hv
  have hx := B.exec
  have hb := B.bytes
  have hr := B.returns
  have hown : s.vm.findClass RX5 = some m.cls := findClass_of_methodNamed B.named
  have hlocks := B.notSynchronized
  subst hsz
  have hl := lv_entry ([.ref (b 0), .int x]) (n := 2) (Nat.le_of_ble_eq_true rfl)
  rw [lg_entry_eq]
  generalize (lg_sl ([.ref (b 0), .int x]) ++ List.replicate (2 - (lg_sl ([.ref (b 0), .int x])).length) Slot.unset).toArray = ls at hl ⊢
  have hl : lv_has ls 2 [(0, .ref (b 0)), (1, .int x)] := hl
  refine lv_aload_n hx hb dX5_tellFault_0 rfl (lv_at hl 0 rfl) ?_
  refine q_get (v := .int 1) hx hb 0 (by decide) rfl (ly_X5 hE) hown hK hP rfl 3 (by decide) (wd_230 hE) (fun _ h9 => h9) (congrArg (fun z : Int32 => some (Value.int z)) hF3) dX5_tellFault_1 ?_
  refine lv_if_ne (tgt := 9) hx hb dX5_tellFault_4 (by decide) (fun c1 => ?_) (fun c1 => absurd c1 (by decide))
  refine lv_iload_n hx hb dX5_tellFault_9 rfl (lv_at hl 1 rfl) ?_
  by_cases t2 : x = 0
  · refine lv_tableIn (tgt := 36) hx hb dX5_tellFault_10 (by rw [t2]; decide) (by rw [t2]; decide) (by rw [t2]; rfl) (by decide) ?_
    have ht2i : Int32.toInt x = 0 := by rw [t2]; rfl
    refine lv_aload_n hx hb dX5_tellFault_36 rfl (lv_at hl 0 rfl) ?_
    refine q_get (v := .int y7) hx hb 0 (by decide) rfl (ly_X5 hE) hown hK hP rfl 7 (by decide) (wd_234 hE) (fun _ h9 => h9) (congrArg (fun z : Int32 => some (Value.int z)) hF7) dX5_tellFault_37 ?_
    exact W.iret (v := y7) hx hb hr (fun t ht hW => ⟨y7, rfl, (by first | (rw [if_pos (by omega)]; done) | (rw [if_neg (by omega), if_pos (by omega)]; done) | (rw [if_neg (by omega), if_neg (by omega), if_pos (by omega)]; done) | (rw [if_neg (by omega), if_neg (by omega), if_neg (by omega)]; done)), ht⟩) (fun _ h => absurd h List.not_mem_nil) dX5_tellFault_40
  by_cases t3 : x = 1
  · refine lv_tableIn (tgt := 41) hx hb dX5_tellFault_10 (by rw [t3]; decide) (by rw [t3]; decide) (by rw [t3]; rfl) (by decide) ?_
    have ht3i : Int32.toInt x = 1 := by rw [t3]; rfl
    refine lv_aload_n hx hb dX5_tellFault_41 rfl (lv_at hl 0 rfl) ?_
    refine q_get (v := .int y8) hx hb 0 (by decide) rfl (ly_X5 hE) hown hK hP rfl 8 (by decide) (wd_235 hE) (fun _ h9 => h9) (congrArg (fun z : Int32 => some (Value.int z)) hF8) dX5_tellFault_42 ?_
    exact W.iret (v := y8) hx hb hr (fun t ht hW => ⟨y8, rfl, (by first | (rw [if_pos (by omega)]; done) | (rw [if_neg (by omega), if_pos (by omega)]; done) | (rw [if_neg (by omega), if_neg (by omega), if_pos (by omega)]; done) | (rw [if_neg (by omega), if_neg (by omega), if_neg (by omega)]; done)), ht⟩) (fun _ h => absurd h List.not_mem_nil) dX5_tellFault_45
  by_cases t4 : x = 2
  · refine lv_tableIn (tgt := 46) hx hb dX5_tellFault_10 (by rw [t4]; decide) (by rw [t4]; decide) (by rw [t4]; rfl) (by decide) ?_
    have ht4i : Int32.toInt x = 2 := by rw [t4]; rfl
    refine lv_aload_n hx hb dX5_tellFault_46 rfl (lv_at hl 0 rfl) ?_
    refine q_get (v := .int y9) hx hb 0 (by decide) rfl (ly_X5 hE) hown hK hP rfl 9 (by decide) (wd_236 hE) (fun _ h9 => h9) (congrArg (fun z : Int32 => some (Value.int z)) hF9) dX5_tellFault_47 ?_
    exact W.iret (v := y9) hx hb hr (fun t ht hW => ⟨y9, rfl, (by first | (rw [if_pos (by omega)]; done) | (rw [if_neg (by omega), if_pos (by omega)]; done) | (rw [if_neg (by omega), if_neg (by omega), if_pos (by omega)]; done) | (rw [if_neg (by omega), if_neg (by omega), if_neg (by omega)]; done)), ht⟩) (fun _ h => absurd h List.not_mem_nil) dX5_tellFault_50
  have t2 := mt (b_eq (rfl : Int32.toInt x = _) (show Int32.toInt 0 = 0 from rfl)).mpr t2
  have t3 := mt (b_eq (rfl : Int32.toInt x = _) (show Int32.toInt 1 = 1 from rfl)).mpr t3
  have t4 := mt (b_eq (rfl : Int32.toInt x = _) (show Int32.toInt 2 = 2 from rfl)).mpr t4
  have hT5 : x.toInt < 0 ∨ 2 < x.toInt := by omega
  refine lv_tableOut (tgt := 51) hx hb dX5_tellFault_10 hT5 (by decide) ?_
  refine lv_iconst (v := -1) hx hb dX5_tellFault_51 (by decide) ?_
  exact W.iret (v := -1) hx hb hr (fun t ht hW => ⟨-1, rfl, (by first | (rw [if_pos (by omega)]; done) | (rw [if_neg (by omega), if_pos (by omega)]; done) | (rw [if_neg (by omega), if_neg (by omega), if_pos (by omega)]; done) | (rw [if_neg (by omega), if_neg (by omega), if_neg (by omega)]; done)), ht⟩) (fun _ h => absurd h List.not_mem_nil) dX5_tellFault_52
