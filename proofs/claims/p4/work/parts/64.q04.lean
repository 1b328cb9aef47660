set_option maxHeartbeats 4000000 in
set_option maxRecDepth 100000 in
theorem q_X5_readEdge (l : Launch) (dC : Nat → ClassId) (dI : Nat → Nat → Nat) (sz : Nat) (cs : Nat → ClassId) (b : Nat → Nat) (u : RS) (tx : Nat → Int32) (hAc5 : rA u 5 = tx) (k2 : Nat → Int32) (hAc2 : rA u 2 = k2) (k3 : Nat → Int32) (hAc3 : rA u 3 = k3) (k4 : Nat → Int32) (hAc4 : rA u 4 = k4) (dg : Nat → Int32) (hAc7 : rA u 7 = dg) (sz1 : Nat) (c1 : Nat) (i0 : Nat) (ln : Nat) (x8 : Int32) (x9 : Int32) (gg : PGr) (hF13 : rF u 13 = nI c1) (hF14 : rF u 14 = 1) (hF15 : rF u 15 = nI sz1) (hF4 : rF u 4 = nI i0) (hF6 : rF u 6 = nI ln) (hF7 : rF u 7 = 0) (hF8 : rF u 8 = x8) (hF9 : rF u 9 = x9) (hp0 : BY tx) (hp1 : sz1 ≤ 700) (hp2 : QTK k2 k3 k4 tx sz1 c1) (hp3 : i0 ≤ c1) (hp4 : DG dg gg) (hp5 : kd tx sz1 (bgi tx sz1 i0) = 4) : Met l yX5_readEdge [.code yX5_readEdge cX5_readEdge 5 none] ({ frames := 4, cells := 0, slots := 0, locals := 160 }) (PQ [.ref (b 0)] sz dC dI cs b u) (va_Qv (fun (u' : RS) => (((pLine tx sz1 gg (bgi tx sz1 i0)).1 ≠ 0 ∧ FQ u' (pLine tx sz1 gg (bgi tx sz1 i0)).1 (pLine tx sz1 gg (bgi tx sz1 i0)).2.1 ln) ∨ ((pLine tx sz1 gg (bgi tx sz1 i0)).1 = 0 ∧ rF u' 7 = 0 ∧ rF u' 8 = x8 ∧ rF u' 9 = x9 ∧ rF u' 6 = nI (ln + 1) ∧ ∃ i1, i1 ≤ c1 ∧ rF u' 4 = nI i1 ∧ bgi tx sz1 i1 = (pLine tx sz1 gg (bgi tx sz1 i0)).2.1 ∧ DG (rA u' 7) (pLine tx sz1 gg (bgi tx sz1 i0)).2.2)) ∧ FR [7] [4, 6, 7, 8, 9] false u u') (BQ dC dI cs b) (AQ b sz)) 0 0 (AQ b sz) := by
  refine Met.ofW (cc := cX5_readEdge) (maxL := 5) (ret := none) (by decide) rfl ?_
  intro p e s m args below meth c s₁ B hml hv
  obtain ⟨rfl, hsz, hP, hK, hJ, hE⟩ := hv
  have hx := B.exec
  have hb := B.bytes
  have hr := B.returns
  have hown : s.vm.findClass RX5 = some m.cls := findClass_of_methodNamed B.named
  have hlocks := B.notSynchronized
  subst hsz
  have hAL : ∀ i, i < 12 → AQ b s.heap.size (b i) := fun i h => Or.inl ⟨i, h, rfl⟩
  have hA : ∀ q : Nat, s.heap.size ≤ q → AQ b s.heap.size q := fun q h => Or.inr h
  have hS : va_S (AQ b s.heap.size) s.heap s.heap [] := va_S.rf
  have hfr : FR [7] [4, 6, 7, 8, 9] false u u := FR.refl
  have hl := lv_entry ([.ref (b 0)]) (n := 5) (Nat.le_of_ble_eq_true rfl)
  rw [lg_entry_eq]
  generalize (lg_sl ([.ref (b 0)]) ++ List.replicate (5 - (lg_sl ([.ref (b 0)])).length) Slot.unset).toArray = ls at hl ⊢
  have hl : lv_has ls 5 [(0, .ref (b 0))] := hl
  have hc7 := hp2.1
  have kdf := kd_f tx sz1 (bgi tx sz1 (i0))
  have bq : i0 = c1 → bgi tx sz1 (i0) = sz1 := fun h => by rw [h]; exact hp2.2.1
  have bz : i0 < c1 → bgi tx sz1 (i0) < sz1 := fun h => (hp2.2.2 _ h).1
  have d6 := hp4.2.1
  have e6 := hp4.2.2.2.1
  have w10 := hp4.2.2.2.2.2.1
  refine lv_aload_n hx hb dX5_readEdge_0 rfl (lv_at hl 0 rfl) ?_
  refine lv_aload_n hx hb dX5_readEdge_1 rfl (lv_at hl 0 rfl) ?_
  refine q_get (v := .ref (b 6)) hx hb 0 (by decide) rfl (ly_X5 hE) hown hK hP rfl 1 (by decide) (wd_228 hE) (fun _ h9 => h9) rfl dX5_readEdge_2 ?_
  refine vp_callSi (va_Run.run (va_runV (As := []) (rest := [.ref (b 0)]) ⟨hx, hb, hml, hown, noTs⟩ (q_X7_edges l dC dI s.heap.size cs b u dg hAc7) ⟨cbE 0 (wd_598 hE) (wd_116 hE) (wd_595 hE) rfl rfl (by decide +kernel) ⟨Nat.le_of_ble_eq_true rfl, Nat.le_of_ble_eq_true rfl⟩, (wd_596 hE), (wd_597 hE)⟩ ⟨PQ.blind, q_recv 6 (by decide) rfl hK hP rfl, (q_pre (av := [.ref (b 6)]) hK hP hJ hE)⟩ rfl rfl hl.1 rfl (lv_room (Nat.le_of_ble_eq_true rfl)) dX5_readEdge_5 ⟨Nat.le_of_ble_eq_true rfl, Nat.le_of_ble_eq_true rfl⟩)) (fun r7 hr7 => ?_)
  have hr7 := hr7.trans (hp4.2.2.1)
  subst hr7
  refine lv_bipush (v := 6) hx hb dX5_readEdge_8 (by decide) ?_
  refine lv_icmp_ge (tgt := 17) hx hb dX5_readEdge_10 (by decide) (fun c8 => ?_) (fun c8 => ?_)
  · have c8 := (b_le (show Int32.toInt 6 = 6 from rfl) (nI_toInt (n := pE gg) (by omega))).mp c8
    refine lv_iconst (v := 0) hx hb dX5_readEdge_17 (by decide) ?_
    refine lv_bipush (v := 6) hx hb dX5_readEdge_18 (by decide) ?_
    refine qc_i hAL hS hA (va_runV (As := [.int 0, .int (nI 6)]) (rest := []) ⟨hx, hb, hml, hown, noTs⟩ (q_X5_passes_0 l dC dI s.heap.size cs b u tx hAc5 k2 hAc2 k3 hAc3 k4 hAc4 6 sz1 c1 i0 ln hF13 hF14 hF15 hF4 hF6 hF7 (by first | assumption | omega | rfl | (congr 1; omega)) (by first | assumption | omega | rfl | (congr 1; omega)) (by first | assumption | omega | rfl | (congr 1; omega)) (by first | assumption | omega | rfl | (congr 1; omega)) (by first | assumption | omega | rfl | (congr 1; omega)) (by first | assumption | omega | rfl | (congr 1; omega))) ⟨cbE 2 (wd_561 hE) (wd_118 hE) (wd_558 hE) rfl rfl (by decide +kernel) ⟨Nat.le_of_ble_eq_true rfl, Nat.le_of_ble_eq_true rfl⟩, (wd_560 hE), (wd_10 hE)⟩ ⟨PQ.blind, q_recv 0 (by decide) rfl hK hP rfl, (q_pre (av := [.ref (b 0), .int 0, .int (nI 6)]) hK hP hJ hE)⟩ rfl rfl hl.1 rfl (lv_room (Nat.le_of_ble_eq_true rfl)) dX5_readEdge_20 ⟨Nat.le_of_ble_eq_true rfl, Nat.le_of_ble_eq_true rfl⟩) (fun r9 u9 H locs hpo9 hP hS => ?_)
    obtain ⟨hr9, h9_0, h9_1, h9_2, hq9⟩ := hpo9
    have hA10 := (hq9.1 5 List.not_mem_nil).trans hAc5
    have hA11 := (hq9.1 2 List.not_mem_nil).trans hAc2
    have hA12 := (hq9.1 3 List.not_mem_nil).trans hAc3
    have hA13 := (hq9.1 4 List.not_mem_nil).trans hAc4
    have hA14 := (hq9.1 7 List.not_mem_nil).trans hAc7
    have hF15x := (hq9.2.1 13 (by decide)).trans hF13
    have hF16x := (hq9.2.1 14 (by decide)).trans hF14
    have hF17x := (hq9.2.1 15 (by decide)).trans hF15
    have hF18x := (hq9.2.1 4 (by decide)).trans hF4
    have hF19x := (hq9.2.1 6 (by decide)).trans hF6
    have hfr := FR.step hfr hq9 (fun _ h => absurd h List.not_mem_nil) (by decide) (fun h => rfl)
    subst hr9
    refine lv_if_ne (tgt := 27) hx hb dX5_readEdge_23 (by decide) (fun c20 => absurd c20 (by decide)) (fun c20 => ?_)
    have EHd : pHead tx sz1 gg (bgi tx sz1 i0) = (6, (bgi tx sz1 i0), gg) := he_6 hp5 (by omega)
    have E : pLine tx sz1 gg (bgi tx sz1 i0) = (6, (bgi tx sz1 i0), gg) := (pl_h (by rw [EHd]; exact (show (6 : Nat) ≠ 0 by decide))).trans EHd
    have EN : 6 ≠ 0 := (show (6 : Nat) ≠ 0 by decide)
    exact W.vret hx hb hr (fun t ht hW => ⟨⟨u9, rfl, ⟨(by first | (rw [hA14]; done) | (rw [hA14]; first | (exact Or.inl ⟨by rw [E]; exact EN, by rw [E]; exact ⟨h9_0, h9_1, h9_2⟩⟩) | (rw [E]; exact Or.inr ⟨rfl, h9_0, h9_1, h9_2, hF19x, _, by omega, hF18x, rfl, DV⟩))), hfr⟩, (show va_P (dC, dI) vwCl (qW cs b u9) t.heap by rw [ht]; exact hP)⟩, hS.F ht⟩) hS.2.2 dX5_readEdge_26
  · have c8 := mt (b_le (show Int32.toInt 6 = 6 from rfl) (nI_toInt (n := pE gg) (by omega))).mpr c8
    refine lv_iconst (v := 1) hx hb dX5_readEdge_13 (by decide) ?_
    refine lv_goto (tgt := 18) hx hb dX5_readEdge_14 (by decide) ?_
    refine lv_bipush (v := 6) hx hb dX5_readEdge_18 (by decide) ?_
    refine vp_callSi (va_Run.run (va_runV (As := [.int 1, .int (nI 6)]) (rest := []) ⟨hx, hb, hml, hown, noTs⟩ (q_X5_passes_1 l dC dI s.heap.size cs b u 6 hF7) ⟨cbE 2 (wd_561 hE) (wd_118 hE) (wd_558 hE) rfl rfl (by decide +kernel) ⟨Nat.le_of_ble_eq_true rfl, Nat.le_of_ble_eq_true rfl⟩, (wd_560 hE), (wd_10 hE)⟩ ⟨PQ.blind, q_recv 0 (by decide) rfl hK hP rfl, (q_pre (av := [.ref (b 0), .int 1, .int (nI 6)]) hK hP hJ hE)⟩ rfl rfl hl.1 rfl (lv_room (Nat.le_of_ble_eq_true rfl)) dX5_readEdge_20 ⟨Nat.le_of_ble_eq_true rfl, Nat.le_of_ble_eq_true rfl⟩)) (fun r21 hr21 => ?_)
    subst hr21
    refine lv_if_ne (tgt := 27) hx hb dX5_readEdge_23 (by decide) (fun c22 => ?_) (fun c22 => absurd c22 (by decide))
    refine lv_aload_n hx hb dX5_readEdge_27 rfl (lv_at hl 0 rfl) ?_
    refine lv_dup hx hb dX5_readEdge_28 rfl ?_
    refine q_get (v := .int (nI i0)) hx hb 0 (by decide) rfl (ly_X5 hE) hown hK hP rfl 4 (by decide) (wd_231 hE) (fun _ h9 => h9) (congrArg (fun z : Int32 => some (Value.int z)) hF4) dX5_readEdge_29 ?_
    refine lv_iconst (v := 1) hx hb dX5_readEdge_32 (by decide) ?_
    refine lv_iadd hx hb dX5_readEdge_33 ?_
    refine W.eq (g2 := F0 m 34 ls [.int (nI (i0 + 1)), .ref (b 0)]) (congrArg (fun z : Int32 => F0 m 34 ls (.int z :: [.ref (b 0)])) (nI_add i0 1)) ?_
    refine q_put (v := nI (i0 + 1)) (ty := .int) hx hb 0 4 (by decide) (ly_X5 hE) tyX5 tyX5_ok nmX5 hown hK hP hJ hAL hS rfl 4 (by decide) (wd_231 hE) (fun _ h9 => h9) rfl (by decide +kernel) rfl rfl rfl rfl (qE_put0 (by decide)) (Nat.le_of_ble_eq_true rfl) dX5_readEdge_34 (fun u23 H locs hf23 hq23 hP hS => ?_)
    have hA24 := (hq23.1 5 List.not_mem_nil).trans hAc5
    have hA25 := (hq23.1 2 List.not_mem_nil).trans hAc2
    have hA26 := (hq23.1 3 List.not_mem_nil).trans hAc3
    have hA27 := (hq23.1 4 List.not_mem_nil).trans hAc4
    have hA28 := (hq23.1 7 List.not_mem_nil).trans hAc7
    have hF29x := (hq23.2.1 13 (by decide)).trans hF13
    have hF30x := (hq23.2.1 14 (by decide)).trans hF14
    have hF31x := (hq23.2.1 15 (by decide)).trans hF15
    have hF32x := (hq23.2.1 6 (by decide)).trans hF6
    have hF33x := (hq23.2.1 7 (by decide)).trans hF7
    have hF34x := (hq23.2.1 8 (by decide)).trans hF8
    have hF35x := (hq23.2.1 9 (by decide)).trans hF9
    have hfr := FR.step hfr hq23 (fun _ h => absurd h List.not_mem_nil) (by decide) (fun h => rfl)
    have kdf1 := kd_f tx sz1 (bgi tx sz1 (i0 + 1))
    have bq1 : i0 + 1 = c1 → bgi tx sz1 (i0 + 1) = sz1 := fun h => by rw [h]; exact hp2.2.1
    have bz1 : i0 + 1 < c1 → bgi tx sz1 (i0 + 1) < sz1 := fun h => (hp2.2.2 _ h).1
    refine lv_aload_n hx hb dX5_readEdge_37 rfl (lv_at hl 0 rfl) ?_
    refine qc_i hAL hS hA (va_runV (As := []) (rest := []) ⟨hx, hb, hml, hown, noTs⟩ (q_X5_readPlace l dC dI H.size cs b u23 tx hA24 k2 hA25 k3 hA26 k4 hA27 dg hA28 sz1 c1 (i0 + 1) ln x8 x9 gg hF29x hF30x hF31x hf23 hF32x hF33x hF34x hF35x (by first | assumption | omega | rfl | (congr 1; omega)) (by first | assumption | omega | rfl | (congr 1; omega)) (by first | assumption | omega | rfl | (congr 1; omega)) (by first | assumption | omega | rfl | (congr 1; omega)) (by first | assumption | omega | rfl | (congr 1; omega))) ⟨cbE 0 (wd_602 hE) (wd_118 hE) (wd_599 hE) rfl rfl (by decide +kernel) ⟨Nat.le_of_ble_eq_true rfl, Nat.le_of_ble_eq_true rfl⟩, (wd_601 hE), (wd_16 hE)⟩ ⟨PQ.blind, q_recv 0 (by decide) rfl hK hP rfl, (q_pre (av := [.ref (b 0)]) hK hP hJ hE)⟩ rfl rfl hl.1 rfl (lv_room (Nat.le_of_ble_eq_true rfl)) dX5_readEdge_38 ⟨Nat.le_of_ble_eq_true rfl, Nat.le_of_ble_eq_true rfl⟩) (fun r36 u36 H locs hpo36 hP hS => ?_)
    obtain ⟨hr36, hq36⟩ := hpo36
    have hA37 := (hq36.1 5 List.not_mem_nil).trans hA24
    have hA38 := (hq36.1 2 List.not_mem_nil).trans hA25
    have hA39 := (hq36.1 3 List.not_mem_nil).trans hA26
    have hA40 := (hq36.1 4 List.not_mem_nil).trans hA27
    have hA41 := (hq36.1 7 List.not_mem_nil).trans hA28
    have hF42x := (hq36.2.1 13 (by decide)).trans hF29x
    have hF43x := (hq36.2.1 14 (by decide)).trans hF30x
    have hF44x := (hq36.2.1 15 (by decide)).trans hF31x
    have hF45x := (hq36.2.1 6 (by decide)).trans hF32x
    have hfr := FR.step hfr hq36 (fun _ h => absurd h List.not_mem_nil) (by decide) (fun h => rfl)
    rcases hr36 with ⟨rfl, hb36⟩ | ⟨rfl, hb36⟩ | ⟨rfl, hb36⟩
    · have EHd : pHead tx sz1 gg (bgi tx sz1 i0) = (bad (kd tx sz1 (bgi tx sz1 (i0 + 1))), bgi tx sz1 (i0 + 1), gg) := he_a hp5 (show pE gg ≠ 6 by omega) bad_ne (ps_n hb36.1)
      have E : pLine tx sz1 gg (bgi tx sz1 i0) = (bad (kd tx sz1 (bgi tx sz1 (i0 + 1))), bgi tx sz1 (i0 + 1), gg) := (pl_h (by rw [EHd]; exact bad_ne)).trans EHd
      have EN : bad (kd tx sz1 (bgi tx sz1 (i0 + 1))) ≠ 0 := bad_ne
      have bb := bad_b (kd tx sz1 (bgi tx sz1 (i0 + 1)))
      refine lv_istore_n (lv' := [(1, .int (-1)), (0, .ref (b 0))]) hx hb dX5_readEdge_41 rfl hl (by decide) rfl (fun ls hl => ?_)
      refine lv_aload_n hx hb dX5_readEdge_42 rfl (lv_at hl 1 rfl) ?_
      refine lv_iload_n hx hb dX5_readEdge_43 rfl (lv_at hl 0 rfl) ?_
      refine lv_iconst (v := 0) hx hb dX5_readEdge_44 (by decide) ?_
      refine vp_callSi (va_Run.run (va_runV (As := [.int (-1), .int 0]) (rest := []) ⟨hx, hb, hml, hown, noTs⟩ (q_X5_readIndex_f l dC dI H.size cs b u36 tx hA37 k2 hA38 k3 hA39 k4 hA40 (-1) 0 sz1 c1 ((i0 + 1)) ((bad (kd tx sz1 (bgi tx sz1 (i0 + 1))))) hF42x hF43x hF44x hb36.2.2 hb36.2.1.1 (by first | assumption | omega | rfl | (congr 1; omega)) (by first | assumption | omega | rfl | (congr 1; omega)) (by first | assumption | omega | rfl | (congr 1; omega)) (by first | assumption | omega | rfl | (congr 1; omega)) (by first | assumption | omega | rfl | (congr 1; omega)) (by first | assumption | omega | rfl | (congr 1; omega))) ⟨cbE 2 (wd_610 hE) (wd_118 hE) (wd_607 hE) rfl rfl (by decide +kernel) ⟨Nat.le_of_ble_eq_true rfl, Nat.le_of_ble_eq_true rfl⟩, (wd_609 hE), (wd_17 hE)⟩ ⟨PQ.blind, q_recv 0 (by decide) rfl hK hP rfl, (q_pre (av := [.ref (b 0), .int (-1), .int 0]) hK hP hJ hE)⟩ rfl rfl hl.1 rfl (lv_room (Nat.le_of_ble_eq_true rfl)) dX5_readEdge_45 ⟨Nat.le_of_ble_eq_true rfl, Nat.le_of_ble_eq_true rfl⟩)) (fun r46 hr46 => ?_)
      subst hr46
      refine lv_istore_n (lv' := [(2, .int (-1)), (1, .int (-1)), (0, .ref (b 0))]) hx hb dX5_readEdge_48 rfl hl (by decide) rfl (fun ls hl => ?_)
      refine lv_aload_n hx hb dX5_readEdge_49 rfl (lv_at hl 2 rfl) ?_
      refine vp_callSi (va_Run.run (va_runV (As := []) (rest := []) ⟨hx, hb, hml, hown, noTs⟩ (q_X5_readPlace_f l dC dI H.size cs b u36 tx hA37 k2 hA38 k3 hA39 k4 hA40 sz1 c1 ((i0 + 1)) ((bad (kd tx sz1 (bgi tx sz1 (i0 + 1))))) hF42x hF43x hF44x hb36.2.2 hb36.2.1.1 (by first | assumption | omega | rfl | (congr 1; omega)) (by first | assumption | omega | rfl | (congr 1; omega)) (by first | assumption | omega | rfl | (congr 1; omega)) (by first | assumption | omega | rfl | (congr 1; omega)) (by first | assumption | omega | rfl | (congr 1; omega)) (by first | assumption | omega | rfl | (congr 1; omega))) ⟨cbE 0 (wd_602 hE) (wd_118 hE) (wd_599 hE) rfl rfl (by decide +kernel) ⟨Nat.le_of_ble_eq_true rfl, Nat.le_of_ble_eq_true rfl⟩, (wd_601 hE), (wd_16 hE)⟩ ⟨PQ.blind, q_recv 0 (by decide) rfl hK hP rfl, (q_pre (av := [.ref (b 0)]) hK hP hJ hE)⟩ rfl rfl hl.1 rfl (lv_room (Nat.le_of_ble_eq_true rfl)) dX5_readEdge_50 ⟨Nat.le_of_ble_eq_true rfl, Nat.le_of_ble_eq_true rfl⟩)) (fun r47 hr47 => ?_)
      subst hr47
      refine lv_istore_n (lv' := [(3, .int (-1)), (2, .int (-1)), (1, .int (-1)), (0, .ref (b 0))]) hx hb dX5_readEdge_53 rfl hl (by decide) rfl (fun ls hl => ?_)
      refine lv_aload_n hx hb dX5_readEdge_54 rfl (lv_at hl 3 rfl) ?_
      refine lv_iload_n hx hb dX5_readEdge_55 rfl (lv_at hl 0 rfl) ?_
      refine lv_aload_n hx hb dX5_readEdge_56 rfl (lv_at hl 3 rfl) ?_
      refine q_get (v := .ref (b 6)) hx hb 0 (by decide) rfl (ly_X5 hE) hown hK hP rfl 1 (by decide) (wd_228 hE) (fun _ h9 => h9) rfl dX5_readEdge_57 ?_
      refine lv_iload_n hx hb dX5_readEdge_60 rfl (lv_at hl 2 rfl) ?_
      refine vp_callSi (va_Run.run (va_runV (As := [.int (-1)]) (rest := [.int (-1), .ref (b 0)]) ⟨hx, hb, hml, hown, noTs⟩ (q_X7_orderAt_m l dC dI H.size cs b u36 dg hA41) ⟨cbE 1 (wd_614 hE) (wd_116 hE) (wd_611 hE) rfl rfl (by decide +kernel) ⟨Nat.le_of_ble_eq_true rfl, Nat.le_of_ble_eq_true rfl⟩, (wd_612 hE), (wd_613 hE)⟩ ⟨PQ.blind, q_recv 6 (by decide) rfl hK hP rfl, (q_pre (av := [.ref (b 6), .int (-1)]) hK hP hJ hE)⟩ rfl rfl hl.1 rfl (lv_room (Nat.le_of_ble_eq_true rfl)) dX5_readEdge_61 ⟨Nat.le_of_ble_eq_true rfl, Nat.le_of_ble_eq_true rfl⟩)) (fun r48 hr48 => ?_)
      subst hr48
      refine lv_iload_n hx hb dX5_readEdge_64 rfl (lv_at hl 1 rfl) ?_
      refine vp_callSi (va_Run.run (va_runSN (As := [.int 0, .int (-1)]) (rest := [.int (-1), .ref (b 0)]) ⟨hx, hb, hml, hown, noTs⟩ (q_X11_share_m l dC dI H.size cs b u36 0) ⟨cnE 2 (wd_620 hE) (wd_115 hE) (wd_618 hE) rfl rfl (by decide +kernel) ⟨Nat.le_of_ble_eq_true rfl, Nat.le_of_ble_eq_true rfl⟩, (wd_619 hE), trivial⟩ ⟨PQ.blind, (q_pre (av := [.int 0, .int (-1)]) hK hP hJ hE)⟩ rfl rfl hl.1 rfl (lv_room (Nat.le_of_ble_eq_true rfl)) dX5_readEdge_65 ⟨Nat.le_of_ble_eq_true rfl, Nat.le_of_ble_eq_true rfl⟩)) (fun r49 hr49 => ?_)
      subst hr49
      refine vp_callSi (va_Run.run (va_runV (As := [.int (-1), .int 0]) (rest := []) ⟨hx, hb, hml, hown, noTs⟩ (q_X5_readIndex_f l dC dI H.size cs b u36 tx hA37 k2 hA38 k3 hA39 k4 hA40 (-1) 0 sz1 c1 ((i0 + 1)) ((bad (kd tx sz1 (bgi tx sz1 (i0 + 1))))) hF42x hF43x hF44x hb36.2.2 hb36.2.1.1 (by first | assumption | omega | rfl | (congr 1; omega)) (by first | assumption | omega | rfl | (congr 1; omega)) (by first | assumption | omega | rfl | (congr 1; omega)) (by first | assumption | omega | rfl | (congr 1; omega)) (by first | assumption | omega | rfl | (congr 1; omega)) (by first | assumption | omega | rfl | (congr 1; omega))) ⟨cbE 2 (wd_610 hE) (wd_118 hE) (wd_607 hE) rfl rfl (by decide +kernel) ⟨Nat.le_of_ble_eq_true rfl, Nat.le_of_ble_eq_true rfl⟩, (wd_609 hE), (wd_17 hE)⟩ ⟨PQ.blind, q_recv 0 (by decide) rfl hK hP rfl, (q_pre (av := [.ref (b 0), .int (-1), .int 0]) hK hP hJ hE)⟩ rfl rfl hl.1 rfl (lv_room (Nat.le_of_ble_eq_true rfl)) dX5_readEdge_68 ⟨Nat.le_of_ble_eq_true rfl, Nat.le_of_ble_eq_true rfl⟩)) (fun r50 hr50 => ?_)
      subst hr50
      refine lv_istore (lv' := [(4, .int (-1)), (3, .int (-1)), (2, .int (-1)), (1, .int (-1)), (0, .ref (b 0))]) hx hb dX5_readEdge_71 hl (by decide) rfl (fun ls hl => ?_)
      refine lv_aload_n hx hb dX5_readEdge_73 rfl (lv_at hl 4 rfl) ?_
      refine q_get (v := .int (nI ((bad (kd tx sz1 (bgi tx sz1 (i0 + 1))))))) hx hb 0 (by decide) rfl (ly_X5 hE) hown hK hP rfl 7 (by decide) (wd_234 hE) (fun _ h9 => h9) (congrArg (fun z : Int32 => some (Value.int z)) hb36.2.1.1) dX5_readEdge_74 ?_
      refine lv_if_ne (tgt := 99) hx hb dX5_readEdge_77 (by decide) (fun c51 => ?_) (fun c51 => False.elim (by have c51 := (b_eq (nI_toInt (n := (bad (kd tx sz1 (bgi tx sz1 (i0 + 1))))) (by omega)) (show Int32.toInt 0 = 0 from rfl)).mp c51; omega))
      have c51 := mt (b_eq (nI_toInt (n := (bad (kd tx sz1 (bgi tx sz1 (i0 + 1))))) (by omega)) (show Int32.toInt 0 = 0 from rfl)).mpr c51
      exact W.vret hx hb hr (fun t ht hW => ⟨⟨u36, rfl, ⟨(by first | (rw [hA41]; done) | (rw [hA41]; first | (exact Or.inl ⟨by rw [E]; exact EN, by rw [E]; exact ⟨hb36.2.1.1, hb36.2.1.2.1, hb36.2.1.2.2⟩⟩) | (rw [E]; exact Or.inr ⟨rfl, hb36.2.1.1, hb36.2.1.2.1, hb36.2.1.2.2, hF45x, _, by omega, hb36.2.2, rfl, DV⟩))), hfr⟩, (show va_P (dC, dI) vwCl (qW cs b u36) t.heap by rw [ht]; exact hP)⟩, hS.F ht⟩) hS.2.2 dX5_readEdge_99
    · have EHd : pHead tx sz1 gg (bgi tx sz1 i0) = (3, bgi tx sz1 (i0 + 1), gg) := he_a hp5 (show pE gg ≠ 6 by omega) (by decide) (ps_3 hb36.1 hb36.2.1)
      have E : pLine tx sz1 gg (bgi tx sz1 i0) = (3, bgi tx sz1 (i0 + 1), gg) := (pl_h (by rw [EHd]; exact (show (3 : Nat) ≠ 0 by decide))).trans EHd
      have EN : 3 ≠ 0 := (show (3 : Nat) ≠ 0 by decide)
      refine lv_istore_n (lv' := [(1, .int (-1)), (0, .ref (b 0))]) hx hb dX5_readEdge_41 rfl hl (by decide) rfl (fun ls hl => ?_)
      refine lv_aload_n hx hb dX5_readEdge_42 rfl (lv_at hl 1 rfl) ?_
      refine lv_iload_n hx hb dX5_readEdge_43 rfl (lv_at hl 0 rfl) ?_
      refine lv_iconst (v := 0) hx hb dX5_readEdge_44 (by decide) ?_
      refine vp_callSi (va_Run.run (va_runV (As := [.int (-1), .int 0]) (rest := []) ⟨hx, hb, hml, hown, noTs⟩ (q_X5_readIndex_f l dC dI H.size cs b u36 tx hA37 k2 hA38 k3 hA39 k4 hA40 (-1) 0 sz1 c1 ((i0 + 1)) 3 hF42x hF43x hF44x hb36.2.2.2 hb36.2.2.1.1 (by first | assumption | omega | rfl | (congr 1; omega)) (by first | assumption | omega | rfl | (congr 1; omega)) (by first | assumption | omega | rfl | (congr 1; omega)) (by first | assumption | omega | rfl | (congr 1; omega)) (by first | assumption | omega | rfl | (congr 1; omega)) (by first | assumption | omega | rfl | (congr 1; omega))) ⟨cbE 2 (wd_610 hE) (wd_118 hE) (wd_607 hE) rfl rfl (by decide +kernel) ⟨Nat.le_of_ble_eq_true rfl, Nat.le_of_ble_eq_true rfl⟩, (wd_609 hE), (wd_17 hE)⟩ ⟨PQ.blind, q_recv 0 (by decide) rfl hK hP rfl, (q_pre (av := [.ref (b 0), .int (-1), .int 0]) hK hP hJ hE)⟩ rfl rfl hl.1 rfl (lv_room (Nat.le_of_ble_eq_true rfl)) dX5_readEdge_45 ⟨Nat.le_of_ble_eq_true rfl, Nat.le_of_ble_eq_true rfl⟩)) (fun r52 hr52 => ?_)
      subst hr52
      refine lv_istore_n (lv' := [(2, .int (-1)), (1, .int (-1)), (0, .ref (b 0))]) hx hb dX5_readEdge_48 rfl hl (by decide) rfl (fun ls hl => ?_)
      refine lv_aload_n hx hb dX5_readEdge_49 rfl (lv_at hl 2 rfl) ?_
      refine vp_callSi (va_Run.run (va_runV (As := []) (rest := []) ⟨hx, hb, hml, hown, noTs⟩ (q_X5_readPlace_f l dC dI H.size cs b u36 tx hA37 k2 hA38 k3 hA39 k4 hA40 sz1 c1 ((i0 + 1)) 3 hF42x hF43x hF44x hb36.2.2.2 hb36.2.2.1.1 (by first | assumption | omega | rfl | (congr 1; omega)) (by first | assumption | omega | rfl | (congr 1; omega)) (by first | assumption | omega | rfl | (congr 1; omega)) (by first | assumption | omega | rfl | (congr 1; omega)) (by first | assumption | omega | rfl | (congr 1; omega)) (by first | assumption | omega | rfl | (congr 1; omega))) ⟨cbE 0 (wd_602 hE) (wd_118 hE) (wd_599 hE) rfl rfl (by decide +kernel) ⟨Nat.le_of_ble_eq_true rfl, Nat.le_of_ble_eq_true rfl⟩, (wd_601 hE), (wd_16 hE)⟩ ⟨PQ.blind, q_recv 0 (by decide) rfl hK hP rfl, (q_pre (av := [.ref (b 0)]) hK hP hJ hE)⟩ rfl rfl hl.1 rfl (lv_room (Nat.le_of_ble_eq_true rfl)) dX5_readEdge_50 ⟨Nat.le_of_ble_eq_true rfl, Nat.le_of_ble_eq_true rfl⟩)) (fun r53 hr53 => ?_)
      subst hr53
      refine lv_istore_n (lv' := [(3, .int (-1)), (2, .int (-1)), (1, .int (-1)), (0, .ref (b 0))]) hx hb dX5_readEdge_53 rfl hl (by decide) rfl (fun ls hl => ?_)
      refine lv_aload_n hx hb dX5_readEdge_54 rfl (lv_at hl 3 rfl) ?_
      refine lv_iload_n hx hb dX5_readEdge_55 rfl (lv_at hl 0 rfl) ?_
      refine lv_aload_n hx hb dX5_readEdge_56 rfl (lv_at hl 3 rfl) ?_
      refine q_get (v := .ref (b 6)) hx hb 0 (by decide) rfl (ly_X5 hE) hown hK hP rfl 1 (by decide) (wd_228 hE) (fun _ h9 => h9) rfl dX5_readEdge_57 ?_
      refine lv_iload_n hx hb dX5_readEdge_60 rfl (lv_at hl 2 rfl) ?_
      refine vp_callSi (va_Run.run (va_runV (As := [.int (-1)]) (rest := [.int (-1), .ref (b 0)]) ⟨hx, hb, hml, hown, noTs⟩ (q_X7_orderAt_m l dC dI H.size cs b u36 dg hA41) ⟨cbE 1 (wd_614 hE) (wd_116 hE) (wd_611 hE) rfl rfl (by decide +kernel) ⟨Nat.le_of_ble_eq_true rfl, Nat.le_of_ble_eq_true rfl⟩, (wd_612 hE), (wd_613 hE)⟩ ⟨PQ.blind, q_recv 6 (by decide) rfl hK hP rfl, (q_pre (av := [.ref (b 6), .int (-1)]) hK hP hJ hE)⟩ rfl rfl hl.1 rfl (lv_room (Nat.le_of_ble_eq_true rfl)) dX5_readEdge_61 ⟨Nat.le_of_ble_eq_true rfl, Nat.le_of_ble_eq_true rfl⟩)) (fun r54 hr54 => ?_)
      subst hr54
      refine lv_iload_n hx hb dX5_readEdge_64 rfl (lv_at hl 1 rfl) ?_
      refine vp_callSi (va_Run.run (va_runSN (As := [.int 0, .int (-1)]) (rest := [.int (-1), .ref (b 0)]) ⟨hx, hb, hml, hown, noTs⟩ (q_X11_share_m l dC dI H.size cs b u36 0) ⟨cnE 2 (wd_620 hE) (wd_115 hE) (wd_618 hE) rfl rfl (by decide +kernel) ⟨Nat.le_of_ble_eq_true rfl, Nat.le_of_ble_eq_true rfl⟩, (wd_619 hE), trivial⟩ ⟨PQ.blind, (q_pre (av := [.int 0, .int (-1)]) hK hP hJ hE)⟩ rfl rfl hl.1 rfl (lv_room (Nat.le_of_ble_eq_true rfl)) dX5_readEdge_65 ⟨Nat.le_of_ble_eq_true rfl, Nat.le_of_ble_eq_true rfl⟩)) (fun r55 hr55 => ?_)
      subst hr55
      refine vp_callSi (va_Run.run (va_runV (As := [.int (-1), .int 0]) (rest := []) ⟨hx, hb, hml, hown, noTs⟩ (q_X5_readIndex_f l dC dI H.size cs b u36 tx hA37 k2 hA38 k3 hA39 k4 hA40 (-1) 0 sz1 c1 ((i0 + 1)) 3 hF42x hF43x hF44x hb36.2.2.2 hb36.2.2.1.1 (by first | assumption | omega | rfl | (congr 1; omega)) (by first | assumption | omega | rfl | (congr 1; omega)) (by first | assumption | omega | rfl | (congr 1; omega)) (by first | assumption | omega | rfl | (congr 1; omega)) (by first | assumption | omega | rfl | (congr 1; omega)) (by first | assumption | omega | rfl | (congr 1; omega))) ⟨cbE 2 (wd_610 hE) (wd_118 hE) (wd_607 hE) rfl rfl (by decide +kernel) ⟨Nat.le_of_ble_eq_true rfl, Nat.le_of_ble_eq_true rfl⟩, (wd_609 hE), (wd_17 hE)⟩ ⟨PQ.blind, q_recv 0 (by decide) rfl hK hP rfl, (q_pre (av := [.ref (b 0), .int (-1), .int 0]) hK hP hJ hE)⟩ rfl rfl hl.1 rfl (lv_room (Nat.le_of_ble_eq_true rfl)) dX5_readEdge_68 ⟨Nat.le_of_ble_eq_true rfl, Nat.le_of_ble_eq_true rfl⟩)) (fun r56 hr56 => ?_)
      subst hr56
      refine lv_istore (lv' := [(4, .int (-1)), (3, .int (-1)), (2, .int (-1)), (1, .int (-1)), (0, .ref (b 0))]) hx hb dX5_readEdge_71 hl (by decide) rfl (fun ls hl => ?_)
      refine lv_aload_n hx hb dX5_readEdge_73 rfl (lv_at hl 4 rfl) ?_
      refine q_get (v := .int (nI 3)) hx hb 0 (by decide) rfl (ly_X5 hE) hown hK hP rfl 7 (by decide) (wd_234 hE) (fun _ h9 => h9) (congrArg (fun z : Int32 => some (Value.int z)) hb36.2.2.1.1) dX5_readEdge_74 ?_
      refine lv_if_ne (tgt := 99) hx hb dX5_readEdge_77 (by decide) (fun c57 => ?_) (fun c57 => False.elim (by have c57 := (b_eq (nI_toInt (n := 3) (by omega)) (show Int32.toInt 0 = 0 from rfl)).mp c57; omega))
      have c57 := mt (b_eq (nI_toInt (n := 3) (by omega)) (show Int32.toInt 0 = 0 from rfl)).mpr c57
      exact W.vret hx hb hr (fun t ht hW => ⟨⟨u36, rfl, ⟨(by first | (rw [hA41]; done) | (rw [hA41]; first | (exact Or.inl ⟨by rw [E]; exact EN, by rw [E]; exact ⟨hb36.2.2.1.1, hb36.2.2.1.2.1, hb36.2.2.1.2.2⟩⟩) | (rw [E]; exact Or.inr ⟨rfl, hb36.2.2.1.1, hb36.2.2.1.2.1, hb36.2.2.1.2.2, hF45x, _, by omega, hb36.2.2.2, rfl, DV⟩))), hfr⟩, (show va_P (dC, dI) vwCl (qW cs b u36) t.heap by rw [ht]; exact hP)⟩, hS.F ht⟩) hS.2.2 dX5_readEdge_99
    · have A1 := hb36.1
      have A2 := hb36.2.1
      have A3 := vl_lt A1
      have OVu := hp4.2.2.2.2.2.2.1 _ A2
      have kdf2 := kd_f tx sz1 (bgi tx sz1 (i0 + 1 + 1))
      have bq2 : i0 + 1 + 1 = c1 → bgi tx sz1 (i0 + 1 + 1) = sz1 := fun h => by rw [h]; exact hp2.2.1
      have bz2 : i0 + 1 + 1 < c1 → bgi tx sz1 (i0 + 1 + 1) < sz1 := fun h => (hp2.2.2 _ h).1
      refine lv_istore_n (lv' := [(1, .int (nI (vl tx sz1 (bgi tx sz1 (i0 + 1))))), (0, .ref (b 0))]) hx hb dX5_readEdge_41 rfl hl (by decide) rfl (fun ls hl => ?_)
      refine lv_aload_n hx hb dX5_readEdge_42 rfl (lv_at hl 1 rfl) ?_
      refine lv_iload_n hx hb dX5_readEdge_43 rfl (lv_at hl 0 rfl) ?_
      refine lv_iconst (v := 0) hx hb dX5_readEdge_44 (by decide) ?_
      refine qc_i hAL hS hA (va_runV (As := [.int (nI (vl tx sz1 (bgi tx sz1 (i0 + 1)))), .int (nI 0)]) (rest := []) ⟨hx, hb, hml, hown, noTs⟩ (q_X5_readIndex l dC dI H.size cs b u36 tx hA37 k2 hA38 k3 hA39 k4 hA40 dg hA41 (vl tx sz1 (bgi tx sz1 (i0 + 1))) 0 sz1 c1 (((i0 + 1) + 1)) ln x8 x9 gg hF42x hF43x hF44x hb36.2.2.1 hF45x hb36.2.2.2.1 hb36.2.2.2.2.1 hb36.2.2.2.2.2 (by first | assumption | omega | rfl | (congr 1; omega)) (by first | assumption | omega | rfl | (congr 1; omega)) (by first | assumption | omega | rfl | (congr 1; omega)) (by first | assumption | omega | rfl | (congr 1; omega)) (by first | assumption | omega | rfl | (congr 1; omega)) (by first | assumption | omega | rfl | (congr 1; omega)) (by first | assumption | omega | rfl | (congr 1; omega))) ⟨cbE 2 (wd_610 hE) (wd_118 hE) (wd_607 hE) rfl rfl (by decide +kernel) ⟨Nat.le_of_ble_eq_true rfl, Nat.le_of_ble_eq_true rfl⟩, (wd_609 hE), (wd_17 hE)⟩ ⟨PQ.blind, q_recv 0 (by decide) rfl hK hP rfl, (q_pre (av := [.ref (b 0), .int (nI (vl tx sz1 (bgi tx sz1 (i0 + 1)))), .int (nI 0)]) hK hP hJ hE)⟩ rfl rfl hl.1 rfl (lv_room (Nat.le_of_ble_eq_true rfl)) dX5_readEdge_45 ⟨Nat.le_of_ble_eq_true rfl, Nat.le_of_ble_eq_true rfl⟩) (fun r58 u58 H locs hpo58 hP hS => ?_)
      obtain ⟨hr58, hq58⟩ := hpo58
      have hA59 := (hq58.1 5 List.not_mem_nil).trans hA37
      have hA60 := (hq58.1 2 List.not_mem_nil).trans hA38
      have hA61 := (hq58.1 3 List.not_mem_nil).trans hA39
      have hA62 := (hq58.1 4 List.not_mem_nil).trans hA40
      have hA63 := (hq58.1 7 List.not_mem_nil).trans hA41
      have hF64x := (hq58.2.1 13 (by decide)).trans hF42x
      have hF65x := (hq58.2.1 14 (by decide)).trans hF43x
      have hF66x := (hq58.2.1 15 (by decide)).trans hF44x
      have hF67x := (hq58.2.1 6 (by decide)).trans hF45x
      have hfr := FR.step hfr hq58 (fun _ h => absurd h List.not_mem_nil) (by decide) (fun h => rfl)
      rcases hr58 with ⟨rfl, hb58⟩ | ⟨rfl, hb58⟩ | ⟨rfl, hb58⟩
      · have EHd : pHead tx sz1 gg (bgi tx sz1 i0) = (bad (kd tx sz1 (bgi tx sz1 (i0 + 1 + 1))), bgi tx sz1 (i0 + 1 + 1), gg) := he_a hp5 (show pE gg ≠ 6 by omega) bad_ne (ps_n2 A1 A2 hb58.1)
        have E : pLine tx sz1 gg (bgi tx sz1 i0) = (bad (kd tx sz1 (bgi tx sz1 (i0 + 1 + 1))), bgi tx sz1 (i0 + 1 + 1), gg) := (pl_h (by rw [EHd]; exact bad_ne)).trans EHd
        have EN : bad (kd tx sz1 (bgi tx sz1 (i0 + 1 + 1))) ≠ 0 := bad_ne
        have bb := bad_b (kd tx sz1 (bgi tx sz1 (i0 + 1 + 1)))
        refine lv_istore_n (lv' := [(2, .int (-1)), (1, .int (nI (vl tx sz1 (bgi tx sz1 (i0 + 1))))), (0, .ref (b 0))]) hx hb dX5_readEdge_48 rfl hl (by decide) rfl (fun ls hl => ?_)
        refine lv_aload_n hx hb dX5_readEdge_49 rfl (lv_at hl 2 rfl) ?_
        refine vp_callSi (va_Run.run (va_runV (As := []) (rest := []) ⟨hx, hb, hml, hown, noTs⟩ (q_X5_readPlace_f l dC dI H.size cs b u58 tx hA59 k2 hA60 k3 hA61 k4 hA62 sz1 c1 ((((i0 + 1) + 1))) ((bad (kd tx sz1 (bgi tx sz1 (((i0 + 1) + 1)))))) hF64x hF65x hF66x hb58.2.2 hb58.2.1.1 (by first | assumption | omega | rfl | (congr 1; omega)) (by first | assumption | omega | rfl | (congr 1; omega)) (by first | assumption | omega | rfl | (congr 1; omega)) (by first | assumption | omega | rfl | (congr 1; omega)) (by first | assumption | omega | rfl | (congr 1; omega)) (by first | assumption | omega | rfl | (congr 1; omega))) ⟨cbE 0 (wd_602 hE) (wd_118 hE) (wd_599 hE) rfl rfl (by decide +kernel) ⟨Nat.le_of_ble_eq_true rfl, Nat.le_of_ble_eq_true rfl⟩, (wd_601 hE), (wd_16 hE)⟩ ⟨PQ.blind, q_recv 0 (by decide) rfl hK hP rfl, (q_pre (av := [.ref (b 0)]) hK hP hJ hE)⟩ rfl rfl hl.1 rfl (lv_room (Nat.le_of_ble_eq_true rfl)) dX5_readEdge_50 ⟨Nat.le_of_ble_eq_true rfl, Nat.le_of_ble_eq_true rfl⟩)) (fun r68 hr68 => ?_)
        subst hr68
        refine lv_istore_n (lv' := [(3, .int (-1)), (2, .int (-1)), (1, .int (nI (vl tx sz1 (bgi tx sz1 (i0 + 1))))), (0, .ref (b 0))]) hx hb dX5_readEdge_53 rfl hl (by decide) rfl (fun ls hl => ?_)
        refine lv_aload_n hx hb dX5_readEdge_54 rfl (lv_at hl 3 rfl) ?_
        refine lv_iload_n hx hb dX5_readEdge_55 rfl (lv_at hl 0 rfl) ?_
        refine lv_aload_n hx hb dX5_readEdge_56 rfl (lv_at hl 3 rfl) ?_
        refine q_get (v := .ref (b 6)) hx hb 0 (by decide) rfl (ly_X5 hE) hown hK hP rfl 1 (by decide) (wd_228 hE) (fun _ h9 => h9) rfl dX5_readEdge_57 ?_
        refine lv_iload_n hx hb dX5_readEdge_60 rfl (lv_at hl 2 rfl) ?_
        refine vp_callSi (va_Run.run (va_runV (As := [.int (nI (vl tx sz1 (bgi tx sz1 (i0 + 1))))]) (rest := [.int (-1), .ref (b 0)]) ⟨hx, hb, hml, hown, noTs⟩ (q_X7_orderAt l dC dI H.size cs b u58 dg hA63 (vl tx sz1 (bgi tx sz1 (i0 + 1))) (by first | assumption | omega | rfl | (congr 1; omega))) ⟨cbE 1 (wd_614 hE) (wd_116 hE) (wd_611 hE) rfl rfl (by decide +kernel) ⟨Nat.le_of_ble_eq_true rfl, Nat.le_of_ble_eq_true rfl⟩, (wd_612 hE), (wd_613 hE)⟩ ⟨PQ.blind, q_recv 6 (by decide) rfl hK hP rfl, (q_pre (av := [.ref (b 6), .int (nI (vl tx sz1 (bgi tx sz1 (i0 + 1))))]) hK hP hJ hE)⟩ rfl rfl hl.1 rfl (lv_room (Nat.le_of_ble_eq_true rfl)) dX5_readEdge_61 ⟨Nat.le_of_ble_eq_true rfl, Nat.le_of_ble_eq_true rfl⟩)) (fun r69 hr69 => ?_)
        have hr69 := hr69.trans (OVu.1)
        subst hr69
        refine lv_iload_n hx hb dX5_readEdge_64 rfl (lv_at hl 1 rfl) ?_
        refine vp_callSi (va_Run.run (va_runSN (As := [.int (nI (pO gg (vl tx sz1 (bgi tx sz1 (i0 + 1))))), .int (-1)]) (rest := [.int (-1), .ref (b 0)]) ⟨hx, hb, hml, hown, noTs⟩ (q_X11_share_m l dC dI H.size cs b u58 (nI (pO gg (vl tx sz1 (bgi tx sz1 (i0 + 1)))))) ⟨cnE 2 (wd_620 hE) (wd_115 hE) (wd_618 hE) rfl rfl (by decide +kernel) ⟨Nat.le_of_ble_eq_true rfl, Nat.le_of_ble_eq_true rfl⟩, (wd_619 hE), trivial⟩ ⟨PQ.blind, (q_pre (av := [.int (nI (pO gg (vl tx sz1 (bgi tx sz1 (i0 + 1))))), .int (-1)]) hK hP hJ hE)⟩ rfl rfl hl.1 rfl (lv_room (Nat.le_of_ble_eq_true rfl)) dX5_readEdge_65 ⟨Nat.le_of_ble_eq_true rfl, Nat.le_of_ble_eq_true rfl⟩)) (fun r70 hr70 => ?_)
        subst hr70
        refine vp_callSi (va_Run.run (va_runV (As := [.int (-1), .int 0]) (rest := []) ⟨hx, hb, hml, hown, noTs⟩ (q_X5_readIndex_f l dC dI H.size cs b u58 tx hA59 k2 hA60 k3 hA61 k4 hA62 (-1) 0 sz1 c1 ((((i0 + 1) + 1))) ((bad (kd tx sz1 (bgi tx sz1 (((i0 + 1) + 1)))))) hF64x hF65x hF66x hb58.2.2 hb58.2.1.1 (by first | assumption | omega | rfl | (congr 1; omega)) (by first | assumption | omega | rfl | (congr 1; omega)) (by first | assumption | omega | rfl | (congr 1; omega)) (by first | assumption | omega | rfl | (congr 1; omega)) (by first | assumption | omega | rfl | (congr 1; omega)) (by first | assumption | omega | rfl | (congr 1; omega))) ⟨cbE 2 (wd_610 hE) (wd_118 hE) (wd_607 hE) rfl rfl (by decide +kernel) ⟨Nat.le_of_ble_eq_true rfl, Nat.le_of_ble_eq_true rfl⟩, (wd_609 hE), (wd_17 hE)⟩ ⟨PQ.blind, q_recv 0 (by decide) rfl hK hP rfl, (q_pre (av := [.ref (b 0), .int (-1), .int 0]) hK hP hJ hE)⟩ rfl rfl hl.1 rfl (lv_room (Nat.le_of_ble_eq_true rfl)) dX5_readEdge_68 ⟨Nat.le_of_ble_eq_true rfl, Nat.le_of_ble_eq_true rfl⟩)) (fun r71 hr71 => ?_)
        subst hr71
        refine lv_istore (lv' := [(4, .int (-1)), (3, .int (-1)), (2, .int (-1)), (1, .int (nI (vl tx sz1 (bgi tx sz1 (i0 + 1))))), (0, .ref (b 0))]) hx hb dX5_readEdge_71 hl (by decide) rfl (fun ls hl => ?_)
        refine lv_aload_n hx hb dX5_readEdge_73 rfl (lv_at hl 4 rfl) ?_
        refine q_get (v := .int (nI ((bad (kd tx sz1 (bgi tx sz1 (((i0 + 1) + 1)))))))) hx hb 0 (by decide) rfl (ly_X5 hE) hown hK hP rfl 7 (by decide) (wd_234 hE) (fun _ h9 => h9) (congrArg (fun z : Int32 => some (Value.int z)) hb58.2.1.1) dX5_readEdge_74 ?_
        refine lv_if_ne (tgt := 99) hx hb dX5_readEdge_77 (by decide) (fun c72 => ?_) (fun c72 => False.elim (by have c72 := (b_eq (nI_toInt (n := (bad (kd tx sz1 (bgi tx sz1 (((i0 + 1) + 1)))))) (by omega)) (show Int32.toInt 0 = 0 from rfl)).mp c72; omega))
        have c72 := mt (b_eq (nI_toInt (n := (bad (kd tx sz1 (bgi tx sz1 (((i0 + 1) + 1)))))) (by omega)) (show Int32.toInt 0 = 0 from rfl)).mpr c72
        exact W.vret hx hb hr (fun t ht hW => ⟨⟨u58, rfl, ⟨(by first | (rw [hA63]; done) | (rw [hA63]; first | (exact Or.inl ⟨by rw [E]; exact EN, by rw [E]; exact ⟨hb58.2.1.1, hb58.2.1.2.1, hb58.2.1.2.2⟩⟩) | (rw [E]; exact Or.inr ⟨rfl, hb58.2.1.1, hb58.2.1.2.1, hb58.2.1.2.2, hF67x, _, by omega, hb58.2.2, rfl, DV⟩))), hfr⟩, (show va_P (dC, dI) vwCl (qW cs b u58) t.heap by rw [ht]; exact hP)⟩, hS.F ht⟩) hS.2.2 dX5_readEdge_99
      · have EHd : pHead tx sz1 gg (bgi tx sz1 i0) = (4, bgi tx sz1 (i0 + 1 + 1), gg) := he_a hp5 (show pE gg ≠ 6 by omega) (by decide) (ps_4 A1 A2 hb58.1 (by rcases hb58.2.1 with h | h | h; (exact Or.inl h); (exact Or.inr h); (exact absurd rfl h.1)))
        have E : pLine tx sz1 gg (bgi tx sz1 i0) = (4, bgi tx sz1 (i0 + 1 + 1), gg) := (pl_h (by rw [EHd]; exact (show (4 : Nat) ≠ 0 by decide))).trans EHd
        have EN : 4 ≠ 0 := (show (4 : Nat) ≠ 0 by decide)
        refine lv_istore_n (lv' := [(2, .int (-1)), (1, .int (nI (vl tx sz1 (bgi tx sz1 (i0 + 1))))), (0, .ref (b 0))]) hx hb dX5_readEdge_48 rfl hl (by decide) rfl (fun ls hl => ?_)
        refine lv_aload_n hx hb dX5_readEdge_49 rfl (lv_at hl 2 rfl) ?_
        refine vp_callSi (va_Run.run (va_runV (As := []) (rest := []) ⟨hx, hb, hml, hown, noTs⟩ (q_X5_readPlace_f l dC dI H.size cs b u58 tx hA59 k2 hA60 k3 hA61 k4 hA62 sz1 c1 ((((i0 + 1) + 1))) 4 hF64x hF65x hF66x hb58.2.2.2 hb58.2.2.1.1 (by first | assumption | omega | rfl | (congr 1; omega)) (by first | assumption | omega | rfl | (congr 1; omega)) (by first | assumption | omega | rfl | (congr 1; omega)) (by first | assumption | omega | rfl | (congr 1; omega)) (by first | assumption | omega | rfl | (congr 1; omega)) (by first | assumption | omega | rfl | (congr 1; omega))) ⟨cbE 0 (wd_602 hE) (wd_118 hE) (wd_599 hE) rfl rfl (by decide +kernel) ⟨Nat.le_of_ble_eq_true rfl, Nat.le_of_ble_eq_true rfl⟩, (wd_601 hE), (wd_16 hE)⟩ ⟨PQ.blind, q_recv 0 (by decide) rfl hK hP rfl, (q_pre (av := [.ref (b 0)]) hK hP hJ hE)⟩ rfl rfl hl.1 rfl (lv_room (Nat.le_of_ble_eq_true rfl)) dX5_readEdge_50 ⟨Nat.le_of_ble_eq_true rfl, Nat.le_of_ble_eq_true rfl⟩)) (fun r73 hr73 => ?_)
        subst hr73
        refine lv_istore_n (lv' := [(3, .int (-1)), (2, .int (-1)), (1, .int (nI (vl tx sz1 (bgi tx sz1 (i0 + 1))))), (0, .ref (b 0))]) hx hb dX5_readEdge_53 rfl hl (by decide) rfl (fun ls hl => ?_)
        refine lv_aload_n hx hb dX5_readEdge_54 rfl (lv_at hl 3 rfl) ?_
        refine lv_iload_n hx hb dX5_readEdge_55 rfl (lv_at hl 0 rfl) ?_
        refine lv_aload_n hx hb dX5_readEdge_56 rfl (lv_at hl 3 rfl) ?_
        refine q_get (v := .ref (b 6)) hx hb 0 (by decide) rfl (ly_X5 hE) hown hK hP rfl 1 (by decide) (wd_228 hE) (fun _ h9 => h9) rfl dX5_readEdge_57 ?_
        refine lv_iload_n hx hb dX5_readEdge_60 rfl (lv_at hl 2 rfl) ?_
        refine vp_callSi (va_Run.run (va_runV (As := [.int (nI (vl tx sz1 (bgi tx sz1 (i0 + 1))))]) (rest := [.int (-1), .ref (b 0)]) ⟨hx, hb, hml, hown, noTs⟩ (q_X7_orderAt l dC dI H.size cs b u58 dg hA63 (vl tx sz1 (bgi tx sz1 (i0 + 1))) (by first | assumption | omega | rfl | (congr 1; omega))) ⟨cbE 1 (wd_614 hE) (wd_116 hE) (wd_611 hE) rfl rfl (by decide +kernel) ⟨Nat.le_of_ble_eq_true rfl, Nat.le_of_ble_eq_true rfl⟩, (wd_612 hE), (wd_613 hE)⟩ ⟨PQ.blind, q_recv 6 (by decide) rfl hK hP rfl, (q_pre (av := [.ref (b 6), .int (nI (vl tx sz1 (bgi tx sz1 (i0 + 1))))]) hK hP hJ hE)⟩ rfl rfl hl.1 rfl (lv_room (Nat.le_of_ble_eq_true rfl)) dX5_readEdge_61 ⟨Nat.le_of_ble_eq_true rfl, Nat.le_of_ble_eq_true rfl⟩)) (fun r74 hr74 => ?_)
        have hr74 := hr74.trans (OVu.1)
        subst hr74
        refine lv_iload_n hx hb dX5_readEdge_64 rfl (lv_at hl 1 rfl) ?_
        refine vp_callSi (va_Run.run (va_runSN (As := [.int (nI (pO gg (vl tx sz1 (bgi tx sz1 (i0 + 1))))), .int (-1)]) (rest := [.int (-1), .ref (b 0)]) ⟨hx, hb, hml, hown, noTs⟩ (q_X11_share_m l dC dI H.size cs b u58 (nI (pO gg (vl tx sz1 (bgi tx sz1 (i0 + 1)))))) ⟨cnE 2 (wd_620 hE) (wd_115 hE) (wd_618 hE) rfl rfl (by decide +kernel) ⟨Nat.le_of_ble_eq_true rfl, Nat.le_of_ble_eq_true rfl⟩, (wd_619 hE), trivial⟩ ⟨PQ.blind, (q_pre (av := [.int (nI (pO gg (vl tx sz1 (bgi tx sz1 (i0 + 1))))), .int (-1)]) hK hP hJ hE)⟩ rfl rfl hl.1 rfl (lv_room (Nat.le_of_ble_eq_true rfl)) dX5_readEdge_65 ⟨Nat.le_of_ble_eq_true rfl, Nat.le_of_ble_eq_true rfl⟩)) (fun r75 hr75 => ?_)
        subst hr75
        refine vp_callSi (va_Run.run (va_runV (As := [.int (-1), .int 0]) (rest := []) ⟨hx, hb, hml, hown, noTs⟩ (q_X5_readIndex_f l dC dI H.size cs b u58 tx hA59 k2 hA60 k3 hA61 k4 hA62 (-1) 0 sz1 c1 ((((i0 + 1) + 1))) 4 hF64x hF65x hF66x hb58.2.2.2 hb58.2.2.1.1 (by first | assumption | omega | rfl | (congr 1; omega)) (by first | assumption | omega | rfl | (congr 1; omega)) (by first | assumption | omega | rfl | (congr 1; omega)) (by first | assumption | omega | rfl | (congr 1; omega)) (by first | assumption | omega | rfl | (congr 1; omega)) (by first | assumption | omega | rfl | (congr 1; omega))) ⟨cbE 2 (wd_610 hE) (wd_118 hE) (wd_607 hE) rfl rfl (by decide +kernel) ⟨Nat.le_of_ble_eq_true rfl, Nat.le_of_ble_eq_true rfl⟩, (wd_609 hE), (wd_17 hE)⟩ ⟨PQ.blind, q_recv 0 (by decide) rfl hK hP rfl, (q_pre (av := [.ref (b 0), .int (-1), .int 0]) hK hP hJ hE)⟩ rfl rfl hl.1 rfl (lv_room (Nat.le_of_ble_eq_true rfl)) dX5_readEdge_68 ⟨Nat.le_of_ble_eq_true rfl, Nat.le_of_ble_eq_true rfl⟩)) (fun r76 hr76 => ?_)
        subst hr76
        refine lv_istore (lv' := [(4, .int (-1)), (3, .int (-1)), (2, .int (-1)), (1, .int (nI (vl tx sz1 (bgi tx sz1 (i0 + 1))))), (0, .ref (b 0))]) hx hb dX5_readEdge_71 hl (by decide) rfl (fun ls hl => ?_)
        refine lv_aload_n hx hb dX5_readEdge_73 rfl (lv_at hl 4 rfl) ?_
        refine q_get (v := .int (nI 4)) hx hb 0 (by decide) rfl (ly_X5 hE) hown hK hP rfl 7 (by decide) (wd_234 hE) (fun _ h9 => h9) (congrArg (fun z : Int32 => some (Value.int z)) hb58.2.2.1.1) dX5_readEdge_74 ?_
        refine lv_if_ne (tgt := 99) hx hb dX5_readEdge_77 (by decide) (fun c77 => ?_) (fun c77 => False.elim (by have c77 := (b_eq (nI_toInt (n := 4) (by omega)) (show Int32.toInt 0 = 0 from rfl)).mp c77; omega))
        have c77 := mt (b_eq (nI_toInt (n := 4) (by omega)) (show Int32.toInt 0 = 0 from rfl)).mpr c77
        exact W.vret hx hb hr (fun t ht hW => ⟨⟨u58, rfl, ⟨(by first | (rw [hA63]; done) | (rw [hA63]; first | (exact Or.inl ⟨by rw [E]; exact EN, by rw [E]; exact ⟨hb58.2.2.1.1, hb58.2.2.1.2.1, hb58.2.2.1.2.2⟩⟩) | (rw [E]; exact Or.inr ⟨rfl, hb58.2.2.1.1, hb58.2.2.1.2.1, hb58.2.2.1.2.2, hF67x, _, by omega, hb58.2.2.2, rfl, DV⟩))), hfr⟩, (show va_P (dC, dI) vwCl (qW cs b u58) t.heap by rw [ht]; exact hP)⟩, hS.F ht⟩) hS.2.2 dX5_readEdge_99
      · have A4 := hb58.1
        have A5 := hb58.2.1
        have A6 := hb58.2.2.1
        have A7 := vl_lt A4
        have S1 := ps_ok A1 A2 A4 A5 A6
        have dl3 := Nat.div_le_self (pO gg (vl tx sz1 (bgi tx sz1 (i0 + 1)))) (vl tx sz1 (bgi tx sz1 (i0 + 1 + 1)))
        have kdf3 := kd_f tx sz1 (bgi tx sz1 (i0 + 1 + 1 + 1))
        have bq3 : i0 + 1 + 1 + 1 = c1 → bgi tx sz1 (i0 + 1 + 1 + 1) = sz1 := fun h => by rw [h]; exact hp2.2.1
        have bz3 : i0 + 1 + 1 + 1 < c1 → bgi tx sz1 (i0 + 1 + 1 + 1) < sz1 := fun h => (hp2.2.2 _ h).1
        refine lv_istore_n (lv' := [(2, .int (nI (vl tx sz1 (bgi tx sz1 (((i0 + 1) + 1)))))), (1, .int (nI (vl tx sz1 (bgi tx sz1 (i0 + 1))))), (0, .ref (b 0))]) hx hb dX5_readEdge_48 rfl hl (by decide) rfl (fun ls hl => ?_)
        refine lv_aload_n hx hb dX5_readEdge_49 rfl (lv_at hl 2 rfl) ?_
        refine qc_i hAL hS hA (va_runV (As := []) (rest := []) ⟨hx, hb, hml, hown, noTs⟩ (q_X5_readPlace l dC dI H.size cs b u58 tx hA59 k2 hA60 k3 hA61 k4 hA62 dg hA63 sz1 c1 (((((i0 + 1) + 1)) + 1)) ln x8 x9 gg hF64x hF65x hF66x hb58.2.2.2.2.1 hF67x hb58.2.2.2.2.2.1 hb58.2.2.2.2.2.2.1 hb58.2.2.2.2.2.2.2 (by first | assumption | omega | rfl | (congr 1; omega)) (by first | assumption | omega | rfl | (congr 1; omega)) (by first | assumption | omega | rfl | (congr 1; omega)) (by first | assumption | omega | rfl | (congr 1; omega)) (by first | assumption | omega | rfl | (congr 1; omega))) ⟨cbE 0 (wd_602 hE) (wd_118 hE) (wd_599 hE) rfl rfl (by decide +kernel) ⟨Nat.le_of_ble_eq_true rfl, Nat.le_of_ble_eq_true rfl⟩, (wd_601 hE), (wd_16 hE)⟩ ⟨PQ.blind, q_recv 0 (by decide) rfl hK hP rfl, (q_pre (av := [.ref (b 0)]) hK hP hJ hE)⟩ rfl rfl hl.1 rfl (lv_room (Nat.le_of_ble_eq_true rfl)) dX5_readEdge_50 ⟨Nat.le_of_ble_eq_true rfl, Nat.le_of_ble_eq_true rfl⟩) (fun r78 u78 H locs hpo78 hP hS => ?_)
        obtain ⟨hr78, hq78⟩ := hpo78
        have hA79 := (hq78.1 5 List.not_mem_nil).trans hA59
        have hA80 := (hq78.1 2 List.not_mem_nil).trans hA60
        have hA81 := (hq78.1 3 List.not_mem_nil).trans hA61
        have hA82 := (hq78.1 4 List.not_mem_nil).trans hA62
        have hA83 := (hq78.1 7 List.not_mem_nil).trans hA63
        have hF84x := (hq78.2.1 13 (by decide)).trans hF64x
        have hF85x := (hq78.2.1 14 (by decide)).trans hF65x
        have hF86x := (hq78.2.1 15 (by decide)).trans hF66x
        have hF87x := (hq78.2.1 6 (by decide)).trans hF67x
        have hfr := FR.step hfr hq78 (fun _ h => absurd h List.not_mem_nil) (by decide) (fun h => rfl)
        rcases hr78 with ⟨rfl, hb78⟩ | ⟨rfl, hb78⟩ | ⟨rfl, hb78⟩
        · have EHd : pHead tx sz1 gg (bgi tx sz1 i0) = (bad (kd tx sz1 (bgi tx sz1 (i0 + 1 + 1 + 1))), bgi tx sz1 (i0 + 1 + 1 + 1), gg) := he_b hp5 (show pE gg ≠ 6 by omega) bad_ne S1 (ps_n hb78.1)
          have E : pLine tx sz1 gg (bgi tx sz1 i0) = (bad (kd tx sz1 (bgi tx sz1 (i0 + 1 + 1 + 1))), bgi tx sz1 (i0 + 1 + 1 + 1), gg) := (pl_h (by rw [EHd]; exact bad_ne)).trans EHd
          have EN : bad (kd tx sz1 (bgi tx sz1 (i0 + 1 + 1 + 1))) ≠ 0 := bad_ne
          have bb := bad_b (kd tx sz1 (bgi tx sz1 (i0 + 1 + 1 + 1)))
          refine lv_istore_n (lv' := [(3, .int (-1)), (2, .int (nI (vl tx sz1 (bgi tx sz1 (((i0 + 1) + 1)))))), (1, .int (nI (vl tx sz1 (bgi tx sz1 (i0 + 1))))), (0, .ref (b 0))]) hx hb dX5_readEdge_53 rfl hl (by decide) rfl (fun ls hl => ?_)
          refine lv_aload_n hx hb dX5_readEdge_54 rfl (lv_at hl 3 rfl) ?_
          refine lv_iload_n hx hb dX5_readEdge_55 rfl (lv_at hl 0 rfl) ?_
          refine lv_aload_n hx hb dX5_readEdge_56 rfl (lv_at hl 3 rfl) ?_
          refine q_get (v := .ref (b 6)) hx hb 0 (by decide) rfl (ly_X5 hE) hown hK hP rfl 1 (by decide) (wd_228 hE) (fun _ h9 => h9) rfl dX5_readEdge_57 ?_
          refine lv_iload_n hx hb dX5_readEdge_60 rfl (lv_at hl 2 rfl) ?_
          refine vp_callSi (va_Run.run (va_runV (As := [.int (nI (vl tx sz1 (bgi tx sz1 (i0 + 1))))]) (rest := [.int (-1), .ref (b 0)]) ⟨hx, hb, hml, hown, noTs⟩ (q_X7_orderAt l dC dI H.size cs b u78 dg hA83 (vl tx sz1 (bgi tx sz1 (i0 + 1))) (by first | assumption | omega | rfl | (congr 1; omega))) ⟨cbE 1 (wd_614 hE) (wd_116 hE) (wd_611 hE) rfl rfl (by decide +kernel) ⟨Nat.le_of_ble_eq_true rfl, Nat.le_of_ble_eq_true rfl⟩, (wd_612 hE), (wd_613 hE)⟩ ⟨PQ.blind, q_recv 6 (by decide) rfl hK hP rfl, (q_pre (av := [.ref (b 6), .int (nI (vl tx sz1 (bgi tx sz1 (i0 + 1))))]) hK hP hJ hE)⟩ rfl rfl hl.1 rfl (lv_room (Nat.le_of_ble_eq_true rfl)) dX5_readEdge_61 ⟨Nat.le_of_ble_eq_true rfl, Nat.le_of_ble_eq_true rfl⟩)) (fun r88 hr88 => ?_)
          have hr88 := hr88.trans (OVu.1)
          subst hr88
          refine lv_iload_n hx hb dX5_readEdge_64 rfl (lv_at hl 1 rfl) ?_
          refine vp_callSi (va_Run.run (va_runSN (As := [.int (nI (pO gg (vl tx sz1 (bgi tx sz1 (i0 + 1))))), .int (nI (vl tx sz1 (bgi tx sz1 (((i0 + 1) + 1)))))]) (rest := [.int (-1), .ref (b 0)]) ⟨hx, hb, hml, hown, noTs⟩ (q_X11_share l dC dI H.size cs b u78 (pO gg (vl tx sz1 (bgi tx sz1 (i0 + 1)))) (vl tx sz1 (bgi tx sz1 (((i0 + 1) + 1)))) (by first | assumption | omega | rfl | (congr 1; omega)) (by first | assumption | omega | rfl | (congr 1; omega)) (by first | assumption | omega | rfl | (congr 1; omega))) ⟨cnE 2 (wd_620 hE) (wd_115 hE) (wd_618 hE) rfl rfl (by decide +kernel) ⟨Nat.le_of_ble_eq_true rfl, Nat.le_of_ble_eq_true rfl⟩, (wd_619 hE), trivial⟩ ⟨PQ.blind, (q_pre (av := [.int (nI (pO gg (vl tx sz1 (bgi tx sz1 (i0 + 1))))), .int (nI (vl tx sz1 (bgi tx sz1 (((i0 + 1) + 1)))))]) hK hP hJ hE)⟩ rfl rfl hl.1 rfl (lv_room (Nat.le_of_ble_eq_true rfl)) dX5_readEdge_65 ⟨Nat.le_of_ble_eq_true rfl, Nat.le_of_ble_eq_true rfl⟩)) (fun r89 hr89 => ?_)
          subst hr89
          refine vp_callSi (va_Run.run (va_runV (As := [.int (-1), .int (nI ((pO gg (vl tx sz1 (bgi tx sz1 (i0 + 1)))) / (vl tx sz1 (bgi tx sz1 (((i0 + 1) + 1))))))]) (rest := []) ⟨hx, hb, hml, hown, noTs⟩ (q_X5_readIndex_f l dC dI H.size cs b u78 tx hA79 k2 hA80 k3 hA81 k4 hA82 (-1) (nI ((pO gg (vl tx sz1 (bgi tx sz1 (i0 + 1)))) / (vl tx sz1 (bgi tx sz1 (((i0 + 1) + 1)))))) sz1 c1 ((((((i0 + 1) + 1)) + 1))) ((bad (kd tx sz1 (bgi tx sz1 (((((i0 + 1) + 1)) + 1)))))) hF84x hF85x hF86x hb78.2.2 hb78.2.1.1 (by first | assumption | omega | rfl | (congr 1; omega)) (by first | assumption | omega | rfl | (congr 1; omega)) (by first | assumption | omega | rfl | (congr 1; omega)) (by first | assumption | omega | rfl | (congr 1; omega)) (by first | assumption | omega | rfl | (congr 1; omega)) (by first | assumption | omega | rfl | (congr 1; omega))) ⟨cbE 2 (wd_610 hE) (wd_118 hE) (wd_607 hE) rfl rfl (by decide +kernel) ⟨Nat.le_of_ble_eq_true rfl, Nat.le_of_ble_eq_true rfl⟩, (wd_609 hE), (wd_17 hE)⟩ ⟨PQ.blind, q_recv 0 (by decide) rfl hK hP rfl, (q_pre (av := [.ref (b 0), .int (-1), .int (nI ((pO gg (vl tx sz1 (bgi tx sz1 (i0 + 1)))) / (vl tx sz1 (bgi tx sz1 (((i0 + 1) + 1))))))]) hK hP hJ hE)⟩ rfl rfl hl.1 rfl (lv_room (Nat.le_of_ble_eq_true rfl)) dX5_readEdge_68 ⟨Nat.le_of_ble_eq_true rfl, Nat.le_of_ble_eq_true rfl⟩)) (fun r90 hr90 => ?_)
          subst hr90
          refine lv_istore (lv' := [(4, .int (-1)), (3, .int (-1)), (2, .int (nI (vl tx sz1 (bgi tx sz1 (((i0 + 1) + 1)))))), (1, .int (nI (vl tx sz1 (bgi tx sz1 (i0 + 1))))), (0, .ref (b 0))]) hx hb dX5_readEdge_71 hl (by decide) rfl (fun ls hl => ?_)
          refine lv_aload_n hx hb dX5_readEdge_73 rfl (lv_at hl 4 rfl) ?_
          refine q_get (v := .int (nI ((bad (kd tx sz1 (bgi tx sz1 (((((i0 + 1) + 1)) + 1)))))))) hx hb 0 (by decide) rfl (ly_X5 hE) hown hK hP rfl 7 (by decide) (wd_234 hE) (fun _ h9 => h9) (congrArg (fun z : Int32 => some (Value.int z)) hb78.2.1.1) dX5_readEdge_74 ?_
          refine lv_if_ne (tgt := 99) hx hb dX5_readEdge_77 (by decide) (fun c91 => ?_) (fun c91 => False.elim (by have c91 := (b_eq (nI_toInt (n := (bad (kd tx sz1 (bgi tx sz1 (((((i0 + 1) + 1)) + 1)))))) (by omega)) (show Int32.toInt 0 = 0 from rfl)).mp c91; omega))
          have c91 := mt (b_eq (nI_toInt (n := (bad (kd tx sz1 (bgi tx sz1 (((((i0 + 1) + 1)) + 1)))))) (by omega)) (show Int32.toInt 0 = 0 from rfl)).mpr c91
          exact W.vret hx hb hr (fun t ht hW => ⟨⟨u78, rfl, ⟨(by first | (rw [hA83]; done) | (rw [hA83]; first | (exact Or.inl ⟨by rw [E]; exact EN, by rw [E]; exact ⟨hb78.2.1.1, hb78.2.1.2.1, hb78.2.1.2.2⟩⟩) | (rw [E]; exact Or.inr ⟨rfl, hb78.2.1.1, hb78.2.1.2.1, hb78.2.1.2.2, hF87x, _, by omega, hb78.2.2, rfl, DV⟩))), hfr⟩, (show va_P (dC, dI) vwCl (qW cs b u78) t.heap by rw [ht]; exact hP)⟩, hS.F ht⟩) hS.2.2 dX5_readEdge_99
        · have EHd : pHead tx sz1 gg (bgi tx sz1 i0) = (3, bgi tx sz1 (i0 + 1 + 1 + 1), gg) := he_b hp5 (show pE gg ≠ 6 by omega) (by decide) S1 (ps_3 hb78.1 hb78.2.1)
          have E : pLine tx sz1 gg (bgi tx sz1 i0) = (3, bgi tx sz1 (i0 + 1 + 1 + 1), gg) := (pl_h (by rw [EHd]; exact (show (3 : Nat) ≠ 0 by decide))).trans EHd
          have EN : 3 ≠ 0 := (show (3 : Nat) ≠ 0 by decide)
          refine lv_istore_n (lv' := [(3, .int (-1)), (2, .int (nI (vl tx sz1 (bgi tx sz1 (((i0 + 1) + 1)))))), (1, .int (nI (vl tx sz1 (bgi tx sz1 (i0 + 1))))), (0, .ref (b 0))]) hx hb dX5_readEdge_53 rfl hl (by decide) rfl (fun ls hl => ?_)
          refine lv_aload_n hx hb dX5_readEdge_54 rfl (lv_at hl 3 rfl) ?_
          refine lv_iload_n hx hb dX5_readEdge_55 rfl (lv_at hl 0 rfl) ?_
          refine lv_aload_n hx hb dX5_readEdge_56 rfl (lv_at hl 3 rfl) ?_
          refine q_get (v := .ref (b 6)) hx hb 0 (by decide) rfl (ly_X5 hE) hown hK hP rfl 1 (by decide) (wd_228 hE) (fun _ h9 => h9) rfl dX5_readEdge_57 ?_
          refine lv_iload_n hx hb dX5_readEdge_60 rfl (lv_at hl 2 rfl) ?_
          refine vp_callSi (va_Run.run (va_runV (As := [.int (nI (vl tx sz1 (bgi tx sz1 (i0 + 1))))]) (rest := [.int (-1), .ref (b 0)]) ⟨hx, hb, hml, hown, noTs⟩ (q_X7_orderAt l dC dI H.size cs b u78 dg hA83 (vl tx sz1 (bgi tx sz1 (i0 + 1))) (by first | assumption | omega | rfl | (congr 1; omega))) ⟨cbE 1 (wd_614 hE) (wd_116 hE) (wd_611 hE) rfl rfl (by decide +kernel) ⟨Nat.le_of_ble_eq_true rfl, Nat.le_of_ble_eq_true rfl⟩, (wd_612 hE), (wd_613 hE)⟩ ⟨PQ.blind, q_recv 6 (by decide) rfl hK hP rfl, (q_pre (av := [.ref (b 6), .int (nI (vl tx sz1 (bgi tx sz1 (i0 + 1))))]) hK hP hJ hE)⟩ rfl rfl hl.1 rfl (lv_room (Nat.le_of_ble_eq_true rfl)) dX5_readEdge_61 ⟨Nat.le_of_ble_eq_true rfl, Nat.le_of_ble_eq_true rfl⟩)) (fun r92 hr92 => ?_)
          have hr92 := hr92.trans (OVu.1)
          subst hr92
          refine lv_iload_n hx hb dX5_readEdge_64 rfl (lv_at hl 1 rfl) ?_
          refine vp_callSi (va_Run.run (va_runSN (As := [.int (nI (pO gg (vl tx sz1 (bgi tx sz1 (i0 + 1))))), .int (nI (vl tx sz1 (bgi tx sz1 (((i0 + 1) + 1)))))]) (rest := [.int (-1), .ref (b 0)]) ⟨hx, hb, hml, hown, noTs⟩ (q_X11_share l dC dI H.size cs b u78 (pO gg (vl tx sz1 (bgi tx sz1 (i0 + 1)))) (vl tx sz1 (bgi tx sz1 (((i0 + 1) + 1)))) (by first | assumption | omega | rfl | (congr 1; omega)) (by first | assumption | omega | rfl | (congr 1; omega)) (by first | assumption | omega | rfl | (congr 1; omega))) ⟨cnE 2 (wd_620 hE) (wd_115 hE) (wd_618 hE) rfl rfl (by decide +kernel) ⟨Nat.le_of_ble_eq_true rfl, Nat.le_of_ble_eq_true rfl⟩, (wd_619 hE), trivial⟩ ⟨PQ.blind, (q_pre (av := [.int (nI (pO gg (vl tx sz1 (bgi tx sz1 (i0 + 1))))), .int (nI (vl tx sz1 (bgi tx sz1 (((i0 + 1) + 1)))))]) hK hP hJ hE)⟩ rfl rfl hl.1 rfl (lv_room (Nat.le_of_ble_eq_true rfl)) dX5_readEdge_65 ⟨Nat.le_of_ble_eq_true rfl, Nat.le_of_ble_eq_true rfl⟩)) (fun r93 hr93 => ?_)
          subst hr93
          refine vp_callSi (va_Run.run (va_runV (As := [.int (-1), .int (nI ((pO gg (vl tx sz1 (bgi tx sz1 (i0 + 1)))) / (vl tx sz1 (bgi tx sz1 (((i0 + 1) + 1))))))]) (rest := []) ⟨hx, hb, hml, hown, noTs⟩ (q_X5_readIndex_f l dC dI H.size cs b u78 tx hA79 k2 hA80 k3 hA81 k4 hA82 (-1) (nI ((pO gg (vl tx sz1 (bgi tx sz1 (i0 + 1)))) / (vl tx sz1 (bgi tx sz1 (((i0 + 1) + 1)))))) sz1 c1 ((((((i0 + 1) + 1)) + 1))) 3 hF84x hF85x hF86x hb78.2.2.2 hb78.2.2.1.1 (by first | assumption | omega | rfl | (congr 1; omega)) (by first | assumption | omega | rfl | (congr 1; omega)) (by first | assumption | omega | rfl | (congr 1; omega)) (by first | assumption | omega | rfl | (congr 1; omega)) (by first | assumption | omega | rfl | (congr 1; omega)) (by first | assumption | omega | rfl | (congr 1; omega))) ⟨cbE 2 (wd_610 hE) (wd_118 hE) (wd_607 hE) rfl rfl (by decide +kernel) ⟨Nat.le_of_ble_eq_true rfl, Nat.le_of_ble_eq_true rfl⟩, (wd_609 hE), (wd_17 hE)⟩ ⟨PQ.blind, q_recv 0 (by decide) rfl hK hP rfl, (q_pre (av := [.ref (b 0), .int (-1), .int (nI ((pO gg (vl tx sz1 (bgi tx sz1 (i0 + 1)))) / (vl tx sz1 (bgi tx sz1 (((i0 + 1) + 1))))))]) hK hP hJ hE)⟩ rfl rfl hl.1 rfl (lv_room (Nat.le_of_ble_eq_true rfl)) dX5_readEdge_68 ⟨Nat.le_of_ble_eq_true rfl, Nat.le_of_ble_eq_true rfl⟩)) (fun r94 hr94 => ?_)
          subst hr94
          refine lv_istore (lv' := [(4, .int (-1)), (3, .int (-1)), (2, .int (nI (vl tx sz1 (bgi tx sz1 (((i0 + 1) + 1)))))), (1, .int (nI (vl tx sz1 (bgi tx sz1 (i0 + 1))))), (0, .ref (b 0))]) hx hb dX5_readEdge_71 hl (by decide) rfl (fun ls hl => ?_)
          refine lv_aload_n hx hb dX5_readEdge_73 rfl (lv_at hl 4 rfl) ?_
          refine q_get (v := .int (nI 3)) hx hb 0 (by decide) rfl (ly_X5 hE) hown hK hP rfl 7 (by decide) (wd_234 hE) (fun _ h9 => h9) (congrArg (fun z : Int32 => some (Value.int z)) hb78.2.2.1.1) dX5_readEdge_74 ?_
          refine lv_if_ne (tgt := 99) hx hb dX5_readEdge_77 (by decide) (fun c95 => ?_) (fun c95 => False.elim (by have c95 := (b_eq (nI_toInt (n := 3) (by omega)) (show Int32.toInt 0 = 0 from rfl)).mp c95; omega))
          have c95 := mt (b_eq (nI_toInt (n := 3) (by omega)) (show Int32.toInt 0 = 0 from rfl)).mpr c95
          exact W.vret hx hb hr (fun t ht hW => ⟨⟨u78, rfl, ⟨(by first | (rw [hA83]; done) | (rw [hA83]; first | (exact Or.inl ⟨by rw [E]; exact EN, by rw [E]; exact ⟨hb78.2.2.1.1, hb78.2.2.1.2.1, hb78.2.2.1.2.2⟩⟩) | (rw [E]; exact Or.inr ⟨rfl, hb78.2.2.1.1, hb78.2.2.1.2.1, hb78.2.2.1.2.2, hF87x, _, by omega, hb78.2.2.2, rfl, DV⟩))), hfr⟩, (show va_P (dC, dI) vwCl (qW cs b u78) t.heap by rw [ht]; exact hP)⟩, hS.F ht⟩) hS.2.2 dX5_readEdge_99
        · have C1 := hb78.1
          have C2 := hb78.2.1
          have C3 := vl_lt C1
          have kdf4 := kd_f tx sz1 (bgi tx sz1 (i0 + 1 + 1 + 1 + 1))
          have bq4 : i0 + 1 + 1 + 1 + 1 = c1 → bgi tx sz1 (i0 + 1 + 1 + 1 + 1) = sz1 := fun h => by rw [h]; exact hp2.2.1
          have bz4 : i0 + 1 + 1 + 1 + 1 < c1 → bgi tx sz1 (i0 + 1 + 1 + 1 + 1) < sz1 := fun h => (hp2.2.2 _ h).1
          refine lv_istore_n (lv' := [(3, .int (nI (vl tx sz1 (bgi tx sz1 (((((i0 + 1) + 1)) + 1)))))), (2, .int (nI (vl tx sz1 (bgi tx sz1 (((i0 + 1) + 1)))))), (1, .int (nI (vl tx sz1 (bgi tx sz1 (i0 + 1))))), (0, .ref (b 0))]) hx hb dX5_readEdge_53 rfl hl (by decide) rfl (fun ls hl => ?_)
          refine lv_aload_n hx hb dX5_readEdge_54 rfl (lv_at hl 3 rfl) ?_
          refine lv_iload_n hx hb dX5_readEdge_55 rfl (lv_at hl 0 rfl) ?_
          refine lv_aload_n hx hb dX5_readEdge_56 rfl (lv_at hl 3 rfl) ?_
          refine q_get (v := .ref (b 6)) hx hb 0 (by decide) rfl (ly_X5 hE) hown hK hP rfl 1 (by decide) (wd_228 hE) (fun _ h9 => h9) rfl dX5_readEdge_57 ?_
          refine lv_iload_n hx hb dX5_readEdge_60 rfl (lv_at hl 2 rfl) ?_
          refine vp_callSi (va_Run.run (va_runV (As := [.int (nI (vl tx sz1 (bgi tx sz1 (i0 + 1))))]) (rest := [.int (nI (vl tx sz1 (bgi tx sz1 (((((i0 + 1) + 1)) + 1))))), .ref (b 0)]) ⟨hx, hb, hml, hown, noTs⟩ (q_X7_orderAt l dC dI H.size cs b u78 dg hA83 (vl tx sz1 (bgi tx sz1 (i0 + 1))) (by first | assumption | omega | rfl | (congr 1; omega))) ⟨cbE 1 (wd_614 hE) (wd_116 hE) (wd_611 hE) rfl rfl (by decide +kernel) ⟨Nat.le_of_ble_eq_true rfl, Nat.le_of_ble_eq_true rfl⟩, (wd_612 hE), (wd_613 hE)⟩ ⟨PQ.blind, q_recv 6 (by decide) rfl hK hP rfl, (q_pre (av := [.ref (b 6), .int (nI (vl tx sz1 (bgi tx sz1 (i0 + 1))))]) hK hP hJ hE)⟩ rfl rfl hl.1 rfl (lv_room (Nat.le_of_ble_eq_true rfl)) dX5_readEdge_61 ⟨Nat.le_of_ble_eq_true rfl, Nat.le_of_ble_eq_true rfl⟩)) (fun r96 hr96 => ?_)
          have hr96 := hr96.trans (OVu.1)
          subst hr96
          refine lv_iload_n hx hb dX5_readEdge_64 rfl (lv_at hl 1 rfl) ?_
          refine vp_callSi (va_Run.run (va_runSN (As := [.int (nI (pO gg (vl tx sz1 (bgi tx sz1 (i0 + 1))))), .int (nI (vl tx sz1 (bgi tx sz1 (((i0 + 1) + 1)))))]) (rest := [.int (nI (vl tx sz1 (bgi tx sz1 (((((i0 + 1) + 1)) + 1))))), .ref (b 0)]) ⟨hx, hb, hml, hown, noTs⟩ (q_X11_share l dC dI H.size cs b u78 (pO gg (vl tx sz1 (bgi tx sz1 (i0 + 1)))) (vl tx sz1 (bgi tx sz1 (((i0 + 1) + 1)))) (by first | assumption | omega | rfl | (congr 1; omega)) (by first | assumption | omega | rfl | (congr 1; omega)) (by first | assumption | omega | rfl | (congr 1; omega))) ⟨cnE 2 (wd_620 hE) (wd_115 hE) (wd_618 hE) rfl rfl (by decide +kernel) ⟨Nat.le_of_ble_eq_true rfl, Nat.le_of_ble_eq_true rfl⟩, (wd_619 hE), trivial⟩ ⟨PQ.blind, (q_pre (av := [.int (nI (pO gg (vl tx sz1 (bgi tx sz1 (i0 + 1))))), .int (nI (vl tx sz1 (bgi tx sz1 (((i0 + 1) + 1)))))]) hK hP hJ hE)⟩ rfl rfl hl.1 rfl (lv_room (Nat.le_of_ble_eq_true rfl)) dX5_readEdge_65 ⟨Nat.le_of_ble_eq_true rfl, Nat.le_of_ble_eq_true rfl⟩)) (fun r97 hr97 => ?_)
          subst hr97
          refine qc_i hAL hS hA (va_runV (As := [.int (nI (vl tx sz1 (bgi tx sz1 (((((i0 + 1) + 1)) + 1))))), .int (nI ((pO gg (vl tx sz1 (bgi tx sz1 (i0 + 1)))) / (vl tx sz1 (bgi tx sz1 (((i0 + 1) + 1))))))]) (rest := []) ⟨hx, hb, hml, hown, noTs⟩ (q_X5_readIndex l dC dI H.size cs b u78 tx hA79 k2 hA80 k3 hA81 k4 hA82 dg hA83 (vl tx sz1 (bgi tx sz1 (((((i0 + 1) + 1)) + 1)))) ((pO gg (vl tx sz1 (bgi tx sz1 (i0 + 1)))) / (vl tx sz1 (bgi tx sz1 (((i0 + 1) + 1))))) sz1 c1 (((((((i0 + 1) + 1)) + 1)) + 1)) ln x8 x9 gg hF84x hF85x hF86x hb78.2.2.1 hF87x hb78.2.2.2.1 hb78.2.2.2.2.1 hb78.2.2.2.2.2 (by first | assumption | omega | rfl | (congr 1; omega)) (by first | assumption | omega | rfl | (congr 1; omega)) (by first | assumption | omega | rfl | (congr 1; omega)) (by first | assumption | omega | rfl | (congr 1; omega)) (by first | assumption | omega | rfl | (congr 1; omega)) (by first | assumption | omega | rfl | (congr 1; omega)) (by first | assumption | omega | rfl | (congr 1; omega))) ⟨cbE 2 (wd_610 hE) (wd_118 hE) (wd_607 hE) rfl rfl (by decide +kernel) ⟨Nat.le_of_ble_eq_true rfl, Nat.le_of_ble_eq_true rfl⟩, (wd_609 hE), (wd_17 hE)⟩ ⟨PQ.blind, q_recv 0 (by decide) rfl hK hP rfl, (q_pre (av := [.ref (b 0), .int (nI (vl tx sz1 (bgi tx sz1 (((((i0 + 1) + 1)) + 1))))), .int (nI ((pO gg (vl tx sz1 (bgi tx sz1 (i0 + 1)))) / (vl tx sz1 (bgi tx sz1 (((i0 + 1) + 1))))))]) hK hP hJ hE)⟩ rfl rfl hl.1 rfl (lv_room (Nat.le_of_ble_eq_true rfl)) dX5_readEdge_68 ⟨Nat.le_of_ble_eq_true rfl, Nat.le_of_ble_eq_true rfl⟩) (fun r98 u98 H locs hpo98 hP hS => ?_)
          obtain ⟨hr98, hq98⟩ := hpo98
          have hA99 := (hq98.1 5 List.not_mem_nil).trans hA79
          have hA100 := (hq98.1 2 List.not_mem_nil).trans hA80
          have hA101 := (hq98.1 3 List.not_mem_nil).trans hA81
          have hA102 := (hq98.1 4 List.not_mem_nil).trans hA82
          have hA103 := (hq98.1 7 List.not_mem_nil).trans hA83
          have hF104x := (hq98.2.1 13 (by decide)).trans hF84x
          have hF105x := (hq98.2.1 14 (by decide)).trans hF85x
          have hF106x := (hq98.2.1 15 (by decide)).trans hF86x
          have hF107x := (hq98.2.1 6 (by decide)).trans hF87x
          have hfr := FR.step hfr hq98 (fun _ h => absurd h List.not_mem_nil) (by decide) (fun h => rfl)
          rcases hr98 with ⟨rfl, hb98⟩ | ⟨rfl, hb98⟩ | ⟨rfl, hb98⟩
          · have EHd : pHead tx sz1 gg (bgi tx sz1 i0) = (bad (kd tx sz1 (bgi tx sz1 (i0 + 1 + 1 + 1 + 1))), bgi tx sz1 (i0 + 1 + 1 + 1 + 1), gg) := he_b hp5 (show pE gg ≠ 6 by omega) bad_ne S1 (ps_n2 C1 C2 hb98.1)
            have E : pLine tx sz1 gg (bgi tx sz1 i0) = (bad (kd tx sz1 (bgi tx sz1 (i0 + 1 + 1 + 1 + 1))), bgi tx sz1 (i0 + 1 + 1 + 1 + 1), gg) := (pl_h (by rw [EHd]; exact bad_ne)).trans EHd
            have EN : bad (kd tx sz1 (bgi tx sz1 (i0 + 1 + 1 + 1 + 1))) ≠ 0 := bad_ne
            have bb := bad_b (kd tx sz1 (bgi tx sz1 (i0 + 1 + 1 + 1 + 1)))
            refine lv_istore (lv' := [(4, .int (-1)), (3, .int (nI (vl tx sz1 (bgi tx sz1 (((((i0 + 1) + 1)) + 1)))))), (2, .int (nI (vl tx sz1 (bgi tx sz1 (((i0 + 1) + 1)))))), (1, .int (nI (vl tx sz1 (bgi tx sz1 (i0 + 1))))), (0, .ref (b 0))]) hx hb dX5_readEdge_71 hl (by decide) rfl (fun ls hl => ?_)
            refine lv_aload_n hx hb dX5_readEdge_73 rfl (lv_at hl 4 rfl) ?_
            refine q_get (v := .int (nI ((bad (kd tx sz1 (bgi tx sz1 (((((((i0 + 1) + 1)) + 1)) + 1)))))))) hx hb 0 (by decide) rfl (ly_X5 hE) hown hK hP rfl 7 (by decide) (wd_234 hE) (fun _ h9 => h9) (congrArg (fun z : Int32 => some (Value.int z)) hb98.2.1.1) dX5_readEdge_74 ?_
            refine lv_if_ne (tgt := 99) hx hb dX5_readEdge_77 (by decide) (fun c108 => ?_) (fun c108 => False.elim (by have c108 := (b_eq (nI_toInt (n := (bad (kd tx sz1 (bgi tx sz1 (((((((i0 + 1) + 1)) + 1)) + 1)))))) (by omega)) (show Int32.toInt 0 = 0 from rfl)).mp c108; omega))
            have c108 := mt (b_eq (nI_toInt (n := (bad (kd tx sz1 (bgi tx sz1 (((((((i0 + 1) + 1)) + 1)) + 1)))))) (by omega)) (show Int32.toInt 0 = 0 from rfl)).mpr c108
            exact W.vret hx hb hr (fun t ht hW => ⟨⟨u98, rfl, ⟨(by first | (rw [hA103]; done) | (rw [hA103]; first | (exact Or.inl ⟨by rw [E]; exact EN, by rw [E]; exact ⟨hb98.2.1.1, hb98.2.1.2.1, hb98.2.1.2.2⟩⟩) | (rw [E]; exact Or.inr ⟨rfl, hb98.2.1.1, hb98.2.1.2.1, hb98.2.1.2.2, hF107x, _, by omega, hb98.2.2, rfl, DV⟩))), hfr⟩, (show va_P (dC, dI) vwCl (qW cs b u98) t.heap by rw [ht]; exact hP)⟩, hS.F ht⟩) hS.2.2 dX5_readEdge_99
          · have QZ : 1 ≤ pO gg (vl tx sz1 (bgi tx sz1 (i0 + 1))) / vl tx sz1 (bgi tx sz1 (i0 + 1 + 1)) := Nat.div_pos (Nat.le_of_dvd (by omega) (Nat.dvd_of_mod_eq_zero A6)) (by omega)
            have EHd : pHead tx sz1 gg (bgi tx sz1 i0) = (4, bgi tx sz1 (i0 + 1 + 1 + 1 + 1), gg) := by
              by_cases z1 : vl tx sz1 (bgi tx sz1 (i0 + 1 + 1 + 1 + 1)) = 0
              · exact he_b hp5 (show pE gg ≠ 6 by omega) (by decide) S1 (ps_4 C1 C2 hb98.1 (Or.inl z1))
              · by_cases z2 : pO gg (vl tx sz1 (bgi tx sz1 (i0 + 1 + 1 + 1))) % vl tx sz1 (bgi tx sz1 (i0 + 1 + 1 + 1 + 1)) = 0
                · exact he_q hp5 (show pE gg ≠ 6 by omega) S1 (ps_ok C1 C2 hb98.1 z1 z2) (by rcases hb98.2.1 with h | h | h; (exact absurd h z1); (exact absurd z2 h); (exact fun q => h.2 q.symm))
                · exact he_b hp5 (show pE gg ≠ 6 by omega) (by decide) S1 (ps_4 C1 C2 hb98.1 (Or.inr z2))
            have E : pLine tx sz1 gg (bgi tx sz1 i0) = (4, bgi tx sz1 (i0 + 1 + 1 + 1 + 1), gg) := (pl_h (by rw [EHd]; exact (show (4 : Nat) ≠ 0 by decide))).trans EHd
            have EN : (4 : Nat) ≠ 0 := by decide
            refine lv_istore (lv' := [(4, .int (-1)), (3, .int (nI (vl tx sz1 (bgi tx sz1 (((((i0 + 1) + 1)) + 1)))))), (2, .int (nI (vl tx sz1 (bgi tx sz1 (((i0 + 1) + 1)))))), (1, .int (nI (vl tx sz1 (bgi tx sz1 (i0 + 1))))), (0, .ref (b 0))]) hx hb dX5_readEdge_71 hl (by decide) rfl (fun ls hl => ?_)
            refine lv_aload_n hx hb dX5_readEdge_73 rfl (lv_at hl 4 rfl) ?_
            refine q_get (v := .int (nI 4)) hx hb 0 (by decide) rfl (ly_X5 hE) hown hK hP rfl 7 (by decide) (wd_234 hE) (fun _ h9 => h9) (congrArg (fun z : Int32 => some (Value.int z)) hb98.2.2.1.1) dX5_readEdge_74 ?_
            refine lv_if_ne (tgt := 99) hx hb dX5_readEdge_77 (by decide) (fun c109 => ?_) (fun c109 => False.elim (by have c109 := (b_eq (nI_toInt (n := 4) (by omega)) (show Int32.toInt 0 = 0 from rfl)).mp c109; omega))
            have c109 := mt (b_eq (nI_toInt (n := 4) (by omega)) (show Int32.toInt 0 = 0 from rfl)).mpr c109
            exact W.vret hx hb hr (fun t ht hW => ⟨⟨u98, rfl, ⟨(by first | (rw [hA103]; done) | (rw [hA103]; first | (exact Or.inl ⟨by rw [E]; exact EN, by rw [E]; exact ⟨hb98.2.2.1.1, hb98.2.2.1.2.1, hb98.2.2.1.2.2⟩⟩) | (rw [E]; exact Or.inr ⟨rfl, hb98.2.2.1.1, hb98.2.2.1.2.1, hb98.2.2.1.2.2, hF107x, _, by omega, hb98.2.2.2, rfl, DV⟩))), hfr⟩, (show va_P (dC, dI) vwCl (qW cs b u98) t.heap by rw [ht]; exact hP)⟩, hS.F ht⟩) hS.2.2 dX5_readEdge_99
          · have QZ : 1 ≤ pO gg (vl tx sz1 (bgi tx sz1 (i0 + 1))) / vl tx sz1 (bgi tx sz1 (i0 + 1 + 1)) := Nat.div_pos (Nat.le_of_dvd (by omega) (Nat.dvd_of_mod_eq_zero A6)) (by omega)
            have C4x := hb98.1
            have C7 := vl_lt C4x
            have PV : pHead tx sz1 gg (bgi tx sz1 i0) = _ := he_ok hp5 (show pE gg ≠ 6 by omega) S1 (ps_ok C1 C2 hb98.1 hb98.2.1 hb98.2.2.1) (hb98.2.2.2.1.resolve_left (by omega)).symm
            have kdf5 := kd_f tx sz1 (bgi tx sz1 (i0 + 1 + 1 + 1 + 1 + 1))
            have bq5 : i0 + 1 + 1 + 1 + 1 + 1 = c1 → bgi tx sz1 (i0 + 1 + 1 + 1 + 1 + 1) = sz1 := fun h => by rw [h]; exact hp2.2.1
            have bz5 : i0 + 1 + 1 + 1 + 1 + 1 < c1 → bgi tx sz1 (i0 + 1 + 1 + 1 + 1 + 1) < sz1 := fun h => (hp2.2.2 _ h).1
            refine lv_istore (lv' := [(4, .int (nI (vl tx sz1 (bgi tx sz1 (((((((i0 + 1) + 1)) + 1)) + 1)))))), (3, .int (nI (vl tx sz1 (bgi tx sz1 (((((i0 + 1) + 1)) + 1)))))), (2, .int (nI (vl tx sz1 (bgi tx sz1 (((i0 + 1) + 1)))))), (1, .int (nI (vl tx sz1 (bgi tx sz1 (i0 + 1))))), (0, .ref (b 0))]) hx hb dX5_readEdge_71 hl (by decide) rfl (fun ls hl => ?_)
            refine lv_aload_n hx hb dX5_readEdge_73 rfl (lv_at hl 4 rfl) ?_
            refine q_get (v := .int 0) hx hb 0 (by decide) rfl (ly_X5 hE) hown hK hP rfl 7 (by decide) (wd_234 hE) (fun _ h9 => h9) (congrArg (fun z : Int32 => some (Value.int z)) hb98.2.2.2.2.2.1) dX5_readEdge_74 ?_
            refine lv_if_ne (tgt := 99) hx hb dX5_readEdge_77 (by decide) (fun c110 => absurd c110 (by decide)) (fun c110 => ?_)
            refine lv_aload_n hx hb dX5_readEdge_80 rfl (lv_at hl 4 rfl) ?_
            refine qc_i hAL hS hA (va_runV (As := []) (rest := []) ⟨hx, hb, hml, hown, noTs⟩ (q_X5_endsLine l dC dI H.size cs b u98 tx hA99 k2 hA100 k3 hA101 k4 hA102 sz1 c1 (((((((((i0 + 1) + 1)) + 1)) + 1)) + 1)) ln x8 x9 hF104x hF105x hF106x hb98.2.2.2.2.1 hF107x hb98.2.2.2.2.2.1 hb98.2.2.2.2.2.2.1 hb98.2.2.2.2.2.2.2 (by first | assumption | omega | rfl | (congr 1; omega)) (by first | assumption | omega | rfl | (congr 1; omega)) (by first | assumption | omega | rfl | (congr 1; omega)) (by first | assumption | omega | rfl | (congr 1; omega))) ⟨cbE 0 (wd_581 hE) (wd_118 hE) (wd_578 hE) rfl rfl (by decide +kernel) ⟨Nat.le_of_ble_eq_true rfl, Nat.le_of_ble_eq_true rfl⟩, (wd_580 hE), (wd_13 hE)⟩ ⟨PQ.blind, q_recv 0 (by decide) rfl hK hP rfl, (q_pre (av := [.ref (b 0)]) hK hP hJ hE)⟩ rfl rfl hl.1 rfl (lv_room (Nat.le_of_ble_eq_true rfl)) dX5_readEdge_81 ⟨Nat.le_of_ble_eq_true rfl, Nat.le_of_ble_eq_true rfl⟩) (fun r111 u111 H locs hpo111 hP hS => ?_)
            obtain ⟨hr111, hq111⟩ := hpo111
            have hA112 := (hq111.1 5 List.not_mem_nil).trans hA99
            have hA113 := (hq111.1 2 List.not_mem_nil).trans hA100
            have hA114 := (hq111.1 3 List.not_mem_nil).trans hA101
            have hA115 := (hq111.1 4 List.not_mem_nil).trans hA102
            have hA116 := (hq111.1 7 List.not_mem_nil).trans hA103
            have hF117x := (hq111.2.1 13 (by decide)).trans hF104x
            have hF118x := (hq111.2.1 14 (by decide)).trans hF105x
            have hF119x := (hq111.2.1 15 (by decide)).trans hF106x
            have hfr := FR.step hfr hq111 (fun _ h => absurd h List.not_mem_nil) (by decide) (fun h => rfl)
            rcases hr111 with ⟨rfl, hb111⟩ | ⟨rfl, hb111⟩
            · have K9 := hb111.1
              have E := pl_ok (g := gg) (p := (bgi tx sz1 i0)) (by rw [PV]) (by rw [PV]; exact K9)
              rw [PV] at E
              refine lv_if_eq (tgt := 99) hx hb dX5_readEdge_84 (by decide) (fun c120 => absurd c120 (by decide)) (fun c120 => ?_)
              refine lv_aload_n hx hb dX5_readEdge_87 rfl (lv_at hl 4 rfl) ?_
              refine q_get (v := .ref (b 6)) hx hb 0 (by decide) rfl (ly_X5 hE) hown hK hP rfl 1 (by decide) (wd_228 hE) (fun _ h9 => h9) rfl dX5_readEdge_88 ?_
              refine lv_iload_n hx hb dX5_readEdge_91 rfl (lv_at hl 3 rfl) ?_
              refine lv_iload_n hx hb dX5_readEdge_92 rfl (lv_at hl 2 rfl) ?_
              refine lv_iload_n hx hb dX5_readEdge_93 rfl (lv_at hl 1 rfl) ?_
              refine lv_iload hx hb dX5_readEdge_94 (lv_at hl 0 rfl) ?_
              refine qc_v hAL hS hA (va_runV (As := [.int (nI (vl tx sz1 (bgi tx sz1 (i0 + 1)))), .int (nI (vl tx sz1 (bgi tx sz1 (((i0 + 1) + 1))))), .int (nI (vl tx sz1 (bgi tx sz1 (((((i0 + 1) + 1)) + 1))))), .int (nI (vl tx sz1 (bgi tx sz1 (((((((i0 + 1) + 1)) + 1)) + 1)))))]) (rest := []) ⟨hx, hb, hml, hown, noTs⟩ (q_X7_addEdge l dC dI H.size cs b u111 dg hA116 (vl tx sz1 (bgi tx sz1 (i0 + 1))) (vl tx sz1 (bgi tx sz1 (((i0 + 1) + 1)))) (vl tx sz1 (bgi tx sz1 (((((i0 + 1) + 1)) + 1)))) (vl tx sz1 (bgi tx sz1 (((((((i0 + 1) + 1)) + 1)) + 1)))) gg (by first | assumption | omega | rfl | (congr 1; omega)) (by first | assumption | omega | rfl | (congr 1; omega)) (by first | assumption | omega | rfl | (congr 1; omega)) (by first | assumption | omega | rfl | (congr 1; omega)) (by first | assumption | omega | rfl | (congr 1; omega)) (by first | assumption | omega | rfl | (congr 1; omega))) ⟨cbE 4 (wd_624 hE) (wd_116 hE) (wd_621 hE) rfl rfl (by decide +kernel) ⟨Nat.le_of_ble_eq_true rfl, Nat.le_of_ble_eq_true rfl⟩, (wd_622 hE), (wd_623 hE)⟩ ⟨PQ.blind, q_recv 6 (by decide) rfl hK hP rfl, (q_pre (av := [.ref (b 6), .int (nI (vl tx sz1 (bgi tx sz1 (i0 + 1)))), .int (nI (vl tx sz1 (bgi tx sz1 (((i0 + 1) + 1))))), .int (nI (vl tx sz1 (bgi tx sz1 (((((i0 + 1) + 1)) + 1))))), .int (nI (vl tx sz1 (bgi tx sz1 (((((((i0 + 1) + 1)) + 1)) + 1)))))]) hK hP hJ hE)⟩ rfl rfl hl.1 rfl (lv_room (Nat.le_of_ble_eq_true rfl)) dX5_readEdge_96 ⟨Nat.le_of_ble_eq_true rfl, Nat.le_of_ble_eq_true rfl⟩) (fun u121 H locs hpo121 hP hS => ?_)
              obtain ⟨h121_0, hq121⟩ := hpo121
              obtain ⟨w122, hA122⟩ : ∃ g, rA u121 7 = g := ⟨_, rfl⟩
              rw [hA122] at h121_0
              have hA123 := (hq121.1 5 (by decide)).trans hA112
              have hA124 := (hq121.1 2 (by decide)).trans hA113
              have hA125 := (hq121.1 3 (by decide)).trans hA114
              have hA126 := (hq121.1 4 (by decide)).trans hA115
              have hF127x := (hq121.2.1 13 List.not_mem_nil).trans hF117x
              have hF128x := (hq121.2.1 14 List.not_mem_nil).trans hF118x
              have hF129x := (hq121.2.1 15 List.not_mem_nil).trans hF119x
              have hF130x := (hq121.2.1 4 List.not_mem_nil).trans hb111.2.1
              have hF131x := (hq121.2.1 6 List.not_mem_nil).trans hb111.2.2.1
              have hF132x := (hq121.2.1 7 List.not_mem_nil).trans hb111.2.2.2.1
              have hF133x := (hq121.2.1 8 List.not_mem_nil).trans hb111.2.2.2.2.1
              have hF134x := (hq121.2.1 9 List.not_mem_nil).trans hb111.2.2.2.2.2
              have hfr := FR.step hfr hq121 (by decide) (fun _ h => absurd h List.not_mem_nil) (fun h => rfl)
              have DV := h121_0
              exact W.vret hx hb hr (fun t ht hW => ⟨⟨u121, rfl, ⟨(by first | (rw [hA122]; done) | (rw [hA122]; first | (exact Or.inl ⟨by rw [E]; exact EN, by rw [E]; exact ⟨hF132x, hF133x, hF134x⟩⟩) | (rw [E]; exact Or.inr ⟨rfl, hF132x, hF133x, hF134x, hF131x, _, by omega, hF130x, rfl, DV⟩))), hfr⟩, (show va_P (dC, dI) vwCl (qW cs b u121) t.heap by rw [ht]; exact hP)⟩, hS.F ht⟩) hS.2.2 dX5_readEdge_99
            · have E := pl_e (g := gg) (p := (bgi tx sz1 i0)) (by rw [PV]) (by rw [PV]; exact hb111.1)
              rw [PV] at E
              have EN := bad_ne (k := kd tx sz1 (bgi tx sz1 (i0 + 1 + 1 + 1 + 1 + 1)))
              refine lv_if_eq (tgt := 99) hx hb dX5_readEdge_84 (by decide) (fun c135 => ?_) (fun c135 => absurd c135 (by decide))
              exact W.vret hx hb hr (fun t ht hW => ⟨⟨u111, rfl, ⟨(by first | (rw [hA116]; done) | (rw [hA116]; first | (exact Or.inl ⟨by rw [E]; exact EN, by rw [E]; exact ⟨hb111.2.1, hb111.2.2.1, hb111.2.2.2⟩⟩) | (rw [E]; exact Or.inr ⟨rfl, hb111.2.1, hb111.2.2.1, hb111.2.2.2, MISSING, _, by omega, MISSING, rfl, DV⟩))), hfr⟩, (show va_P (dC, dI) vwCl (qW cs b u111) t.heap by rw [ht]; exact hP)⟩, hS.F ht⟩) hS.2.2 dX5_readEdge_99
set_option maxHeartbeats 4000000 in
set_option maxRecDepth 100000 in
theorem q_X7_orderAt_a (l : Launch) (dC : Nat → ClassId) (dI : Nat → Nat → Nat) (sz : Nat) (cs : Nat → ClassId) (b : Nat → Nat) (u : RS) (dg : Nat → Int32) (hAc7 : rA u 7 = dg) (x : Int32) : Met l yX7_orderAt [.code yX7_orderAt cX7_orderAt 2 (some .int)] ({ frames := 0, cells := 0, slots := 0, locals := 0 }) (PQ [.ref (b 6), .int x] sz dC dI cs b u) (vp_Si (fun (r : Int32) => True)) 0 0 (fun _ => False) := by
  refine Met.ofW (cc := cX7_orderAt) (maxL := 2) (ret := (some .int)) (by decide) rfl ?_
  intro p e s m args below meth c s₁ B hml hv
  obtain ⟨rfl, hsz, hP, hK, hJ, hE⟩ := hv
  have hx := B.exec
  have hb := B.bytes
  have hr := B.returns
  have hown : s.vm.findClass RX7 = some m.cls := findClass_of_methodNamed B.named
  have hlocks := B.notSynchronized
  subst hsz
  have hl := lv_entry ([.ref (b 6), .int x]) (n := 2) (Nat.le_of_ble_eq_true rfl)
  rw [lg_entry_eq]
  generalize (lg_sl ([.ref (b 6), .int x]) ++ List.replicate (2 - (lg_sl ([.ref (b 6), .int x])).length) Slot.unset).toArray = ls at hl ⊢
  have hl : lv_has ls 2 [(0, .ref (b 6)), (1, .int x)] := hl
  refine lv_iload_n hx hb dX7_orderAt_0 rfl (lv_at hl 1 rfl) ?_
  refine lv_if_lt (tgt := 10) hx hb dX7_orderAt_1 (by decide) (fun c1 => ?_) (fun c1 => ?_)
  · have c1 := (b_lt (rfl : Int32.toInt x = _) (show Int32.toInt 0 = 0 from rfl)).mp c1
    refine lv_iconst (v := 0) hx hb dX7_orderAt_10 (by decide) ?_
    refine lv_goto (tgt := 22) hx hb dX7_orderAt_11 (by decide) ?_
    exact W.iret (v := 0) hx hb hr (fun t ht hW => ⟨0, rfl, trivial, ht⟩) (fun _ h => absurd h List.not_mem_nil) dX7_orderAt_22
  · have c1 := mt (b_lt (rfl : Int32.toInt x = _) (show Int32.toInt 0 = 0 from rfl)).mpr c1
    refine lv_iload_n hx hb dX7_orderAt_4 rfl (lv_at hl 1 rfl) ?_
    refine lv_bipush (v := 6) hx hb dX7_orderAt_5 (by decide) ?_
    refine lv_icmp_lt (tgt := 14) hx hb dX7_orderAt_7 (by decide) (fun c2 => ?_) (fun c2 => ?_)
    · have c2 := (b_lt (rfl : Int32.toInt x = _) (show Int32.toInt 6 = 6 from rfl)).mp c2
      obtain ⟨nx3, hi3, hj3⟩ := z_ex (x := x) (n := 6) (by omega) (by omega)
      subst hi3
      have hti4 := nI_toInt (n := nx3) (by omega)
      refine lv_aload_n hx hb dX7_orderAt_14 rfl (lv_at hl 0 rfl) ?_
      refine q_get (v := .ref (b 7)) hx hb 6 (by decide) rfl (ly_X7 hE) hown hK hP rfl 0 (by decide) (wd_149 hE) (fun _ h9 => h9) rfl dX7_orderAt_15 ?_
      refine lv_iconst (v := 3) hx hb dX7_orderAt_18 (by decide) ?_
      refine lv_iload_n hx hb dX7_orderAt_19 rfl (lv_at hl 1 rfl) ?_
      refine lv_iadd hx hb dX7_orderAt_20 ?_
      refine W.eq (g2 := F0 m 21 ls [.int (nI (3 + nx3)), .ref (b 7)]) (congrArg (fun z : Int32 => F0 m 21 ls (.int z :: [.ref (b 7)])) (nI_add 3 nx3)) ?_
      refine q_iald (j := 7) (k := 3 + nx3) (n := 543) (x := dg (3 + nx3)) hx hb hK hP (by decide) rfl (by omega) (by decide) (by rw [hAc7]) dX7_orderAt_21 ?_
      refine lv_topi (fun x6 ex6 => ?_)
      exact W.iret (v := x6) hx hb hr (fun t ht hW => ⟨x6, rfl, trivial, ht⟩) (fun _ h => absurd h List.not_mem_nil) dX7_orderAt_22
    · have c2 := mt (b_lt (rfl : Int32.toInt x = _) (show Int32.toInt 6 = 6 from rfl)).mpr c2
      refine lv_iconst (v := 0) hx hb dX7_orderAt_10 (by decide) ?_
      refine lv_goto (tgt := 22) hx hb dX7_orderAt_11 (by decide) ?_
      exact W.iret (v := 0) hx hb hr (fun t ht hW => ⟨0, rfl, trivial, ht⟩) (fun _ h => absurd h List.not_mem_nil) dX7_orderAt_22
set_option maxHeartbeats 4000000 in
set_option maxRecDepth 100000 in
theorem q_X5_isSign (l : Launch) (dC : Nat → ClassId) (dI : Nat → Nat → Nat) (sz : Nat) (cs : Nat → ClassId) (b : Nat → Nat) (u : RS) (tx : Nat → Int32) (hAc5 : rA u 5 = tx) (k2 : Nat → Int32) (hAc2 : rA u 2 = k2) (k3 : Nat → Int32) (hAc3 : rA u 3 = k3) (k4 : Nat → Int32) (hAc4 : rA u 4 = k4) (sz1 : Nat) (c1 : Nat) (i0 : Nat) (hF13 : rF u 13 = nI c1) (hF14 : rF u 14 = 1) (hF15 : rF u 15 = nI sz1) (hF4 : rF u 4 = nI i0) (hF7 : rF u 7 = 0) (hp0 : BY tx) (hp1 : sz1 ≤ 700) (hp2 : QTK k2 k3 k4 tx sz1 c1) (hp3 : i0 ≤ c1) : Met l yX5_isSign [.code yX5_isSign cX5_isSign 2 (some .boolean)] ({ frames := 2, cells := 0, slots := 0, locals := 80 }) (PQ [.ref (b 0)] sz dC dI cs b u) (vp_Si (fun (r : Int32) => (r = 1 ∧ (kd tx sz1 (bgi tx sz1 i0) = 7 ∨ kd tx sz1 (bgi tx sz1 i0) = 8)) ∨ (r = 0 ∧ (kd tx sz1 (bgi tx sz1 i0) ≠ 7 ∧ kd tx sz1 (bgi tx sz1 i0) ≠ 8)))) 0 0 (fun _ => False) := by
  refine Met.ofW (cc := cX5_isSign) (maxL := 2) (ret := (some .boolean)) (by decide) rfl ?_
  intro p e s m args below meth c s₁ B hml hv
  obtain ⟨rfl, hsz, hP, hK, hJ, hE⟩ := hv
  have hx := B.exec
  have hb := B.bytes
  have hr := B.returns
  have hown : s.vm.findClass RX5 = some m.cls := findClass_of_methodNamed B.named
  have hlocks := B.notSynchronized
  subst hsz
  have hl := lv_entry ([.ref (b 0)]) (n := 2) (Nat.le_of_ble_eq_true rfl)
  rw [lg_entry_eq]
  generalize (lg_sl ([.ref (b 0)]) ++ List.replicate (2 - (lg_sl ([.ref (b 0)])).length) Slot.unset).toArray = ls at hl ⊢
  have hl : lv_has ls 2 [(0, .ref (b 0))] := hl
  have hc7 := hp2.1
  have kdf := kd_f tx sz1 (bgi tx sz1 (i0))
  have bq : i0 = c1 → bgi tx sz1 (i0) = sz1 := fun h => by rw [h]; exact hp2.2.1
  have bz : i0 < c1 → bgi tx sz1 (i0) < sz1 := fun h => (hp2.2.2 _ h).1
  refine lv_aload_n hx hb dX5_isSign_0 rfl (lv_at hl 0 rfl) ?_
  refine vp_callSi (va_Run.run (va_runV (As := []) (rest := []) ⟨hx, hb, hml, hown, noTs⟩ (q_X5_kind l dC dI s.heap.size cs b u tx hAc5 k2 hAc2 k3 hAc3 k4 hAc4 sz1 c1 i0 hF13 hF14 hF15 hF4 (by first | assumption | omega | rfl | (congr 1; omega)) (by first | assumption | omega | rfl | (congr 1; omega)) (by first | assumption | omega | rfl | (congr 1; omega)) (by first | assumption | omega | rfl | (congr 1; omega))) ⟨cbE 0 (wd_545 hE) (wd_118 hE) (wd_542 hE) rfl rfl (by decide +kernel) ⟨Nat.le_of_ble_eq_true rfl, Nat.le_of_ble_eq_true rfl⟩, (wd_544 hE), (wd_8 hE)⟩ ⟨PQ.blind, q_recv 0 (by decide) rfl hK hP rfl, (q_pre (av := [.ref (b 0)]) hK hP hJ hE)⟩ rfl rfl hl.1 rfl (lv_room (Nat.le_of_ble_eq_true rfl)) dX5_isSign_1 ⟨Nat.le_of_ble_eq_true rfl, Nat.le_of_ble_eq_true rfl⟩)) (fun r5 hr5 => ?_)
  subst hr5
  refine lv_istore_n (lv' := [(1, .int (nI (kd tx sz1 (bgi tx sz1 i0)))), (0, .ref (b 0))]) hx hb dX5_isSign_4 rfl hl (by decide) rfl (fun ls hl => ?_)
  refine lv_aload_n hx hb dX5_isSign_5 rfl (lv_at hl 1 rfl) ?_
  refine q_get (v := .int 0) hx hb 0 (by decide) rfl (ly_X5 hE) hown hK hP rfl 7 (by decide) (wd_234 hE) (fun _ h9 => h9) (congrArg (fun z : Int32 => some (Value.int z)) hF7) dX5_isSign_6 ?_
  refine lv_if_ne (tgt := 28) hx hb dX5_isSign_9 (by decide) (fun c6 => absurd c6 (by decide)) (fun c6 => ?_)
  refine lv_iload_n hx hb dX5_isSign_12 rfl (lv_at hl 0 rfl) ?_
  refine lv_bipush (v := 7) hx hb dX5_isSign_13 (by decide) ?_
  refine lv_icmp_eq (tgt := 24) hx hb dX5_isSign_15 (by decide) (fun c7 => ?_) (fun c7 => ?_)
  · have c7 := (b_eq (nI_toInt (n := kd tx sz1 (bgi tx sz1 i0)) (by omega)) (show Int32.toInt 7 = 7 from rfl)).mp c7
    refine lv_iconst (v := 1) hx hb dX5_isSign_24 (by decide) ?_
    refine lv_goto (tgt := 29) hx hb dX5_isSign_25 (by decide) ?_
    exact W.zret (v := 1) hx hb hr rfl (fun t ht hW => ⟨1, rfl, Or.inl ⟨rfl, by first | assumption | omega | rfl | (congr 1; omega)⟩, ht⟩) (fun _ h => absurd h List.not_mem_nil) dX5_isSign_29
  · have c7 := mt (b_eq (nI_toInt (n := kd tx sz1 (bgi tx sz1 i0)) (by omega)) (show Int32.toInt 7 = 7 from rfl)).mpr c7
    refine lv_iload_n hx hb dX5_isSign_18 rfl (lv_at hl 0 rfl) ?_
    refine lv_bipush (v := 8) hx hb dX5_isSign_19 (by decide) ?_
    refine lv_icmp_ne (tgt := 28) hx hb dX5_isSign_21 (by decide) (fun c8 => ?_) (fun c8 => ?_)
    · have c8 := mt (b_eq (nI_toInt (n := kd tx sz1 (bgi tx sz1 i0)) (by omega)) (show Int32.toInt 8 = 8 from rfl)).mpr c8
      refine lv_iconst (v := 0) hx hb dX5_isSign_28 (by decide) ?_
      exact W.zret (v := 0) hx hb hr rfl (fun t ht hW => ⟨0, rfl, Or.inr ⟨rfl, by first | assumption | omega | rfl | (congr 1; omega)⟩, ht⟩) (fun _ h => absurd h List.not_mem_nil) dX5_isSign_29
    · have c8 := (b_eq (nI_toInt (n := kd tx sz1 (bgi tx sz1 i0)) (by omega)) (show Int32.toInt 8 = 8 from rfl)).mp c8
      refine lv_iconst (v := 1) hx hb dX5_isSign_24 (by decide) ?_
      refine lv_goto (tgt := 29) hx hb dX5_isSign_25 (by decide) ?_
      exact W.zret (v := 1) hx hb hr rfl (fun t ht hW => ⟨1, rfl, Or.inl ⟨rfl, by first | assumption | omega | rfl | (congr 1; omega)⟩, ht⟩) (fun _ h => absurd h List.not_mem_nil) dX5_isSign_29
set_option maxHeartbeats 4000000 in
set_option maxRecDepth 100000 in
theorem q_X5_isSign_f (l : Launch) (dC : Nat → ClassId) (dI : Nat → Nat → Nat) (sz : Nat) (cs : Nat → ClassId) (b : Nat → Nat) (u : RS) (tx : Nat → Int32) (hAc5 : rA u 5 = tx) (k2 : Nat → Int32) (hAc2 : rA u 2 = k2) (k3 : Nat → Int32) (hAc3 : rA u 3 = k3) (k4 : Nat → Int32) (hAc4 : rA u 4 = k4) (sz1 : Nat) (c1 : Nat) (i0 : Nat) (kf : Nat) (hF13 : rF u 13 = nI c1) (hF14 : rF u 14 = 1) (hF15 : rF u 15 = nI sz1) (hF4 : rF u 4 = nI i0) (hF7 : rF u 7 = nI kf) (hp0 : BY tx) (hp1 : sz1 ≤ 700) (hp2 : QTK k2 k3 k4 tx sz1 c1) (hp3 : i0 ≤ c1) (hp4 : 1 ≤ kf) (hp5 : kf ≤ 9) : Met l yX5_isSign [.code yX5_isSign cX5_isSign 2 (some .boolean)] ({ frames := 2, cells := 0, slots := 0, locals := 80 }) (PQ [.ref (b 0)] sz dC dI cs b u) (vp_Si (fun (r : Int32) => r = 0)) 0 0 (fun _ => False) := by
  refine Met.ofW (cc := cX5_isSign) (maxL := 2) (ret := (some .boolean)) (by decide) rfl ?_
  intro p e s m args below meth c s₁ B hml hv
  obtain ⟨rfl, hsz, hP, hK, hJ, hE⟩ := hv
  have hx := B.exec
  have hb := B.bytes
  have hr := B.returns
  have hown : s.vm.findClass RX5 = some m.cls := findClass_of_methodNamed B.named
  have hlocks := B.notSynchronized
  subst hsz
  have hl := lv_entry ([.ref (b 0)]) (n := 2) (Nat.le_of_ble_eq_true rfl)
  rw [lg_entry_eq]
  generalize (lg_sl ([.ref (b 0)]) ++ List.replicate (2 - (lg_sl ([.ref (b 0)])).length) Slot.unset).toArray = ls at hl ⊢
  have hl : lv_has ls 2 [(0, .ref (b 0))] := hl
  have hc7 := hp2.1
  have kdf := kd_f tx sz1 (bgi tx sz1 (i0))
  have bq : i0 = c1 → bgi tx sz1 (i0) = sz1 := fun h => by rw [h]; exact hp2.2.1
  have bz : i0 < c1 → bgi tx sz1 (i0) < sz1 := fun h => (hp2.2.2 _ h).1
  refine lv_aload_n hx hb dX5_isSign_0 rfl (lv_at hl 0 rfl) ?_
  refine vp_callSi (va_Run.run (va_runV (As := []) (rest := []) ⟨hx, hb, hml, hown, noTs⟩ (q_X5_kind l dC dI s.heap.size cs b u tx hAc5 k2 hAc2 k3 hAc3 k4 hAc4 sz1 c1 i0 hF13 hF14 hF15 hF4 (by first | assumption | omega | rfl | (congr 1; omega)) (by first | assumption | omega | rfl | (congr 1; omega)) (by first | assumption | omega | rfl | (congr 1; omega)) (by first | assumption | omega | rfl | (congr 1; omega))) ⟨cbE 0 (wd_545 hE) (wd_118 hE) (wd_542 hE) rfl rfl (by decide +kernel) ⟨Nat.le_of_ble_eq_true rfl, Nat.le_of_ble_eq_true rfl⟩, (wd_544 hE), (wd_8 hE)⟩ ⟨PQ.blind, q_recv 0 (by decide) rfl hK hP rfl, (q_pre (av := [.ref (b 0)]) hK hP hJ hE)⟩ rfl rfl hl.1 rfl (lv_room (Nat.le_of_ble_eq_true rfl)) dX5_isSign_1 ⟨Nat.le_of_ble_eq_true rfl, Nat.le_of_ble_eq_true rfl⟩)) (fun r7 hr7 => ?_)
  subst hr7
  refine lv_istore_n (lv' := [(1, .int (nI (kd tx sz1 (bgi tx sz1 i0)))), (0, .ref (b 0))]) hx hb dX5_isSign_4 rfl hl (by decide) rfl (fun ls hl => ?_)
  refine lv_aload_n hx hb dX5_isSign_5 rfl (lv_at hl 1 rfl) ?_
  refine q_get (v := .int (nI kf)) hx hb 0 (by decide) rfl (ly_X5 hE) hown hK hP rfl 7 (by decide) (wd_234 hE) (fun _ h9 => h9) (congrArg (fun z : Int32 => some (Value.int z)) hF7) dX5_isSign_6 ?_
  refine lv_if_ne (tgt := 28) hx hb dX5_isSign_9 (by decide) (fun c8 => ?_) (fun c8 => False.elim (by have c8 := (b_eq (nI_toInt (n := kf) (by omega)) (show Int32.toInt 0 = 0 from rfl)).mp c8; omega))
  have c8 := mt (b_eq (nI_toInt (n := kf) (by omega)) (show Int32.toInt 0 = 0 from rfl)).mpr c8
  refine lv_iconst (v := 0) hx hb dX5_isSign_28 (by decide) ?_
  exact W.zret (v := 0) hx hb hr rfl (fun t ht hW => ⟨0, rfl, (by first | rfl | omega | (congr 1; omega) | assumption), ht⟩) (fun _ h => absurd h List.not_mem_nil) dX5_isSign_29
set_option maxHeartbeats 4000000 in
set_option maxRecDepth 100000 in
theorem q_X5_readNumber_f (l : Launch) (dC : Nat → ClassId) (dI : Nat → Nat → Nat) (sz : Nat) (cs : Nat → ClassId) (b : Nat → Nat) (u : RS) (kf : Nat) (hF7 : rF u 7 = nI kf) (hp0 : 1 ≤ kf) (hp1 : kf ≤ 9) : Met l yX5_readNumber [.code yX5_readNumber cX5_readNumber 1 none] ({ frames := 0, cells := 0, slots := 0, locals := 0 }) (PQ [.ref (b 0)] sz dC dI cs b u) (va_Sv (fun _ => True)) 0 0 (fun _ => False) := by
  refine Met.ofW (cc := cX5_readNumber) (maxL := 1) (ret := none) (by decide) rfl ?_
  intro p e s m args below meth c s₁ B hml hv
  obtain ⟨rfl, hsz, hP, hK, hJ, hE⟩ := hv
  have hx := B.exec
  have hb := B.bytes
  have hr := B.returns
  have hown : s.vm.findClass RX5 = some m.cls := findClass_of_methodNamed B.named
  have hlocks := B.notSynchronized
  subst hsz
  have hl := lv_entry ([.ref (b 0)]) (n := 1) (Nat.le_of_ble_eq_true rfl)
  rw [lg_entry_eq]
  generalize (lg_sl ([.ref (b 0)]) ++ List.replicate (1 - (lg_sl ([.ref (b 0)])).length) Slot.unset).toArray = ls at hl ⊢
  have hl : lv_has ls 1 [(0, .ref (b 0))] := hl
  refine lv_aload_n hx hb dX5_readNumber_0 rfl (lv_at hl 0 rfl) ?_
  refine q_get (v := .int (nI kf)) hx hb 0 (by decide) rfl (ly_X5 hE) hown hK hP rfl 7 (by decide) (wd_234 hE) (fun _ h9 => h9) (congrArg (fun z : Int32 => some (Value.int z)) hF7) dX5_readNumber_1 ?_
  refine lv_if_ne (tgt := 48) hx hb dX5_readNumber_4 (by decide) (fun c3 => ?_) (fun c3 => False.elim (by have c3 := (b_eq (nI_toInt (n := kf) (by omega)) (show Int32.toInt 0 = 0 from rfl)).mp c3; omega))
  have c3 := mt (b_eq (nI_toInt (n := kf) (by omega)) (show Int32.toInt 0 = 0 from rfl)).mpr c3
  exact W.vret hx hb hr (fun t ht hW => ⟨rfl, trivial, ht⟩) (fun _ h => absurd h List.not_mem_nil) dX5_readNumber_48
set_option maxHeartbeats 4000000 in
set_option maxRecDepth 100000 in
theorem q_X5_readNumber (l : Launch) (dC : Nat → ClassId) (dI : Nat → Nat → Nat) (sz : Nat) (cs : Nat → ClassId) (b : Nat → Nat) (u : RS) (tx : Nat → Int32) (hAc5 : rA u 5 = tx) (k2 : Nat → Int32) (hAc2 : rA u 2 = k2) (k3 : Nat → Int32) (hAc3 : rA u 3 = k3) (k4 : Nat → Int32) (hAc4 : rA u 4 = k4) (dg : Nat → Int32) (hAc7 : rA u 7 = dg) (sz1 : Nat) (c1 : Nat) (i0 : Nat) (cw : Nat) (hF13 : rF u 13 = nI c1) (hF14 : rF u 14 = 1) (hF15 : rF u 15 = nI sz1) (hF4 : rF u 4 = nI i0) (hF7 : rF u 7 = 0) (hF23 : rF u 23 = nI cw) (hp0 : BY tx) (hp1 : sz1 ≤ 700) (hp2 : QTK k2 k3 k4 tx sz1 c1) (hp3 : i0 ≤ c1) (hp4 : cw ≤ 72) : Met l yX5_readNumber [.code yX5_readNumber cX5_readNumber 1 none] ({ frames := 2, cells := 0, slots := 0, locals := 80 }) (PQ [.ref (b 0)] sz dC dI cs b u) (va_Qv (fun (u' : RS) => (∃ i1, i1 ≤ c1 ∧ rF u' 4 = nI i1 ∧ bgi tx sz1 i1 = pNum tx sz1 (bgi tx sz1 i0)) ∧ FR [9] [4] false u u') (BQ dC dI cs b) (AQ b sz)) 0 0 (AQ b sz) := by
  refine Met.ofW (cc := cX5_readNumber) (maxL := 1) (ret := none) (by decide) rfl ?_
  intro p e s m args below meth c s₁ B hml hv
  obtain ⟨rfl, hsz, hP, hK, hJ, hE⟩ := hv
  have hx := B.exec
  have hb := B.bytes
  have hr := B.returns
  have hown : s.vm.findClass RX5 = some m.cls := findClass_of_methodNamed B.named
  have hlocks := B.notSynchronized
  subst hsz
  have hAL : ∀ i, i < 12 → AQ b s.heap.size (b i) := fun i h => Or.inl ⟨i, h, rfl⟩
  have hA : ∀ q : Nat, s.heap.size ≤ q → AQ b s.heap.size q := fun q h => Or.inr h
  have hS : va_S (AQ b s.heap.size) s.heap s.heap [] := va_S.rf
  have hfr : FR [9] [4] false u u := FR.refl
  have hl := lv_entry ([.ref (b 0)]) (n := 1) (Nat.le_of_ble_eq_true rfl)
  rw [lg_entry_eq]
  generalize (lg_sl ([.ref (b 0)]) ++ List.replicate (1 - (lg_sl ([.ref (b 0)])).length) Slot.unset).toArray = ls at hl ⊢
  have hl : lv_has ls 1 [(0, .ref (b 0))] := hl
  have hc7 := hp2.1
  have kdf := kd_f tx sz1 (bgi tx sz1 (i0))
  have bq : i0 = c1 → bgi tx sz1 (i0) = sz1 := fun h => by rw [h]; exact hp2.2.1
  have bz : i0 < c1 → bgi tx sz1 (i0) < sz1 := fun h => (hp2.2.2 _ h).1
  refine lv_aload_n hx hb dX5_readNumber_0 rfl (lv_at hl 0 rfl) ?_
  refine q_get (v := .int 0) hx hb 0 (by decide) rfl (ly_X5 hE) hown hK hP rfl 7 (by decide) (wd_234 hE) (fun _ h9 => h9) (congrArg (fun z : Int32 => some (Value.int z)) hF7) dX5_readNumber_1 ?_
  refine lv_if_ne (tgt := 48) hx hb dX5_readNumber_4 (by decide) (fun c6 => absurd c6 (by decide)) (fun c6 => ?_)
  refine lv_aload_n hx hb dX5_readNumber_7 rfl (lv_at hl 0 rfl) ?_
  refine vp_callSi (va_Run.run (va_runV (As := []) (rest := []) ⟨hx, hb, hml, hown, noTs⟩ (q_X5_kind l dC dI s.heap.size cs b u tx hAc5 k2 hAc2 k3 hAc3 k4 hAc4 sz1 c1 i0 hF13 hF14 hF15 hF4 (by first | assumption | omega | rfl | (congr 1; omega)) (by first | assumption | omega | rfl | (congr 1; omega)) (by first | assumption | omega | rfl | (congr 1; omega)) (by first | assumption | omega | rfl | (congr 1; omega))) ⟨cbE 0 (wd_545 hE) (wd_118 hE) (wd_542 hE) rfl rfl (by decide +kernel) ⟨Nat.le_of_ble_eq_true rfl, Nat.le_of_ble_eq_true rfl⟩, (wd_544 hE), (wd_8 hE)⟩ ⟨PQ.blind, q_recv 0 (by decide) rfl hK hP rfl, (q_pre (av := [.ref (b 0)]) hK hP hJ hE)⟩ rfl rfl hl.1 rfl (lv_room (Nat.le_of_ble_eq_true rfl)) dX5_readNumber_8 ⟨Nat.le_of_ble_eq_true rfl, Nat.le_of_ble_eq_true rfl⟩)) (fun r7 hr7 => ?_)
  subst hr7
  refine lv_bipush (v := 6) hx hb dX5_readNumber_11 (by decide) ?_
  refine lv_icmp_ne (tgt := 48) hx hb dX5_readNumber_13 (by decide) (fun c8 => ?_) (fun c8 => ?_)
  · have c8 := mt (b_eq (nI_toInt (n := kd tx sz1 (bgi tx sz1 i0)) (by omega)) (show Int32.toInt 6 = 6 from rfl)).mpr c8
    have NK : pNum tx sz1 (bgi tx sz1 i0) = (bgi tx sz1 i0) := pnum_n (by omega)
    exact W.vret hx hb hr (fun t ht hW => ⟨⟨u, rfl, ⟨(by first | exact ⟨i0, by omega, hF4, NK.symm⟩ | exact ⟨i0 + 1, by omega, hF4, YK.symm⟩), hfr⟩, (show va_P (dC, dI) vwCl (qW cs b u) t.heap by rw [ht]; exact hP)⟩, hS.F ht⟩) hS.2.2 dX5_readNumber_48
  · have c8 := (b_eq (nI_toInt (n := kd tx sz1 (bgi tx sz1 i0)) (by omega)) (show Int32.toInt 6 = 6 from rfl)).mp c8
    have YK : pNum tx sz1 (bgi tx sz1 i0) = nxt tx sz1 (bgi tx sz1 i0) := pnum_y (by omega)
    refine lv_aload_n hx hb dX5_readNumber_16 rfl (lv_at hl 0 rfl) ?_
    refine q_get (v := .ref (b 8)) hx hb 0 (by decide) rfl (ly_X5 hE) hown hK hP rfl 2 (by decide) (wd_229 hE) (fun _ h9 => h9) rfl dX5_readNumber_17 ?_
    refine lv_aload_n hx hb dX5_readNumber_20 rfl (lv_at hl 0 rfl) ?_
    refine vp_callSi (va_Run.run (va_runV (As := []) (rest := [.ref (b 8)]) ⟨hx, hb, hml, hown, noTs⟩ (q_X5_value l dC dI s.heap.size cs b u tx hAc5 k2 hAc2 k3 hAc3 k4 hAc4 sz1 c1 i0 hF13 hF14 hF15 hF4 (by first | assumption | omega | rfl | (congr 1; omega)) (by first | assumption | omega | rfl | (congr 1; omega)) (by first | assumption | omega | rfl | (congr 1; omega)) (by first | assumption | omega | rfl | (congr 1; omega))) ⟨cbE 0 (wd_569 hE) (wd_118 hE) (wd_566 hE) rfl rfl (by decide +kernel) ⟨Nat.le_of_ble_eq_true rfl, Nat.le_of_ble_eq_true rfl⟩, (wd_568 hE), (wd_11 hE)⟩ ⟨PQ.blind, q_recv 0 (by decide) rfl hK hP rfl, (q_pre (av := [.ref (b 0)]) hK hP hJ hE)⟩ rfl rfl hl.1 rfl (lv_room (Nat.le_of_ble_eq_true rfl)) dX5_readNumber_21 ⟨Nat.le_of_ble_eq_true rfl, Nat.le_of_ble_eq_true rfl⟩)) (fun r9 hr9 => ?_)
    subst hr9
    refine lv_aload_n hx hb dX5_readNumber_24 rfl (lv_at hl 0 rfl) ?_
    refine q_get (v := .ref (b 6)) hx hb 0 (by decide) rfl (ly_X5 hE) hown hK hP rfl 1 (by decide) (wd_228 hE) (fun _ h9 => h9) rfl dX5_readNumber_25 ?_
    refine lv_aload_n hx hb dX5_readNumber_28 rfl (lv_at hl 0 rfl) ?_
    obtain ⟨y10, hy10⟩ : ∃ z : Int32, rF u 5 = z := ⟨_, rfl⟩
    refine q_get (v := .int y10) hx hb 0 (by decide) rfl (ly_X5 hE) hown hK hP rfl 5 (by decide) (wd_232 hE) (fun _ h9 => h9) (congrArg (fun z : Int32 => some (Value.int z)) hy10) dX5_readNumber_29 ?_
    refine vp_callSi (va_Run.run (va_runV (As := [.int y10]) (rest := [.int (nI (vv tx sz1 (bgi tx sz1 i0))), .ref (b 8)]) ⟨hx, hb, hml, hown, noTs⟩ (q_X7_orderAt_a l dC dI s.heap.size cs b u dg hAc7 y10) ⟨cbE 1 (wd_614 hE) (wd_116 hE) (wd_611 hE) rfl rfl (by decide +kernel) ⟨Nat.le_of_ble_eq_true rfl, Nat.le_of_ble_eq_true rfl⟩, (wd_612 hE), (wd_613 hE)⟩ ⟨PQ.blind, q_recv 6 (by decide) rfl hK hP rfl, (q_pre (av := [.ref (b 6), .int y10]) hK hP hJ hE)⟩ rfl rfl hl.1 rfl (lv_room (Nat.le_of_ble_eq_true rfl)) dX5_readNumber_32 ⟨Nat.le_of_ble_eq_true rfl, Nat.le_of_ble_eq_true rfl⟩)) (fun r11 hr11 => ?_)
    refine qc_v hAL hS hA (va_runV (As := [.int (nI (vv tx sz1 (bgi tx sz1 i0))), .int r11]) (rest := []) ⟨hx, hb, hml, hown, noTs⟩ (q_X10_addLast l dC dI s.heap.size cs b u (nI (vv tx sz1 (bgi tx sz1 i0))) r11 cw hF23 (by first | assumption | omega | rfl | (congr 1; omega))) ⟨cbE 2 (wd_645 hE) (wd_120 hE) (wd_642 hE) rfl rfl (by decide +kernel) ⟨Nat.le_of_ble_eq_true rfl, Nat.le_of_ble_eq_true rfl⟩, (wd_643 hE), (wd_644 hE)⟩ ⟨PQ.blind, q_recv 8 (by decide) rfl hK hP rfl, (q_pre (av := [.ref (b 8), .int (nI (vv tx sz1 (bgi tx sz1 i0))), .int r11]) hK hP hJ hE)⟩ rfl rfl hl.1 rfl (lv_room (Nat.le_of_ble_eq_true rfl)) dX5_readNumber_35 ⟨Nat.le_of_ble_eq_true rfl, Nat.le_of_ble_eq_true rfl⟩) (fun u12 H locs hpo12 hP hS => ?_)
    have hq12 := hpo12
    have hA13 := (hq12.1 5 (by decide)).trans hAc5
    have hA14 := (hq12.1 2 (by decide)).trans hAc2
    have hA15 := (hq12.1 3 (by decide)).trans hAc3
    have hA16 := (hq12.1 4 (by decide)).trans hAc4
    have hA17 := (hq12.1 7 (by decide)).trans hAc7
    have hF18x := (hq12.2.1 13 List.not_mem_nil).trans hF13
    have hF19x := (hq12.2.1 14 List.not_mem_nil).trans hF14
    have hF20x := (hq12.2.1 15 List.not_mem_nil).trans hF15
    have hF21x := (hq12.2.1 4 List.not_mem_nil).trans hF4
    have hF22x := (hq12.2.1 7 List.not_mem_nil).trans hF7
    have hF23x := (hq12.2.1 23 List.not_mem_nil).trans hF23
    have hF24x := (hq12.2.1 5 List.not_mem_nil).trans hy10
    have hfr := FR.step hfr hq12 (by decide) (fun _ h => absurd h List.not_mem_nil) (fun h => rfl)
    refine lv_aload_n hx hb dX5_readNumber_38 rfl (lv_at hl 0 rfl) ?_
    refine lv_dup hx hb dX5_readNumber_39 rfl ?_
    refine q_get (v := .int (nI i0)) hx hb 0 (by decide) rfl (ly_X5 hE) hown hK hP rfl 4 (by decide) (wd_231 hE) (fun _ h9 => h9) (congrArg (fun z : Int32 => some (Value.int z)) hF21x) dX5_readNumber_40 ?_
    refine lv_iconst (v := 1) hx hb dX5_readNumber_43 (by decide) ?_
    refine lv_iadd hx hb dX5_readNumber_44 ?_
    refine W.eq (g2 := F0 m 45 ls [.int (nI (i0 + 1)), .ref (b 0)]) (congrArg (fun z : Int32 => F0 m 45 ls (.int z :: [.ref (b 0)])) (nI_add i0 1)) ?_
    refine q_put (v := nI (i0 + 1)) (ty := .int) hx hb 0 4 (by decide) (ly_X5 hE) tyX5 tyX5_ok nmX5 hown hK hP hJ hAL hS rfl 4 (by decide) (wd_231 hE) (fun _ h9 => h9) rfl (by decide +kernel) rfl rfl rfl rfl (qE_put0 (by decide)) (Nat.le_of_ble_eq_true rfl) dX5_readNumber_45 (fun u25 H locs hf25 hq25 hP hS => ?_)
    have hA26 := (hq25.1 5 List.not_mem_nil).trans hA13
    have hA27 := (hq25.1 2 List.not_mem_nil).trans hA14
    have hA28 := (hq25.1 3 List.not_mem_nil).trans hA15
    have hA29 := (hq25.1 4 List.not_mem_nil).trans hA16
    have hA30 := (hq25.1 7 List.not_mem_nil).trans hA17
    have hF31x := (hq25.2.1 13 (by decide)).trans hF18x
    have hF32x := (hq25.2.1 14 (by decide)).trans hF19x
    have hF33x := (hq25.2.1 15 (by decide)).trans hF20x
    have hF34x := (hq25.2.1 7 (by decide)).trans hF22x
    have hF35x := (hq25.2.1 23 (by decide)).trans hF23x
    have hF36x := (hq25.2.1 5 (by decide)).trans hF24x
    have hfr := FR.step hfr hq25 (fun _ h => absurd h List.not_mem_nil) (by decide) (fun h => rfl)
    exact W.vret hx hb hr (fun t ht hW => ⟨⟨u25, rfl, ⟨(by first | exact ⟨i0, by omega, hf25, NK.symm⟩ | exact ⟨i0 + 1, by omega, hf25, YK.symm⟩), hfr⟩, (show va_P (dC, dI) vwCl (qW cs b u25) t.heap by rw [ht]; exact hP)⟩, hS.F ht⟩) hS.2.2 dX5_readNumber_48
