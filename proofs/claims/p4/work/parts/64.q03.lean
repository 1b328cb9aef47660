set_option maxHeartbeats 4000000 in
set_option maxRecDepth 100000 in
theorem q_X5_endsLine (l : Launch) (dC : Nat → ClassId) (dI : Nat → Nat → Nat) (sz : Nat) (cs : Nat → ClassId) (b : Nat → Nat) (u : RS) (tx : Nat → Int32) (hAc5 : rA u 5 = tx) (k2 : Nat → Int32) (hAc2 : rA u 2 = k2) (k3 : Nat → Int32) (hAc3 : rA u 3 = k3) (k4 : Nat → Int32) (hAc4 : rA u 4 = k4) (sz1 : Nat) (c1 : Nat) (i0 : Nat) (ln : Nat) (x8 : Int32) (x9 : Int32) (hF13 : rF u 13 = nI c1) (hF14 : rF u 14 = 1) (hF15 : rF u 15 = nI sz1) (hF4 : rF u 4 = nI i0) (hF6 : rF u 6 = nI ln) (hF7 : rF u 7 = 0) (hF8 : rF u 8 = x8) (hF9 : rF u 9 = x9) (hp0 : BY tx) (hp1 : sz1 ≤ 700) (hp2 : QTK k2 k3 k4 tx sz1 c1) (hp3 : i0 ≤ c1) : Met l yX5_endsLine [.code yX5_endsLine cX5_endsLine 1 (some .boolean)] ({ frames := 3, cells := 0, slots := 0, locals := 120 }) (PQ [.ref (b 0)] sz dC dI cs b u) (va_Qi (fun (r : Int32) (u' : RS) => ((r = 1 ∧ (kd tx sz1 (bgi tx sz1 i0) = 9 ∧ rF u' 4 = nI (i0 + 1) ∧ rF u' 6 = nI (ln + 1) ∧ rF u' 7 = 0 ∧ rF u' 8 = x8 ∧ rF u' 9 = x9)) ∨ (r = 0 ∧ (kd tx sz1 (bgi tx sz1 i0) ≠ 9 ∧ FQ u' (bad (kd tx sz1 (bgi tx sz1 i0))) (bgi tx sz1 i0) ln))) ∧ FR [] [4, 6, 7, 8, 9] false u u') (BQ dC dI cs b) (AQ b sz)) 0 0 (AQ b sz) := by
  refine Met.ofW (cc := cX5_endsLine) (maxL := 1) (ret := (some .boolean)) (by decide) rfl ?_
  intro p e s m args below meth c s₁ B hml hv
  obtain ⟨rfl, hsz, hP, hK, hJ, hE⟩ := hv
  have hx := B.exec
  have hb := B.bytes
  have hr := B.returns
  have hown : s.vm.findClass RX5 = some m.cls := findClass_of_methodNamed B.named
  have hlocks := B.notSynchronized
  subst hsz
  have hAL : ∀ i, i < 12 → AQ b s.heap.size (b i) := fun i h => Or.inl ⟨i, h, rfl⟩
  have hA : ∀ q : Nat, s.heap.size ≤ q → AQ b s.heap.size q := fun q h => Or.inr h
  have hS : va_S (AQ b s.heap.size) s.heap s.heap [] := va_S.rf
  have hfr : FR [] [4, 6, 7, 8, 9] false u u := FR.refl
  have hl := lv_entry ([.ref (b 0)]) (n := 1) (Nat.le_of_ble_eq_true rfl)
  rw [lg_entry_eq]
  generalize (lg_sl ([.ref (b 0)]) ++ List.replicate (1 - (lg_sl ([.ref (b 0)])).length) Slot.unset).toArray = ls at hl ⊢
  have hl : lv_has ls 1 [(0, .ref (b 0))] := hl
  have hc7 := hp2.1
  have kdf := kd_f tx sz1 (bgi tx sz1 (i0))
  have bq : i0 = c1 → bgi tx sz1 (i0) = sz1 := fun h => by rw [h]; exact hp2.2.1
  have bz : i0 < c1 → bgi tx sz1 (i0) < sz1 := fun h => (hp2.2.2 _ h).1
  refine lv_aload_n hx hb dX5_endsLine_0 rfl (lv_at hl 0 rfl) ?_
  refine lv_bipush (v := 9) hx hb dX5_endsLine_1 (by decide) ?_
  refine qc_i hAL hS hA (va_runV (As := [.int (nI 9)]) (rest := []) ⟨hx, hb, hml, hown, noTs⟩ (q_X5_stands l dC dI s.heap.size cs b u tx hAc5 k2 hAc2 k3 hAc3 k4 hAc4 9 sz1 c1 i0 ln x8 x9 hF13 hF14 hF15 hF4 hF6 hF7 hF8 hF9 (by first | assumption | omega | rfl | (congr 1; omega)) (by first | assumption | omega | rfl | (congr 1; omega)) (by first | assumption | omega | rfl | (congr 1; omega)) (by first | assumption | omega | rfl | (congr 1; omega)) (by first | assumption | omega | rfl | (congr 1; omega))) ⟨cbE 1 (wd_577 hE) (wd_118 hE) (wd_574 hE) rfl rfl (by decide +kernel) ⟨Nat.le_of_ble_eq_true rfl, Nat.le_of_ble_eq_true rfl⟩, (wd_576 hE), (wd_12 hE)⟩ ⟨PQ.blind, q_recv 0 (by decide) rfl hK hP rfl, (q_pre (av := [.ref (b 0), .int (nI 9)]) hK hP hJ hE)⟩ rfl rfl hl.1 rfl (lv_room (Nat.le_of_ble_eq_true rfl)) dX5_endsLine_3 ⟨Nat.le_of_ble_eq_true rfl, Nat.le_of_ble_eq_true rfl⟩) (fun r5 u5 H locs hpo5 hP hS => ?_)
  obtain ⟨hr5, hq5⟩ := hpo5
  have hA6 := (hq5.1 5 List.not_mem_nil).trans hAc5
  have hA7 := (hq5.1 2 List.not_mem_nil).trans hAc2
  have hA8 := (hq5.1 3 List.not_mem_nil).trans hAc3
  have hA9 := (hq5.1 4 List.not_mem_nil).trans hAc4
  have hF10x := (hq5.2.1 13 (by decide)).trans hF13
  have hF11x := (hq5.2.1 14 (by decide)).trans hF14
  have hF12x := (hq5.2.1 15 (by decide)).trans hF15
  have hF13x := (hq5.2.1 4 (by decide)).trans hF4
  have hF14x := (hq5.2.1 6 (by decide)).trans hF6
  have hfr := FR.step hfr hq5 (fun _ h => absurd h List.not_mem_nil) (by decide) (fun h => rfl)
  rcases hr5 with ⟨rfl, hb5⟩ | ⟨rfl, hb5⟩
  · have K9 := hb5.1
    refine lv_if_ne (tgt := 11) hx hb dX5_endsLine_6 (by decide) (fun c15 => ?_) (fun c15 => absurd c15 (by decide))
    refine lv_aload_n hx hb dX5_endsLine_11 rfl (lv_at hl 0 rfl) ?_
    refine lv_dup hx hb dX5_endsLine_12 rfl ?_
    refine q_get (v := .int (nI ln)) hx hb 0 (by decide) rfl (ly_X5 hE) hown hK hP rfl 6 (by decide) (wd_233 hE) (fun _ h9 => h9) (congrArg (fun z : Int32 => some (Value.int z)) hF14x) dX5_endsLine_13 ?_
    refine lv_iconst (v := 1) hx hb dX5_endsLine_16 (by decide) ?_
    refine lv_iadd hx hb dX5_endsLine_17 ?_
    refine W.eq (g2 := F0 m 18 ls [.int (nI (ln + 1)), .ref (b 0)]) (congrArg (fun z : Int32 => F0 m 18 ls (.int z :: [.ref (b 0)])) (nI_add ln 1)) ?_
    refine q_put (v := nI (ln + 1)) (ty := .int) hx hb 0 6 (by decide) (ly_X5 hE) tyX5 tyX5_ok nmX5 hown hK hP hJ hAL hS rfl 6 (by decide) (wd_233 hE) (fun _ h9 => h9) rfl (by decide +kernel) rfl rfl rfl rfl (qE_put0 (by decide)) (Nat.le_of_ble_eq_true rfl) dX5_endsLine_18 (fun u16 H locs hf16 hq16 hP hS => ?_)
    have hA17 := (hq16.1 5 List.not_mem_nil).trans hA6
    have hA18 := (hq16.1 2 List.not_mem_nil).trans hA7
    have hA19 := (hq16.1 3 List.not_mem_nil).trans hA8
    have hA20 := (hq16.1 4 List.not_mem_nil).trans hA9
    have hF21x := (hq16.2.1 13 (by decide)).trans hF10x
    have hF22x := (hq16.2.1 14 (by decide)).trans hF11x
    have hF23x := (hq16.2.1 15 (by decide)).trans hF12x
    have hF24x := (hq16.2.1 4 (by decide)).trans hF13x
    have hF25x := (hq16.2.1 7 (by decide)).trans hb5.2.1
    have hF26x := (hq16.2.1 8 (by decide)).trans hb5.2.2.1
    have hF27x := (hq16.2.1 9 (by decide)).trans hb5.2.2.2
    have hfr := FR.step hfr hq16 (fun _ h => absurd h List.not_mem_nil) (by decide) (fun h => rfl)
    refine lv_aload_n hx hb dX5_endsLine_21 rfl (lv_at hl 0 rfl) ?_
    refine lv_dup hx hb dX5_endsLine_22 rfl ?_
    refine q_get (v := .int (nI i0)) hx hb 0 (by decide) rfl (ly_X5 hE) hown hK hP rfl 4 (by decide) (wd_231 hE) (fun _ h9 => h9) (congrArg (fun z : Int32 => some (Value.int z)) hF24x) dX5_endsLine_23 ?_
    refine lv_iconst (v := 1) hx hb dX5_endsLine_26 (by decide) ?_
    refine lv_iadd hx hb dX5_endsLine_27 ?_
    refine W.eq (g2 := F0 m 28 ls [.int (nI (i0 + 1)), .ref (b 0)]) (congrArg (fun z : Int32 => F0 m 28 ls (.int z :: [.ref (b 0)])) (nI_add i0 1)) ?_
    refine q_put (v := nI (i0 + 1)) (ty := .int) hx hb 0 4 (by decide) (ly_X5 hE) tyX5 tyX5_ok nmX5 hown hK hP hJ hAL hS rfl 4 (by decide) (wd_231 hE) (fun _ h9 => h9) rfl (by decide +kernel) rfl rfl rfl rfl (qE_put0 (by decide)) (Nat.le_of_ble_eq_true rfl) dX5_endsLine_28 (fun u28 H locs hf28 hq28 hP hS => ?_)
    have hA29 := (hq28.1 5 List.not_mem_nil).trans hA17
    have hA30 := (hq28.1 2 List.not_mem_nil).trans hA18
    have hA31 := (hq28.1 3 List.not_mem_nil).trans hA19
    have hA32 := (hq28.1 4 List.not_mem_nil).trans hA20
    have hF33x := (hq28.2.1 13 (by decide)).trans hF21x
    have hF34x := (hq28.2.1 14 (by decide)).trans hF22x
    have hF35x := (hq28.2.1 15 (by decide)).trans hF23x
    have hF36x := (hq28.2.1 7 (by decide)).trans hF25x
    have hF37x := (hq28.2.1 8 (by decide)).trans hF26x
    have hF38x := (hq28.2.1 9 (by decide)).trans hF27x
    have hF39x := (hq28.2.1 6 (by decide)).trans hf16
    have hfr := FR.step hfr hq28 (fun _ h => absurd h List.not_mem_nil) (by decide) (fun h => rfl)
    refine lv_iconst (v := 1) hx hb dX5_endsLine_31 (by decide) ?_
    exact W.zret (v := 1) hx hb hr rfl (fun t ht hW => ⟨⟨1, u28, rfl, ⟨Or.inl ⟨rfl, by exact ⟨K9, hf28, hF39x, hF36x, hF37x, hF38x⟩⟩, hfr⟩, (show va_P (dC, dI) vwCl (qW cs b u28) t.heap by rw [ht]; exact hP)⟩, hS.F ht⟩) hS.2.2 dX5_endsLine_32
  · have NN := id hb5
    refine lv_if_ne (tgt := 11) hx hb dX5_endsLine_6 (by decide) (fun c40 => absurd c40 (by decide)) (fun c40 => ?_)
    refine lv_iconst (v := 0) hx hb dX5_endsLine_9 (by decide) ?_
    exact W.zret (v := 0) hx hb hr rfl (fun t ht hW => ⟨⟨0, u5, rfl, ⟨Or.inr ⟨rfl, by exact NN⟩, hfr⟩, (show va_P (dC, dI) vwCl (qW cs b u5) t.heap by rw [ht]; exact hP)⟩, hS.F ht⟩) hS.2.2 dX5_endsLine_10
set_option maxHeartbeats 4000000 in
set_option maxRecDepth 100000 in
theorem q_X5_readVertex (l : Launch) (dC : Nat → ClassId) (dI : Nat → Nat → Nat) (sz : Nat) (cs : Nat → ClassId) (b : Nat → Nat) (u : RS) (tx : Nat → Int32) (hAc5 : rA u 5 = tx) (k2 : Nat → Int32) (hAc2 : rA u 2 = k2) (k3 : Nat → Int32) (hAc3 : rA u 3 = k3) (k4 : Nat → Int32) (hAc4 : rA u 4 = k4) (dg : Nat → Int32) (hAc7 : rA u 7 = dg) (sz1 : Nat) (c1 : Nat) (i0 : Nat) (ln : Nat) (x8 : Int32) (x9 : Int32) (gg : PGr) (hF13 : rF u 13 = nI c1) (hF14 : rF u 14 = 1) (hF15 : rF u 15 = nI sz1) (hF4 : rF u 4 = nI i0) (hF6 : rF u 6 = nI ln) (hF7 : rF u 7 = 0) (hF8 : rF u 8 = x8) (hF9 : rF u 9 = x9) (hp0 : BY tx) (hp1 : sz1 ≤ 700) (hp2 : QTK k2 k3 k4 tx sz1 c1) (hp3 : i0 ≤ c1) (hp4 : DG dg gg) (hp5 : kd tx sz1 (bgi tx sz1 i0) = 3) : Met l yX5_readVertex [.code yX5_readVertex cX5_readVertex 2 none] ({ frames := 4, cells := 0, slots := 0, locals := 160 }) (PQ [.ref (b 0)] sz dC dI cs b u) (va_Qv (fun (u' : RS) => (((pLine tx sz1 gg (bgi tx sz1 i0)).1 ≠ 0 ∧ FQ u' (pLine tx sz1 gg (bgi tx sz1 i0)).1 (pLine tx sz1 gg (bgi tx sz1 i0)).2.1 ln) ∨ ((pLine tx sz1 gg (bgi tx sz1 i0)).1 = 0 ∧ rF u' 7 = 0 ∧ rF u' 8 = x8 ∧ rF u' 9 = x9 ∧ rF u' 6 = nI (ln + 1) ∧ ∃ i1, i1 ≤ c1 ∧ rF u' 4 = nI i1 ∧ bgi tx sz1 i1 = (pLine tx sz1 gg (bgi tx sz1 i0)).2.1 ∧ DG (rA u' 7) (pLine tx sz1 gg (bgi tx sz1 i0)).2.2)) ∧ FR [7] [4, 6, 7, 8, 9] false u u') (BQ dC dI cs b) (AQ b sz)) 0 0 (AQ b sz) := by
  refine Met.ofW (cc := cX5_readVertex) (maxL := 2) (ret := none) (by decide) rfl ?_
  intro p e s m args below meth c s₁ B hml hv
  obtain ⟨rfl, hsz, hP, hK, hJ, hE⟩ := hv
  have hx := B.exec
  have hb := B.bytes
  have hr := B.returns
  have hown : s.vm.findClass RX5 = some m.cls := findClass_of_methodNamed B.named
  have hlocks := B.notSynchronized
  subst hsz
  have hAL : ∀ i, i < 12 → AQ b s.heap.size (b i) := fun i h => Or.inl ⟨i, h, rfl⟩
  have hA : ∀ q : Nat, s.heap.size ≤ q → AQ b s.heap.size q := fun q h => Or.inr h
  have hS : va_S (AQ b s.heap.size) s.heap s.heap [] := va_S.rf
  have hfr : FR [7] [4, 6, 7, 8, 9] false u u := FR.refl
  have hl := lv_entry ([.ref (b 0)]) (n := 2) (Nat.le_of_ble_eq_true rfl)
  rw [lg_entry_eq]
  generalize (lg_sl ([.ref (b 0)]) ++ List.replicate (2 - (lg_sl ([.ref (b 0)])).length) Slot.unset).toArray = ls at hl ⊢
  have hl : lv_has ls 2 [(0, .ref (b 0))] := hl
  have hc7 := hp2.1
  have kdf := kd_f tx sz1 (bgi tx sz1 (i0))
  have bq : i0 = c1 → bgi tx sz1 (i0) = sz1 := fun h => by rw [h]; exact hp2.2.1
  have bz : i0 < c1 → bgi tx sz1 (i0) < sz1 := fun h => (hp2.2.2 _ h).1
  have d6 := hp4.2.1
  have e6 := hp4.2.2.2.1
  have w10 := hp4.2.2.2.2.2.1
  refine lv_aload_n hx hb dX5_readVertex_0 rfl (lv_at hl 0 rfl) ?_
  refine lv_aload_n hx hb dX5_readVertex_1 rfl (lv_at hl 0 rfl) ?_
  refine q_get (v := .ref (b 6)) hx hb 0 (by decide) rfl (ly_X5 hE) hown hK hP rfl 1 (by decide) (wd_228 hE) (fun _ h9 => h9) rfl dX5_readVertex_2 ?_
  refine vp_callSi (va_Run.run (va_runV (As := []) (rest := [.ref (b 0)]) ⟨hx, hb, hml, hown, noTs⟩ (q_X7_vertices l dC dI s.heap.size cs b u dg hAc7) ⟨cbE 0 (wd_557 hE) (wd_116 hE) (wd_554 hE) rfl rfl (by decide +kernel) ⟨Nat.le_of_ble_eq_true rfl, Nat.le_of_ble_eq_true rfl⟩, (wd_555 hE), (wd_556 hE)⟩ ⟨PQ.blind, q_recv 6 (by decide) rfl hK hP rfl, (q_pre (av := [.ref (b 6)]) hK hP hJ hE)⟩ rfl rfl hl.1 rfl (lv_room (Nat.le_of_ble_eq_true rfl)) dX5_readVertex_5 ⟨Nat.le_of_ble_eq_true rfl, Nat.le_of_ble_eq_true rfl⟩)) (fun r7 hr7 => ?_)
  have hr7 := hr7.trans (hp4.1)
  subst hr7
  refine lv_bipush (v := 6) hx hb dX5_readVertex_8 (by decide) ?_
  refine lv_icmp_ge (tgt := 17) hx hb dX5_readVertex_10 (by decide) (fun c8 => ?_) (fun c8 => ?_)
  · have c8 := (b_le (show Int32.toInt 6 = 6 from rfl) (nI_toInt (n := pV gg) (by omega))).mp c8
    refine lv_iconst (v := 0) hx hb dX5_readVertex_17 (by decide) ?_
    refine lv_bipush (v := 6) hx hb dX5_readVertex_18 (by decide) ?_
    refine qc_i hAL hS hA (va_runV (As := [.int 0, .int (nI 6)]) (rest := []) ⟨hx, hb, hml, hown, noTs⟩ (q_X5_passes_0 l dC dI s.heap.size cs b u tx hAc5 k2 hAc2 k3 hAc3 k4 hAc4 6 sz1 c1 i0 ln hF13 hF14 hF15 hF4 hF6 hF7 (by first | assumption | omega | rfl | (congr 1; omega)) (by first | assumption | omega | rfl | (congr 1; omega)) (by first | assumption | omega | rfl | (congr 1; omega)) (by first | assumption | omega | rfl | (congr 1; omega)) (by first | assumption | omega | rfl | (congr 1; omega)) (by first | assumption | omega | rfl | (congr 1; omega))) ⟨cbE 2 (wd_561 hE) (wd_118 hE) (wd_558 hE) rfl rfl (by decide +kernel) ⟨Nat.le_of_ble_eq_true rfl, Nat.le_of_ble_eq_true rfl⟩, (wd_560 hE), (wd_10 hE)⟩ ⟨PQ.blind, q_recv 0 (by decide) rfl hK hP rfl, (q_pre (av := [.ref (b 0), .int 0, .int (nI 6)]) hK hP hJ hE)⟩ rfl rfl hl.1 rfl (lv_room (Nat.le_of_ble_eq_true rfl)) dX5_readVertex_20 ⟨Nat.le_of_ble_eq_true rfl, Nat.le_of_ble_eq_true rfl⟩) (fun r9 u9 H locs hpo9 hP hS => ?_)
    obtain ⟨hr9, h9_0, h9_1, h9_2, hq9⟩ := hpo9
    have hA10 := (hq9.1 5 List.not_mem_nil).trans hAc5
    have hA11 := (hq9.1 2 List.not_mem_nil).trans hAc2
    have hA12 := (hq9.1 3 List.not_mem_nil).trans hAc3
    have hA13 := (hq9.1 4 List.not_mem_nil).trans hAc4
    have hA14 := (hq9.1 7 List.not_mem_nil).trans hAc7
    have hF15x := (hq9.2.1 13 (by decide)).trans hF13
    have hF16x := (hq9.2.1 14 (by decide)).trans hF14
    have hF17x := (hq9.2.1 15 (by decide)).trans hF15
    have hF18x := (hq9.2.1 4 (by decide)).trans hF4
    have hF19x := (hq9.2.1 6 (by decide)).trans hF6
    have hfr := FR.step hfr hq9 (fun _ h => absurd h List.not_mem_nil) (by decide) (fun h => rfl)
    subst hr9
    refine lv_if_ne (tgt := 27) hx hb dX5_readVertex_23 (by decide) (fun c20 => absurd c20 (by decide)) (fun c20 => ?_)
    have E : pLine tx sz1 gg (bgi tx sz1 i0) = (6, (bgi tx sz1 i0), gg) := (pl_h (by rw [(ph_v hp5).trans (pv_6 (by omega))]; exact (show (6 : Nat) ≠ 0 by decide))).trans ((ph_v hp5).trans (pv_6 (by omega)))
    have EN : 6 ≠ 0 := (show (6 : Nat) ≠ 0 by decide)
    exact W.vret hx hb hr (fun t ht hW => ⟨⟨u9, rfl, ⟨(by first | (rw [hA14]; done) | (rw [hA14]; first | (exact Or.inl ⟨by rw [E]; exact EN, by rw [E]; exact ⟨h9_0, h9_1, h9_2⟩⟩) | (rw [E, PV]; exact Or.inr ⟨rfl, h9_0, h9_1, h9_2, hF19x, _, by omega, hF18x, rfl, by have DV2 := DV; rw [VQ] at DV2; exact DV2⟩))), hfr⟩, (show va_P (dC, dI) vwCl (qW cs b u9) t.heap by rw [ht]; exact hP)⟩, hS.F ht⟩) hS.2.2 dX5_readVertex_26
  · have c8 := mt (b_le (show Int32.toInt 6 = 6 from rfl) (nI_toInt (n := pV gg) (by omega))).mpr c8
    refine lv_iconst (v := 1) hx hb dX5_readVertex_13 (by decide) ?_
    refine lv_goto (tgt := 18) hx hb dX5_readVertex_14 (by decide) ?_
    refine lv_bipush (v := 6) hx hb dX5_readVertex_18 (by decide) ?_
    refine vp_callSi (va_Run.run (va_runV (As := [.int 1, .int (nI 6)]) (rest := []) ⟨hx, hb, hml, hown, noTs⟩ (q_X5_passes_1 l dC dI s.heap.size cs b u 6 hF7) ⟨cbE 2 (wd_561 hE) (wd_118 hE) (wd_558 hE) rfl rfl (by decide +kernel) ⟨Nat.le_of_ble_eq_true rfl, Nat.le_of_ble_eq_true rfl⟩, (wd_560 hE), (wd_10 hE)⟩ ⟨PQ.blind, q_recv 0 (by decide) rfl hK hP rfl, (q_pre (av := [.ref (b 0), .int 1, .int (nI 6)]) hK hP hJ hE)⟩ rfl rfl hl.1 rfl (lv_room (Nat.le_of_ble_eq_true rfl)) dX5_readVertex_20 ⟨Nat.le_of_ble_eq_true rfl, Nat.le_of_ble_eq_true rfl⟩)) (fun r21 hr21 => ?_)
    subst hr21
    refine lv_if_ne (tgt := 27) hx hb dX5_readVertex_23 (by decide) (fun c22 => ?_) (fun c22 => absurd c22 (by decide))
    refine lv_aload_n hx hb dX5_readVertex_27 rfl (lv_at hl 0 rfl) ?_
    refine lv_dup hx hb dX5_readVertex_28 rfl ?_
    refine q_get (v := .int (nI i0)) hx hb 0 (by decide) rfl (ly_X5 hE) hown hK hP rfl 4 (by decide) (wd_231 hE) (fun _ h9 => h9) (congrArg (fun z : Int32 => some (Value.int z)) hF4) dX5_readVertex_29 ?_
    refine lv_iconst (v := 1) hx hb dX5_readVertex_32 (by decide) ?_
    refine lv_iadd hx hb dX5_readVertex_33 ?_
    refine W.eq (g2 := F0 m 34 ls [.int (nI (i0 + 1)), .ref (b 0)]) (congrArg (fun z : Int32 => F0 m 34 ls (.int z :: [.ref (b 0)])) (nI_add i0 1)) ?_
    refine q_put (v := nI (i0 + 1)) (ty := .int) hx hb 0 4 (by decide) (ly_X5 hE) tyX5 tyX5_ok nmX5 hown hK hP hJ hAL hS rfl 4 (by decide) (wd_231 hE) (fun _ h9 => h9) rfl (by decide +kernel) rfl rfl rfl rfl (qE_put0 (by decide)) (Nat.le_of_ble_eq_true rfl) dX5_readVertex_34 (fun u23 H locs hf23 hq23 hP hS => ?_)
    have hA24 := (hq23.1 5 List.not_mem_nil).trans hAc5
    have hA25 := (hq23.1 2 List.not_mem_nil).trans hAc2
    have hA26 := (hq23.1 3 List.not_mem_nil).trans hAc3
    have hA27 := (hq23.1 4 List.not_mem_nil).trans hAc4
    have hA28 := (hq23.1 7 List.not_mem_nil).trans hAc7
    have hF29x := (hq23.2.1 13 (by decide)).trans hF13
    have hF30x := (hq23.2.1 14 (by decide)).trans hF14
    have hF31x := (hq23.2.1 15 (by decide)).trans hF15
    have hF32x := (hq23.2.1 6 (by decide)).trans hF6
    have hF33x := (hq23.2.1 7 (by decide)).trans hF7
    have hF34x := (hq23.2.1 8 (by decide)).trans hF8
    have hF35x := (hq23.2.1 9 (by decide)).trans hF9
    have hfr := FR.step hfr hq23 (fun _ h => absurd h List.not_mem_nil) (by decide) (fun h => rfl)
    have kdf1 := kd_f tx sz1 (bgi tx sz1 (i0 + 1))
    have bq1 : i0 + 1 = c1 → bgi tx sz1 (i0 + 1) = sz1 := fun h => by rw [h]; exact hp2.2.1
    have bz1 : i0 + 1 < c1 → bgi tx sz1 (i0 + 1) < sz1 := fun h => (hp2.2.2 _ h).1
    have vvl := vv_lt (tx := tx) (n := sz1) (p := bgi tx sz1 (i0 + 1))
    refine lv_aload_n hx hb dX5_readVertex_37 rfl (lv_at hl 0 rfl) ?_
    refine vp_callSi (va_Run.run (va_runV (As := []) (rest := []) ⟨hx, hb, hml, hown, noTs⟩ (q_X5_value l dC dI H.size cs b u23 tx hA24 k2 hA25 k3 hA26 k4 hA27 sz1 c1 (i0 + 1) hF29x hF30x hF31x hf23 (by first | assumption | omega | rfl | (congr 1; omega)) (by first | assumption | omega | rfl | (congr 1; omega)) (by first | assumption | omega | rfl | (congr 1; omega)) (by first | assumption | omega | rfl | (congr 1; omega))) ⟨cbE 0 (wd_569 hE) (wd_118 hE) (wd_566 hE) rfl rfl (by decide +kernel) ⟨Nat.le_of_ble_eq_true rfl, Nat.le_of_ble_eq_true rfl⟩, (wd_568 hE), (wd_11 hE)⟩ ⟨PQ.blind, q_recv 0 (by decide) rfl hK hP rfl, (q_pre (av := [.ref (b 0)]) hK hP hJ hE)⟩ rfl rfl hl.1 rfl (lv_room (Nat.le_of_ble_eq_true rfl)) dX5_readVertex_38 ⟨Nat.le_of_ble_eq_true rfl, Nat.le_of_ble_eq_true rfl⟩)) (fun r36 hr36 => ?_)
    subst hr36
    refine lv_istore_n (lv' := [(1, .int (nI (vv tx sz1 (bgi tx sz1 (i0 + 1))))), (0, .ref (b 0))]) hx hb dX5_readVertex_41 rfl hl (by decide) rfl (fun ls hl => ?_)
    refine lv_aload_n hx hb dX5_readVertex_42 rfl (lv_at hl 1 rfl) ?_
    refine lv_bipush (v := 6) hx hb dX5_readVertex_43 (by decide) ?_
    refine qc_i hAL hS hA (va_runV (As := [.int (nI 6)]) (rest := []) ⟨hx, hb, hml, hown, noTs⟩ (q_X5_stands l dC dI H.size cs b u23 tx hA24 k2 hA25 k3 hA26 k4 hA27 6 sz1 c1 (i0 + 1) ln x8 x9 hF29x hF30x hF31x hf23 hF32x hF33x hF34x hF35x (by first | assumption | omega | rfl | (congr 1; omega)) (by first | assumption | omega | rfl | (congr 1; omega)) (by first | assumption | omega | rfl | (congr 1; omega)) (by first | assumption | omega | rfl | (congr 1; omega)) (by first | assumption | omega | rfl | (congr 1; omega))) ⟨cbE 1 (wd_577 hE) (wd_118 hE) (wd_574 hE) rfl rfl (by decide +kernel) ⟨Nat.le_of_ble_eq_true rfl, Nat.le_of_ble_eq_true rfl⟩, (wd_576 hE), (wd_12 hE)⟩ ⟨PQ.blind, q_recv 0 (by decide) rfl hK hP rfl, (q_pre (av := [.ref (b 0), .int (nI 6)]) hK hP hJ hE)⟩ rfl rfl hl.1 rfl (lv_room (Nat.le_of_ble_eq_true rfl)) dX5_readVertex_45 ⟨Nat.le_of_ble_eq_true rfl, Nat.le_of_ble_eq_true rfl⟩) (fun r37 u37 H locs hpo37 hP hS => ?_)
    obtain ⟨hr37, hq37⟩ := hpo37
    have hA38 := (hq37.1 5 List.not_mem_nil).trans hA24
    have hA39 := (hq37.1 2 List.not_mem_nil).trans hA25
    have hA40 := (hq37.1 3 List.not_mem_nil).trans hA26
    have hA41 := (hq37.1 4 List.not_mem_nil).trans hA27
    have hA42 := (hq37.1 7 List.not_mem_nil).trans hA28
    have hF43x := (hq37.2.1 13 (by decide)).trans hF29x
    have hF44x := (hq37.2.1 14 (by decide)).trans hF30x
    have hF45x := (hq37.2.1 15 (by decide)).trans hF31x
    have hF46x := (hq37.2.1 6 (by decide)).trans hF32x
    have hF47x := (hq37.2.1 4 (by decide)).trans hf23
    have hfr := FR.step hfr hq37 (fun _ h => absurd h List.not_mem_nil) (by decide) (fun h => rfl)
    rcases hr37 with ⟨rfl, hb37⟩ | ⟨rfl, hb37⟩
    · have K6 := hb37.1
      have VQ : vv tx sz1 (bgi tx sz1 (i0 + 1)) = vl tx sz1 (bgi tx sz1 (i0 + 1)) := by unfold vv; rw [if_pos K6]
      refine lv_if_eq (tgt := 75) hx hb dX5_readVertex_48 (by decide) (fun c48 => absurd c48 (by decide)) (fun c48 => ?_)
      refine lv_aload_n hx hb dX5_readVertex_51 rfl (lv_at hl 1 rfl) ?_
      refine lv_iload_n hx hb dX5_readVertex_52 rfl (lv_at hl 0 rfl) ?_
      refine lv_iconst (v := 1) hx hb dX5_readVertex_53 (by decide) ?_
      refine lv_icmp_lt (tgt := 67) hx hb dX5_readVertex_54 (by decide) (fun c49 => ?_) (fun c49 => ?_)
      · have c49 := (b_lt (nI_toInt (n := vv tx sz1 (bgi tx sz1 (i0 + 1))) (by omega)) (show Int32.toInt 1 = 1 from rfl)).mp c49
        have E : pLine tx sz1 gg (bgi tx sz1 i0) = (4, bgi tx sz1 (i0 + 1), gg) := (pl_h (by rw [(ph_v hp5).trans (pv_4 (by omega) K6 (by show vl tx sz1 (bgi tx sz1 (i0 + 1)) < 1 ∨ 60 < vl tx sz1 (bgi tx sz1 (i0 + 1)); omega))]; exact (show (4 : Nat) ≠ 0 by decide))).trans ((ph_v hp5).trans (pv_4 (by omega) K6 (by show vl tx sz1 (bgi tx sz1 (i0 + 1)) < 1 ∨ 60 < vl tx sz1 (bgi tx sz1 (i0 + 1)); omega)))
        have EN : 4 ≠ 0 := (show (4 : Nat) ≠ 0 by decide)
        refine lv_iconst (v := 0) hx hb dX5_readVertex_67 (by decide) ?_
        refine lv_iconst (v := 4) hx hb dX5_readVertex_68 (by decide) ?_
        refine qc_i hAL hS hA (va_runV (As := [.int 0, .int (nI 4)]) (rest := []) ⟨hx, hb, hml, hown, noTs⟩ (q_X5_passes_0 l dC dI H.size cs b u37 tx hA38 k2 hA39 k3 hA40 k4 hA41 4 sz1 c1 (i0 + 1) ln hF43x hF44x hF45x hF47x hF46x hb37.2.1 (by first | assumption | omega | rfl | (congr 1; omega)) (by first | assumption | omega | rfl | (congr 1; omega)) (by first | assumption | omega | rfl | (congr 1; omega)) (by first | assumption | omega | rfl | (congr 1; omega)) (by first | assumption | omega | rfl | (congr 1; omega)) (by first | assumption | omega | rfl | (congr 1; omega))) ⟨cbE 2 (wd_561 hE) (wd_118 hE) (wd_558 hE) rfl rfl (by decide +kernel) ⟨Nat.le_of_ble_eq_true rfl, Nat.le_of_ble_eq_true rfl⟩, (wd_560 hE), (wd_10 hE)⟩ ⟨PQ.blind, q_recv 0 (by decide) rfl hK hP rfl, (q_pre (av := [.ref (b 0), .int 0, .int (nI 4)]) hK hP hJ hE)⟩ rfl rfl hl.1 rfl (lv_room (Nat.le_of_ble_eq_true rfl)) dX5_readVertex_69 ⟨Nat.le_of_ble_eq_true rfl, Nat.le_of_ble_eq_true rfl⟩) (fun r50 u50 H locs hpo50 hP hS => ?_)
        obtain ⟨hr50, h50_0, h50_1, h50_2, hq50⟩ := hpo50
        have hA51 := (hq50.1 5 List.not_mem_nil).trans hA38
        have hA52 := (hq50.1 2 List.not_mem_nil).trans hA39
        have hA53 := (hq50.1 3 List.not_mem_nil).trans hA40
        have hA54 := (hq50.1 4 List.not_mem_nil).trans hA41
        have hA55 := (hq50.1 7 List.not_mem_nil).trans hA42
        have hF56x := (hq50.2.1 13 (by decide)).trans hF43x
        have hF57x := (hq50.2.1 14 (by decide)).trans hF44x
        have hF58x := (hq50.2.1 15 (by decide)).trans hF45x
        have hF59x := (hq50.2.1 6 (by decide)).trans hF46x
        have hF60x := (hq50.2.1 4 (by decide)).trans hF47x
        have hfr := FR.step hfr hq50 (fun _ h => absurd h List.not_mem_nil) (by decide) (fun h => rfl)
        subst hr50
        refine lv_if_ne (tgt := 76) hx hb dX5_readVertex_72 (by decide) (fun c61 => absurd c61 (by decide)) (fun c61 => ?_)
        exact W.vret hx hb hr (fun t ht hW => ⟨⟨u50, rfl, ⟨(by first | (rw [hA55]; done) | (rw [hA55]; first | (exact Or.inl ⟨by rw [E]; exact EN, by rw [E]; exact ⟨h50_0, h50_1, h50_2⟩⟩) | (rw [E, PV]; exact Or.inr ⟨rfl, h50_0, h50_1, h50_2, hF59x, _, by omega, hF60x, rfl, by have DV2 := DV; rw [VQ] at DV2; exact DV2⟩))), hfr⟩, (show va_P (dC, dI) vwCl (qW cs b u50) t.heap by rw [ht]; exact hP)⟩, hS.F ht⟩) hS.2.2 dX5_readVertex_75
      · have c49 := mt (b_lt (nI_toInt (n := vv tx sz1 (bgi tx sz1 (i0 + 1))) (by omega)) (show Int32.toInt 1 = 1 from rfl)).mpr c49
        refine lv_iload_n hx hb dX5_readVertex_57 rfl (lv_at hl 0 rfl) ?_
        refine lv_bipush (v := 60) hx hb dX5_readVertex_58 (by decide) ?_
        refine lv_icmp_gt (tgt := 67) hx hb dX5_readVertex_60 (by decide) (fun c62 => ?_) (fun c62 => ?_)
        · have c62 := (b_lt (show Int32.toInt 60 = 60 from rfl) (nI_toInt (n := vv tx sz1 (bgi tx sz1 (i0 + 1))) (by omega))).mp c62
          have E : pLine tx sz1 gg (bgi tx sz1 i0) = (4, bgi tx sz1 (i0 + 1), gg) := (pl_h (by rw [(ph_v hp5).trans (pv_4 (by omega) K6 (by show vl tx sz1 (bgi tx sz1 (i0 + 1)) < 1 ∨ 60 < vl tx sz1 (bgi tx sz1 (i0 + 1)); omega))]; exact (show (4 : Nat) ≠ 0 by decide))).trans ((ph_v hp5).trans (pv_4 (by omega) K6 (by show vl tx sz1 (bgi tx sz1 (i0 + 1)) < 1 ∨ 60 < vl tx sz1 (bgi tx sz1 (i0 + 1)); omega)))
          have EN : 4 ≠ 0 := (show (4 : Nat) ≠ 0 by decide)
          refine lv_iconst (v := 0) hx hb dX5_readVertex_67 (by decide) ?_
          refine lv_iconst (v := 4) hx hb dX5_readVertex_68 (by decide) ?_
          refine qc_i hAL hS hA (va_runV (As := [.int 0, .int (nI 4)]) (rest := []) ⟨hx, hb, hml, hown, noTs⟩ (q_X5_passes_0 l dC dI H.size cs b u37 tx hA38 k2 hA39 k3 hA40 k4 hA41 4 sz1 c1 (i0 + 1) ln hF43x hF44x hF45x hF47x hF46x hb37.2.1 (by first | assumption | omega | rfl | (congr 1; omega)) (by first | assumption | omega | rfl | (congr 1; omega)) (by first | assumption | omega | rfl | (congr 1; omega)) (by first | assumption | omega | rfl | (congr 1; omega)) (by first | assumption | omega | rfl | (congr 1; omega)) (by first | assumption | omega | rfl | (congr 1; omega))) ⟨cbE 2 (wd_561 hE) (wd_118 hE) (wd_558 hE) rfl rfl (by decide +kernel) ⟨Nat.le_of_ble_eq_true rfl, Nat.le_of_ble_eq_true rfl⟩, (wd_560 hE), (wd_10 hE)⟩ ⟨PQ.blind, q_recv 0 (by decide) rfl hK hP rfl, (q_pre (av := [.ref (b 0), .int 0, .int (nI 4)]) hK hP hJ hE)⟩ rfl rfl hl.1 rfl (lv_room (Nat.le_of_ble_eq_true rfl)) dX5_readVertex_69 ⟨Nat.le_of_ble_eq_true rfl, Nat.le_of_ble_eq_true rfl⟩) (fun r63 u63 H locs hpo63 hP hS => ?_)
          obtain ⟨hr63, h63_0, h63_1, h63_2, hq63⟩ := hpo63
          have hA64 := (hq63.1 5 List.not_mem_nil).trans hA38
          have hA65 := (hq63.1 2 List.not_mem_nil).trans hA39
          have hA66 := (hq63.1 3 List.not_mem_nil).trans hA40
          have hA67 := (hq63.1 4 List.not_mem_nil).trans hA41
          have hA68 := (hq63.1 7 List.not_mem_nil).trans hA42
          have hF69x := (hq63.2.1 13 (by decide)).trans hF43x
          have hF70x := (hq63.2.1 14 (by decide)).trans hF44x
          have hF71x := (hq63.2.1 15 (by decide)).trans hF45x
          have hF72x := (hq63.2.1 6 (by decide)).trans hF46x
          have hF73x := (hq63.2.1 4 (by decide)).trans hF47x
          have hfr := FR.step hfr hq63 (fun _ h => absurd h List.not_mem_nil) (by decide) (fun h => rfl)
          subst hr63
          refine lv_if_ne (tgt := 76) hx hb dX5_readVertex_72 (by decide) (fun c74 => absurd c74 (by decide)) (fun c74 => ?_)
          exact W.vret hx hb hr (fun t ht hW => ⟨⟨u63, rfl, ⟨(by first | (rw [hA68]; done) | (rw [hA68]; first | (exact Or.inl ⟨by rw [E]; exact EN, by rw [E]; exact ⟨h63_0, h63_1, h63_2⟩⟩) | (rw [E, PV]; exact Or.inr ⟨rfl, h63_0, h63_1, h63_2, hF72x, _, by omega, hF73x, rfl, by have DV2 := DV; rw [VQ] at DV2; exact DV2⟩))), hfr⟩, (show va_P (dC, dI) vwCl (qW cs b u63) t.heap by rw [ht]; exact hP)⟩, hS.F ht⟩) hS.2.2 dX5_readVertex_75
        · have c62 := mt (b_lt (show Int32.toInt 60 = 60 from rfl) (nI_toInt (n := vv tx sz1 (bgi tx sz1 (i0 + 1))) (by omega))).mpr c62
          refine lv_iconst (v := 1) hx hb dX5_readVertex_63 (by decide) ?_
          refine lv_goto (tgt := 68) hx hb dX5_readVertex_64 (by decide) ?_
          refine lv_iconst (v := 4) hx hb dX5_readVertex_68 (by decide) ?_
          refine vp_callSi (va_Run.run (va_runV (As := [.int 1, .int (nI 4)]) (rest := []) ⟨hx, hb, hml, hown, noTs⟩ (q_X5_passes_1 l dC dI H.size cs b u37 4 hb37.2.1) ⟨cbE 2 (wd_561 hE) (wd_118 hE) (wd_558 hE) rfl rfl (by decide +kernel) ⟨Nat.le_of_ble_eq_true rfl, Nat.le_of_ble_eq_true rfl⟩, (wd_560 hE), (wd_10 hE)⟩ ⟨PQ.blind, q_recv 0 (by decide) rfl hK hP rfl, (q_pre (av := [.ref (b 0), .int 1, .int (nI 4)]) hK hP hJ hE)⟩ rfl rfl hl.1 rfl (lv_room (Nat.le_of_ble_eq_true rfl)) dX5_readVertex_69 ⟨Nat.le_of_ble_eq_true rfl, Nat.le_of_ble_eq_true rfl⟩)) (fun r75 hr75 => ?_)
          subst hr75
          refine lv_if_ne (tgt := 76) hx hb dX5_readVertex_72 (by decide) (fun c76 => ?_) (fun c76 => absurd c76 (by decide))
          refine lv_aload_n hx hb dX5_readVertex_76 rfl (lv_at hl 1 rfl) ?_
          refine lv_dup hx hb dX5_readVertex_77 rfl ?_
          refine q_get (v := .int (nI (i0 + 1))) hx hb 0 (by decide) rfl (ly_X5 hE) hown hK hP rfl 4 (by decide) (wd_231 hE) (fun _ h9 => h9) (congrArg (fun z : Int32 => some (Value.int z)) hF47x) dX5_readVertex_78 ?_
          refine lv_iconst (v := 1) hx hb dX5_readVertex_81 (by decide) ?_
          refine lv_iadd hx hb dX5_readVertex_82 ?_
          refine W.eq (g2 := F0 m 83 ls [.int (nI ((i0 + 1) + 1)), .ref (b 0)]) (congrArg (fun z : Int32 => F0 m 83 ls (.int z :: [.ref (b 0)])) (nI_add (i0 + 1) 1)) ?_
          refine q_put (v := nI ((i0 + 1) + 1)) (ty := .int) hx hb 0 4 (by decide) (ly_X5 hE) tyX5 tyX5_ok nmX5 hown hK hP hJ hAL hS rfl 4 (by decide) (wd_231 hE) (fun _ h9 => h9) rfl (by decide +kernel) rfl rfl rfl rfl (qE_put0 (by decide)) (Nat.le_of_ble_eq_true rfl) dX5_readVertex_83 (fun u77 H locs hf77 hq77 hP hS => ?_)
          have hA78 := (hq77.1 5 List.not_mem_nil).trans hA38
          have hA79 := (hq77.1 2 List.not_mem_nil).trans hA39
          have hA80 := (hq77.1 3 List.not_mem_nil).trans hA40
          have hA81 := (hq77.1 4 List.not_mem_nil).trans hA41
          have hA82 := (hq77.1 7 List.not_mem_nil).trans hA42
          have hF83x := (hq77.2.1 13 (by decide)).trans hF43x
          have hF84x := (hq77.2.1 14 (by decide)).trans hF44x
          have hF85x := (hq77.2.1 15 (by decide)).trans hF45x
          have hF86x := (hq77.2.1 6 (by decide)).trans hF46x
          have hF87x := (hq77.2.1 7 (by decide)).trans hb37.2.1
          have hF88x := (hq77.2.1 8 (by decide)).trans hb37.2.2.1
          have hF89x := (hq77.2.1 9 (by decide)).trans hb37.2.2.2
          have hfr := FR.step hfr hq77 (fun _ h => absurd h List.not_mem_nil) (by decide) (fun h => rfl)
          have kdf2 := kd_f tx sz1 (bgi tx sz1 (i0 + 1 + 1))
          have bq2 : i0 + 1 + 1 = c1 → bgi tx sz1 (i0 + 1 + 1) = sz1 := fun h => by rw [h]; exact hp2.2.1
          have bz2 : i0 + 1 + 1 < c1 → bgi tx sz1 (i0 + 1 + 1) < sz1 := fun h => (hp2.2.2 _ h).1
          have PV := (ph_v hp5).trans (pv_ok (g := gg) (by omega) K6 (by show 1 ≤ vl tx sz1 (bgi tx sz1 (i0 + 1)) ∧ vl tx sz1 (bgi tx sz1 (i0 + 1)) ≤ 60; omega))
          refine lv_aload_n hx hb dX5_readVertex_86 rfl (lv_at hl 1 rfl) ?_
          refine qc_i hAL hS hA (va_runV (As := []) (rest := []) ⟨hx, hb, hml, hown, noTs⟩ (q_X5_endsLine l dC dI H.size cs b u77 tx hA78 k2 hA79 k3 hA80 k4 hA81 sz1 c1 ((i0 + 1) + 1) ln x8 x9 hF83x hF84x hF85x hf77 hF86x hF87x hF88x hF89x (by first | assumption | omega | rfl | (congr 1; omega)) (by first | assumption | omega | rfl | (congr 1; omega)) (by first | assumption | omega | rfl | (congr 1; omega)) (by first | assumption | omega | rfl | (congr 1; omega))) ⟨cbE 0 (wd_581 hE) (wd_118 hE) (wd_578 hE) rfl rfl (by decide +kernel) ⟨Nat.le_of_ble_eq_true rfl, Nat.le_of_ble_eq_true rfl⟩, (wd_580 hE), (wd_13 hE)⟩ ⟨PQ.blind, q_recv 0 (by decide) rfl hK hP rfl, (q_pre (av := [.ref (b 0)]) hK hP hJ hE)⟩ rfl rfl hl.1 rfl (lv_room (Nat.le_of_ble_eq_true rfl)) dX5_readVertex_87 ⟨Nat.le_of_ble_eq_true rfl, Nat.le_of_ble_eq_true rfl⟩) (fun r90 u90 H locs hpo90 hP hS => ?_)
          obtain ⟨hr90, hq90⟩ := hpo90
          have hA91 := (hq90.1 5 List.not_mem_nil).trans hA78
          have hA92 := (hq90.1 2 List.not_mem_nil).trans hA79
          have hA93 := (hq90.1 3 List.not_mem_nil).trans hA80
          have hA94 := (hq90.1 4 List.not_mem_nil).trans hA81
          have hA95 := (hq90.1 7 List.not_mem_nil).trans hA82
          have hF96x := (hq90.2.1 13 (by decide)).trans hF83x
          have hF97x := (hq90.2.1 14 (by decide)).trans hF84x
          have hF98x := (hq90.2.1 15 (by decide)).trans hF85x
          have hfr := FR.step hfr hq90 (fun _ h => absurd h List.not_mem_nil) (by decide) (fun h => rfl)
          rcases hr90 with ⟨rfl, hb90⟩ | ⟨rfl, hb90⟩
          · have K9 := hb90.1
            have E := pl_ok (g := gg) (by rw [PV]) (show kd tx sz1 (pHead tx sz1 gg (bgi tx sz1 i0)).2.1 = 9 by rw [PV]; exact K9)
            refine lv_if_eq (tgt := 101) hx hb dX5_readVertex_90 (by decide) (fun c99 => absurd c99 (by decide)) (fun c99 => ?_)
            refine lv_aload_n hx hb dX5_readVertex_93 rfl (lv_at hl 1 rfl) ?_
            refine q_get (v := .ref (b 6)) hx hb 0 (by decide) rfl (ly_X5 hE) hown hK hP rfl 1 (by decide) (wd_228 hE) (fun _ h9 => h9) rfl dX5_readVertex_94 ?_
            refine lv_iload_n hx hb dX5_readVertex_97 rfl (lv_at hl 0 rfl) ?_
            refine qc_v hAL hS hA (va_runV (As := [.int (nI (vv tx sz1 (bgi tx sz1 (i0 + 1))))]) (rest := []) ⟨hx, hb, hml, hown, noTs⟩ (q_X7_addVertex l dC dI H.size cs b u90 dg hA95 (vv tx sz1 (bgi tx sz1 (i0 + 1))) gg (by first | assumption | omega | rfl | (congr 1; omega)) (by first | assumption | omega | rfl | (congr 1; omega)) (by first | assumption | omega | rfl | (congr 1; omega)) (by first | assumption | omega | rfl | (congr 1; omega))) ⟨cbE 1 (wd_585 hE) (wd_116 hE) (wd_582 hE) rfl rfl (by decide +kernel) ⟨Nat.le_of_ble_eq_true rfl, Nat.le_of_ble_eq_true rfl⟩, (wd_583 hE), (wd_584 hE)⟩ ⟨PQ.blind, q_recv 6 (by decide) rfl hK hP rfl, (q_pre (av := [.ref (b 6), .int (nI (vv tx sz1 (bgi tx sz1 (i0 + 1))))]) hK hP hJ hE)⟩ rfl rfl hl.1 rfl (lv_room (Nat.le_of_ble_eq_true rfl)) dX5_readVertex_98 ⟨Nat.le_of_ble_eq_true rfl, Nat.le_of_ble_eq_true rfl⟩) (fun u100 H locs hpo100 hP hS => ?_)
            obtain ⟨h100_0, hq100⟩ := hpo100
            obtain ⟨w101, hA101⟩ : ∃ g, rA u100 7 = g := ⟨_, rfl⟩
            rw [hA101] at h100_0
            have hA102 := (hq100.1 5 (by decide)).trans hA91
            have hA103 := (hq100.1 2 (by decide)).trans hA92
            have hA104 := (hq100.1 3 (by decide)).trans hA93
            have hA105 := (hq100.1 4 (by decide)).trans hA94
            have hF106x := (hq100.2.1 13 List.not_mem_nil).trans hF96x
            have hF107x := (hq100.2.1 14 List.not_mem_nil).trans hF97x
            have hF108x := (hq100.2.1 15 List.not_mem_nil).trans hF98x
            have hF109x := (hq100.2.1 4 List.not_mem_nil).trans hb90.2.1
            have hF110x := (hq100.2.1 6 List.not_mem_nil).trans hb90.2.2.1
            have hF111x := (hq100.2.1 7 List.not_mem_nil).trans hb90.2.2.2.1
            have hF112x := (hq100.2.1 8 List.not_mem_nil).trans hb90.2.2.2.2.1
            have hF113x := (hq100.2.1 9 List.not_mem_nil).trans hb90.2.2.2.2.2
            have hfr := FR.step hfr hq100 (by decide) (fun _ h => absurd h List.not_mem_nil) (fun h => rfl)
            have DV := h100_0
            exact W.vret hx hb hr (fun t ht hW => ⟨⟨u100, rfl, ⟨(by first | (rw [hA101]; done) | (rw [hA101]; first | (exact Or.inl ⟨by rw [E]; exact EN, by rw [E]; exact ⟨hF111x, hF112x, hF113x⟩⟩) | (rw [E, PV]; exact Or.inr ⟨rfl, hF111x, hF112x, hF113x, hF110x, _, by omega, hF109x, rfl, by have DV2 := DV; rw [VQ] at DV2; exact DV2⟩))), hfr⟩, (show va_P (dC, dI) vwCl (qW cs b u100) t.heap by rw [ht]; exact hP)⟩, hS.F ht⟩) hS.2.2 dX5_readVertex_101
          · have E := pl_e (g := gg) (by rw [PV]) (show kd tx sz1 (pHead tx sz1 gg (bgi tx sz1 i0)).2.1 ≠ 9 by rw [PV]; exact hb90.1)
            rw [PV] at E
            have EN := bad_ne (k := kd tx sz1 (bgi tx sz1 (i0 + 1 + 1)))
            refine lv_if_eq (tgt := 101) hx hb dX5_readVertex_90 (by decide) (fun c114 => ?_) (fun c114 => absurd c114 (by decide))
            exact W.vret hx hb hr (fun t ht hW => ⟨⟨u90, rfl, ⟨(by first | (rw [hA95]; done) | (rw [hA95]; first | (exact Or.inl ⟨by rw [E]; exact EN, by rw [E]; exact ⟨hb90.2.1, hb90.2.2.1, hb90.2.2.2⟩⟩) | (rw [E, PV]; exact Or.inr ⟨rfl, hb90.2.1, hb90.2.2.1, hb90.2.2.2, MISSING, _, by omega, MISSING, rfl, by have DV2 := DV; rw [VQ] at DV2; exact DV2⟩))), hfr⟩, (show va_P (dC, dI) vwCl (qW cs b u90) t.heap by rw [ht]; exact hP)⟩, hS.F ht⟩) hS.2.2 dX5_readVertex_101
    · have E : pLine tx sz1 gg (bgi tx sz1 i0) = (bad (kd tx sz1 (bgi tx sz1 (i0 + 1))), bgi tx sz1 (i0 + 1), gg) := (pl_h (by rw [(ph_v hp5).trans (pv_n (by omega) hb37.1)]; exact bad_ne)).trans ((ph_v hp5).trans (pv_n (by omega) hb37.1))
      have EN : bad (kd tx sz1 (bgi tx sz1 (i0 + 1))) ≠ 0 := bad_ne
      refine lv_if_eq (tgt := 75) hx hb dX5_readVertex_48 (by decide) (fun c115 => ?_) (fun c115 => absurd c115 (by decide))
      exact W.vret hx hb hr (fun t ht hW => ⟨⟨u37, rfl, ⟨(by first | (rw [hA42]; done) | (rw [hA42]; first | (exact Or.inl ⟨by rw [E]; exact EN, by rw [E]; exact ⟨hb37.2.1, hb37.2.2.1, hb37.2.2.2⟩⟩) | (rw [E, PV]; exact Or.inr ⟨rfl, hb37.2.1, hb37.2.2.1, hb37.2.2.2, hF46x, _, by omega, hF47x, rfl, by have DV2 := DV; rw [VQ] at DV2; exact DV2⟩))), hfr⟩, (show va_P (dC, dI) vwCl (qW cs b u37) t.heap by rw [ht]; exact hP)⟩, hS.F ht⟩) hS.2.2 dX5_readVertex_75
set_option maxHeartbeats 4000000 in
set_option maxRecDepth 100000 in
theorem q_X5_readPlace (l : Launch) (dC : Nat → ClassId) (dI : Nat → Nat → Nat) (sz : Nat) (cs : Nat → ClassId) (b : Nat → Nat) (u : RS) (tx : Nat → Int32) (hAc5 : rA u 5 = tx) (k2 : Nat → Int32) (hAc2 : rA u 2 = k2) (k3 : Nat → Int32) (hAc3 : rA u 3 = k3) (k4 : Nat → Int32) (hAc4 : rA u 4 = k4) (dg : Nat → Int32) (hAc7 : rA u 7 = dg) (sz1 : Nat) (c1 : Nat) (i0 : Nat) (ln : Nat) (x8 : Int32) (x9 : Int32) (gg : PGr) (hF13 : rF u 13 = nI c1) (hF14 : rF u 14 = 1) (hF15 : rF u 15 = nI sz1) (hF4 : rF u 4 = nI i0) (hF6 : rF u 6 = nI ln) (hF7 : rF u 7 = 0) (hF8 : rF u 8 = x8) (hF9 : rF u 9 = x9) (hp0 : BY tx) (hp1 : sz1 ≤ 700) (hp2 : QTK k2 k3 k4 tx sz1 c1) (hp3 : i0 ≤ c1) (hp4 : DG dg gg) : Met l yX5_readPlace [.code yX5_readPlace cX5_readPlace 2 (some .int)] ({ frames := 3, cells := 0, slots := 0, locals := 120 }) (PQ [.ref (b 0)] sz dC dI cs b u) (va_Qi (fun (r : Int32) (u' : RS) => ((r = -1 ∧ (kd tx sz1 (bgi tx sz1 i0) ≠ 6 ∧ FQ u' (bad (kd tx sz1 (bgi tx sz1 i0))) (bgi tx sz1 i0) ln ∧ rF u' 4 = nI i0)) ∨ (r = -1 ∧ (kd tx sz1 (bgi tx sz1 i0) = 6 ∧ pV gg ≤ vl tx sz1 (bgi tx sz1 i0) ∧ FQ u' 3 (bgi tx sz1 i0) ln ∧ rF u' 4 = nI i0)) ∨ (r = nI (vl tx sz1 (bgi tx sz1 i0)) ∧ (kd tx sz1 (bgi tx sz1 i0) = 6 ∧ vl tx sz1 (bgi tx sz1 i0) < pV gg ∧ rF u' 4 = nI (i0 + 1) ∧ rF u' 7 = 0 ∧ rF u' 8 = x8 ∧ rF u' 9 = x9))) ∧ FR [] [4, 7, 8, 9] false u u') (BQ dC dI cs b) (AQ b sz)) 0 0 (AQ b sz) := by
  refine Met.ofW (cc := cX5_readPlace) (maxL := 2) (ret := (some .int)) (by decide) rfl ?_
  intro p e s m args below meth c s₁ B hml hv
  obtain ⟨rfl, hsz, hP, hK, hJ, hE⟩ := hv
  have hx := B.exec
  have hb := B.bytes
  have hr := B.returns
  have hown : s.vm.findClass RX5 = some m.cls := findClass_of_methodNamed B.named
  have hlocks := B.notSynchronized
  subst hsz
  have hAL : ∀ i, i < 12 → AQ b s.heap.size (b i) := fun i h => Or.inl ⟨i, h, rfl⟩
  have hA : ∀ q : Nat, s.heap.size ≤ q → AQ b s.heap.size q := fun q h => Or.inr h
  have hS : va_S (AQ b s.heap.size) s.heap s.heap [] := va_S.rf
  have hfr : FR [] [4, 7, 8, 9] false u u := FR.refl
  have hl := lv_entry ([.ref (b 0)]) (n := 2) (Nat.le_of_ble_eq_true rfl)
  rw [lg_entry_eq]
  generalize (lg_sl ([.ref (b 0)]) ++ List.replicate (2 - (lg_sl ([.ref (b 0)])).length) Slot.unset).toArray = ls at hl ⊢
  have hl : lv_has ls 2 [(0, .ref (b 0))] := hl
  have hc7 := hp2.1
  have kdf := kd_f tx sz1 (bgi tx sz1 (i0))
  have bq : i0 = c1 → bgi tx sz1 (i0) = sz1 := fun h => by rw [h]; exact hp2.2.1
  have bz : i0 < c1 → bgi tx sz1 (i0) < sz1 := fun h => (hp2.2.2 _ h).1
  have d6 := hp4.2.1
  have e6 := hp4.2.2.2.1
  have w10 := hp4.2.2.2.2.2.1
  have vvl := vv_lt (tx := tx) (n := sz1) (p := (bgi tx sz1 i0))
  refine lv_aload_n hx hb dX5_readPlace_0 rfl (lv_at hl 0 rfl) ?_
  refine vp_callSi (va_Run.run (va_runV (As := []) (rest := []) ⟨hx, hb, hml, hown, noTs⟩ (q_X5_value l dC dI s.heap.size cs b u tx hAc5 k2 hAc2 k3 hAc3 k4 hAc4 sz1 c1 i0 hF13 hF14 hF15 hF4 (by first | assumption | omega | rfl | (congr 1; omega)) (by first | assumption | omega | rfl | (congr 1; omega)) (by first | assumption | omega | rfl | (congr 1; omega)) (by first | assumption | omega | rfl | (congr 1; omega))) ⟨cbE 0 (wd_569 hE) (wd_118 hE) (wd_566 hE) rfl rfl (by decide +kernel) ⟨Nat.le_of_ble_eq_true rfl, Nat.le_of_ble_eq_true rfl⟩, (wd_568 hE), (wd_11 hE)⟩ ⟨PQ.blind, q_recv 0 (by decide) rfl hK hP rfl, (q_pre (av := [.ref (b 0)]) hK hP hJ hE)⟩ rfl rfl hl.1 rfl (lv_room (Nat.le_of_ble_eq_true rfl)) dX5_readPlace_1 ⟨Nat.le_of_ble_eq_true rfl, Nat.le_of_ble_eq_true rfl⟩)) (fun r6 hr6 => ?_)
  subst hr6
  refine lv_istore_n (lv' := [(1, .int (nI (vv tx sz1 (bgi tx sz1 i0)))), (0, .ref (b 0))]) hx hb dX5_readPlace_4 rfl hl (by decide) rfl (fun ls hl => ?_)
  refine lv_aload_n hx hb dX5_readPlace_5 rfl (lv_at hl 1 rfl) ?_
  refine q_get (v := .int 0) hx hb 0 (by decide) rfl (ly_X5 hE) hown hK hP rfl 7 (by decide) (wd_234 hE) (fun _ h9 => h9) (congrArg (fun z : Int32 => some (Value.int z)) hF7) dX5_readPlace_6 ?_
  refine lv_if_ne (tgt := 37) hx hb dX5_readPlace_9 (by decide) (fun c7 => absurd c7 (by decide)) (fun c7 => ?_)
  refine lv_aload_n hx hb dX5_readPlace_12 rfl (lv_at hl 1 rfl) ?_
  refine lv_bipush (v := 6) hx hb dX5_readPlace_13 (by decide) ?_
  refine qc_i hAL hS hA (va_runV (As := [.int (nI 6)]) (rest := []) ⟨hx, hb, hml, hown, noTs⟩ (q_X5_stands l dC dI s.heap.size cs b u tx hAc5 k2 hAc2 k3 hAc3 k4 hAc4 6 sz1 c1 i0 ln x8 x9 hF13 hF14 hF15 hF4 hF6 hF7 hF8 hF9 (by first | assumption | omega | rfl | (congr 1; omega)) (by first | assumption | omega | rfl | (congr 1; omega)) (by first | assumption | omega | rfl | (congr 1; omega)) (by first | assumption | omega | rfl | (congr 1; omega)) (by first | assumption | omega | rfl | (congr 1; omega))) ⟨cbE 1 (wd_577 hE) (wd_118 hE) (wd_574 hE) rfl rfl (by decide +kernel) ⟨Nat.le_of_ble_eq_true rfl, Nat.le_of_ble_eq_true rfl⟩, (wd_576 hE), (wd_12 hE)⟩ ⟨PQ.blind, q_recv 0 (by decide) rfl hK hP rfl, (q_pre (av := [.ref (b 0), .int (nI 6)]) hK hP hJ hE)⟩ rfl rfl hl.1 rfl (lv_room (Nat.le_of_ble_eq_true rfl)) dX5_readPlace_15 ⟨Nat.le_of_ble_eq_true rfl, Nat.le_of_ble_eq_true rfl⟩) (fun r8 u8 H locs hpo8 hP hS => ?_)
  obtain ⟨hr8, hq8⟩ := hpo8
  have hA9 := (hq8.1 5 List.not_mem_nil).trans hAc5
  have hA10 := (hq8.1 2 List.not_mem_nil).trans hAc2
  have hA11 := (hq8.1 3 List.not_mem_nil).trans hAc3
  have hA12 := (hq8.1 4 List.not_mem_nil).trans hAc4
  have hA13 := (hq8.1 7 List.not_mem_nil).trans hAc7
  have hF14x := (hq8.2.1 13 (by decide)).trans hF13
  have hF15x := (hq8.2.1 14 (by decide)).trans hF14
  have hF16x := (hq8.2.1 15 (by decide)).trans hF15
  have hF17x := (hq8.2.1 4 (by decide)).trans hF4
  have hF18x := (hq8.2.1 6 (by decide)).trans hF6
  have hfr := FR.step hfr hq8 (fun _ h => absurd h List.not_mem_nil) (by decide) (fun h => rfl)
  rcases hr8 with ⟨rfl, hb8⟩ | ⟨rfl, hb8⟩
  · have K6 := hb8.1
    have VQ : vv tx sz1 (bgi tx sz1 i0) = vl tx sz1 (bgi tx sz1 i0) := by unfold vv; rw [if_pos K6]
    refine lv_if_eq (tgt := 37) hx hb dX5_readPlace_18 (by decide) (fun c19 => absurd c19 (by decide)) (fun c19 => ?_)
    refine lv_aload_n hx hb dX5_readPlace_21 rfl (lv_at hl 1 rfl) ?_
    refine lv_aload_n hx hb dX5_readPlace_22 rfl (lv_at hl 1 rfl) ?_
    refine q_get (v := .ref (b 6)) hx hb 0 (by decide) rfl (ly_X5 hE) hown hK hP rfl 1 (by decide) (wd_228 hE) (fun _ h9 => h9) rfl dX5_readPlace_23 ?_
    refine lv_iload_n hx hb dX5_readPlace_26 rfl (lv_at hl 0 rfl) ?_
    refine vp_callSi (va_Run.run (va_runV (As := [.int (nI (vv tx sz1 (bgi tx sz1 i0)))]) (rest := [.ref (b 0)]) ⟨hx, hb, hml, hown, noTs⟩ (q_X7_hasVertex l dC dI H.size cs b u8 dg hA13 (vv tx sz1 (bgi tx sz1 i0)) gg (by first | assumption | omega | rfl | (congr 1; omega)) (by first | assumption | omega | rfl | (congr 1; omega))) ⟨cbE 1 (wd_606 hE) (wd_116 hE) (wd_603 hE) rfl rfl (by decide +kernel) ⟨Nat.le_of_ble_eq_true rfl, Nat.le_of_ble_eq_true rfl⟩, (wd_604 hE), (wd_605 hE)⟩ ⟨PQ.blind, q_recv 6 (by decide) rfl hK hP rfl, (q_pre (av := [.ref (b 6), .int (nI (vv tx sz1 (bgi tx sz1 i0)))]) hK hP hJ hE)⟩ rfl rfl hl.1 rfl (lv_room (Nat.le_of_ble_eq_true rfl)) dX5_readPlace_27 ⟨Nat.le_of_ble_eq_true rfl, Nat.le_of_ble_eq_true rfl⟩)) (fun r20 hr20 => ?_)
    rcases hr20 with ⟨rfl, hb20⟩ | ⟨rfl, hb20⟩
    · refine lv_iconst (v := 3) hx hb dX5_readPlace_30 (by decide) ?_
      refine vp_callSi (va_Run.run (va_runV (As := [.int 1, .int (nI 3)]) (rest := []) ⟨hx, hb, hml, hown, noTs⟩ (q_X5_passes_1 l dC dI H.size cs b u8 3 hb8.2.1) ⟨cbE 2 (wd_561 hE) (wd_118 hE) (wd_558 hE) rfl rfl (by decide +kernel) ⟨Nat.le_of_ble_eq_true rfl, Nat.le_of_ble_eq_true rfl⟩, (wd_560 hE), (wd_10 hE)⟩ ⟨PQ.blind, q_recv 0 (by decide) rfl hK hP rfl, (q_pre (av := [.ref (b 0), .int 1, .int (nI 3)]) hK hP hJ hE)⟩ rfl rfl hl.1 rfl (lv_room (Nat.le_of_ble_eq_true rfl)) dX5_readPlace_31 ⟨Nat.le_of_ble_eq_true rfl, Nat.le_of_ble_eq_true rfl⟩)) (fun r21 hr21 => ?_)
      subst hr21
      refine lv_if_ne (tgt := 39) hx hb dX5_readPlace_34 (by decide) (fun c22 => ?_) (fun c22 => absurd c22 (by decide))
      refine lv_aload_n hx hb dX5_readPlace_39 rfl (lv_at hl 1 rfl) ?_
      refine lv_dup hx hb dX5_readPlace_40 rfl ?_
      refine q_get (v := .int (nI i0)) hx hb 0 (by decide) rfl (ly_X5 hE) hown hK hP rfl 4 (by decide) (wd_231 hE) (fun _ h9 => h9) (congrArg (fun z : Int32 => some (Value.int z)) hF17x) dX5_readPlace_41 ?_
      refine lv_iconst (v := 1) hx hb dX5_readPlace_44 (by decide) ?_
      refine lv_iadd hx hb dX5_readPlace_45 ?_
      refine W.eq (g2 := F0 m 46 ls [.int (nI (i0 + 1)), .ref (b 0)]) (congrArg (fun z : Int32 => F0 m 46 ls (.int z :: [.ref (b 0)])) (nI_add i0 1)) ?_
      refine q_put (v := nI (i0 + 1)) (ty := .int) hx hb 0 4 (by decide) (ly_X5 hE) tyX5 tyX5_ok nmX5 hown hK hP hJ hAL hS rfl 4 (by decide) (wd_231 hE) (fun _ h9 => h9) rfl (by decide +kernel) rfl rfl rfl rfl (qE_put0 (by decide)) (Nat.le_of_ble_eq_true rfl) dX5_readPlace_46 (fun u23 H locs hf23 hq23 hP hS => ?_)
      have hA24 := (hq23.1 5 List.not_mem_nil).trans hA9
      have hA25 := (hq23.1 2 List.not_mem_nil).trans hA10
      have hA26 := (hq23.1 3 List.not_mem_nil).trans hA11
      have hA27 := (hq23.1 4 List.not_mem_nil).trans hA12
      have hA28 := (hq23.1 7 List.not_mem_nil).trans hA13
      have hF29x := (hq23.2.1 13 (by decide)).trans hF14x
      have hF30x := (hq23.2.1 14 (by decide)).trans hF15x
      have hF31x := (hq23.2.1 15 (by decide)).trans hF16x
      have hF32x := (hq23.2.1 6 (by decide)).trans hF18x
      have hF33x := (hq23.2.1 7 (by decide)).trans hb8.2.1
      have hF34x := (hq23.2.1 8 (by decide)).trans hb8.2.2.1
      have hF35x := (hq23.2.1 9 (by decide)).trans hb8.2.2.2
      have hfr := FR.step hfr hq23 (fun _ h => absurd h List.not_mem_nil) (by decide) (fun h => rfl)
      refine lv_iload_n hx hb dX5_readPlace_49 rfl (lv_at hl 0 rfl) ?_
      exact W.iret (v := nI (vv tx sz1 (bgi tx sz1 i0))) hx hb hr (fun t ht hW => ⟨⟨nI (vv tx sz1 (bgi tx sz1 i0)), u23, rfl, ⟨(by first | exact Or.inl ⟨rfl, NN.1, NN.2, hf23⟩ | exact Or.inr (Or.inl ⟨rfl, K6, by omega, ⟨hF33x, hF34x, hF35x⟩, hf23⟩) | exact Or.inr (Or.inr ⟨by rw [VQ], K6, by omega, hf23, hF33x, hF34x, hF35x⟩)), hfr⟩, (show va_P (dC, dI) vwCl (qW cs b u23) t.heap by rw [ht]; exact hP)⟩, hS.F ht⟩) hS.2.2 dX5_readPlace_50
    · refine lv_iconst (v := 3) hx hb dX5_readPlace_30 (by decide) ?_
      refine qc_i hAL hS hA (va_runV (As := [.int 0, .int (nI 3)]) (rest := []) ⟨hx, hb, hml, hown, noTs⟩ (q_X5_passes_0 l dC dI H.size cs b u8 tx hA9 k2 hA10 k3 hA11 k4 hA12 3 sz1 c1 i0 ln hF14x hF15x hF16x hF17x hF18x hb8.2.1 (by first | assumption | omega | rfl | (congr 1; omega)) (by first | assumption | omega | rfl | (congr 1; omega)) (by first | assumption | omega | rfl | (congr 1; omega)) (by first | assumption | omega | rfl | (congr 1; omega)) (by first | assumption | omega | rfl | (congr 1; omega)) (by first | assumption | omega | rfl | (congr 1; omega))) ⟨cbE 2 (wd_561 hE) (wd_118 hE) (wd_558 hE) rfl rfl (by decide +kernel) ⟨Nat.le_of_ble_eq_true rfl, Nat.le_of_ble_eq_true rfl⟩, (wd_560 hE), (wd_10 hE)⟩ ⟨PQ.blind, q_recv 0 (by decide) rfl hK hP rfl, (q_pre (av := [.ref (b 0), .int 0, .int (nI 3)]) hK hP hJ hE)⟩ rfl rfl hl.1 rfl (lv_room (Nat.le_of_ble_eq_true rfl)) dX5_readPlace_31 ⟨Nat.le_of_ble_eq_true rfl, Nat.le_of_ble_eq_true rfl⟩) (fun r36 u36 H locs hpo36 hP hS => ?_)
      obtain ⟨hr36, h36_0, h36_1, h36_2, hq36⟩ := hpo36
      have hA37 := (hq36.1 5 List.not_mem_nil).trans hA9
      have hA38 := (hq36.1 2 List.not_mem_nil).trans hA10
      have hA39 := (hq36.1 3 List.not_mem_nil).trans hA11
      have hA40 := (hq36.1 4 List.not_mem_nil).trans hA12
      have hA41 := (hq36.1 7 List.not_mem_nil).trans hA13
      have hF42x := (hq36.2.1 13 (by decide)).trans hF14x
      have hF43x := (hq36.2.1 14 (by decide)).trans hF15x
      have hF44x := (hq36.2.1 15 (by decide)).trans hF16x
      have hF45x := (hq36.2.1 4 (by decide)).trans hF17x
      have hF46x := (hq36.2.1 6 (by decide)).trans hF18x
      have hfr := FR.step hfr hq36 (fun _ h => absurd h List.not_mem_nil) (by decide) (fun h => rfl)
      subst hr36
      refine lv_if_ne (tgt := 39) hx hb dX5_readPlace_34 (by decide) (fun c47 => absurd c47 (by decide)) (fun c47 => ?_)
      refine lv_iconst (v := -1) hx hb dX5_readPlace_37 (by decide) ?_
      exact W.iret (v := -1) hx hb hr (fun t ht hW => ⟨⟨-1, u36, rfl, ⟨(by first | exact Or.inl ⟨rfl, NN.1, NN.2, hF45x⟩ | exact Or.inr (Or.inl ⟨rfl, K6, by omega, ⟨h36_0, h36_1, h36_2⟩, hF45x⟩) | exact Or.inr (Or.inr ⟨by rw [VQ], K6, by omega, hF45x, h36_0, h36_1, h36_2⟩)), hfr⟩, (show va_P (dC, dI) vwCl (qW cs b u36) t.heap by rw [ht]; exact hP)⟩, hS.F ht⟩) hS.2.2 dX5_readPlace_38
  · have NN := id hb8
    refine lv_if_eq (tgt := 37) hx hb dX5_readPlace_18 (by decide) (fun c48 => ?_) (fun c48 => absurd c48 (by decide))
    refine lv_iconst (v := -1) hx hb dX5_readPlace_37 (by decide) ?_
    exact W.iret (v := -1) hx hb hr (fun t ht hW => ⟨⟨-1, u8, rfl, ⟨(by first | exact Or.inl ⟨rfl, NN.1, NN.2, hF17x⟩ | exact Or.inr (Or.inl ⟨rfl, K6, by omega, ⟨hb8.2.1, hb8.2.2.1, hb8.2.2.2⟩, hF17x⟩) | exact Or.inr (Or.inr ⟨by rw [VQ], K6, by omega, hF17x, hb8.2.1, hb8.2.2.1, hb8.2.2.2⟩)), hfr⟩, (show va_P (dC, dI) vwCl (qW cs b u8) t.heap by rw [ht]; exact hP)⟩, hS.F ht⟩) hS.2.2 dX5_readPlace_38
set_option maxHeartbeats 4000000 in
set_option maxRecDepth 100000 in
theorem q_X5_readIndex (l : Launch) (dC : Nat → ClassId) (dI : Nat → Nat → Nat) (sz : Nat) (cs : Nat → ClassId) (b : Nat → Nat) (u : RS) (tx : Nat → Int32) (hAc5 : rA u 5 = tx) (k2 : Nat → Int32) (hAc2 : rA u 2 = k2) (k3 : Nat → Int32) (hAc3 : rA u 3 = k3) (k4 : Nat → Int32) (hAc4 : rA u 4 = k4) (dg : Nat → Int32) (hAc7 : rA u 7 = dg) (v : Nat) (q0 : Nat) (sz1 : Nat) (c1 : Nat) (i0 : Nat) (ln : Nat) (x8 : Int32) (x9 : Int32) (gg : PGr) (hF13 : rF u 13 = nI c1) (hF14 : rF u 14 = 1) (hF15 : rF u 15 = nI sz1) (hF4 : rF u 4 = nI i0) (hF6 : rF u 6 = nI ln) (hF7 : rF u 7 = 0) (hF8 : rF u 8 = x8) (hF9 : rF u 9 = x9) (hp0 : BY tx) (hp1 : sz1 ≤ 700) (hp2 : QTK k2 k3 k4 tx sz1 c1) (hp3 : i0 ≤ c1) (hp4 : DG dg gg) (hp5 : v < pV gg) (hp6 : q0 ≤ 60) : Met l yX5_readIndex [.code yX5_readIndex cX5_readIndex 6 (some .int)] ({ frames := 3, cells := 0, slots := 0, locals := 120 }) (PQ [.ref (b 0), .int (nI v), .int (nI q0)] sz dC dI cs b u) (va_Qi (fun (r : Int32) (u' : RS) => ((r = -1 ∧ (kd tx sz1 (bgi tx sz1 i0) ≠ 6 ∧ FQ u' (bad (kd tx sz1 (bgi tx sz1 i0))) (bgi tx sz1 i0) ln ∧ rF u' 4 = nI i0)) ∨ (r = -1 ∧ (kd tx sz1 (bgi tx sz1 i0) = 6 ∧ (vl tx sz1 (bgi tx sz1 i0) = 0 ∨ pO gg v % vl tx sz1 (bgi tx sz1 i0) ≠ 0 ∨ (q0 ≠ 0 ∧ pO gg v / vl tx sz1 (bgi tx sz1 i0) ≠ q0)) ∧ FQ u' 4 (bgi tx sz1 i0) ln ∧ rF u' 4 = nI i0)) ∨ (r = nI (vl tx sz1 (bgi tx sz1 i0)) ∧ (kd tx sz1 (bgi tx sz1 i0) = 6 ∧ vl tx sz1 (bgi tx sz1 i0) ≠ 0 ∧ pO gg v % vl tx sz1 (bgi tx sz1 i0) = 0 ∧ (q0 = 0 ∨ pO gg v / vl tx sz1 (bgi tx sz1 i0) = q0) ∧ rF u' 4 = nI (i0 + 1) ∧ rF u' 7 = 0 ∧ rF u' 8 = x8 ∧ rF u' 9 = x9))) ∧ FR [] [4, 7, 8, 9] false u u') (BQ dC dI cs b) (AQ b sz)) 0 0 (AQ b sz) := by
  refine Met.ofW (cc := cX5_readIndex) (maxL := 6) (ret := (some .int)) (by decide) rfl ?_
  intro p e s m args below meth c s₁ B hml hv
  obtain ⟨rfl, hsz, hP, hK, hJ, hE⟩ := hv
  have hx := B.exec
  have hb := B.bytes
  have hr := B.returns
  have hown : s.vm.findClass RX5 = some m.cls := findClass_of_methodNamed B.named
  have hlocks := B.notSynchronized
  subst hsz
  have hAL : ∀ i, i < 12 → AQ b s.heap.size (b i) := fun i h => Or.inl ⟨i, h, rfl⟩
  have hA : ∀ q : Nat, s.heap.size ≤ q → AQ b s.heap.size q := fun q h => Or.inr h
  have hS : va_S (AQ b s.heap.size) s.heap s.heap [] := va_S.rf
  have hfr : FR [] [4, 7, 8, 9] false u u := FR.refl
  have hl := lv_entry ([.ref (b 0), .int (nI v), .int (nI q0)]) (n := 6) (Nat.le_of_ble_eq_true rfl)
  rw [lg_entry_eq]
  generalize (lg_sl ([.ref (b 0), .int (nI v), .int (nI q0)]) ++ List.replicate (6 - (lg_sl ([.ref (b 0), .int (nI v), .int (nI q0)])).length) Slot.unset).toArray = ls at hl ⊢
  have hl : lv_has ls 6 [(0, .ref (b 0)), (1, .int (nI v)), (2, .int (nI q0))] := hl
  have hc7 := hp2.1
  have kdf := kd_f tx sz1 (bgi tx sz1 (i0))
  have bq : i0 = c1 → bgi tx sz1 (i0) = sz1 := fun h => by rw [h]; exact hp2.2.1
  have bz : i0 < c1 → bgi tx sz1 (i0) < sz1 := fun h => (hp2.2.2 _ h).1
  have d6 := hp4.2.1
  have e6 := hp4.2.2.2.1
  have w10 := hp4.2.2.2.2.2.1
  have OV := hp4.2.2.2.2.2.2.1 v hp5
  have vvl := vv_lt (tx := tx) (n := sz1) (p := (bgi tx sz1 i0))
  have mlq := Nat.mod_le (pO gg v) (vv tx sz1 (bgi tx sz1 i0))
  have dlq := Nat.div_le_self (pO gg v) (vv tx sz1 (bgi tx sz1 i0))
  refine lv_aload_n hx hb dX5_readIndex_0 rfl (lv_at hl 0 rfl) ?_
  refine vp_callSi (va_Run.run (va_runV (As := []) (rest := []) ⟨hx, hb, hml, hown, noTs⟩ (q_X5_value l dC dI s.heap.size cs b u tx hAc5 k2 hAc2 k3 hAc3 k4 hAc4 sz1 c1 i0 hF13 hF14 hF15 hF4 (by first | assumption | omega | rfl | (congr 1; omega)) (by first | assumption | omega | rfl | (congr 1; omega)) (by first | assumption | omega | rfl | (congr 1; omega)) (by first | assumption | omega | rfl | (congr 1; omega))) ⟨cbE 0 (wd_569 hE) (wd_118 hE) (wd_566 hE) rfl rfl (by decide +kernel) ⟨Nat.le_of_ble_eq_true rfl, Nat.le_of_ble_eq_true rfl⟩, (wd_568 hE), (wd_11 hE)⟩ ⟨PQ.blind, q_recv 0 (by decide) rfl hK hP rfl, (q_pre (av := [.ref (b 0)]) hK hP hJ hE)⟩ rfl rfl hl.1 rfl (lv_room (Nat.le_of_ble_eq_true rfl)) dX5_readIndex_1 ⟨Nat.le_of_ble_eq_true rfl, Nat.le_of_ble_eq_true rfl⟩)) (fun r8 hr8 => ?_)
  subst hr8
  refine lv_istore_n (lv' := [(3, .int (nI (vv tx sz1 (bgi tx sz1 i0)))), (0, .ref (b 0)), (1, .int (nI v)), (2, .int (nI q0))]) hx hb dX5_readIndex_4 rfl hl (by decide) rfl (fun ls hl => ?_)
  refine lv_aload_n hx hb dX5_readIndex_5 rfl (lv_at hl 1 rfl) ?_
  refine q_get (v := .int 0) hx hb 0 (by decide) rfl (ly_X5 hE) hown hK hP rfl 7 (by decide) (wd_234 hE) (fun _ h9 => h9) (congrArg (fun z : Int32 => some (Value.int z)) hF7) dX5_readIndex_6 ?_
  refine lv_if_ne (tgt := 21) hx hb dX5_readIndex_9 (by decide) (fun c9 => absurd c9 (by decide)) (fun c9 => ?_)
  refine lv_aload_n hx hb dX5_readIndex_12 rfl (lv_at hl 1 rfl) ?_
  refine lv_bipush (v := 6) hx hb dX5_readIndex_13 (by decide) ?_
  refine qc_i hAL hS hA (va_runV (As := [.int (nI 6)]) (rest := []) ⟨hx, hb, hml, hown, noTs⟩ (q_X5_stands l dC dI s.heap.size cs b u tx hAc5 k2 hAc2 k3 hAc3 k4 hAc4 6 sz1 c1 i0 ln x8 x9 hF13 hF14 hF15 hF4 hF6 hF7 hF8 hF9 (by first | assumption | omega | rfl | (congr 1; omega)) (by first | assumption | omega | rfl | (congr 1; omega)) (by first | assumption | omega | rfl | (congr 1; omega)) (by first | assumption | omega | rfl | (congr 1; omega)) (by first | assumption | omega | rfl | (congr 1; omega))) ⟨cbE 1 (wd_577 hE) (wd_118 hE) (wd_574 hE) rfl rfl (by decide +kernel) ⟨Nat.le_of_ble_eq_true rfl, Nat.le_of_ble_eq_true rfl⟩, (wd_576 hE), (wd_12 hE)⟩ ⟨PQ.blind, q_recv 0 (by decide) rfl hK hP rfl, (q_pre (av := [.ref (b 0), .int (nI 6)]) hK hP hJ hE)⟩ rfl rfl hl.1 rfl (lv_room (Nat.le_of_ble_eq_true rfl)) dX5_readIndex_15 ⟨Nat.le_of_ble_eq_true rfl, Nat.le_of_ble_eq_true rfl⟩) (fun r10 u10 H locs hpo10 hP hS => ?_)
  obtain ⟨hr10, hq10⟩ := hpo10
  have hA11 := (hq10.1 5 List.not_mem_nil).trans hAc5
  have hA12 := (hq10.1 2 List.not_mem_nil).trans hAc2
  have hA13 := (hq10.1 3 List.not_mem_nil).trans hAc3
  have hA14 := (hq10.1 4 List.not_mem_nil).trans hAc4
  have hA15 := (hq10.1 7 List.not_mem_nil).trans hAc7
  have hF16x := (hq10.2.1 13 (by decide)).trans hF13
  have hF17x := (hq10.2.1 14 (by decide)).trans hF14
  have hF18x := (hq10.2.1 15 (by decide)).trans hF15
  have hF19x := (hq10.2.1 4 (by decide)).trans hF4
  have hF20x := (hq10.2.1 6 (by decide)).trans hF6
  have hfr := FR.step hfr hq10 (fun _ h => absurd h List.not_mem_nil) (by decide) (fun h => rfl)
  rcases hr10 with ⟨rfl, hb10⟩ | ⟨rfl, hb10⟩
  · have K6 := hb10.1
    have VQ : vv tx sz1 (bgi tx sz1 i0) = vl tx sz1 (bgi tx sz1 i0) := by unfold vv; rw [if_pos K6]
    refine lv_if_ne (tgt := 23) hx hb dX5_readIndex_18 (by decide) (fun c21 => ?_) (fun c21 => absurd c21 (by decide))
    refine lv_aload_n hx hb dX5_readIndex_23 rfl (lv_at hl 1 rfl) ?_
    refine q_get (v := .ref (b 6)) hx hb 0 (by decide) rfl (ly_X5 hE) hown hK hP rfl 1 (by decide) (wd_228 hE) (fun _ h9 => h9) rfl dX5_readIndex_24 ?_
    refine lv_iload_n hx hb dX5_readIndex_27 rfl (lv_at hl 2 rfl) ?_
    refine vp_callSi (va_Run.run (va_runV (As := [.int (nI v)]) (rest := []) ⟨hx, hb, hml, hown, noTs⟩ (q_X7_orderAt l dC dI H.size cs b u10 dg hA15 v (by first | assumption | omega | rfl | (congr 1; omega))) ⟨cbE 1 (wd_614 hE) (wd_116 hE) (wd_611 hE) rfl rfl (by decide +kernel) ⟨Nat.le_of_ble_eq_true rfl, Nat.le_of_ble_eq_true rfl⟩, (wd_612 hE), (wd_613 hE)⟩ ⟨PQ.blind, q_recv 6 (by decide) rfl hK hP rfl, (q_pre (av := [.ref (b 6), .int (nI v)]) hK hP hJ hE)⟩ rfl rfl hl.1 rfl (lv_room (Nat.le_of_ble_eq_true rfl)) dX5_readIndex_28 ⟨Nat.le_of_ble_eq_true rfl, Nat.le_of_ble_eq_true rfl⟩)) (fun r22 hr22 => ?_)
    have hr22 := hr22.trans (OV.1)
    subst hr22
    refine lv_istore (lv' := [(4, .int (nI (pO gg v))), (3, .int (nI (vv tx sz1 (bgi tx sz1 i0)))), (0, .ref (b 0)), (1, .int (nI v)), (2, .int (nI q0))]) hx hb dX5_readIndex_31 hl (by decide) rfl (fun ls hl => ?_)
    refine lv_iload_n hx hb dX5_readIndex_33 rfl (lv_at hl 1 rfl) ?_
    refine lv_iconst (v := 1) hx hb dX5_readIndex_34 (by decide) ?_
    refine lv_icmp_lt (tgt := 51) hx hb dX5_readIndex_35 (by decide) (fun c23 => ?_) (fun c23 => ?_)
    · have c23 := (b_lt (nI_toInt (n := vv tx sz1 (bgi tx sz1 i0)) (by omega)) (show Int32.toInt 1 = 1 from rfl)).mp c23
      refine lv_iconst (v := 0) hx hb dX5_readIndex_51 (by decide) ?_
      refine lv_istore (lv' := [(5, .int 0), (4, .int (nI (pO gg v))), (3, .int (nI (vv tx sz1 (bgi tx sz1 i0)))), (0, .ref (b 0)), (1, .int (nI v)), (2, .int (nI q0))]) hx hb dX5_readIndex_52 hl (by decide) rfl (fun ls hl => ?_)
      refine lv_aload_n hx hb dX5_readIndex_54 rfl (lv_at hl 3 rfl) ?_
      refine lv_iload hx hb dX5_readIndex_55 (lv_at hl 0 rfl) ?_
      refine lv_if_eq (tgt := 78) hx hb dX5_readIndex_57 (by decide) (fun c24 => ?_) (fun c24 => absurd c24 (by decide))
      refine lv_iconst (v := 0) hx hb dX5_readIndex_78 (by decide) ?_
      refine lv_iconst (v := 4) hx hb dX5_readIndex_79 (by decide) ?_
      refine qc_i hAL hS hA (va_runV (As := [.int 0, .int (nI 4)]) (rest := []) ⟨hx, hb, hml, hown, noTs⟩ (q_X5_passes_0 l dC dI H.size cs b u10 tx hA11 k2 hA12 k3 hA13 k4 hA14 4 sz1 c1 i0 ln hF16x hF17x hF18x hF19x hF20x hb10.2.1 (by first | assumption | omega | rfl | (congr 1; omega)) (by first | assumption | omega | rfl | (congr 1; omega)) (by first | assumption | omega | rfl | (congr 1; omega)) (by first | assumption | omega | rfl | (congr 1; omega)) (by first | assumption | omega | rfl | (congr 1; omega)) (by first | assumption | omega | rfl | (congr 1; omega))) ⟨cbE 2 (wd_561 hE) (wd_118 hE) (wd_558 hE) rfl rfl (by decide +kernel) ⟨Nat.le_of_ble_eq_true rfl, Nat.le_of_ble_eq_true rfl⟩, (wd_560 hE), (wd_10 hE)⟩ ⟨PQ.blind, q_recv 0 (by decide) rfl hK hP rfl, (q_pre (av := [.ref (b 0), .int 0, .int (nI 4)]) hK hP hJ hE)⟩ rfl rfl hl.1 rfl (lv_room (Nat.le_of_ble_eq_true rfl)) dX5_readIndex_80 ⟨Nat.le_of_ble_eq_true rfl, Nat.le_of_ble_eq_true rfl⟩) (fun r25 u25 H locs hpo25 hP hS => ?_)
      obtain ⟨hr25, h25_0, h25_1, h25_2, hq25⟩ := hpo25
      have hA26 := (hq25.1 5 List.not_mem_nil).trans hA11
      have hA27 := (hq25.1 2 List.not_mem_nil).trans hA12
      have hA28 := (hq25.1 3 List.not_mem_nil).trans hA13
      have hA29 := (hq25.1 4 List.not_mem_nil).trans hA14
      have hA30 := (hq25.1 7 List.not_mem_nil).trans hA15
      have hF31x := (hq25.2.1 13 (by decide)).trans hF16x
      have hF32x := (hq25.2.1 14 (by decide)).trans hF17x
      have hF33x := (hq25.2.1 15 (by decide)).trans hF18x
      have hF34x := (hq25.2.1 4 (by decide)).trans hF19x
      have hF35x := (hq25.2.1 6 (by decide)).trans hF20x
      have hfr := FR.step hfr hq25 (fun _ h => absurd h List.not_mem_nil) (by decide) (fun h => rfl)
      subst hr25
      refine lv_if_ne (tgt := 88) hx hb dX5_readIndex_83 (by decide) (fun c36 => absurd c36 (by decide)) (fun c36 => ?_)
      refine lv_iconst (v := -1) hx hb dX5_readIndex_86 (by decide) ?_
      exact W.iret (v := -1) hx hb hr (fun t ht hW => ⟨⟨-1, u25, rfl, ⟨(by first | exact Or.inl ⟨rfl, NN.1, NN.2, hF34x⟩ | exact Or.inr (Or.inl ⟨rfl, K6, by rw [← VQ]; first | exact Or.inl (by omega) | exact Or.inr (Or.inl (by omega)) | exact Or.inr (Or.inr ⟨by omega, by omega⟩), ⟨h25_0, h25_1, h25_2⟩, hF34x⟩) | exact Or.inr (Or.inr ⟨by rw [VQ], K6, by rw [← VQ]; omega, by rw [← VQ]; omega, by rw [← VQ]; first | exact Or.inl (by omega) | exact Or.inr (by omega), hF34x, h25_0, h25_1, h25_2⟩)), hfr⟩, (show va_P (dC, dI) vwCl (qW cs b u25) t.heap by rw [ht]; exact hP)⟩, hS.F ht⟩) hS.2.2 dX5_readIndex_87
    · have c23 := mt (b_lt (nI_toInt (n := vv tx sz1 (bgi tx sz1 i0)) (by omega)) (show Int32.toInt 1 = 1 from rfl)).mpr c23
      refine lv_iload hx hb dX5_readIndex_38 (lv_at hl 0 rfl) ?_
      refine lv_iload_n hx hb dX5_readIndex_40 rfl (lv_at hl 1 rfl) ?_
      refine vp_callSi (va_Run.run (va_runSN (As := [.int (nI (pO gg v)), .int (nI (vv tx sz1 (bgi tx sz1 i0)))]) (rest := []) ⟨hx, hb, hml, hown, noTs⟩ (q_X11_rest l dC dI H.size cs b u10 (pO gg v) (vv tx sz1 (bgi tx sz1 i0)) (by first | assumption | omega | rfl | (congr 1; omega)) (by first | assumption | omega | rfl | (congr 1; omega)) (by first | assumption | omega | rfl | (congr 1; omega))) ⟨cnE 2 (wd_617 hE) (wd_115 hE) (wd_615 hE) rfl rfl (by decide +kernel) ⟨Nat.le_of_ble_eq_true rfl, Nat.le_of_ble_eq_true rfl⟩, (wd_616 hE), trivial⟩ ⟨PQ.blind, (q_pre (av := [.int (nI (pO gg v)), .int (nI (vv tx sz1 (bgi tx sz1 i0)))]) hK hP hJ hE)⟩ rfl rfl hl.1 rfl (lv_room (Nat.le_of_ble_eq_true rfl)) dX5_readIndex_41 ⟨Nat.le_of_ble_eq_true rfl, Nat.le_of_ble_eq_true rfl⟩)) (fun r37 hr37 => ?_)
      subst hr37
      refine lv_if_ne (tgt := 51) hx hb dX5_readIndex_44 (by decide) (fun c38 => ?_) (fun c38 => ?_)
      · have c38 := mt (b_eq (nI_toInt (n := (pO gg v) % (vv tx sz1 (bgi tx sz1 i0))) (by omega)) (show Int32.toInt 0 = 0 from rfl)).mpr c38
        refine lv_iconst (v := 0) hx hb dX5_readIndex_51 (by decide) ?_
        refine lv_istore (lv' := [(5, .int 0), (4, .int (nI (pO gg v))), (3, .int (nI (vv tx sz1 (bgi tx sz1 i0)))), (0, .ref (b 0)), (1, .int (nI v)), (2, .int (nI q0))]) hx hb dX5_readIndex_52 hl (by decide) rfl (fun ls hl => ?_)
        refine lv_aload_n hx hb dX5_readIndex_54 rfl (lv_at hl 3 rfl) ?_
        refine lv_iload hx hb dX5_readIndex_55 (lv_at hl 0 rfl) ?_
        refine lv_if_eq (tgt := 78) hx hb dX5_readIndex_57 (by decide) (fun c39 => ?_) (fun c39 => absurd c39 (by decide))
        refine lv_iconst (v := 0) hx hb dX5_readIndex_78 (by decide) ?_
        refine lv_iconst (v := 4) hx hb dX5_readIndex_79 (by decide) ?_
        refine qc_i hAL hS hA (va_runV (As := [.int 0, .int (nI 4)]) (rest := []) ⟨hx, hb, hml, hown, noTs⟩ (q_X5_passes_0 l dC dI H.size cs b u10 tx hA11 k2 hA12 k3 hA13 k4 hA14 4 sz1 c1 i0 ln hF16x hF17x hF18x hF19x hF20x hb10.2.1 (by first | assumption | omega | rfl | (congr 1; omega)) (by first | assumption | omega | rfl | (congr 1; omega)) (by first | assumption | omega | rfl | (congr 1; omega)) (by first | assumption | omega | rfl | (congr 1; omega)) (by first | assumption | omega | rfl | (congr 1; omega)) (by first | assumption | omega | rfl | (congr 1; omega))) ⟨cbE 2 (wd_561 hE) (wd_118 hE) (wd_558 hE) rfl rfl (by decide +kernel) ⟨Nat.le_of_ble_eq_true rfl, Nat.le_of_ble_eq_true rfl⟩, (wd_560 hE), (wd_10 hE)⟩ ⟨PQ.blind, q_recv 0 (by decide) rfl hK hP rfl, (q_pre (av := [.ref (b 0), .int 0, .int (nI 4)]) hK hP hJ hE)⟩ rfl rfl hl.1 rfl (lv_room (Nat.le_of_ble_eq_true rfl)) dX5_readIndex_80 ⟨Nat.le_of_ble_eq_true rfl, Nat.le_of_ble_eq_true rfl⟩) (fun r40 u40 H locs hpo40 hP hS => ?_)
        obtain ⟨hr40, h40_0, h40_1, h40_2, hq40⟩ := hpo40
        have hA41 := (hq40.1 5 List.not_mem_nil).trans hA11
        have hA42 := (hq40.1 2 List.not_mem_nil).trans hA12
        have hA43 := (hq40.1 3 List.not_mem_nil).trans hA13
        have hA44 := (hq40.1 4 List.not_mem_nil).trans hA14
        have hA45 := (hq40.1 7 List.not_mem_nil).trans hA15
        have hF46x := (hq40.2.1 13 (by decide)).trans hF16x
        have hF47x := (hq40.2.1 14 (by decide)).trans hF17x
        have hF48x := (hq40.2.1 15 (by decide)).trans hF18x
        have hF49x := (hq40.2.1 4 (by decide)).trans hF19x
        have hF50x := (hq40.2.1 6 (by decide)).trans hF20x
        have hfr := FR.step hfr hq40 (fun _ h => absurd h List.not_mem_nil) (by decide) (fun h => rfl)
        subst hr40
        refine lv_if_ne (tgt := 88) hx hb dX5_readIndex_83 (by decide) (fun c51 => absurd c51 (by decide)) (fun c51 => ?_)
        refine lv_iconst (v := -1) hx hb dX5_readIndex_86 (by decide) ?_
        exact W.iret (v := -1) hx hb hr (fun t ht hW => ⟨⟨-1, u40, rfl, ⟨(by first | exact Or.inl ⟨rfl, NN.1, NN.2, hF49x⟩ | exact Or.inr (Or.inl ⟨rfl, K6, by rw [← VQ]; first | exact Or.inl (by omega) | exact Or.inr (Or.inl (by omega)) | exact Or.inr (Or.inr ⟨by omega, by omega⟩), ⟨h40_0, h40_1, h40_2⟩, hF49x⟩) | exact Or.inr (Or.inr ⟨by rw [VQ], K6, by rw [← VQ]; omega, by rw [← VQ]; omega, by rw [← VQ]; first | exact Or.inl (by omega) | exact Or.inr (by omega), hF49x, h40_0, h40_1, h40_2⟩)), hfr⟩, (show va_P (dC, dI) vwCl (qW cs b u40) t.heap by rw [ht]; exact hP)⟩, hS.F ht⟩) hS.2.2 dX5_readIndex_87
      · have c38 := (b_eq (nI_toInt (n := (pO gg v) % (vv tx sz1 (bgi tx sz1 i0))) (by omega)) (show Int32.toInt 0 = 0 from rfl)).mp c38
        refine lv_iconst (v := 1) hx hb dX5_readIndex_47 (by decide) ?_
        refine lv_goto (tgt := 52) hx hb dX5_readIndex_48 (by decide) ?_
        refine lv_istore (lv' := [(5, .int 1), (4, .int (nI (pO gg v))), (3, .int (nI (vv tx sz1 (bgi tx sz1 i0)))), (0, .ref (b 0)), (1, .int (nI v)), (2, .int (nI q0))]) hx hb dX5_readIndex_52 hl (by decide) rfl (fun ls hl => ?_)
        refine lv_aload_n hx hb dX5_readIndex_54 rfl (lv_at hl 3 rfl) ?_
        refine lv_iload hx hb dX5_readIndex_55 (lv_at hl 0 rfl) ?_
        refine lv_if_eq (tgt := 78) hx hb dX5_readIndex_57 (by decide) (fun c52 => absurd c52 (by decide)) (fun c52 => ?_)
        refine lv_iload_n hx hb dX5_readIndex_60 rfl (lv_at hl 5 rfl) ?_
        refine lv_if_eq (tgt := 74) hx hb dX5_readIndex_61 (by decide) (fun c53 => ?_) (fun c53 => ?_)
        · have c53 := (b_eq (nI_toInt (n := q0) (by omega)) (show Int32.toInt 0 = 0 from rfl)).mp c53
          refine lv_iconst (v := 1) hx hb dX5_readIndex_74 (by decide) ?_
          refine lv_goto (tgt := 79) hx hb dX5_readIndex_75 (by decide) ?_
          refine lv_iconst (v := 4) hx hb dX5_readIndex_79 (by decide) ?_
          refine vp_callSi (va_Run.run (va_runV (As := [.int 1, .int (nI 4)]) (rest := []) ⟨hx, hb, hml, hown, noTs⟩ (q_X5_passes_1 l dC dI H.size cs b u10 4 hb10.2.1) ⟨cbE 2 (wd_561 hE) (wd_118 hE) (wd_558 hE) rfl rfl (by decide +kernel) ⟨Nat.le_of_ble_eq_true rfl, Nat.le_of_ble_eq_true rfl⟩, (wd_560 hE), (wd_10 hE)⟩ ⟨PQ.blind, q_recv 0 (by decide) rfl hK hP rfl, (q_pre (av := [.ref (b 0), .int 1, .int (nI 4)]) hK hP hJ hE)⟩ rfl rfl hl.1 rfl (lv_room (Nat.le_of_ble_eq_true rfl)) dX5_readIndex_80 ⟨Nat.le_of_ble_eq_true rfl, Nat.le_of_ble_eq_true rfl⟩)) (fun r54 hr54 => ?_)
          subst hr54
          refine lv_if_ne (tgt := 88) hx hb dX5_readIndex_83 (by decide) (fun c55 => ?_) (fun c55 => absurd c55 (by decide))
          refine lv_aload_n hx hb dX5_readIndex_88 rfl (lv_at hl 3 rfl) ?_
          refine lv_dup hx hb dX5_readIndex_89 rfl ?_
          refine q_get (v := .int (nI i0)) hx hb 0 (by decide) rfl (ly_X5 hE) hown hK hP rfl 4 (by decide) (wd_231 hE) (fun _ h9 => h9) (congrArg (fun z : Int32 => some (Value.int z)) hF19x) dX5_readIndex_90 ?_
          refine lv_iconst (v := 1) hx hb dX5_readIndex_93 (by decide) ?_
          refine lv_iadd hx hb dX5_readIndex_94 ?_
          refine W.eq (g2 := F0 m 95 ls [.int (nI (i0 + 1)), .ref (b 0)]) (congrArg (fun z : Int32 => F0 m 95 ls (.int z :: [.ref (b 0)])) (nI_add i0 1)) ?_
          refine q_put (v := nI (i0 + 1)) (ty := .int) hx hb 0 4 (by decide) (ly_X5 hE) tyX5 tyX5_ok nmX5 hown hK hP hJ hAL hS rfl 4 (by decide) (wd_231 hE) (fun _ h9 => h9) rfl (by decide +kernel) rfl rfl rfl rfl (qE_put0 (by decide)) (Nat.le_of_ble_eq_true rfl) dX5_readIndex_95 (fun u56 H locs hf56 hq56 hP hS => ?_)
          have hA57 := (hq56.1 5 List.not_mem_nil).trans hA11
          have hA58 := (hq56.1 2 List.not_mem_nil).trans hA12
          have hA59 := (hq56.1 3 List.not_mem_nil).trans hA13
          have hA60 := (hq56.1 4 List.not_mem_nil).trans hA14
          have hA61 := (hq56.1 7 List.not_mem_nil).trans hA15
          have hF62x := (hq56.2.1 13 (by decide)).trans hF16x
          have hF63x := (hq56.2.1 14 (by decide)).trans hF17x
          have hF64x := (hq56.2.1 15 (by decide)).trans hF18x
          have hF65x := (hq56.2.1 6 (by decide)).trans hF20x
          have hF66x := (hq56.2.1 7 (by decide)).trans hb10.2.1
          have hF67x := (hq56.2.1 8 (by decide)).trans hb10.2.2.1
          have hF68x := (hq56.2.1 9 (by decide)).trans hb10.2.2.2
          have hfr := FR.step hfr hq56 (fun _ h => absurd h List.not_mem_nil) (by decide) (fun h => rfl)
          refine lv_iload_n hx hb dX5_readIndex_98 rfl (lv_at hl 2 rfl) ?_
          exact W.iret (v := nI (vv tx sz1 (bgi tx sz1 i0))) hx hb hr (fun t ht hW => ⟨⟨nI (vv tx sz1 (bgi tx sz1 i0)), u56, rfl, ⟨(by first | exact Or.inl ⟨rfl, NN.1, NN.2, hf56⟩ | exact Or.inr (Or.inl ⟨rfl, K6, by rw [← VQ]; first | exact Or.inl (by omega) | exact Or.inr (Or.inl (by omega)) | exact Or.inr (Or.inr ⟨by omega, by omega⟩), ⟨hF66x, hF67x, hF68x⟩, hf56⟩) | exact Or.inr (Or.inr ⟨by rw [VQ], K6, by rw [← VQ]; omega, by rw [← VQ]; omega, by rw [← VQ]; first | exact Or.inl (by omega) | exact Or.inr (by omega), hf56, hF66x, hF67x, hF68x⟩)), hfr⟩, (show va_P (dC, dI) vwCl (qW cs b u56) t.heap by rw [ht]; exact hP)⟩, hS.F ht⟩) hS.2.2 dX5_readIndex_99
        · have c53 := mt (b_eq (nI_toInt (n := q0) (by omega)) (show Int32.toInt 0 = 0 from rfl)).mpr c53
          refine lv_iload hx hb dX5_readIndex_64 (lv_at hl 1 rfl) ?_
          refine lv_iload_n hx hb dX5_readIndex_66 rfl (lv_at hl 2 rfl) ?_
          refine vp_callSi (va_Run.run (va_runSN (As := [.int (nI (pO gg v)), .int (nI (vv tx sz1 (bgi tx sz1 i0)))]) (rest := [.ref (b 0)]) ⟨hx, hb, hml, hown, noTs⟩ (q_X11_share l dC dI H.size cs b u10 (pO gg v) (vv tx sz1 (bgi tx sz1 i0)) (by first | assumption | omega | rfl | (congr 1; omega)) (by first | assumption | omega | rfl | (congr 1; omega)) (by first | assumption | omega | rfl | (congr 1; omega))) ⟨cnE 2 (wd_620 hE) (wd_115 hE) (wd_618 hE) rfl rfl (by decide +kernel) ⟨Nat.le_of_ble_eq_true rfl, Nat.le_of_ble_eq_true rfl⟩, (wd_619 hE), trivial⟩ ⟨PQ.blind, (q_pre (av := [.int (nI (pO gg v)), .int (nI (vv tx sz1 (bgi tx sz1 i0)))]) hK hP hJ hE)⟩ rfl rfl hl.1 rfl (lv_room (Nat.le_of_ble_eq_true rfl)) dX5_readIndex_67 ⟨Nat.le_of_ble_eq_true rfl, Nat.le_of_ble_eq_true rfl⟩)) (fun r69 hr69 => ?_)
          subst hr69
          refine lv_iload_n hx hb dX5_readIndex_70 rfl (lv_at hl 5 rfl) ?_
          refine lv_icmp_ne (tgt := 78) hx hb dX5_readIndex_71 (by decide) (fun c70 => ?_) (fun c70 => ?_)
          · have c70 := mt (b_eq (nI_toInt (n := (pO gg v) / (vv tx sz1 (bgi tx sz1 i0))) (by omega)) (nI_toInt (n := q0) (by omega))).mpr c70
            refine lv_iconst (v := 0) hx hb dX5_readIndex_78 (by decide) ?_
            refine lv_iconst (v := 4) hx hb dX5_readIndex_79 (by decide) ?_
            refine qc_i hAL hS hA (va_runV (As := [.int 0, .int (nI 4)]) (rest := []) ⟨hx, hb, hml, hown, noTs⟩ (q_X5_passes_0 l dC dI H.size cs b u10 tx hA11 k2 hA12 k3 hA13 k4 hA14 4 sz1 c1 i0 ln hF16x hF17x hF18x hF19x hF20x hb10.2.1 (by first | assumption | omega | rfl | (congr 1; omega)) (by first | assumption | omega | rfl | (congr 1; omega)) (by first | assumption | omega | rfl | (congr 1; omega)) (by first | assumption | omega | rfl | (congr 1; omega)) (by first | assumption | omega | rfl | (congr 1; omega)) (by first | assumption | omega | rfl | (congr 1; omega))) ⟨cbE 2 (wd_561 hE) (wd_118 hE) (wd_558 hE) rfl rfl (by decide +kernel) ⟨Nat.le_of_ble_eq_true rfl, Nat.le_of_ble_eq_true rfl⟩, (wd_560 hE), (wd_10 hE)⟩ ⟨PQ.blind, q_recv 0 (by decide) rfl hK hP rfl, (q_pre (av := [.ref (b 0), .int 0, .int (nI 4)]) hK hP hJ hE)⟩ rfl rfl hl.1 rfl (lv_room (Nat.le_of_ble_eq_true rfl)) dX5_readIndex_80 ⟨Nat.le_of_ble_eq_true rfl, Nat.le_of_ble_eq_true rfl⟩) (fun r71 u71 H locs hpo71 hP hS => ?_)
            obtain ⟨hr71, h71_0, h71_1, h71_2, hq71⟩ := hpo71
            have hA72 := (hq71.1 5 List.not_mem_nil).trans hA11
            have hA73 := (hq71.1 2 List.not_mem_nil).trans hA12
            have hA74 := (hq71.1 3 List.not_mem_nil).trans hA13
            have hA75 := (hq71.1 4 List.not_mem_nil).trans hA14
            have hA76 := (hq71.1 7 List.not_mem_nil).trans hA15
            have hF77x := (hq71.2.1 13 (by decide)).trans hF16x
            have hF78x := (hq71.2.1 14 (by decide)).trans hF17x
            have hF79x := (hq71.2.1 15 (by decide)).trans hF18x
            have hF80x := (hq71.2.1 4 (by decide)).trans hF19x
            have hF81x := (hq71.2.1 6 (by decide)).trans hF20x
            have hfr := FR.step hfr hq71 (fun _ h => absurd h List.not_mem_nil) (by decide) (fun h => rfl)
            subst hr71
            refine lv_if_ne (tgt := 88) hx hb dX5_readIndex_83 (by decide) (fun c82 => absurd c82 (by decide)) (fun c82 => ?_)
            refine lv_iconst (v := -1) hx hb dX5_readIndex_86 (by decide) ?_
            exact W.iret (v := -1) hx hb hr (fun t ht hW => ⟨⟨-1, u71, rfl, ⟨(by first | exact Or.inl ⟨rfl, NN.1, NN.2, hF80x⟩ | exact Or.inr (Or.inl ⟨rfl, K6, by rw [← VQ]; first | exact Or.inl (by omega) | exact Or.inr (Or.inl (by omega)) | exact Or.inr (Or.inr ⟨by omega, by omega⟩), ⟨h71_0, h71_1, h71_2⟩, hF80x⟩) | exact Or.inr (Or.inr ⟨by rw [VQ], K6, by rw [← VQ]; omega, by rw [← VQ]; omega, by rw [← VQ]; first | exact Or.inl (by omega) | exact Or.inr (by omega), hF80x, h71_0, h71_1, h71_2⟩)), hfr⟩, (show va_P (dC, dI) vwCl (qW cs b u71) t.heap by rw [ht]; exact hP)⟩, hS.F ht⟩) hS.2.2 dX5_readIndex_87
          · have c70 := (b_eq (nI_toInt (n := (pO gg v) / (vv tx sz1 (bgi tx sz1 i0))) (by omega)) (nI_toInt (n := q0) (by omega))).mp c70
            refine lv_iconst (v := 1) hx hb dX5_readIndex_74 (by decide) ?_
            refine lv_goto (tgt := 79) hx hb dX5_readIndex_75 (by decide) ?_
            refine lv_iconst (v := 4) hx hb dX5_readIndex_79 (by decide) ?_
            refine vp_callSi (va_Run.run (va_runV (As := [.int 1, .int (nI 4)]) (rest := []) ⟨hx, hb, hml, hown, noTs⟩ (q_X5_passes_1 l dC dI H.size cs b u10 4 hb10.2.1) ⟨cbE 2 (wd_561 hE) (wd_118 hE) (wd_558 hE) rfl rfl (by decide +kernel) ⟨Nat.le_of_ble_eq_true rfl, Nat.le_of_ble_eq_true rfl⟩, (wd_560 hE), (wd_10 hE)⟩ ⟨PQ.blind, q_recv 0 (by decide) rfl hK hP rfl, (q_pre (av := [.ref (b 0), .int 1, .int (nI 4)]) hK hP hJ hE)⟩ rfl rfl hl.1 rfl (lv_room (Nat.le_of_ble_eq_true rfl)) dX5_readIndex_80 ⟨Nat.le_of_ble_eq_true rfl, Nat.le_of_ble_eq_true rfl⟩)) (fun r83 hr83 => ?_)
            subst hr83
            refine lv_if_ne (tgt := 88) hx hb dX5_readIndex_83 (by decide) (fun c84 => ?_) (fun c84 => absurd c84 (by decide))
            refine lv_aload_n hx hb dX5_readIndex_88 rfl (lv_at hl 3 rfl) ?_
            refine lv_dup hx hb dX5_readIndex_89 rfl ?_
            refine q_get (v := .int (nI i0)) hx hb 0 (by decide) rfl (ly_X5 hE) hown hK hP rfl 4 (by decide) (wd_231 hE) (fun _ h9 => h9) (congrArg (fun z : Int32 => some (Value.int z)) hF19x) dX5_readIndex_90 ?_
            refine lv_iconst (v := 1) hx hb dX5_readIndex_93 (by decide) ?_
            refine lv_iadd hx hb dX5_readIndex_94 ?_
            refine W.eq (g2 := F0 m 95 ls [.int (nI (i0 + 1)), .ref (b 0)]) (congrArg (fun z : Int32 => F0 m 95 ls (.int z :: [.ref (b 0)])) (nI_add i0 1)) ?_
            refine q_put (v := nI (i0 + 1)) (ty := .int) hx hb 0 4 (by decide) (ly_X5 hE) tyX5 tyX5_ok nmX5 hown hK hP hJ hAL hS rfl 4 (by decide) (wd_231 hE) (fun _ h9 => h9) rfl (by decide +kernel) rfl rfl rfl rfl (qE_put0 (by decide)) (Nat.le_of_ble_eq_true rfl) dX5_readIndex_95 (fun u85 H locs hf85 hq85 hP hS => ?_)
            have hA86 := (hq85.1 5 List.not_mem_nil).trans hA11
            have hA87 := (hq85.1 2 List.not_mem_nil).trans hA12
            have hA88 := (hq85.1 3 List.not_mem_nil).trans hA13
            have hA89 := (hq85.1 4 List.not_mem_nil).trans hA14
            have hA90 := (hq85.1 7 List.not_mem_nil).trans hA15
            have hF91x := (hq85.2.1 13 (by decide)).trans hF16x
            have hF92x := (hq85.2.1 14 (by decide)).trans hF17x
            have hF93x := (hq85.2.1 15 (by decide)).trans hF18x
            have hF94x := (hq85.2.1 6 (by decide)).trans hF20x
            have hF95x := (hq85.2.1 7 (by decide)).trans hb10.2.1
            have hF96x := (hq85.2.1 8 (by decide)).trans hb10.2.2.1
            have hF97x := (hq85.2.1 9 (by decide)).trans hb10.2.2.2
            have hfr := FR.step hfr hq85 (fun _ h => absurd h List.not_mem_nil) (by decide) (fun h => rfl)
            refine lv_iload_n hx hb dX5_readIndex_98 rfl (lv_at hl 2 rfl) ?_
            exact W.iret (v := nI (vv tx sz1 (bgi tx sz1 i0))) hx hb hr (fun t ht hW => ⟨⟨nI (vv tx sz1 (bgi tx sz1 i0)), u85, rfl, ⟨(by first | exact Or.inl ⟨rfl, NN.1, NN.2, hf85⟩ | exact Or.inr (Or.inl ⟨rfl, K6, by rw [← VQ]; first | exact Or.inl (by omega) | exact Or.inr (Or.inl (by omega)) | exact Or.inr (Or.inr ⟨by omega, by omega⟩), ⟨hF95x, hF96x, hF97x⟩, hf85⟩) | exact Or.inr (Or.inr ⟨by rw [VQ], K6, by rw [← VQ]; omega, by rw [← VQ]; omega, by rw [← VQ]; first | exact Or.inl (by omega) | exact Or.inr (by omega), hf85, hF95x, hF96x, hF97x⟩)), hfr⟩, (show va_P (dC, dI) vwCl (qW cs b u85) t.heap by rw [ht]; exact hP)⟩, hS.F ht⟩) hS.2.2 dX5_readIndex_99
  · have NN := id hb10
    refine lv_if_ne (tgt := 23) hx hb dX5_readIndex_18 (by decide) (fun c98 => absurd c98 (by decide)) (fun c98 => ?_)
    refine lv_iconst (v := -1) hx hb dX5_readIndex_21 (by decide) ?_
    exact W.iret (v := -1) hx hb hr (fun t ht hW => ⟨⟨-1, u10, rfl, ⟨(by first | exact Or.inl ⟨rfl, NN.1, NN.2, hF19x⟩ | exact Or.inr (Or.inl ⟨rfl, K6, by rw [← VQ]; first | exact Or.inl (by omega) | exact Or.inr (Or.inl (by omega)) | exact Or.inr (Or.inr ⟨by omega, by omega⟩), ⟨hb10.2.1, hb10.2.2.1, hb10.2.2.2⟩, hF19x⟩) | exact Or.inr (Or.inr ⟨by rw [VQ], K6, by rw [← VQ]; omega, by rw [← VQ]; omega, by rw [← VQ]; first | exact Or.inl (by omega) | exact Or.inr (by omega), hF19x, hb10.2.1, hb10.2.2.1, hb10.2.2.2⟩)), hfr⟩, (show va_P (dC, dI) vwCl (qW cs b u10) t.heap by rw [ht]; exact hP)⟩, hS.F ht⟩) hS.2.2 dX5_readIndex_22
set_option maxHeartbeats 4000000 in
set_option maxRecDepth 100000 in
theorem q_X5_readPlace_f (l : Launch) (dC : Nat → ClassId) (dI : Nat → Nat → Nat) (sz : Nat) (cs : Nat → ClassId) (b : Nat → Nat) (u : RS) (tx : Nat → Int32) (hAc5 : rA u 5 = tx) (k2 : Nat → Int32) (hAc2 : rA u 2 = k2) (k3 : Nat → Int32) (hAc3 : rA u 3 = k3) (k4 : Nat → Int32) (hAc4 : rA u 4 = k4) (sz1 : Nat) (c1 : Nat) (i0 : Nat) (kf : Nat) (hF13 : rF u 13 = nI c1) (hF14 : rF u 14 = 1) (hF15 : rF u 15 = nI sz1) (hF4 : rF u 4 = nI i0) (hF7 : rF u 7 = nI kf) (hp0 : BY tx) (hp1 : sz1 ≤ 700) (hp2 : QTK k2 k3 k4 tx sz1 c1) (hp3 : i0 ≤ c1) (hp4 : 1 ≤ kf) (hp5 : kf ≤ 9) : Met l yX5_readPlace [.code yX5_readPlace cX5_readPlace 2 (some .int)] ({ frames := 2, cells := 0, slots := 0, locals := 80 }) (PQ [.ref (b 0)] sz dC dI cs b u) (vp_Si (fun (r : Int32) => r = -1)) 0 0 (fun _ => False) := by
  refine Met.ofW (cc := cX5_readPlace) (maxL := 2) (ret := (some .int)) (by decide) rfl ?_
  intro p e s m args below meth c s₁ B hml hv
  obtain ⟨rfl, hsz, hP, hK, hJ, hE⟩ := hv
  have hx := B.exec
  have hb := B.bytes
  have hr := B.returns
  have hown : s.vm.findClass RX5 = some m.cls := findClass_of_methodNamed B.named
  have hlocks := B.notSynchronized
  subst hsz
  have hl := lv_entry ([.ref (b 0)]) (n := 2) (Nat.le_of_ble_eq_true rfl)
  rw [lg_entry_eq]
  generalize (lg_sl ([.ref (b 0)]) ++ List.replicate (2 - (lg_sl ([.ref (b 0)])).length) Slot.unset).toArray = ls at hl ⊢
  have hl : lv_has ls 2 [(0, .ref (b 0))] := hl
  have hc7 := hp2.1
  have kdf := kd_f tx sz1 (bgi tx sz1 (i0))
  have bq : i0 = c1 → bgi tx sz1 (i0) = sz1 := fun h => by rw [h]; exact hp2.2.1
  have bz : i0 < c1 → bgi tx sz1 (i0) < sz1 := fun h => (hp2.2.2 _ h).1
  refine lv_aload_n hx hb dX5_readPlace_0 rfl (lv_at hl 0 rfl) ?_
  refine vp_callSi (va_Run.run (va_runV (As := []) (rest := []) ⟨hx, hb, hml, hown, noTs⟩ (q_X5_value l dC dI s.heap.size cs b u tx hAc5 k2 hAc2 k3 hAc3 k4 hAc4 sz1 c1 i0 hF13 hF14 hF15 hF4 (by first | assumption | omega | rfl | (congr 1; omega)) (by first | assumption | omega | rfl | (congr 1; omega)) (by first | assumption | omega | rfl | (congr 1; omega)) (by first | assumption | omega | rfl | (congr 1; omega))) ⟨cbE 0 (wd_569 hE) (wd_118 hE) (wd_566 hE) rfl rfl (by decide +kernel) ⟨Nat.le_of_ble_eq_true rfl, Nat.le_of_ble_eq_true rfl⟩, (wd_568 hE), (wd_11 hE)⟩ ⟨PQ.blind, q_recv 0 (by decide) rfl hK hP rfl, (q_pre (av := [.ref (b 0)]) hK hP hJ hE)⟩ rfl rfl hl.1 rfl (lv_room (Nat.le_of_ble_eq_true rfl)) dX5_readPlace_1 ⟨Nat.le_of_ble_eq_true rfl, Nat.le_of_ble_eq_true rfl⟩)) (fun r7 hr7 => ?_)
  subst hr7
  refine lv_istore_n (lv' := [(1, .int (nI (vv tx sz1 (bgi tx sz1 i0)))), (0, .ref (b 0))]) hx hb dX5_readPlace_4 rfl hl (by decide) rfl (fun ls hl => ?_)
  refine lv_aload_n hx hb dX5_readPlace_5 rfl (lv_at hl 1 rfl) ?_
  refine q_get (v := .int (nI kf)) hx hb 0 (by decide) rfl (ly_X5 hE) hown hK hP rfl 7 (by decide) (wd_234 hE) (fun _ h9 => h9) (congrArg (fun z : Int32 => some (Value.int z)) hF7) dX5_readPlace_6 ?_
  refine lv_if_ne (tgt := 37) hx hb dX5_readPlace_9 (by decide) (fun c8 => ?_) (fun c8 => False.elim (by have c8 := (b_eq (nI_toInt (n := kf) (by omega)) (show Int32.toInt 0 = 0 from rfl)).mp c8; omega))
  have c8 := mt (b_eq (nI_toInt (n := kf) (by omega)) (show Int32.toInt 0 = 0 from rfl)).mpr c8
  refine lv_iconst (v := -1) hx hb dX5_readPlace_37 (by decide) ?_
  exact W.iret (v := -1) hx hb hr (fun t ht hW => ⟨-1, rfl, (by first | rfl | omega | (congr 1; omega) | assumption), ht⟩) (fun _ h => absurd h List.not_mem_nil) dX5_readPlace_38
set_option maxHeartbeats 4000000 in
set_option maxRecDepth 100000 in
theorem q_X5_readIndex_f (l : Launch) (dC : Nat → ClassId) (dI : Nat → Nat → Nat) (sz : Nat) (cs : Nat → ClassId) (b : Nat → Nat) (u : RS) (tx : Nat → Int32) (hAc5 : rA u 5 = tx) (k2 : Nat → Int32) (hAc2 : rA u 2 = k2) (k3 : Nat → Int32) (hAc3 : rA u 3 = k3) (k4 : Nat → Int32) (hAc4 : rA u 4 = k4) (x : Int32) (y : Int32) (sz1 : Nat) (c1 : Nat) (i0 : Nat) (kf : Nat) (hF13 : rF u 13 = nI c1) (hF14 : rF u 14 = 1) (hF15 : rF u 15 = nI sz1) (hF4 : rF u 4 = nI i0) (hF7 : rF u 7 = nI kf) (hp0 : BY tx) (hp1 : sz1 ≤ 700) (hp2 : QTK k2 k3 k4 tx sz1 c1) (hp3 : i0 ≤ c1) (hp4 : 1 ≤ kf) (hp5 : kf ≤ 9) : Met l yX5_readIndex [.code yX5_readIndex cX5_readIndex 6 (some .int)] ({ frames := 2, cells := 0, slots := 0, locals := 80 }) (PQ [.ref (b 0), .int x, .int y] sz dC dI cs b u) (vp_Si (fun (r : Int32) => r = -1)) 0 0 (fun _ => False) := by
  refine Met.ofW (cc := cX5_readIndex) (maxL := 6) (ret := (some .int)) (by decide) rfl ?_
  intro p e s m args below meth c s₁ B hml hv
  obtain ⟨rfl, hsz, hP, hK, hJ, hE⟩ := hv
  have hx := B.exec
  have hb := B.bytes
  have hr := B.returns
  have hown : s.vm.findClass RX5 = some m.cls := findClass_of_methodNamed B.named
  have hlocks := B.notSynchronized
  subst hsz
  have hl := lv_entry ([.ref (b 0), .int x, .int y]) (n := 6) (Nat.le_of_ble_eq_true rfl)
  rw [lg_entry_eq]
  generalize (lg_sl ([.ref (b 0), .int x, .int y]) ++ List.replicate (6 - (lg_sl ([.ref (b 0), .int x, .int y])).length) Slot.unset).toArray = ls at hl ⊢
  have hl : lv_has ls 6 [(0, .ref (b 0)), (1, .int x), (2, .int y)] := hl
  have hc7 := hp2.1
  have kdf := kd_f tx sz1 (bgi tx sz1 (i0))
  have bq : i0 = c1 → bgi tx sz1 (i0) = sz1 := fun h => by rw [h]; exact hp2.2.1
  have bz : i0 < c1 → bgi tx sz1 (i0) < sz1 := fun h => (hp2.2.2 _ h).1
  refine lv_aload_n hx hb dX5_readIndex_0 rfl (lv_at hl 0 rfl) ?_
  refine vp_callSi (va_Run.run (va_runV (As := []) (rest := []) ⟨hx, hb, hml, hown, noTs⟩ (q_X5_value l dC dI s.heap.size cs b u tx hAc5 k2 hAc2 k3 hAc3 k4 hAc4 sz1 c1 i0 hF13 hF14 hF15 hF4 (by first | assumption | omega | rfl | (congr 1; omega)) (by first | assumption | omega | rfl | (congr 1; omega)) (by first | assumption | omega | rfl | (congr 1; omega)) (by first | assumption | omega | rfl | (congr 1; omega))) ⟨cbE 0 (wd_569 hE) (wd_118 hE) (wd_566 hE) rfl rfl (by decide +kernel) ⟨Nat.le_of_ble_eq_true rfl, Nat.le_of_ble_eq_true rfl⟩, (wd_568 hE), (wd_11 hE)⟩ ⟨PQ.blind, q_recv 0 (by decide) rfl hK hP rfl, (q_pre (av := [.ref (b 0)]) hK hP hJ hE)⟩ rfl rfl hl.1 rfl (lv_room (Nat.le_of_ble_eq_true rfl)) dX5_readIndex_1 ⟨Nat.le_of_ble_eq_true rfl, Nat.le_of_ble_eq_true rfl⟩)) (fun r7 hr7 => ?_)
  subst hr7
  refine lv_istore_n (lv' := [(3, .int (nI (vv tx sz1 (bgi tx sz1 i0)))), (0, .ref (b 0)), (1, .int x), (2, .int y)]) hx hb dX5_readIndex_4 rfl hl (by decide) rfl (fun ls hl => ?_)
  refine lv_aload_n hx hb dX5_readIndex_5 rfl (lv_at hl 1 rfl) ?_
  refine q_get (v := .int (nI kf)) hx hb 0 (by decide) rfl (ly_X5 hE) hown hK hP rfl 7 (by decide) (wd_234 hE) (fun _ h9 => h9) (congrArg (fun z : Int32 => some (Value.int z)) hF7) dX5_readIndex_6 ?_
  refine lv_if_ne (tgt := 21) hx hb dX5_readIndex_9 (by decide) (fun c8 => ?_) (fun c8 => False.elim (by have c8 := (b_eq (nI_toInt (n := kf) (by omega)) (show Int32.toInt 0 = 0 from rfl)).mp c8; omega))
  have c8 := mt (b_eq (nI_toInt (n := kf) (by omega)) (show Int32.toInt 0 = 0 from rfl)).mpr c8
  refine lv_iconst (v := -1) hx hb dX5_readIndex_21 (by decide) ?_
  exact W.iret (v := -1) hx hb hr (fun t ht hW => ⟨-1, rfl, (by first | rfl | omega | (congr 1; omega) | assumption), ht⟩) (fun _ h => absurd h List.not_mem_nil) dX5_readIndex_22
