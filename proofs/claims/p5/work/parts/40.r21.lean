set_option maxHeartbeats 4000000 in
set_option maxRecDepth 100000 in
theorem r_X12_anEdge (l : Launch) (dC : Nat → ClassId) (dI : Nat → Nat → Nat) (sz : Nat) (cs : Nat → ClassId) (b : Nat → Nat) (u : RS) (a : Nat → Int32) (hA1 : rA u 1 = a) (tx : Nat → Int32) (hAc16 : rA u 16 = tx) (sz1 : Nat) (hF11 : rF u 11 = nI sz1) (hp0 : BG a) (hp1 : TK u sz1) (hp2 : sz1 ≤ 700) : Met l yX12_anEdge [.code yX12_anEdge cX12_anEdge 2 (some .boolean)] ({ frames := 3, cells := 0, slots := 0, locals := 120 }) (PR [.ref (b 0)] sz dC dI cs b u) (va_Qi (fun (r : Int32) (u' : RS) => ((r = 1 ∧ (fN u 14 ≤ fN u' 13)) ∨ (r = 0 ∧ (True))) ∧ (BG (rA u' 1)) ∧ (∀ k, 554 ≤ k → (rA u' 1) k = a k) ∧ (TK u' sz1) ∧ (fN u 13 ≤ fN u' 13) ∧ FR [1] [12, 13, 14, 15, 16, 17, 18] false u u') (BR dC dI cs b) (AR b sz)) 0 0 (AR b sz) := by
  refine Met.ofW (cc := cX12_anEdge) (maxL := 2) (ret := (some .boolean)) (by decide) rfl ?_
  intro p e s m args below meth c s₁ B hml hv
  obtain ⟨rfl, hsz, hP, hK, hJ, hE⟩ := hv
  have hx := B.exec
  have hb := B.bytes
  have hr := B.returns
  have hown : s.vm.findClass RX12 = some m.cls := findClass_of_methodNamed B.named
  have hlocks := B.notSynchronized
  subst hsz
  have hAL : ∀ i, i < 108 → AR b s.heap.size (b i) := fun i h => Or.inl ⟨i, h, rfl⟩
  have hA : ∀ q : Nat, s.heap.size ≤ q → AR b s.heap.size q := fun q h => Or.inr h
  have hS : va_S (AR b s.heap.size) s.heap s.heap [] := va_S.rf
  have hfr : FR [1] [12, 13, 14, 15, 16, 17, 18] false u u := FR.refl
  have hl := lv_entry ([.ref (b 0)]) (n := 2) (Nat.le_of_ble_eq_true rfl)
  rw [lg_entry_eq]
  generalize (lg_sl ([.ref (b 0)]) ++ List.replicate (2 - (lg_sl ([.ref (b 0)])).length) Slot.unset).toArray = ls at hl ⊢
  have hl : lv_has ls 2 [(0, .ref (b 0))] := hl
  have hB := hp0
  have hG := bg_g hp0
  have ha1 := gg_le hG
  have ha1b := bg_w hp0
  have htk3 := hp1.2.2.2
  refine lv_aload_n hx hb dX12_anEdge_0 rfl (lv_at hl 0 rfl) ?_
  refine lv_iconst (v := 1) hx hb dX12_anEdge_1 (by decide) ?_
  refine vp_callSi (va_Run.run (va_runV (As := [.int (nI 1)]) (rest := []) ⟨hx, hb, hml, hown, noTs⟩ (r_X12_of l dC dI s.heap.size cs b u a hA1 1 (by first | assumption | omega | rfl | (congr 1; omega))) ⟨cbE 1 (wd_1536 hE) (wd_126 hE) (wd_1533 hE) rfl rfl (by decide +kernel) ⟨Nat.le_of_ble_eq_true rfl, Nat.le_of_ble_eq_true rfl⟩, (wd_1535 hE), (wd_61 hE)⟩ ⟨PR.blind, r_recv hK hP rfl, (r_pre (av := [.ref (b 0), .int (nI 1)]) hK hP hJ hE)⟩ rfl rfl hl.1 rfl (lv_room (Nat.le_of_ble_eq_true rfl)) dX12_anEdge_2 ⟨Nat.le_of_ble_eq_true rfl, Nat.le_of_ble_eq_true rfl⟩)) (fun r5 hr5 => ?_)
  have hr5 := hr5.trans (gg_e hG)
  subst hr5
  refine lv_bipush (v := 6) hx hb dX12_anEdge_5 (by decide) ?_
  refine lv_icmp_ne (tgt := 17) hx hb dX12_anEdge_7 (by decide) (fun c6 => ?_) (fun c6 => ?_)
  · have c6 := mt (b_eq (nI_toInt (n := eN a) (by omega)) (show Int32.toInt 6 = 6 from rfl)).mpr c6
    refine lv_bipush (v := 10) hx hb dX12_anEdge_17 (by decide) ?_
    refine lv_iconst (v := 4) hx hb dX12_anEdge_19 (by decide) ?_
    refine lv_aload_n hx hb dX12_anEdge_20 rfl (lv_at hl 0 rfl) ?_
    refine lv_iconst (v := 1) hx hb dX12_anEdge_21 (by decide) ?_
    refine vp_callSi (va_Run.run (va_runV (As := [.int (nI 1)]) (rest := [.int 4, .int 10]) ⟨hx, hb, hml, hown, noTs⟩ (r_X12_of l dC dI s.heap.size cs b u a hA1 1 (by first | assumption | omega | rfl | (congr 1; omega))) ⟨cbE 1 (wd_1536 hE) (wd_126 hE) (wd_1533 hE) rfl rfl (by decide +kernel) ⟨Nat.le_of_ble_eq_true rfl, Nat.le_of_ble_eq_true rfl⟩, (wd_1535 hE), (wd_61 hE)⟩ ⟨PR.blind, r_recv hK hP rfl, (r_pre (av := [.ref (b 0), .int (nI 1)]) hK hP hJ hE)⟩ rfl rfl hl.1 rfl (lv_room (Nat.le_of_ble_eq_true rfl)) dX12_anEdge_22 ⟨Nat.le_of_ble_eq_true rfl, Nat.le_of_ble_eq_true rfl⟩)) (fun r7 hr7 => ?_)
    have hr7 := hr7.trans (gg_e hG)
    subst hr7
    refine lv_imul hx hb dX12_anEdge_25 ?_
    refine W.eq (g2 := F0 m 26 ls [.int (nI (4 * (eN a))), .int 10]) (congrArg (fun z : Int32 => F0 m 26 ls (.int z :: [.int 10])) (pk_mul 4 (eN a))) ?_
    refine lv_iadd hx hb dX12_anEdge_26 ?_
    refine W.eq (g2 := F0 m 27 ls [.int (nI (10 + (4 * (eN a))))]) (congrArg (fun z : Int32 => F0 m 27 ls (.int z :: [])) (nI_add 10 (4 * (eN a)))) ?_
    refine lv_istore_n (lv' := [(1, .int (nI (10 + (4 * (eN a))))), (0, .ref (b 0))]) hx hb dX12_anEdge_27 rfl hl (by decide) rfl (fun ls hl => ?_)
    refine lv_aload_n hx hb dX12_anEdge_28 rfl (lv_at hl 1 rfl) ?_
    refine rc_v hAL hS hA (va_runV (As := []) (rest := []) ⟨hx, hb, hml, hown, noTs⟩ (r_X12_ahead l dC dI s.heap.size cs b u tx hAc16 sz1 (fN u 14) (fN u 15) hF11 hp1.2.1 hp1.2.2.1 (by first | assumption | omega | rfl | (congr 1; omega)) (by first | assumption | omega | rfl | (congr 1; omega)) (by first | assumption | omega | rfl | (congr 1; omega))) ⟨cbE 0 (wd_1506 hE) (wd_126 hE) (wd_1503 hE) rfl rfl (by decide +kernel) ⟨Nat.le_of_ble_eq_true rfl, Nat.le_of_ble_eq_true rfl⟩, (wd_1505 hE), (wd_56 hE)⟩ ⟨PR.blind, r_recv hK hP rfl, (r_pre (av := [.ref (b 0)]) hK hP hJ hE)⟩ rfl rfl hl.1 rfl (lv_room (Nat.le_of_ble_eq_true rfl)) dX12_anEdge_29 ⟨Nat.le_of_ble_eq_true rfl, Nat.le_of_ble_eq_true rfl⟩) (fun u8 H locs hpo8 hP hS => ?_)
    obtain ⟨h8_0, h8_1, h8_2, hq8⟩ := hpo8
    have hA9 := (hq8.1 1 List.not_mem_nil).trans hA1
    have hA10 := (hq8.1 16 List.not_mem_nil).trans hAc16
    have hF11x := (hq8.2.1 11 (by decide)).trans hF11
    have hfr := FR.step hfr hq8 (fun _ h => absurd h List.not_mem_nil) (by decide) (fun h => rfl)
    have htk12 := h8_0.2.2.2
    refine lv_aload_n hx hb dX12_anEdge_32 rfl (lv_at hl 1 rfl) ?_
    refine lv_iload_n hx hb dX12_anEdge_33 rfl (lv_at hl 0 rfl) ?_
    refine rc_i hAL hS hA (va_runV (As := [.int (nI (10 + (4 * (eN a))))]) (rest := []) ⟨hx, hb, hml, hown, noTs⟩ (r_X12_aSide l dC dI H.size cs b u8 a hA9 tx hA10 (10 + (4 * (eN a))) sz1 hF11x (by first | assumption | omega | rfl | (congr 1; omega)) (by first | assumption | omega | rfl | (congr 1; omega)) (by first | assumption | omega | rfl | (congr 1; omega)) (by first | assumption | omega | rfl | (congr 1; omega)) (by first | assumption | omega | rfl | (congr 1; omega))) ⟨cbE 1 (wd_1556 hE) (wd_126 hE) (wd_1553 hE) rfl rfl (by decide +kernel) ⟨Nat.le_of_ble_eq_true rfl, Nat.le_of_ble_eq_true rfl⟩, (wd_1555 hE), (wd_66 hE)⟩ ⟨PR.blind, r_recv hK hP rfl, (r_pre (av := [.ref (b 0), .int (nI (10 + (4 * (eN a))))]) hK hP hJ hE)⟩ rfl rfl hl.1 rfl (lv_room (Nat.le_of_ble_eq_true rfl)) dX12_anEdge_34 ⟨Nat.le_of_ble_eq_true rfl, Nat.le_of_ble_eq_true rfl⟩) (fun r13 u13 H locs hpo13 hP hS => ?_)
    obtain ⟨hr13, h13_0, h13_1, h13_2, h13_3, h13_4, h13_5, h13_6, hq13⟩ := hpo13
    obtain ⟨w14, hA14⟩ : ∃ g, rA u13 1 = g := ⟨_, rfl⟩
    rw [hA14] at h13_0 h13_1 h13_2 h13_3 h13_4 hr13
    have hA15 := (hq13.1 16 (by decide)).trans hA10
    have hF16x := (hq13.2.1 11 (by decide)).trans hF11x
    have hfr := FR.step hfr hq13 (by decide) (by decide) (fun h => rfl)
    have hB := h13_0
    have hG := bg_g h13_0
    have ha17 := gg_le hG
    have ha17b := bg_w h13_0
    have htk18 := h13_5.2.2.2
    have S1o := h13_4
    have bgo1 : ∀ k, 554 ≤ k → w14 k = a k := fun k hk => h13_4 k (by omega) (by omega)
    have S1v := h13_1
    have S1e := h13_2
    have S1d := h13_3
    have B1 := h13_0
    rcases hr13 with ⟨rfl, hb13⟩ | ⟨rfl, hb13⟩
    · obtain ⟨A1, A2, A3, A4, A5, ⟨k1, A6⟩, A7⟩ := hb13
      refine lv_if_ne (tgt := 42) hx hb dX12_anEdge_37 (by decide) (fun c19 => ?_) (fun c19 => absurd c19 (by decide))
      refine lv_aload_n hx hb dX12_anEdge_42 rfl (lv_at hl 1 rfl) ?_
      refine rc_v hAL hS hA (va_runV (As := []) (rest := []) ⟨hx, hb, hml, hown, noTs⟩ (r_X12_ahead l dC dI H.size cs b u13 tx hA15 sz1 (fN u13 14) (fN u13 15) hF16x h13_5.2.1 h13_5.2.2.1 (by first | assumption | omega | rfl | (congr 1; omega)) (by first | assumption | omega | rfl | (congr 1; omega)) (by first | assumption | omega | rfl | (congr 1; omega))) ⟨cbE 0 (wd_1506 hE) (wd_126 hE) (wd_1503 hE) rfl rfl (by decide +kernel) ⟨Nat.le_of_ble_eq_true rfl, Nat.le_of_ble_eq_true rfl⟩, (wd_1505 hE), (wd_56 hE)⟩ ⟨PR.blind, r_recv hK hP rfl, (r_pre (av := [.ref (b 0)]) hK hP hJ hE)⟩ rfl rfl hl.1 rfl (lv_room (Nat.le_of_ble_eq_true rfl)) dX12_anEdge_43 ⟨Nat.le_of_ble_eq_true rfl, Nat.le_of_ble_eq_true rfl⟩) (fun u20 H locs hpo20 hP hS => ?_)
      obtain ⟨h20_0, h20_1, h20_2, hq20⟩ := hpo20
      have hA21 := (hq20.1 16 List.not_mem_nil).trans hA15
      have hA22 := (hq20.1 1 List.not_mem_nil).trans hA14
      have hF23x := (hq20.2.1 11 (by decide)).trans hF16x
      have hfr := FR.step hfr hq20 (fun _ h => absurd h List.not_mem_nil) (by decide) (fun h => rfl)
      have htk24 := h20_0.2.2.2
      refine lv_aload_n hx hb dX12_anEdge_46 rfl (lv_at hl 1 rfl) ?_
      refine lv_iload_n hx hb dX12_anEdge_47 rfl (lv_at hl 0 rfl) ?_
      refine lv_iconst (v := 2) hx hb dX12_anEdge_48 (by decide) ?_
      refine lv_iadd hx hb dX12_anEdge_49 ?_
      refine W.eq (g2 := F0 m 50 ls [.int (nI ((10 + (4 * (eN a))) + 2)), .ref (b 0)]) (congrArg (fun z : Int32 => F0 m 50 ls (.int z :: [.ref (b 0)])) (nI_add (10 + (4 * (eN a))) 2)) ?_
      refine rc_i hAL hS hA (va_runV (As := [.int (nI ((10 + (4 * (eN a))) + 2))]) (rest := []) ⟨hx, hb, hml, hown, noTs⟩ (r_X12_aSide l dC dI H.size cs b u20 w14 hA22 tx hA21 ((10 + (4 * (eN a))) + 2) sz1 hF23x (by first | assumption | omega | rfl | (congr 1; omega)) (by first | assumption | omega | rfl | (congr 1; omega)) (by first | assumption | omega | rfl | (congr 1; omega)) (by first | assumption | omega | rfl | (congr 1; omega)) (by first | assumption | omega | rfl | (congr 1; omega))) ⟨cbE 1 (wd_1556 hE) (wd_126 hE) (wd_1553 hE) rfl rfl (by decide +kernel) ⟨Nat.le_of_ble_eq_true rfl, Nat.le_of_ble_eq_true rfl⟩, (wd_1555 hE), (wd_66 hE)⟩ ⟨PR.blind, r_recv hK hP rfl, (r_pre (av := [.ref (b 0), .int (nI ((10 + (4 * (eN a))) + 2))]) hK hP hJ hE)⟩ rfl rfl hl.1 rfl (lv_room (Nat.le_of_ble_eq_true rfl)) dX12_anEdge_50 ⟨Nat.le_of_ble_eq_true rfl, Nat.le_of_ble_eq_true rfl⟩) (fun r25 u25 H locs hpo25 hP hS => ?_)
      obtain ⟨hr25, h25_0, h25_1, h25_2, h25_3, h25_4, h25_5, h25_6, hq25⟩ := hpo25
      obtain ⟨w26, hA26⟩ : ∃ g, rA u25 1 = g := ⟨_, rfl⟩
      rw [hA26] at h25_0 h25_1 h25_2 h25_3 h25_4 hr25
      have hA27 := (hq25.1 16 (by decide)).trans hA21
      have hF28x := (hq25.2.1 11 (by decide)).trans hF23x
      have hfr := FR.step hfr hq25 (by decide) (by decide) (fun h => rfl)
      have hB := h25_0
      have hG := bg_g h25_0
      have ha29 := gg_le hG
      have ha29b := bg_w h25_0
      have htk30 := h25_5.2.2.2
      have S2o := h25_4
      have bgo2 : ∀ k, 554 ≤ k → w26 k = a k := fun k hk => (h25_4 k (by omega) (by omega)).trans (bgo1 k hk)
      have S2v := h25_1
      have S2e := h25_2
      have S2d := h25_3
      have B2 := h25_0
      rcases hr25 with ⟨rfl, hb25⟩ | ⟨rfl, hb25⟩
      · obtain ⟨D1, D2, D3, D4, D5, ⟨k2, D6⟩, D7⟩ := hb25
        have G2 := bg_g B2
        have E1 : w26 (10 + 4 * eN a) = nI (qn w14 (10 + 4 * eN a)) := (S2o _ (by omega) (by omega)).trans A1
        have E2 : w26 (10 + 4 * eN a + 1) = nI (qn w14 (10 + 4 * eN a + 1)) := (S2o _ (by omega) (by omega)).trans A3
        have F1 : od w26 (qn w14 (10 + 4 * eN a)) = k1 * qn w14 (10 + 4 * eN a + 1) := by rw [S2d _ (by omega), S1d _ A2]; exact A6
        have F2 : od w26 (qn w26 (10 + 4 * eN a + 2)) = k2 * qn w26 (10 + 4 * eN a + 2 + 1) := by rw [S2d _ (by omega)]; exact D6
        refine lv_if_ne (tgt := 58) hx hb dX12_anEdge_53 (by decide) (fun c31 => ?_) (fun c31 => absurd c31 (by decide))
        refine lv_aload_n hx hb dX12_anEdge_58 rfl (lv_at hl 1 rfl) ?_
        refine lv_aload_n hx hb dX12_anEdge_59 rfl (lv_at hl 1 rfl) ?_
        refine lv_iload_n hx hb dX12_anEdge_60 rfl (lv_at hl 0 rfl) ?_
        refine vp_callSi (va_Run.run (va_runV (As := [.int (nI (10 + (4 * (eN a))))]) (rest := [.ref (b 0)]) ⟨hx, hb, hml, hown, noTs⟩ (r_X12_of l dC dI H.size cs b u25 w26 hA26 (10 + (4 * (eN a))) (by first | assumption | omega | rfl | (congr 1; omega))) ⟨cbE 1 (wd_1536 hE) (wd_126 hE) (wd_1533 hE) rfl rfl (by decide +kernel) ⟨Nat.le_of_ble_eq_true rfl, Nat.le_of_ble_eq_true rfl⟩, (wd_1535 hE), (wd_61 hE)⟩ ⟨PR.blind, r_recv hK hP rfl, (r_pre (av := [.ref (b 0), .int (nI (10 + (4 * (eN a))))]) hK hP hJ hE)⟩ rfl rfl hl.1 rfl (lv_room (Nat.le_of_ble_eq_true rfl)) dX12_anEdge_61 ⟨Nat.le_of_ble_eq_true rfl, Nat.le_of_ble_eq_true rfl⟩)) (fun r32 hr32 => ?_)
        have hr32 := hr32.trans (E1)
        subst hr32
        refine vp_callSi (va_Run.run (va_runV (As := [.int (nI (qn w14 (10 + 4 * eN a)))]) (rest := []) ⟨hx, hb, hml, hown, noTs⟩ (r_X12_orderAt l dC dI H.size cs b u25 w26 hA26 (qn w14 (10 + 4 * eN a)) (by first | assumption | omega | rfl | (congr 1; omega)) (by first | assumption | omega | rfl | (congr 1; omega))) ⟨cbE 1 (wd_1564 hE) (wd_126 hE) (wd_1561 hE) rfl rfl (by decide +kernel) ⟨Nat.le_of_ble_eq_true rfl, Nat.le_of_ble_eq_true rfl⟩, (wd_1563 hE), (wd_68 hE)⟩ ⟨PR.blind, r_recv hK hP rfl, (r_pre (av := [.ref (b 0), .int (nI (qn w14 (10 + 4 * eN a)))]) hK hP hJ hE)⟩ rfl rfl hl.1 rfl (lv_room (Nat.le_of_ble_eq_true rfl)) dX12_anEdge_64 ⟨Nat.le_of_ble_eq_true rfl, Nat.le_of_ble_eq_true rfl⟩)) (fun r33 hr33 => ?_)
        have hau33 := (gg_od (a := w26) (v := (qn w14 (10 + 4 * eN a))) (by assumption) (by first | assumption | omega)).2
        subst hr33
        refine lv_aload_n hx hb dX12_anEdge_67 rfl (lv_at hl 1 rfl) ?_
        refine lv_iload_n hx hb dX12_anEdge_68 rfl (lv_at hl 0 rfl) ?_
        refine lv_iconst (v := 1) hx hb dX12_anEdge_69 (by decide) ?_
        refine lv_iadd hx hb dX12_anEdge_70 ?_
        refine W.eq (g2 := F0 m 71 ls [.int (nI ((10 + (4 * (eN a))) + 1)), .ref (b 0), .int (nI (od w26 (qn w14 (10 + 4 * eN a))))]) (congrArg (fun z : Int32 => F0 m 71 ls (.int z :: [.ref (b 0), .int (nI (od w26 (qn w14 (10 + 4 * eN a))))])) (nI_add (10 + (4 * (eN a))) 1)) ?_
        refine vp_callSi (va_Run.run (va_runV (As := [.int (nI ((10 + (4 * (eN a))) + 1))]) (rest := [.int (nI (od w26 (qn w14 (10 + 4 * eN a))))]) ⟨hx, hb, hml, hown, noTs⟩ (r_X12_of l dC dI H.size cs b u25 w26 hA26 ((10 + (4 * (eN a))) + 1) (by first | assumption | omega | rfl | (congr 1; omega))) ⟨cbE 1 (wd_1536 hE) (wd_126 hE) (wd_1533 hE) rfl rfl (by decide +kernel) ⟨Nat.le_of_ble_eq_true rfl, Nat.le_of_ble_eq_true rfl⟩, (wd_1535 hE), (wd_61 hE)⟩ ⟨PR.blind, r_recv hK hP rfl, (r_pre (av := [.ref (b 0), .int (nI ((10 + (4 * (eN a))) + 1))]) hK hP hJ hE)⟩ rfl rfl hl.1 rfl (lv_room (Nat.le_of_ble_eq_true rfl)) dX12_anEdge_71 ⟨Nat.le_of_ble_eq_true rfl, Nat.le_of_ble_eq_true rfl⟩)) (fun r34 hr34 => ?_)
        have hr34 := hr34.trans (E2)
        subst hr34
        refine lv_idiv hx hb dX12_anEdge_74 (nI_ne0 (n := qn w14 (10 + 4 * eN a + 1)) (by omega) (by omega)) ?_
        refine W.eq (g2 := F0 m 75 ls [.int (nI ((od w26 (qn w14 (10 + 4 * eN a))) / (qn w14 (10 + 4 * eN a + 1))))]) (congrArg (fun z : Int32 => F0 m 75 ls (.int z :: [])) (pk_div (a := od w26 (qn w14 (10 + 4 * eN a))) (d := qn w14 (10 + 4 * eN a + 1)) (by omega) (by omega) (by omega))) ?_
        have hmd35 := Nat.div_le_self (od w26 (qn w14 (10 + 4 * eN a))) (qn w14 (10 + 4 * eN a + 1))
        refine lv_aload_n hx hb dX12_anEdge_75 rfl (lv_at hl 1 rfl) ?_
        refine lv_aload_n hx hb dX12_anEdge_76 rfl (lv_at hl 1 rfl) ?_
        refine lv_iload_n hx hb dX12_anEdge_77 rfl (lv_at hl 0 rfl) ?_
        refine lv_iconst (v := 2) hx hb dX12_anEdge_78 (by decide) ?_
        refine lv_iadd hx hb dX12_anEdge_79 ?_
        refine W.eq (g2 := F0 m 80 ls [.int (nI ((10 + (4 * (eN a))) + 2)), .ref (b 0), .ref (b 0), .int (nI ((od w26 (qn w14 (10 + 4 * eN a))) / (qn w14 (10 + 4 * eN a + 1))))]) (congrArg (fun z : Int32 => F0 m 80 ls (.int z :: [.ref (b 0), .ref (b 0), .int (nI ((od w26 (qn w14 (10 + 4 * eN a))) / (qn w14 (10 + 4 * eN a + 1))))])) (nI_add (10 + (4 * (eN a))) 2)) ?_
        refine vp_callSi (va_Run.run (va_runV (As := [.int (nI ((10 + (4 * (eN a))) + 2))]) (rest := [.ref (b 0), .int (nI ((od w26 (qn w14 (10 + 4 * eN a))) / (qn w14 (10 + 4 * eN a + 1))))]) ⟨hx, hb, hml, hown, noTs⟩ (r_X12_of l dC dI H.size cs b u25 w26 hA26 ((10 + (4 * (eN a))) + 2) (by first | assumption | omega | rfl | (congr 1; omega))) ⟨cbE 1 (wd_1536 hE) (wd_126 hE) (wd_1533 hE) rfl rfl (by decide +kernel) ⟨Nat.le_of_ble_eq_true rfl, Nat.le_of_ble_eq_true rfl⟩, (wd_1535 hE), (wd_61 hE)⟩ ⟨PR.blind, r_recv hK hP rfl, (r_pre (av := [.ref (b 0), .int (nI ((10 + (4 * (eN a))) + 2))]) hK hP hJ hE)⟩ rfl rfl hl.1 rfl (lv_room (Nat.le_of_ble_eq_true rfl)) dX12_anEdge_80 ⟨Nat.le_of_ble_eq_true rfl, Nat.le_of_ble_eq_true rfl⟩)) (fun r36 hr36 => ?_)
        have hr36 := hr36.trans (D1)
        subst hr36
        refine vp_callSi (va_Run.run (va_runV (As := [.int (nI (qn w26 (10 + 4 * eN a + 2)))]) (rest := [.int (nI ((od w26 (qn w14 (10 + 4 * eN a))) / (qn w14 (10 + 4 * eN a + 1))))]) ⟨hx, hb, hml, hown, noTs⟩ (r_X12_orderAt l dC dI H.size cs b u25 w26 hA26 (qn w26 (10 + 4 * eN a + 2)) (by first | assumption | omega | rfl | (congr 1; omega)) (by first | assumption | omega | rfl | (congr 1; omega))) ⟨cbE 1 (wd_1564 hE) (wd_126 hE) (wd_1561 hE) rfl rfl (by decide +kernel) ⟨Nat.le_of_ble_eq_true rfl, Nat.le_of_ble_eq_true rfl⟩, (wd_1563 hE), (wd_68 hE)⟩ ⟨PR.blind, r_recv hK hP rfl, (r_pre (av := [.ref (b 0), .int (nI (qn w26 (10 + 4 * eN a + 2)))]) hK hP hJ hE)⟩ rfl rfl hl.1 rfl (lv_room (Nat.le_of_ble_eq_true rfl)) dX12_anEdge_83 ⟨Nat.le_of_ble_eq_true rfl, Nat.le_of_ble_eq_true rfl⟩)) (fun r37 hr37 => ?_)
        have hau37 := (gg_od (a := w26) (v := (qn w26 (10 + 4 * eN a + 2))) (by assumption) (by first | assumption | omega)).2
        subst hr37
        refine lv_aload_n hx hb dX12_anEdge_86 rfl (lv_at hl 1 rfl) ?_
        refine lv_iload_n hx hb dX12_anEdge_87 rfl (lv_at hl 0 rfl) ?_
        refine lv_iconst (v := 3) hx hb dX12_anEdge_88 (by decide) ?_
        refine lv_iadd hx hb dX12_anEdge_89 ?_
        refine W.eq (g2 := F0 m 90 ls [.int (nI ((10 + (4 * (eN a))) + 3)), .ref (b 0), .int (nI (od w26 (qn w26 (10 + 4 * eN a + 2)))), .int (nI ((od w26 (qn w14 (10 + 4 * eN a))) / (qn w14 (10 + 4 * eN a + 1))))]) (congrArg (fun z : Int32 => F0 m 90 ls (.int z :: [.ref (b 0), .int (nI (od w26 (qn w26 (10 + 4 * eN a + 2)))), .int (nI ((od w26 (qn w14 (10 + 4 * eN a))) / (qn w14 (10 + 4 * eN a + 1))))])) (nI_add (10 + (4 * (eN a))) 3)) ?_
        refine vp_callSi (va_Run.run (va_runV (As := [.int (nI ((10 + (4 * (eN a))) + 3))]) (rest := [.int (nI (od w26 (qn w26 (10 + 4 * eN a + 2)))), .int (nI ((od w26 (qn w14 (10 + 4 * eN a))) / (qn w14 (10 + 4 * eN a + 1))))]) ⟨hx, hb, hml, hown, noTs⟩ (r_X12_of l dC dI H.size cs b u25 w26 hA26 ((10 + (4 * (eN a))) + 3) (by first | assumption | omega | rfl | (congr 1; omega))) ⟨cbE 1 (wd_1536 hE) (wd_126 hE) (wd_1533 hE) rfl rfl (by decide +kernel) ⟨Nat.le_of_ble_eq_true rfl, Nat.le_of_ble_eq_true rfl⟩, (wd_1535 hE), (wd_61 hE)⟩ ⟨PR.blind, r_recv hK hP rfl, (r_pre (av := [.ref (b 0), .int (nI ((10 + (4 * (eN a))) + 3))]) hK hP hJ hE)⟩ rfl rfl hl.1 rfl (lv_room (Nat.le_of_ble_eq_true rfl)) dX12_anEdge_90 ⟨Nat.le_of_ble_eq_true rfl, Nat.le_of_ble_eq_true rfl⟩)) (fun r38 hr38 => ?_)
        have hr38 := hr38.trans (D3)
        subst hr38
        refine lv_idiv hx hb dX12_anEdge_93 (nI_ne0 (n := qn w26 (10 + 4 * eN a + 2 + 1)) (by omega) (by omega)) ?_
        refine W.eq (g2 := F0 m 94 ls [.int (nI ((od w26 (qn w26 (10 + 4 * eN a + 2))) / (qn w26 (10 + 4 * eN a + 2 + 1)))), .int (nI ((od w26 (qn w14 (10 + 4 * eN a))) / (qn w14 (10 + 4 * eN a + 1))))]) (congrArg (fun z : Int32 => F0 m 94 ls (.int z :: [.int (nI ((od w26 (qn w14 (10 + 4 * eN a))) / (qn w14 (10 + 4 * eN a + 1))))])) (pk_div (a := od w26 (qn w26 (10 + 4 * eN a + 2))) (d := qn w26 (10 + 4 * eN a + 2 + 1)) (by omega) (by omega) (by omega))) ?_
        have hmd39 := Nat.div_le_self (od w26 (qn w26 (10 + 4 * eN a + 2))) (qn w26 (10 + 4 * eN a + 2 + 1))
        refine lv_icmp_eq (tgt := 103) hx hb dX12_anEdge_94 (by decide) (fun c40 => ?_) (fun c40 => ?_)
        · have c40 := (b_eq (nI_toInt (n := (od w26 (qn w14 (10 + 4 * eN a))) / (qn w14 (10 + 4 * eN a + 1))) (by omega)) (nI_toInt (n := (od w26 (qn w26 (10 + 4 * eN a + 2))) / (qn w26 (10 + 4 * eN a + 2 + 1))) (by omega))).mp c40
          have k12 : k1 = k2 := by
            have e1 : od w26 (qn w14 (10 + 4 * eN a)) / qn w14 (10 + 4 * eN a + 1) = k1 := by rw [F1]; exact Nat.mul_div_cancel _ (by omega)
            have e2 : od w26 (qn w26 (10 + 4 * eN a + 2)) / qn w26 (10 + 4 * eN a + 2 + 1) = k2 := by rw [F2]; exact Nat.mul_div_cancel _ (by omega)
            omega
          refine lv_aload_n hx hb dX12_anEdge_103 rfl (lv_at hl 1 rfl) ?_
          refine r_get (v := .ref (b 1)) hx hb (ly_X12 hE) hown hK hP rfl 0 (by decide) (wd_1381 hE) (fun _ h9 => h9) rfl dX12_anEdge_104 ?_
          refine lv_iconst (v := 1) hx hb dX12_anEdge_107 (by decide) ?_
          refine lv_dup2_11 hx hb dX12_anEdge_108 rfl rfl ?_
          refine r_iald (j := 1) (k := 1) (n := 7202) (x := nI (eN w26)) hx hb hK hP (by decide) rfl (by decide) (by decide) (by rw [hA26]; exact gg_e hG) dX12_anEdge_109 ?_
          refine lv_iconst (v := 1) hx hb dX12_anEdge_110 (by decide) ?_
          refine lv_iadd hx hb dX12_anEdge_111 ?_
          refine W.eq (g2 := F0 m 112 ls [.int (nI ((eN w26) + 1)), .int 1, .ref (b 1)]) (congrArg (fun z : Int32 => F0 m 112 ls (.int z :: [.int 1, .ref (b 1)])) (nI_add (eN w26) 1)) ?_
          refine r_iast (j := 1) (k := 1) (n := 7202) (x := nI ((eN w26) + 1)) hx hb hK hP hJ hAL hS (by decide) (fun _ => rfl) hA26 (by decide) (by decide) dX12_anEdge_112 (fun u42 H locs hs42 hq42 hP hS => ?_)
          obtain ⟨w42, hw42⟩ : ∃ g, g = upd w26 1 (nI ((eN w26) + 1)) := ⟨_, rfl⟩
          rw [← hw42] at hs42
          have hA43 := (hq42.1 16 (by decide)).trans hA27
          have hF44x := (hq42.2.1 11 List.not_mem_nil).trans hF28x
          have hF45x := (hq42.2.1 13 List.not_mem_nil).trans h25_5.1
          have hF46x := (hq42.2.1 14 List.not_mem_nil).trans h25_5.2.1
          have hF47x := (hq42.2.1 15 List.not_mem_nil).trans h25_5.2.2.1
          have hfr := FR.step hfr hq42 (by decide) (fun _ h => absurd h List.not_mem_nil) (fun h => rfl)
          have e2e : eN w26 = eN a := by omega
          have bgx := bg_edge (a' := w42) (v1 := qn w14 (10 + 4 * eN a)) (x1 := qn w14 (10 + 4 * eN a + 1)) (v2 := qn w26 (10 + 4 * eN a + 2)) (x2 := qn w26 (10 + 4 * eN a + 2 + 1)) (c := k1) B2 (by omega) (by first | exact hw42 | (rw [e2e]; exact hw42)) (by rw [e2e]; first | done | exact E1) (by rw [e2e]; first | done | exact E2) (by rw [e2e]; first | done | exact D1) (by rw [e2e]; first | done | exact D3) (by omega) (by omega) (by omega) (by omega) F1 (by rw [k12]; exact F2)
          have bgo : ∀ k, 554 ≤ k → w42 k = a k := fun k hk => by rw [hw42, pk_un (by omega)]; exact bgo2 k hk
          refine lv_aload_n hx hb dX12_anEdge_113 rfl (lv_at hl 1 rfl) ?_
          refine rc_i hAL hS hA (va_runV (As := []) (rest := []) ⟨hx, hb, hml, hown, noTs⟩ (r_X12_takesOn l dC dI H.size cs b u42 tx hA43 sz1 (fN u25 14) (fN u25 15) hF44x hF46x hF47x (by first | assumption | omega | rfl | (congr 1; omega)) (by first | assumption | omega | rfl | (congr 1; omega)) (by first | assumption | omega | rfl | (congr 1; omega))) ⟨cbE 0 (wd_1548 hE) (wd_126 hE) (wd_1545 hE) rfl rfl (by decide +kernel) ⟨Nat.le_of_ble_eq_true rfl, Nat.le_of_ble_eq_true rfl⟩, (wd_1547 hE), (wd_64 hE)⟩ ⟨PR.blind, r_recv hK hP rfl, (r_pre (av := [.ref (b 0)]) hK hP hJ hE)⟩ rfl rfl hl.1 rfl (lv_room (Nat.le_of_ble_eq_true rfl)) dX12_anEdge_114 ⟨Nat.le_of_ble_eq_true rfl, Nat.le_of_ble_eq_true rfl⟩) (fun r48 u48 H locs hpo48 hP hS => ?_)
          obtain ⟨hr48, h48_0, h48_1, h48_2, hq48⟩ := hpo48
          have hA49 := (hq48.1 16 List.not_mem_nil).trans hA43
          have hA50 := (hq48.1 1 List.not_mem_nil).trans hs42
          have hF51x := (hq48.2.1 11 (by decide)).trans hF44x
          have hfr := FR.step hfr hq48 (fun _ h => absurd h List.not_mem_nil) (by decide) (fun h => rfl)
          have htk52 := h48_0.2.2.2
          subst hr48
          obtain ⟨tk1, tk2, tk3⟩ := tk_mk (n := sz1) h48_0.1 h48_0.2.1 h48_0.2.2.1 (by omega) (by omega) (by omega) (by omega)
          exact W.zret (v := 1) hx hb hr rfl (fun t ht hW => ⟨⟨1, u48, rfl, ⟨Or.inl ⟨rfl, by first | assumption | omega | rfl | (congr 1; omega)⟩, (by first | (rw [hA50]; done) | (rw [hA50]; first | assumption | exact bgx)), (by first | (rw [hA50]; done) | (rw [hA50]; first | (intro k _; rfl) | exact bgo | exact bgo2 | exact bgo1)), (by exact tk1), (by omega), hfr⟩, (show va_P (dC, dI) vwCl (rW cs b u48) t.heap by rw [ht]; exact hP)⟩, hS.F ht⟩) hS.2.2 dX12_anEdge_117
        · have c40 := mt (b_eq (nI_toInt (n := (od w26 (qn w14 (10 + 4 * eN a))) / (qn w14 (10 + 4 * eN a + 1))) (by omega)) (nI_toInt (n := (od w26 (qn w26 (10 + 4 * eN a + 2))) / (qn w26 (10 + 4 * eN a + 2 + 1))) (by omega))).mpr c40
          refine lv_aload_n hx hb dX12_anEdge_97 rfl (lv_at hl 1 rfl) ?_
          refine lv_iconst (v := 4) hx hb dX12_anEdge_98 (by decide) ?_
          refine rc_i hAL hS hA (va_runV (As := [.int 4]) (rest := []) ⟨hx, hb, hml, hown, noTs⟩ (r_X12_fails l dC dI H.size cs b u25 4) ⟨cbE 1 (wd_1540 hE) (wd_126 hE) (wd_1537 hE) rfl rfl (by decide +kernel) ⟨Nat.le_of_ble_eq_true rfl, Nat.le_of_ble_eq_true rfl⟩, (wd_1539 hE), (wd_62 hE)⟩ ⟨PR.blind, r_recv hK hP rfl, (r_pre (av := [.ref (b 0), .int 4]) hK hP hJ hE)⟩ rfl rfl hl.1 rfl (lv_room (Nat.le_of_ble_eq_true rfl)) dX12_anEdge_99 ⟨Nat.le_of_ble_eq_true rfl, Nat.le_of_ble_eq_true rfl⟩) (fun r53 u53 H locs hpo53 hP hS => ?_)
          obtain ⟨hr53, hq53⟩ := hpo53
          have hA54 := (hq53.1 16 List.not_mem_nil).trans hA27
          have hA55 := (hq53.1 1 List.not_mem_nil).trans hA26
          have hF56x := (hq53.2.1 11 (by decide)).trans hF28x
          have hF57x := (hq53.2.1 13 (by decide)).trans h25_5.1
          have hF58x := (hq53.2.1 14 (by decide)).trans h25_5.2.1
          have hF59x := (hq53.2.1 15 (by decide)).trans h25_5.2.2.1
          have hfr := FR.step hfr hq53 (fun _ h => absurd h List.not_mem_nil) (by decide) (fun h => rfl)
          subst hr53
          obtain ⟨tk1, tk2, tk3⟩ := tk_mk (n := sz1) hF57x hF58x hF59x (by omega) (by omega) (by omega) (by omega)
          exact W.zret (v := 0) hx hb hr rfl (fun t ht hW => ⟨⟨0, u53, rfl, ⟨Or.inr ⟨rfl, by trivial⟩, (by first | (rw [hA55]; done) | (rw [hA55]; first | assumption | exact bgx)), (by first | (rw [hA55]; done) | (rw [hA55]; first | (intro k _; rfl) | exact bgo | exact bgo2 | exact bgo1)), (by exact tk1), (by omega), hfr⟩, (show va_P (dC, dI) vwCl (rW cs b u53) t.heap by rw [ht]; exact hP)⟩, hS.F ht⟩) hS.2.2 dX12_anEdge_102
      · refine lv_if_ne (tgt := 58) hx hb dX12_anEdge_53 (by decide) (fun c60 => absurd c60 (by decide)) (fun c60 => ?_)
        refine lv_iconst (v := 0) hx hb dX12_anEdge_56 (by decide) ?_
        obtain ⟨tk1, tk2, tk3⟩ := tk_mk (n := sz1) h25_5.1 h25_5.2.1 h25_5.2.2.1 (by omega) (by omega) (by omega) (by omega)
        exact W.zret (v := 0) hx hb hr rfl (fun t ht hW => ⟨⟨0, u25, rfl, ⟨Or.inr ⟨rfl, by trivial⟩, (by first | (rw [hA26]; done) | (rw [hA26]; first | assumption | exact bgx)), (by first | (rw [hA26]; done) | (rw [hA26]; first | (intro k _; rfl) | exact bgo | exact bgo2 | exact bgo1)), (by exact tk1), (by omega), hfr⟩, (show va_P (dC, dI) vwCl (rW cs b u25) t.heap by rw [ht]; exact hP)⟩, hS.F ht⟩) hS.2.2 dX12_anEdge_57
    · refine lv_if_ne (tgt := 42) hx hb dX12_anEdge_37 (by decide) (fun c61 => absurd c61 (by decide)) (fun c61 => ?_)
      refine lv_iconst (v := 0) hx hb dX12_anEdge_40 (by decide) ?_
      obtain ⟨tk1, tk2, tk3⟩ := tk_mk (n := sz1) h13_5.1 h13_5.2.1 h13_5.2.2.1 (by omega) (by omega) (by omega) (by omega)
      exact W.zret (v := 0) hx hb hr rfl (fun t ht hW => ⟨⟨0, u13, rfl, ⟨Or.inr ⟨rfl, by trivial⟩, (by first | (rw [hA14]; done) | (rw [hA14]; first | assumption | exact bgx)), (by first | (rw [hA14]; done) | (rw [hA14]; first | (intro k _; rfl) | exact bgo | exact bgo2 | exact bgo1)), (by exact tk1), (by omega), hfr⟩, (show va_P (dC, dI) vwCl (rW cs b u13) t.heap by rw [ht]; exact hP)⟩, hS.F ht⟩) hS.2.2 dX12_anEdge_41
  · have c6 := (b_eq (nI_toInt (n := eN a) (by omega)) (show Int32.toInt 6 = 6 from rfl)).mp c6
    refine lv_aload_n hx hb dX12_anEdge_10 rfl (lv_at hl 0 rfl) ?_
    refine lv_bipush (v := 6) hx hb dX12_anEdge_11 (by decide) ?_
    refine rc_i hAL hS hA (va_runV (As := [.int 6]) (rest := []) ⟨hx, hb, hml, hown, noTs⟩ (r_X12_fails l dC dI s.heap.size cs b u 6) ⟨cbE 1 (wd_1540 hE) (wd_126 hE) (wd_1537 hE) rfl rfl (by decide +kernel) ⟨Nat.le_of_ble_eq_true rfl, Nat.le_of_ble_eq_true rfl⟩, (wd_1539 hE), (wd_62 hE)⟩ ⟨PR.blind, r_recv hK hP rfl, (r_pre (av := [.ref (b 0), .int 6]) hK hP hJ hE)⟩ rfl rfl hl.1 rfl (lv_room (Nat.le_of_ble_eq_true rfl)) dX12_anEdge_13 ⟨Nat.le_of_ble_eq_true rfl, Nat.le_of_ble_eq_true rfl⟩) (fun r62 u62 H locs hpo62 hP hS => ?_)
    obtain ⟨hr62, hq62⟩ := hpo62
    have hA63 := (hq62.1 1 List.not_mem_nil).trans hA1
    have hA64 := (hq62.1 16 List.not_mem_nil).trans hAc16
    have hF65x := (hq62.2.1 11 (by decide)).trans hF11
    have hF66x := (hq62.2.1 13 (by decide)).trans hp1.1
    have hF67x := (hq62.2.1 14 (by decide)).trans hp1.2.1
    have hF68x := (hq62.2.1 15 (by decide)).trans hp1.2.2.1
    have hfr := FR.step hfr hq62 (fun _ h => absurd h List.not_mem_nil) (by decide) (fun h => rfl)
    subst hr62
    obtain ⟨tk1, tk2, tk3⟩ := tk_mk (n := sz1) hF66x hF67x hF68x (by omega) (by omega) (by omega) (by omega)
    exact W.zret (v := 0) hx hb hr rfl (fun t ht hW => ⟨⟨0, u62, rfl, ⟨Or.inr ⟨rfl, by trivial⟩, (by first | (rw [hA63]; done) | (rw [hA63]; first | assumption | exact bgx)), (by first | (rw [hA63]; done) | (rw [hA63]; first | (intro k _; rfl) | exact bgo | exact bgo2 | exact bgo1)), (by exact tk1), (by omega), hfr⟩, (show va_P (dC, dI) vwCl (rW cs b u62) t.heap by rw [ht]; exact hP)⟩, hS.F ht⟩) hS.2.2 dX12_anEdge_16

set_option maxHeartbeats 4000000 in
set_option maxRecDepth 100000 in
theorem r_X12_aStep (l : Launch) (dC : Nat → ClassId) (dI : Nat → Nat → Nat) (sz : Nat) (cs : Nat → ClassId) (b : Nat → Nat) (u : RS) (a : Nat → Int32) (hA1 : rA u 1 = a) (tx : Nat → Int32) (hAc16 : rA u 16 = tx) (jw : Nat) (hjwr : 3 ≤ jw ∧ jw ≤ 14) (w : Nat → Int32) (hAjw : rA u jw = w) (sz1 : Nat) (hF11 : rF u 11 = nI sz1) (hp0 : BG a) (hp1 : TK u sz1) (hp2 : sz1 ≤ 700) (hp3 : PG a w) (hp4 : LG a w) (hp5 : rn w ≤ 24) : Met l yX12_aStep [.code yX12_aStep cX12_aStep 4 (some .boolean)] ({ frames := 5, cells := 0, slots := 0, locals := 200 }) (PR [.ref (b 0), .ref (b jw)] sz dC dI cs b u) (va_Qi (fun (r : Int32) (u' : RS) => ((r = 1 ∧ (rn (rA u' jw) = rn w + 1)) ∨ (r = 0 ∧ (True))) ∧ (PG a (rA u' jw)) ∧ (LG a (rA u' jw)) ∧ (rn (rA u' jw) ≤ 24) ∧ (TK u' sz1) ∧ (fN u 13 ≤ fN u' 13) ∧ FR [jw] [12, 13, 14, 15, 16, 17, 18] false u u') (BR dC dI cs b) (AR b sz)) 0 0 (AR b sz) := by
  refine Met.ofW (cc := cX12_aStep) (maxL := 4) (ret := (some .boolean)) (by decide) rfl ?_
  intro p e s m args below meth c s₁ B hml hv
  obtain ⟨rfl, hsz, hP, hK, hJ, hE⟩ := hv
  have hx := B.exec
  have hb := B.bytes
  have hr := B.returns
  have hown : s.vm.findClass RX12 = some m.cls := findClass_of_methodNamed B.named
  have hlocks := B.notSynchronized
  subst hsz
  have hAL : ∀ i, i < 108 → AR b s.heap.size (b i) := fun i h => Or.inl ⟨i, h, rfl⟩
  have hA : ∀ q : Nat, s.heap.size ≤ q → AR b s.heap.size q := fun q h => Or.inr h
  have hS : va_S (AR b s.heap.size) s.heap s.heap [] := va_S.rf
  have hfr : FR [jw] [12, 13, 14, 15, 16, 17, 18] false u u := FR.refl
  have hl := lv_entry ([.ref (b 0), .ref (b jw)]) (n := 4) (Nat.le_of_ble_eq_true rfl)
  rw [lg_entry_eq]
  generalize (lg_sl ([.ref (b 0), .ref (b jw)]) ++ List.replicate (4 - (lg_sl ([.ref (b 0), .ref (b jw)])).length) Slot.unset).toArray = ls at hl ⊢
  have hl : lv_has ls 4 [(0, .ref (b 0)), (1, .ref (b jw))] := hl
  have hB := hp0
  have hG := bg_g hp0
  have ha1 := gg_le hG
  have ha1b := bg_w hp0
  have htk3 := hp1.2.2.2
  have ha5 := pg_le hp3
  refine lv_aload_n hx hb dX12_aStep_0 rfl (lv_at hl 1 rfl) ?_
  refine lv_iconst (v := 1) hx hb dX12_aStep_1 (by decide) ?_
  refine r_iald (j := jw) (k := 1) (n := 200) (x := nI (rn w)) hx hb hK hP (by omega) (rE_row (by omega)) (by decide) (by decide) (by rw [hAjw]; exact pg_n hp3) dX12_aStep_2 ?_
  refine lv_bipush (v := 24) hx hb dX12_aStep_3 (by decide) ?_
  refine lv_icmp_ne (tgt := 15) hx hb dX12_aStep_5 (by decide) (fun c9 => ?_) (fun c9 => ?_)
  · have c9 := mt (b_eq (nI_toInt (n := rn w) (by omega)) (show Int32.toInt 24 = 24 from rfl)).mpr c9
    refine lv_aload_n hx hb dX12_aStep_15 rfl (lv_at hl 0 rfl) ?_
    refine lv_aload_n hx hb dX12_aStep_16 rfl (lv_at hl 0 rfl) ?_
    refine r_get (v := .int (nI (fN u 13))) hx hb (ly_X12 hE) hown hK hP rfl 13 (by decide) (wd_1394 hE) (fun _ h9 => h9) (congrArg (fun z : Int32 => some (Value.int z)) hp1.1) dX12_aStep_17 ?_
    refine vp_callSi (va_Run.run (va_runV (As := [.int (nI (fN u 13))]) (rest := []) ⟨hx, hb, hml, hown, noTs⟩ (r_X12_byteAt l dC dI s.heap.size cs b u tx hAc16 (fN u 13) sz1 hF11 (by first | assumption | omega | rfl | (congr 1; omega)) (by first | assumption | omega | rfl | (congr 1; omega))) ⟨cbE 1 (wd_1510 hE) (wd_126 hE) (wd_1507 hE) rfl rfl (by decide +kernel) ⟨Nat.le_of_ble_eq_true rfl, Nat.le_of_ble_eq_true rfl⟩, (wd_1509 hE), (wd_57 hE)⟩ ⟨PR.blind, r_recv hK hP rfl, (r_pre (av := [.ref (b 0), .int (nI (fN u 13))]) hK hP hJ hE)⟩ rfl rfl hl.1 rfl (lv_room (Nat.le_of_ble_eq_true rfl)) dX12_aStep_20 ⟨Nat.le_of_ble_eq_true rfl, Nat.le_of_ble_eq_true rfl⟩)) (fun r10 hr10 => ?_)
    subst hr10
    have htf10 := bA_f tx sz1 (fN u 13)
    refine lv_bipush (v := 60) hx hb dX12_aStep_23 (by decide) ?_
    refine lv_icmp_ne (tgt := 32) hx hb dX12_aStep_25 (by decide) (fun c11 => ?_) (fun c11 => ?_)
    · have c11 := mt (b_eq (rfl : Int32.toInt (bA tx sz1 (fN u 13)) = _) (show Int32.toInt 60 = 60 from rfl)).mpr c11
      refine lv_iconst (v := 0) hx hb dX12_aStep_32 (by decide) ?_
      refine lv_istore_n (lv' := [(2, .int 0), (0, .ref (b 0)), (1, .ref (b jw))]) hx hb dX12_aStep_33 rfl hl (by decide) rfl (fun ls hl => ?_)
      refine lv_aload_n hx hb dX12_aStep_34 rfl (lv_at hl 1 rfl) ?_
      refine rc_v hAL hS hA (va_runV (As := []) (rest := []) ⟨hx, hb, hml, hown, noTs⟩ (r_X12_ahead l dC dI s.heap.size cs b u tx hAc16 sz1 (fN u 14) (fN u 15) hF11 hp1.2.1 hp1.2.2.1 (by first | assumption | omega | rfl | (congr 1; omega)) (by first | assumption | omega | rfl | (congr 1; omega)) (by first | assumption | omega | rfl | (congr 1; omega))) ⟨cbE 0 (wd_1506 hE) (wd_126 hE) (wd_1503 hE) rfl rfl (by decide +kernel) ⟨Nat.le_of_ble_eq_true rfl, Nat.le_of_ble_eq_true rfl⟩, (wd_1505 hE), (wd_56 hE)⟩ ⟨PR.blind, r_recv hK hP rfl, (r_pre (av := [.ref (b 0)]) hK hP hJ hE)⟩ rfl rfl hl.1 rfl (lv_room (Nat.le_of_ble_eq_true rfl)) dX12_aStep_35 ⟨Nat.le_of_ble_eq_true rfl, Nat.le_of_ble_eq_true rfl⟩) (fun u12 H locs hpo12 hP hS => ?_)
      obtain ⟨h12_0, h12_1, h12_2, hq12⟩ := hpo12
      have hA13 := (hq12.1 1 List.not_mem_nil).trans hA1
      have hA14 := (hq12.1 16 List.not_mem_nil).trans hAc16
      have hA15 := (hq12.1 jw List.not_mem_nil).trans hAjw
      have hF16x := (hq12.2.1 11 (by decide)).trans hF11
      have hfr := FR.step hfr hq12 (fun _ h => absurd h List.not_mem_nil) (by decide) (fun h => rfl)
      have htk17 := h12_0.2.2.2
      refine lv_aload_n hx hb dX12_aStep_38 rfl (lv_at hl 1 rfl) ?_
      refine rc_i hAL hS hA (va_runV (As := []) (rest := []) ⟨hx, hb, hml, hown, noTs⟩ (r_X12_isNumber l dC dI H.size cs b u12) ⟨cbE 0 (wd_1544 hE) (wd_126 hE) (wd_1541 hE) rfl rfl (by decide +kernel) ⟨Nat.le_of_ble_eq_true rfl, Nat.le_of_ble_eq_true rfl⟩, (wd_1543 hE), (wd_63 hE)⟩ ⟨PR.blind, r_recv hK hP rfl, (r_pre (av := [.ref (b 0)]) hK hP hJ hE)⟩ rfl rfl hl.1 rfl (lv_room (Nat.le_of_ble_eq_true rfl)) dX12_aStep_39 ⟨Nat.le_of_ble_eq_true rfl, Nat.le_of_ble_eq_true rfl⟩) (fun r18 u18 H locs hpo18 hP hS => ?_)
      obtain ⟨hr18, hq18⟩ := hpo18
      have hA19 := (hq18.1 1 List.not_mem_nil).trans hA13
      have hA20 := (hq18.1 16 List.not_mem_nil).trans hA14
      have hA21 := (hq18.1 jw List.not_mem_nil).trans hA15
      have hF22x := (hq18.2.1 11 (by decide)).trans hF16x
      have hF23x := (hq18.2.1 13 (by decide)).trans h12_0.1
      have hF24x := (hq18.2.1 14 (by decide)).trans h12_0.2.1
      have hF25x := (hq18.2.1 15 (by decide)).trans h12_0.2.2.1
      have hfr := FR.step hfr hq18 (fun _ h => absurd h List.not_mem_nil) (by decide) (fun h => rfl)
      rcases hr18 with ⟨rfl, hb18⟩ | ⟨rfl, hb18⟩
      · refine lv_if_ne (tgt := 47) hx hb dX12_aStep_42 (by decide) (fun c26 => ?_) (fun c26 => absurd c26 (by decide))
        refine lv_aload_n hx hb dX12_aStep_47 rfl (lv_at hl 1 rfl) ?_
        refine lv_aload_n hx hb dX12_aStep_48 rfl (lv_at hl 1 rfl) ?_
        refine r_get (v := .int (nI (fN u12 15))) hx hb (ly_X12 hE) hown hK hP rfl 15 (by decide) (wd_1396 hE) (fun _ h9 => h9) (congrArg (fun z : Int32 => some (Value.int z)) hF25x) dX12_aStep_49 ?_
        refine vp_callSi (va_Run.run (va_runV (As := [.int (nI (fN u12 15))]) (rest := []) ⟨hx, hb, hml, hown, noTs⟩ (r_X12_isEdge l dC dI H.size cs b u18 a hA19 (nI (fN u12 15)) (by first | assumption | omega | rfl | (congr 1; omega))) ⟨cbE 1 (wd_1587 hE) (wd_126 hE) (wd_1584 hE) rfl rfl (by decide +kernel) ⟨Nat.le_of_ble_eq_true rfl, Nat.le_of_ble_eq_true rfl⟩, (wd_1586 hE), (wd_73 hE)⟩ ⟨PR.blind, r_recv hK hP rfl, (r_pre (av := [.ref (b 0), .int (nI (fN u12 15))]) hK hP hJ hE)⟩ rfl rfl hl.1 rfl (lv_room (Nat.le_of_ble_eq_true rfl)) dX12_aStep_52 ⟨Nat.le_of_ble_eq_true rfl, Nat.le_of_ble_eq_true rfl⟩)) (fun r27 hr27 => ?_)
        rcases hr27 with ⟨rfl, hb27⟩ | ⟨rfl, hb27⟩
        · obtain ⟨n27, hbe27_1, hb27⟩ := hb27
          have hbe27_1 := (nI_eq (by omega) (by omega)).mp hbe27_1
          refine lv_if_ne (tgt := 64) hx hb dX12_aStep_55 (by decide) (fun c28 => ?_) (fun c28 => absurd c28 (by decide))
          refine lv_iconst (v := 2) hx hb dX12_aStep_64 (by decide) ?_
          refine lv_aload_n hx hb dX12_aStep_65 rfl (lv_at hl 1 rfl) ?_
          refine r_get (v := .int (nI (fN u12 15))) hx hb (ly_X12 hE) hown hK hP rfl 15 (by decide) (wd_1396 hE) (fun _ h9 => h9) (congrArg (fun z : Int32 => some (Value.int z)) hF25x) dX12_aStep_66 ?_
          refine lv_imul hx hb dX12_aStep_69 ?_
          refine W.eq (g2 := F0 m 70 ls [.int (nI (2 * (fN u12 15)))]) (congrArg (fun z : Int32 => F0 m 70 ls (.int z :: [])) (pk_mul 2 (fN u12 15))) ?_
          refine lv_iload_n hx hb dX12_aStep_70 rfl (lv_at hl 0 rfl) ?_
          refine lv_iadd hx hb dX12_aStep_71 ?_
          refine W.eq (g2 := F0 m 72 ls [.int (nI ((2 * (fN u12 15)) + 0))]) (congrArg (fun z : Int32 => F0 m 72 ls (.int z :: [])) (nI_add (2 * (fN u12 15)) 0)) ?_
          refine lv_istore_n (lv' := [(3, .int (nI ((2 * (fN u12 15)) + 0))), (2, .int 0), (0, .ref (b 0)), (1, .ref (b jw))]) hx hb dX12_aStep_72 rfl hl (by decide) rfl (fun ls hl => ?_)
          refine lv_aload_n hx hb dX12_aStep_73 rfl (lv_at hl 2 rfl) ?_
          refine lv_iload_n hx hb dX12_aStep_74 rfl (lv_at hl 0 rfl) ?_
          refine vp_callSi (va_Run.run (va_runV (As := [.int (nI ((2 * (fN u12 15)) + 0))]) (rest := []) ⟨hx, hb, hml, hown, noTs⟩ (r_X12_from l dC dI H.size cs b u18 a hA19 ((2 * (fN u12 15)) + 0) (by first | assumption | omega | rfl | (congr 1; omega)) (by first | assumption | omega | rfl | (congr 1; omega))) ⟨cbE 1 (wd_1591 hE) (wd_126 hE) (wd_1588 hE) rfl rfl (by decide +kernel) ⟨Nat.le_of_ble_eq_true rfl, Nat.le_of_ble_eq_true rfl⟩, (wd_1590 hE), (wd_74 hE)⟩ ⟨PR.blind, r_recv hK hP rfl, (r_pre (av := [.ref (b 0), .int (nI ((2 * (fN u12 15)) + 0))]) hK hP hJ hE)⟩ rfl rfl hl.1 rfl (lv_room (Nat.le_of_ble_eq_true rfl)) dX12_aStep_75 ⟨Nat.le_of_ble_eq_true rfl, Nat.le_of_ble_eq_true rfl⟩)) (fun r29 hr29 => ?_)
          have hau29 := gg_src (a := a) (s := ((2 * (fN u12 15)) + 0)) (by assumption) (by first | assumption | omega)
          subst hr29
          refine lv_aload_n hx hb dX12_aStep_78 rfl (lv_at hl 2 rfl) ?_
          refine lv_aload_n hx hb dX12_aStep_79 rfl (lv_at hl 3 rfl) ?_
          refine vp_callSi (va_Run.run (va_runV (As := [.ref (b jw)]) (rest := [.int (nI (src a ((2 * (fN u12 15)) + 0)))]) ⟨hx, hb, hml, hown, noTs⟩ (r_X12_end l dC dI H.size cs b u18 a hA19 jw (by omega) w hA21 (by first | assumption | omega | rfl | (congr 1; omega)) (by first | assumption | omega | rfl | (congr 1; omega))) ⟨cbE 1 (wd_1599 hE) (wd_126 hE) (wd_1596 hE) rfl rfl (by decide +kernel) ⟨Nat.le_of_ble_eq_true rfl, Nat.le_of_ble_eq_true rfl⟩, (wd_1598 hE), (wd_76 hE)⟩ ⟨PR.blind, r_recv hK hP rfl, (r_pre (av := [.ref (b 0), .ref (b jw)]) hK hP hJ hE)⟩ rfl rfl hl.1 rfl (lv_room (Nat.le_of_ble_eq_true rfl)) dX12_aStep_80 ⟨Nat.le_of_ble_eq_true rfl, Nat.le_of_ble_eq_true rfl⟩)) (fun r30 hr30 => ?_)
          have hau30 := pg_end (a := a) (w := w) (by assumption) (by assumption)
          subst hr30
          refine lv_icmp_eq (tgt := 92) hx hb dX12_aStep_83 (by decide) (fun c31 => ?_) (fun c31 => ?_)
          · have c31 := (b_eq (nI_toInt (n := src a ((2 * (fN u12 15)) + 0)) (by omega)) (nI_toInt (n := vend a w) (by omega))).mp c31
            refine lv_aload_n hx hb dX12_aStep_92 rfl (lv_at hl 2 rfl) ?_
            refine rc_v hAL hS hA (va_runV (As := []) (rest := []) ⟨hx, hb, hml, hown, noTs⟩ (r_X12_ahead l dC dI H.size cs b u18 tx hA20 sz1 (fN u12 14) (fN u12 15) hF22x hF24x hF25x (by first | assumption | omega | rfl | (congr 1; omega)) (by first | assumption | omega | rfl | (congr 1; omega)) (by first | assumption | omega | rfl | (congr 1; omega))) ⟨cbE 0 (wd_1506 hE) (wd_126 hE) (wd_1503 hE) rfl rfl (by decide +kernel) ⟨Nat.le_of_ble_eq_true rfl, Nat.le_of_ble_eq_true rfl⟩, (wd_1505 hE), (wd_56 hE)⟩ ⟨PR.blind, r_recv hK hP rfl, (r_pre (av := [.ref (b 0)]) hK hP hJ hE)⟩ rfl rfl hl.1 rfl (lv_room (Nat.le_of_ble_eq_true rfl)) dX12_aStep_93 ⟨Nat.le_of_ble_eq_true rfl, Nat.le_of_ble_eq_true rfl⟩) (fun u32 H locs hpo32 hP hS => ?_)
            obtain ⟨h32_0, h32_1, h32_2, hq32⟩ := hpo32
            have hA33 := (hq32.1 1 List.not_mem_nil).trans hA19
            have hA34 := (hq32.1 16 List.not_mem_nil).trans hA20
            have hA35 := (hq32.1 jw List.not_mem_nil).trans hA21
            have hF36x := (hq32.2.1 11 (by decide)).trans hF22x
            have hfr := FR.step hfr hq32 (fun _ h => absurd h List.not_mem_nil) (by decide) (fun h => rfl)
            have htk37 := h32_0.2.2.2
            refine lv_aload_n hx hb dX12_aStep_96 rfl (lv_at hl 3 rfl) ?_
            refine lv_iload_n hx hb dX12_aStep_97 rfl (lv_at hl 0 rfl) ?_
            refine lv_aload_n hx hb dX12_aStep_98 rfl (lv_at hl 2 rfl) ?_
            refine lv_aload_n hx hb dX12_aStep_99 rfl (lv_at hl 2 rfl) ?_
            refine lv_iload_n hx hb dX12_aStep_100 rfl (lv_at hl 0 rfl) ?_
            refine vp_callSi (va_Run.run (va_runV (As := [.int (nI ((2 * (fN u12 15)) + 0))]) (rest := [.ref (b 0), .int (nI ((2 * (fN u12 15)) + 0)), .ref (b jw)]) ⟨hx, hb, hml, hown, noTs⟩ (r_X12_to l dC dI H.size cs b u32 a hA33 ((2 * (fN u12 15)) + 0) (by first | assumption | omega | rfl | (congr 1; omega)) (by first | assumption | omega | rfl | (congr 1; omega))) ⟨cbE 1 (wd_1606 hE) (wd_126 hE) (wd_1603 hE) rfl rfl (by decide +kernel) ⟨Nat.le_of_ble_eq_true rfl, Nat.le_of_ble_eq_true rfl⟩, (wd_1605 hE), (wd_77 hE)⟩ ⟨PR.blind, r_recv hK hP rfl, (r_pre (av := [.ref (b 0), .int (nI ((2 * (fN u12 15)) + 0))]) hK hP hJ hE)⟩ rfl rfl hl.1 rfl (lv_room (Nat.le_of_ble_eq_true rfl)) dX12_aStep_101 ⟨Nat.le_of_ble_eq_true rfl, Nat.le_of_ble_eq_true rfl⟩)) (fun r38 hr38 => ?_)
            have hau38 := gg_dst (a := a) (s := ((2 * (fN u12 15)) + 0)) (by assumption) (by first | assumption | omega)
            subst hr38
            refine rc_i hAL hS hA (va_runV (As := [.int (nI (dst a ((2 * (fN u12 15)) + 0)))]) (rest := [.int (nI ((2 * (fN u12 15)) + 0)), .ref (b jw)]) ⟨hx, hb, hml, hown, noTs⟩ (r_X12_someNumber l dC dI H.size cs b u32 a hA33 tx hA34 (dst a ((2 * (fN u12 15)) + 0)) sz1 hF36x (by first | assumption | omega | rfl | (congr 1; omega)) (by first | assumption | omega | rfl | (congr 1; omega)) (by first | assumption | omega | rfl | (congr 1; omega)) (by first | assumption | omega | rfl | (congr 1; omega))) ⟨cbE 1 (wd_1572 hE) (wd_126 hE) (wd_1569 hE) rfl rfl (by decide +kernel) ⟨Nat.le_of_ble_eq_true rfl, Nat.le_of_ble_eq_true rfl⟩, (wd_1571 hE), (wd_70 hE)⟩ ⟨PR.blind, r_recv hK hP rfl, (r_pre (av := [.ref (b 0), .int (nI (dst a ((2 * (fN u12 15)) + 0)))]) hK hP hJ hE)⟩ rfl rfl hl.1 rfl (lv_room (Nat.le_of_ble_eq_true rfl)) dX12_aStep_104 ⟨Nat.le_of_ble_eq_true rfl, Nat.le_of_ble_eq_true rfl⟩) (fun r39 u39 H locs hpo39 hP hS => ?_)
            obtain ⟨hr39, h39_0, h39_1, hq39⟩ := hpo39
            have hA40 := (hq39.1 1 List.not_mem_nil).trans hA33
            have hA41 := (hq39.1 16 List.not_mem_nil).trans hA34
            have hA42 := (hq39.1 jw List.not_mem_nil).trans hA35
            have hF43x := (hq39.2.1 11 (by decide)).trans hF36x
            have hfr := FR.step hfr hq39 (fun _ h => absurd h List.not_mem_nil) (by decide) (fun h => rfl)
            have htk44 := h39_0.2.2.2
            obtain ⟨n39, rfl, hn39_0⟩ := hr39
            refine rc_v hAL hS hA (va_runS (As := [.ref (b jw), .int (nI ((2 * (fN u12 15)) + 0)), .int (nI n39)]) (rest := []) ⟨hx, hb, hml, hown, noTs⟩ (r_X12_goes l dC dI H.size cs b u39 a hA40 jw (by omega) w hA42 ((2 * (fN u12 15)) + 0) (nI n39) (by first | assumption | omega | rfl | (congr 1; omega)) (by first | assumption | omega | rfl | (congr 1; omega)) (by first | assumption | omega | rfl | (congr 1; omega)) (by first | assumption | omega | rfl | (congr 1; omega)) (by first | assumption | omega | rfl | (congr 1; omega))) ⟨cbE 3 (wd_1609 hE) (wd_126 hE) (wd_1607 hE) rfl rfl (by decide +kernel) ⟨Nat.le_of_ble_eq_true rfl, Nat.le_of_ble_eq_true rfl⟩, (wd_1608 hE)⟩ ⟨PR.blind, (r_pre (av := [.ref (b jw), .int (nI ((2 * (fN u12 15)) + 0)), .int (nI n39)]) hK hP hJ hE)⟩ rfl rfl hl.1 rfl (lv_room (Nat.le_of_ble_eq_true rfl)) dX12_aStep_107 ⟨Nat.le_of_ble_eq_true rfl, Nat.le_of_ble_eq_true rfl⟩) (fun u45 H locs hpo45 hP hS => ?_)
            obtain ⟨h45_0, h45_1, h45_2, h45_3, h45_4, h45_5, h45_6, h45_7, hq45⟩ := hpo45
            obtain ⟨w46, hA46⟩ : ∃ g, rA u45 jw = g := ⟨_, rfl⟩
            rw [hA46] at h45_0 h45_1 h45_2 h45_3 h45_4 h45_5 h45_6 h45_7
            have hA47 := (hq45.1 1 (by simp only [List.mem_cons, List.not_mem_nil, or_false, not_or]; omega)).trans hA40
            have hA48 := (hq45.1 16 (by simp only [List.mem_cons, List.not_mem_nil, or_false, not_or]; omega)).trans hA41
            have hF49x := (hq45.2.1 11 List.not_mem_nil).trans hF43x
            have hF50x := (hq45.2.1 13 List.not_mem_nil).trans h39_0.1
            have hF51x := (hq45.2.1 14 List.not_mem_nil).trans h39_0.2.1
            have hF52x := (hq45.2.1 15 List.not_mem_nil).trans h39_0.2.2.1
            have hfr := FR.step hfr hq45 (by simp) (fun _ h => absurd h List.not_mem_nil) (fun h => rfl)
            have hl45_0 := pg_le h45_0
            have p1 := h45_0
            have hdo := gg_od hG (gg_dst hG (s := ((2 * (fN u12 15)) + 0)) (by omega))
            have p8 : LG a w46 := lg_mk (n := rn w + 1) h45_1 h45_3 h45_4 (by omega) (by omega)
            refine lv_iconst (v := 1) hx hb dX12_aStep_110 (by decide) ?_
            obtain ⟨tk1, tk2, tk3⟩ := tk_mk (n := sz1) hF50x hF51x hF52x (by omega) (by omega) (by omega) (by omega)
            exact W.zret (v := 1) hx hb hr rfl (fun t ht hW => ⟨⟨1, u45, rfl, ⟨Or.inl ⟨rfl, by rw [hA46]; omega⟩, (by first | (rw [hA46]; done) | (rw [hA46]; first | assumption | exact p1)), (by first | (rw [hA46]; done) | (rw [hA46]; first | assumption | exact p8)), (by first | (rw [hA46]; done) | (rw [hA46]; first | assumption | omega | rfl | (congr 1; omega))), (by exact tk1), (by omega), hfr⟩, (show va_P (dC, dI) vwCl (rW cs b u45) t.heap by rw [ht]; exact hP)⟩, hS.F ht⟩) hS.2.2 dX12_aStep_111
          · have c31 := mt (b_eq (nI_toInt (n := src a ((2 * (fN u12 15)) + 0)) (by omega)) (nI_toInt (n := vend a w) (by omega))).mpr c31
            refine lv_aload_n hx hb dX12_aStep_86 rfl (lv_at hl 2 rfl) ?_
            refine lv_iconst (v := 5) hx hb dX12_aStep_87 (by decide) ?_
            refine rc_i hAL hS hA (va_runV (As := [.int 5]) (rest := []) ⟨hx, hb, hml, hown, noTs⟩ (r_X12_fails l dC dI H.size cs b u18 5) ⟨cbE 1 (wd_1540 hE) (wd_126 hE) (wd_1537 hE) rfl rfl (by decide +kernel) ⟨Nat.le_of_ble_eq_true rfl, Nat.le_of_ble_eq_true rfl⟩, (wd_1539 hE), (wd_62 hE)⟩ ⟨PR.blind, r_recv hK hP rfl, (r_pre (av := [.ref (b 0), .int 5]) hK hP hJ hE)⟩ rfl rfl hl.1 rfl (lv_room (Nat.le_of_ble_eq_true rfl)) dX12_aStep_88 ⟨Nat.le_of_ble_eq_true rfl, Nat.le_of_ble_eq_true rfl⟩) (fun r53 u53 H locs hpo53 hP hS => ?_)
            obtain ⟨hr53, hq53⟩ := hpo53
            have hA54 := (hq53.1 1 List.not_mem_nil).trans hA19
            have hA55 := (hq53.1 16 List.not_mem_nil).trans hA20
            have hA56 := (hq53.1 jw List.not_mem_nil).trans hA21
            have hF57x := (hq53.2.1 11 (by decide)).trans hF22x
            have hF58x := (hq53.2.1 13 (by decide)).trans hF23x
            have hF59x := (hq53.2.1 14 (by decide)).trans hF24x
            have hF60x := (hq53.2.1 15 (by decide)).trans hF25x
            have hfr := FR.step hfr hq53 (fun _ h => absurd h List.not_mem_nil) (by decide) (fun h => rfl)
            subst hr53
            obtain ⟨tk1, tk2, tk3⟩ := tk_mk (n := sz1) hF58x hF59x hF60x (by omega) (by omega) (by omega) (by omega)
            exact W.zret (v := 0) hx hb hr rfl (fun t ht hW => ⟨⟨0, u53, rfl, ⟨Or.inr ⟨rfl, by trivial⟩, (by first | (rw [hA56]; done) | (rw [hA56]; first | assumption | exact p1)), (by first | (rw [hA56]; done) | (rw [hA56]; first | assumption | exact p8)), (by first | (rw [hA56]; done) | (rw [hA56]; first | assumption | omega | rfl | (congr 1; omega))), (by exact tk1), (by omega), hfr⟩, (show va_P (dC, dI) vwCl (rW cs b u53) t.heap by rw [ht]; exact hP)⟩, hS.F ht⟩) hS.2.2 dX12_aStep_91
        · refine lv_if_ne (tgt := 64) hx hb dX12_aStep_55 (by decide) (fun c61 => absurd c61 (by decide)) (fun c61 => ?_)
          refine lv_aload_n hx hb dX12_aStep_58 rfl (lv_at hl 1 rfl) ?_
          refine lv_iconst (v := 3) hx hb dX12_aStep_59 (by decide) ?_
          refine rc_i hAL hS hA (va_runV (As := [.int 3]) (rest := []) ⟨hx, hb, hml, hown, noTs⟩ (r_X12_fails l dC dI H.size cs b u18 3) ⟨cbE 1 (wd_1540 hE) (wd_126 hE) (wd_1537 hE) rfl rfl (by decide +kernel) ⟨Nat.le_of_ble_eq_true rfl, Nat.le_of_ble_eq_true rfl⟩, (wd_1539 hE), (wd_62 hE)⟩ ⟨PR.blind, r_recv hK hP rfl, (r_pre (av := [.ref (b 0), .int 3]) hK hP hJ hE)⟩ rfl rfl hl.1 rfl (lv_room (Nat.le_of_ble_eq_true rfl)) dX12_aStep_60 ⟨Nat.le_of_ble_eq_true rfl, Nat.le_of_ble_eq_true rfl⟩) (fun r62 u62 H locs hpo62 hP hS => ?_)
          obtain ⟨hr62, hq62⟩ := hpo62
          have hA63 := (hq62.1 1 List.not_mem_nil).trans hA19
          have hA64 := (hq62.1 16 List.not_mem_nil).trans hA20
          have hA65 := (hq62.1 jw List.not_mem_nil).trans hA21
          have hF66x := (hq62.2.1 11 (by decide)).trans hF22x
          have hF67x := (hq62.2.1 13 (by decide)).trans hF23x
          have hF68x := (hq62.2.1 14 (by decide)).trans hF24x
          have hF69x := (hq62.2.1 15 (by decide)).trans hF25x
          have hfr := FR.step hfr hq62 (fun _ h => absurd h List.not_mem_nil) (by decide) (fun h => rfl)
          subst hr62
          obtain ⟨tk1, tk2, tk3⟩ := tk_mk (n := sz1) hF67x hF68x hF69x (by omega) (by omega) (by omega) (by omega)
          exact W.zret (v := 0) hx hb hr rfl (fun t ht hW => ⟨⟨0, u62, rfl, ⟨Or.inr ⟨rfl, by trivial⟩, (by first | (rw [hA65]; done) | (rw [hA65]; first | assumption | exact p1)), (by first | (rw [hA65]; done) | (rw [hA65]; first | assumption | exact p8)), (by first | (rw [hA65]; done) | (rw [hA65]; first | assumption | omega | rfl | (congr 1; omega))), (by exact tk1), (by omega), hfr⟩, (show va_P (dC, dI) vwCl (rW cs b u62) t.heap by rw [ht]; exact hP)⟩, hS.F ht⟩) hS.2.2 dX12_aStep_63
      · refine lv_if_ne (tgt := 47) hx hb dX12_aStep_42 (by decide) (fun c70 => absurd c70 (by decide)) (fun c70 => ?_)
        refine lv_iconst (v := 0) hx hb dX12_aStep_45 (by decide) ?_
        obtain ⟨tk1, tk2, tk3⟩ := tk_mk (n := sz1) hF23x hF24x hF25x (by omega) (by omega) (by omega) (by omega)
        exact W.zret (v := 0) hx hb hr rfl (fun t ht hW => ⟨⟨0, u18, rfl, ⟨Or.inr ⟨rfl, by trivial⟩, (by first | (rw [hA21]; done) | (rw [hA21]; first | assumption | exact p1)), (by first | (rw [hA21]; done) | (rw [hA21]; first | assumption | exact p8)), (by first | (rw [hA21]; done) | (rw [hA21]; first | assumption | omega | rfl | (congr 1; omega))), (by exact tk1), (by omega), hfr⟩, (show va_P (dC, dI) vwCl (rW cs b u18) t.heap by rw [ht]; exact hP)⟩, hS.F ht⟩) hS.2.2 dX12_aStep_46
    · have c11 := (b_eq (rfl : Int32.toInt (bA tx sz1 (fN u 13)) = _) (show Int32.toInt 60 = 60 from rfl)).mp c11
      refine lv_iconst (v := 1) hx hb dX12_aStep_28 (by decide) ?_
      refine lv_goto (tgt := 33) hx hb dX12_aStep_29 (by decide) ?_
      refine lv_istore_n (lv' := [(2, .int 1), (0, .ref (b 0)), (1, .ref (b jw))]) hx hb dX12_aStep_33 rfl hl (by decide) rfl (fun ls hl => ?_)
      refine lv_aload_n hx hb dX12_aStep_34 rfl (lv_at hl 1 rfl) ?_
      refine rc_v hAL hS hA (va_runV (As := []) (rest := []) ⟨hx, hb, hml, hown, noTs⟩ (r_X12_ahead l dC dI s.heap.size cs b u tx hAc16 sz1 (fN u 14) (fN u 15) hF11 hp1.2.1 hp1.2.2.1 (by first | assumption | omega | rfl | (congr 1; omega)) (by first | assumption | omega | rfl | (congr 1; omega)) (by first | assumption | omega | rfl | (congr 1; omega))) ⟨cbE 0 (wd_1506 hE) (wd_126 hE) (wd_1503 hE) rfl rfl (by decide +kernel) ⟨Nat.le_of_ble_eq_true rfl, Nat.le_of_ble_eq_true rfl⟩, (wd_1505 hE), (wd_56 hE)⟩ ⟨PR.blind, r_recv hK hP rfl, (r_pre (av := [.ref (b 0)]) hK hP hJ hE)⟩ rfl rfl hl.1 rfl (lv_room (Nat.le_of_ble_eq_true rfl)) dX12_aStep_35 ⟨Nat.le_of_ble_eq_true rfl, Nat.le_of_ble_eq_true rfl⟩) (fun u71 H locs hpo71 hP hS => ?_)
      obtain ⟨h71_0, h71_1, h71_2, hq71⟩ := hpo71
      have hA72 := (hq71.1 1 List.not_mem_nil).trans hA1
      have hA73 := (hq71.1 16 List.not_mem_nil).trans hAc16
      have hA74 := (hq71.1 jw List.not_mem_nil).trans hAjw
      have hF75x := (hq71.2.1 11 (by decide)).trans hF11
      have hfr := FR.step hfr hq71 (fun _ h => absurd h List.not_mem_nil) (by decide) (fun h => rfl)
      have htk76 := h71_0.2.2.2
      refine lv_aload_n hx hb dX12_aStep_38 rfl (lv_at hl 1 rfl) ?_
      refine rc_i hAL hS hA (va_runV (As := []) (rest := []) ⟨hx, hb, hml, hown, noTs⟩ (r_X12_isNumber l dC dI H.size cs b u71) ⟨cbE 0 (wd_1544 hE) (wd_126 hE) (wd_1541 hE) rfl rfl (by decide +kernel) ⟨Nat.le_of_ble_eq_true rfl, Nat.le_of_ble_eq_true rfl⟩, (wd_1543 hE), (wd_63 hE)⟩ ⟨PR.blind, r_recv hK hP rfl, (r_pre (av := [.ref (b 0)]) hK hP hJ hE)⟩ rfl rfl hl.1 rfl (lv_room (Nat.le_of_ble_eq_true rfl)) dX12_aStep_39 ⟨Nat.le_of_ble_eq_true rfl, Nat.le_of_ble_eq_true rfl⟩) (fun r77 u77 H locs hpo77 hP hS => ?_)
      obtain ⟨hr77, hq77⟩ := hpo77
      have hA78 := (hq77.1 1 List.not_mem_nil).trans hA72
      have hA79 := (hq77.1 16 List.not_mem_nil).trans hA73
      have hA80 := (hq77.1 jw List.not_mem_nil).trans hA74
      have hF81x := (hq77.2.1 11 (by decide)).trans hF75x
      have hF82x := (hq77.2.1 13 (by decide)).trans h71_0.1
      have hF83x := (hq77.2.1 14 (by decide)).trans h71_0.2.1
      have hF84x := (hq77.2.1 15 (by decide)).trans h71_0.2.2.1
      have hfr := FR.step hfr hq77 (fun _ h => absurd h List.not_mem_nil) (by decide) (fun h => rfl)
      rcases hr77 with ⟨rfl, hb77⟩ | ⟨rfl, hb77⟩
      · refine lv_if_ne (tgt := 47) hx hb dX12_aStep_42 (by decide) (fun c85 => ?_) (fun c85 => absurd c85 (by decide))
        refine lv_aload_n hx hb dX12_aStep_47 rfl (lv_at hl 1 rfl) ?_
        refine lv_aload_n hx hb dX12_aStep_48 rfl (lv_at hl 1 rfl) ?_
        refine r_get (v := .int (nI (fN u71 15))) hx hb (ly_X12 hE) hown hK hP rfl 15 (by decide) (wd_1396 hE) (fun _ h9 => h9) (congrArg (fun z : Int32 => some (Value.int z)) hF84x) dX12_aStep_49 ?_
        refine vp_callSi (va_Run.run (va_runV (As := [.int (nI (fN u71 15))]) (rest := []) ⟨hx, hb, hml, hown, noTs⟩ (r_X12_isEdge l dC dI H.size cs b u77 a hA78 (nI (fN u71 15)) (by first | assumption | omega | rfl | (congr 1; omega))) ⟨cbE 1 (wd_1587 hE) (wd_126 hE) (wd_1584 hE) rfl rfl (by decide +kernel) ⟨Nat.le_of_ble_eq_true rfl, Nat.le_of_ble_eq_true rfl⟩, (wd_1586 hE), (wd_73 hE)⟩ ⟨PR.blind, r_recv hK hP rfl, (r_pre (av := [.ref (b 0), .int (nI (fN u71 15))]) hK hP hJ hE)⟩ rfl rfl hl.1 rfl (lv_room (Nat.le_of_ble_eq_true rfl)) dX12_aStep_52 ⟨Nat.le_of_ble_eq_true rfl, Nat.le_of_ble_eq_true rfl⟩)) (fun r86 hr86 => ?_)
        rcases hr86 with ⟨rfl, hb86⟩ | ⟨rfl, hb86⟩
        · obtain ⟨n86, hbe86_1, hb86⟩ := hb86
          have hbe86_1 := (nI_eq (by omega) (by omega)).mp hbe86_1
          refine lv_if_ne (tgt := 64) hx hb dX12_aStep_55 (by decide) (fun c87 => ?_) (fun c87 => absurd c87 (by decide))
          refine lv_iconst (v := 2) hx hb dX12_aStep_64 (by decide) ?_
          refine lv_aload_n hx hb dX12_aStep_65 rfl (lv_at hl 1 rfl) ?_
          refine r_get (v := .int (nI (fN u71 15))) hx hb (ly_X12 hE) hown hK hP rfl 15 (by decide) (wd_1396 hE) (fun _ h9 => h9) (congrArg (fun z : Int32 => some (Value.int z)) hF84x) dX12_aStep_66 ?_
          refine lv_imul hx hb dX12_aStep_69 ?_
          refine W.eq (g2 := F0 m 70 ls [.int (nI (2 * (fN u71 15)))]) (congrArg (fun z : Int32 => F0 m 70 ls (.int z :: [])) (pk_mul 2 (fN u71 15))) ?_
          refine lv_iload_n hx hb dX12_aStep_70 rfl (lv_at hl 0 rfl) ?_
          refine lv_iadd hx hb dX12_aStep_71 ?_
          refine W.eq (g2 := F0 m 72 ls [.int (nI ((2 * (fN u71 15)) + 1))]) (congrArg (fun z : Int32 => F0 m 72 ls (.int z :: [])) (nI_add (2 * (fN u71 15)) 1)) ?_
          refine lv_istore_n (lv' := [(3, .int (nI ((2 * (fN u71 15)) + 1))), (2, .int 1), (0, .ref (b 0)), (1, .ref (b jw))]) hx hb dX12_aStep_72 rfl hl (by decide) rfl (fun ls hl => ?_)
          refine lv_aload_n hx hb dX12_aStep_73 rfl (lv_at hl 2 rfl) ?_
          refine lv_iload_n hx hb dX12_aStep_74 rfl (lv_at hl 0 rfl) ?_
          refine vp_callSi (va_Run.run (va_runV (As := [.int (nI ((2 * (fN u71 15)) + 1))]) (rest := []) ⟨hx, hb, hml, hown, noTs⟩ (r_X12_from l dC dI H.size cs b u77 a hA78 ((2 * (fN u71 15)) + 1) (by first | assumption | omega | rfl | (congr 1; omega)) (by first | assumption | omega | rfl | (congr 1; omega))) ⟨cbE 1 (wd_1591 hE) (wd_126 hE) (wd_1588 hE) rfl rfl (by decide +kernel) ⟨Nat.le_of_ble_eq_true rfl, Nat.le_of_ble_eq_true rfl⟩, (wd_1590 hE), (wd_74 hE)⟩ ⟨PR.blind, r_recv hK hP rfl, (r_pre (av := [.ref (b 0), .int (nI ((2 * (fN u71 15)) + 1))]) hK hP hJ hE)⟩ rfl rfl hl.1 rfl (lv_room (Nat.le_of_ble_eq_true rfl)) dX12_aStep_75 ⟨Nat.le_of_ble_eq_true rfl, Nat.le_of_ble_eq_true rfl⟩)) (fun r88 hr88 => ?_)
          have hau88 := gg_src (a := a) (s := ((2 * (fN u71 15)) + 1)) (by assumption) (by first | assumption | omega)
          subst hr88
          refine lv_aload_n hx hb dX12_aStep_78 rfl (lv_at hl 2 rfl) ?_
          refine lv_aload_n hx hb dX12_aStep_79 rfl (lv_at hl 3 rfl) ?_
          refine vp_callSi (va_Run.run (va_runV (As := [.ref (b jw)]) (rest := [.int (nI (src a ((2 * (fN u71 15)) + 1)))]) ⟨hx, hb, hml, hown, noTs⟩ (r_X12_end l dC dI H.size cs b u77 a hA78 jw (by omega) w hA80 (by first | assumption | omega | rfl | (congr 1; omega)) (by first | assumption | omega | rfl | (congr 1; omega))) ⟨cbE 1 (wd_1599 hE) (wd_126 hE) (wd_1596 hE) rfl rfl (by decide +kernel) ⟨Nat.le_of_ble_eq_true rfl, Nat.le_of_ble_eq_true rfl⟩, (wd_1598 hE), (wd_76 hE)⟩ ⟨PR.blind, r_recv hK hP rfl, (r_pre (av := [.ref (b 0), .ref (b jw)]) hK hP hJ hE)⟩ rfl rfl hl.1 rfl (lv_room (Nat.le_of_ble_eq_true rfl)) dX12_aStep_80 ⟨Nat.le_of_ble_eq_true rfl, Nat.le_of_ble_eq_true rfl⟩)) (fun r89 hr89 => ?_)
          have hau89 := pg_end (a := a) (w := w) (by assumption) (by assumption)
          subst hr89
          refine lv_icmp_eq (tgt := 92) hx hb dX12_aStep_83 (by decide) (fun c90 => ?_) (fun c90 => ?_)
          · have c90 := (b_eq (nI_toInt (n := src a ((2 * (fN u71 15)) + 1)) (by omega)) (nI_toInt (n := vend a w) (by omega))).mp c90
            refine lv_aload_n hx hb dX12_aStep_92 rfl (lv_at hl 2 rfl) ?_
            refine rc_v hAL hS hA (va_runV (As := []) (rest := []) ⟨hx, hb, hml, hown, noTs⟩ (r_X12_ahead l dC dI H.size cs b u77 tx hA79 sz1 (fN u71 14) (fN u71 15) hF81x hF83x hF84x (by first | assumption | omega | rfl | (congr 1; omega)) (by first | assumption | omega | rfl | (congr 1; omega)) (by first | assumption | omega | rfl | (congr 1; omega))) ⟨cbE 0 (wd_1506 hE) (wd_126 hE) (wd_1503 hE) rfl rfl (by decide +kernel) ⟨Nat.le_of_ble_eq_true rfl, Nat.le_of_ble_eq_true rfl⟩, (wd_1505 hE), (wd_56 hE)⟩ ⟨PR.blind, r_recv hK hP rfl, (r_pre (av := [.ref (b 0)]) hK hP hJ hE)⟩ rfl rfl hl.1 rfl (lv_room (Nat.le_of_ble_eq_true rfl)) dX12_aStep_93 ⟨Nat.le_of_ble_eq_true rfl, Nat.le_of_ble_eq_true rfl⟩) (fun u91 H locs hpo91 hP hS => ?_)
            obtain ⟨h91_0, h91_1, h91_2, hq91⟩ := hpo91
            have hA92 := (hq91.1 1 List.not_mem_nil).trans hA78
            have hA93 := (hq91.1 16 List.not_mem_nil).trans hA79
            have hA94 := (hq91.1 jw List.not_mem_nil).trans hA80
            have hF95x := (hq91.2.1 11 (by decide)).trans hF81x
            have hfr := FR.step hfr hq91 (fun _ h => absurd h List.not_mem_nil) (by decide) (fun h => rfl)
            have htk96 := h91_0.2.2.2
            refine lv_aload_n hx hb dX12_aStep_96 rfl (lv_at hl 3 rfl) ?_
            refine lv_iload_n hx hb dX12_aStep_97 rfl (lv_at hl 0 rfl) ?_
            refine lv_aload_n hx hb dX12_aStep_98 rfl (lv_at hl 2 rfl) ?_
            refine lv_aload_n hx hb dX12_aStep_99 rfl (lv_at hl 2 rfl) ?_
            refine lv_iload_n hx hb dX12_aStep_100 rfl (lv_at hl 0 rfl) ?_
            refine vp_callSi (va_Run.run (va_runV (As := [.int (nI ((2 * (fN u71 15)) + 1))]) (rest := [.ref (b 0), .int (nI ((2 * (fN u71 15)) + 1)), .ref (b jw)]) ⟨hx, hb, hml, hown, noTs⟩ (r_X12_to l dC dI H.size cs b u91 a hA92 ((2 * (fN u71 15)) + 1) (by first | assumption | omega | rfl | (congr 1; omega)) (by first | assumption | omega | rfl | (congr 1; omega))) ⟨cbE 1 (wd_1606 hE) (wd_126 hE) (wd_1603 hE) rfl rfl (by decide +kernel) ⟨Nat.le_of_ble_eq_true rfl, Nat.le_of_ble_eq_true rfl⟩, (wd_1605 hE), (wd_77 hE)⟩ ⟨PR.blind, r_recv hK hP rfl, (r_pre (av := [.ref (b 0), .int (nI ((2 * (fN u71 15)) + 1))]) hK hP hJ hE)⟩ rfl rfl hl.1 rfl (lv_room (Nat.le_of_ble_eq_true rfl)) dX12_aStep_101 ⟨Nat.le_of_ble_eq_true rfl, Nat.le_of_ble_eq_true rfl⟩)) (fun r97 hr97 => ?_)
            have hau97 := gg_dst (a := a) (s := ((2 * (fN u71 15)) + 1)) (by assumption) (by first | assumption | omega)
            subst hr97
            refine rc_i hAL hS hA (va_runV (As := [.int (nI (dst a ((2 * (fN u71 15)) + 1)))]) (rest := [.int (nI ((2 * (fN u71 15)) + 1)), .ref (b jw)]) ⟨hx, hb, hml, hown, noTs⟩ (r_X12_someNumber l dC dI H.size cs b u91 a hA92 tx hA93 (dst a ((2 * (fN u71 15)) + 1)) sz1 hF95x (by first | assumption | omega | rfl | (congr 1; omega)) (by first | assumption | omega | rfl | (congr 1; omega)) (by first | assumption | omega | rfl | (congr 1; omega)) (by first | assumption | omega | rfl | (congr 1; omega))) ⟨cbE 1 (wd_1572 hE) (wd_126 hE) (wd_1569 hE) rfl rfl (by decide +kernel) ⟨Nat.le_of_ble_eq_true rfl, Nat.le_of_ble_eq_true rfl⟩, (wd_1571 hE), (wd_70 hE)⟩ ⟨PR.blind, r_recv hK hP rfl, (r_pre (av := [.ref (b 0), .int (nI (dst a ((2 * (fN u71 15)) + 1)))]) hK hP hJ hE)⟩ rfl rfl hl.1 rfl (lv_room (Nat.le_of_ble_eq_true rfl)) dX12_aStep_104 ⟨Nat.le_of_ble_eq_true rfl, Nat.le_of_ble_eq_true rfl⟩) (fun r98 u98 H locs hpo98 hP hS => ?_)
            obtain ⟨hr98, h98_0, h98_1, hq98⟩ := hpo98
            have hA99 := (hq98.1 1 List.not_mem_nil).trans hA92
            have hA100 := (hq98.1 16 List.not_mem_nil).trans hA93
            have hA101 := (hq98.1 jw List.not_mem_nil).trans hA94
            have hF102x := (hq98.2.1 11 (by decide)).trans hF95x
            have hfr := FR.step hfr hq98 (fun _ h => absurd h List.not_mem_nil) (by decide) (fun h => rfl)
            have htk103 := h98_0.2.2.2
            obtain ⟨n98, rfl, hn98_0⟩ := hr98
            refine rc_v hAL hS hA (va_runS (As := [.ref (b jw), .int (nI ((2 * (fN u71 15)) + 1)), .int (nI n98)]) (rest := []) ⟨hx, hb, hml, hown, noTs⟩ (r_X12_goes l dC dI H.size cs b u98 a hA99 jw (by omega) w hA101 ((2 * (fN u71 15)) + 1) (nI n98) (by first | assumption | omega | rfl | (congr 1; omega)) (by first | assumption | omega | rfl | (congr 1; omega)) (by first | assumption | omega | rfl | (congr 1; omega)) (by first | assumption | omega | rfl | (congr 1; omega)) (by first | assumption | omega | rfl | (congr 1; omega))) ⟨cbE 3 (wd_1609 hE) (wd_126 hE) (wd_1607 hE) rfl rfl (by decide +kernel) ⟨Nat.le_of_ble_eq_true rfl, Nat.le_of_ble_eq_true rfl⟩, (wd_1608 hE)⟩ ⟨PR.blind, (r_pre (av := [.ref (b jw), .int (nI ((2 * (fN u71 15)) + 1)), .int (nI n98)]) hK hP hJ hE)⟩ rfl rfl hl.1 rfl (lv_room (Nat.le_of_ble_eq_true rfl)) dX12_aStep_107 ⟨Nat.le_of_ble_eq_true rfl, Nat.le_of_ble_eq_true rfl⟩) (fun u104 H locs hpo104 hP hS => ?_)
            obtain ⟨h104_0, h104_1, h104_2, h104_3, h104_4, h104_5, h104_6, h104_7, hq104⟩ := hpo104
            obtain ⟨w105, hA105⟩ : ∃ g, rA u104 jw = g := ⟨_, rfl⟩
            rw [hA105] at h104_0 h104_1 h104_2 h104_3 h104_4 h104_5 h104_6 h104_7
            have hA106 := (hq104.1 1 (by simp only [List.mem_cons, List.not_mem_nil, or_false, not_or]; omega)).trans hA99
            have hA107 := (hq104.1 16 (by simp only [List.mem_cons, List.not_mem_nil, or_false, not_or]; omega)).trans hA100
            have hF108x := (hq104.2.1 11 List.not_mem_nil).trans hF102x
            have hF109x := (hq104.2.1 13 List.not_mem_nil).trans h98_0.1
            have hF110x := (hq104.2.1 14 List.not_mem_nil).trans h98_0.2.1
            have hF111x := (hq104.2.1 15 List.not_mem_nil).trans h98_0.2.2.1
            have hfr := FR.step hfr hq104 (by simp) (fun _ h => absurd h List.not_mem_nil) (fun h => rfl)
            have hl104_0 := pg_le h104_0
            have p1 := h104_0
            have hdo := gg_od hG (gg_dst hG (s := ((2 * (fN u71 15)) + 1)) (by omega))
            have p8 : LG a w105 := lg_mk (n := rn w + 1) h104_1 h104_3 h104_4 (by omega) (by omega)
            refine lv_iconst (v := 1) hx hb dX12_aStep_110 (by decide) ?_
            obtain ⟨tk1, tk2, tk3⟩ := tk_mk (n := sz1) hF109x hF110x hF111x (by omega) (by omega) (by omega) (by omega)
            exact W.zret (v := 1) hx hb hr rfl (fun t ht hW => ⟨⟨1, u104, rfl, ⟨Or.inl ⟨rfl, by rw [hA105]; omega⟩, (by first | (rw [hA105]; done) | (rw [hA105]; first | assumption | exact p1)), (by first | (rw [hA105]; done) | (rw [hA105]; first | assumption | exact p8)), (by first | (rw [hA105]; done) | (rw [hA105]; first | assumption | omega | rfl | (congr 1; omega))), (by exact tk1), (by omega), hfr⟩, (show va_P (dC, dI) vwCl (rW cs b u104) t.heap by rw [ht]; exact hP)⟩, hS.F ht⟩) hS.2.2 dX12_aStep_111
          · have c90 := mt (b_eq (nI_toInt (n := src a ((2 * (fN u71 15)) + 1)) (by omega)) (nI_toInt (n := vend a w) (by omega))).mpr c90
            refine lv_aload_n hx hb dX12_aStep_86 rfl (lv_at hl 2 rfl) ?_
            refine lv_iconst (v := 5) hx hb dX12_aStep_87 (by decide) ?_
            refine rc_i hAL hS hA (va_runV (As := [.int 5]) (rest := []) ⟨hx, hb, hml, hown, noTs⟩ (r_X12_fails l dC dI H.size cs b u77 5) ⟨cbE 1 (wd_1540 hE) (wd_126 hE) (wd_1537 hE) rfl rfl (by decide +kernel) ⟨Nat.le_of_ble_eq_true rfl, Nat.le_of_ble_eq_true rfl⟩, (wd_1539 hE), (wd_62 hE)⟩ ⟨PR.blind, r_recv hK hP rfl, (r_pre (av := [.ref (b 0), .int 5]) hK hP hJ hE)⟩ rfl rfl hl.1 rfl (lv_room (Nat.le_of_ble_eq_true rfl)) dX12_aStep_88 ⟨Nat.le_of_ble_eq_true rfl, Nat.le_of_ble_eq_true rfl⟩) (fun r112 u112 H locs hpo112 hP hS => ?_)
            obtain ⟨hr112, hq112⟩ := hpo112
            have hA113 := (hq112.1 1 List.not_mem_nil).trans hA78
            have hA114 := (hq112.1 16 List.not_mem_nil).trans hA79
            have hA115 := (hq112.1 jw List.not_mem_nil).trans hA80
            have hF116x := (hq112.2.1 11 (by decide)).trans hF81x
            have hF117x := (hq112.2.1 13 (by decide)).trans hF82x
            have hF118x := (hq112.2.1 14 (by decide)).trans hF83x
            have hF119x := (hq112.2.1 15 (by decide)).trans hF84x
            have hfr := FR.step hfr hq112 (fun _ h => absurd h List.not_mem_nil) (by decide) (fun h => rfl)
            subst hr112
            obtain ⟨tk1, tk2, tk3⟩ := tk_mk (n := sz1) hF117x hF118x hF119x (by omega) (by omega) (by omega) (by omega)
            exact W.zret (v := 0) hx hb hr rfl (fun t ht hW => ⟨⟨0, u112, rfl, ⟨Or.inr ⟨rfl, by trivial⟩, (by first | (rw [hA115]; done) | (rw [hA115]; first | assumption | exact p1)), (by first | (rw [hA115]; done) | (rw [hA115]; first | assumption | exact p8)), (by first | (rw [hA115]; done) | (rw [hA115]; first | assumption | omega | rfl | (congr 1; omega))), (by exact tk1), (by omega), hfr⟩, (show va_P (dC, dI) vwCl (rW cs b u112) t.heap by rw [ht]; exact hP)⟩, hS.F ht⟩) hS.2.2 dX12_aStep_91
        · refine lv_if_ne (tgt := 64) hx hb dX12_aStep_55 (by decide) (fun c120 => absurd c120 (by decide)) (fun c120 => ?_)
          refine lv_aload_n hx hb dX12_aStep_58 rfl (lv_at hl 1 rfl) ?_
          refine lv_iconst (v := 3) hx hb dX12_aStep_59 (by decide) ?_
          refine rc_i hAL hS hA (va_runV (As := [.int 3]) (rest := []) ⟨hx, hb, hml, hown, noTs⟩ (r_X12_fails l dC dI H.size cs b u77 3) ⟨cbE 1 (wd_1540 hE) (wd_126 hE) (wd_1537 hE) rfl rfl (by decide +kernel) ⟨Nat.le_of_ble_eq_true rfl, Nat.le_of_ble_eq_true rfl⟩, (wd_1539 hE), (wd_62 hE)⟩ ⟨PR.blind, r_recv hK hP rfl, (r_pre (av := [.ref (b 0), .int 3]) hK hP hJ hE)⟩ rfl rfl hl.1 rfl (lv_room (Nat.le_of_ble_eq_true rfl)) dX12_aStep_60 ⟨Nat.le_of_ble_eq_true rfl, Nat.le_of_ble_eq_true rfl⟩) (fun r121 u121 H locs hpo121 hP hS => ?_)
          obtain ⟨hr121, hq121⟩ := hpo121
          have hA122 := (hq121.1 1 List.not_mem_nil).trans hA78
          have hA123 := (hq121.1 16 List.not_mem_nil).trans hA79
          have hA124 := (hq121.1 jw List.not_mem_nil).trans hA80
          have hF125x := (hq121.2.1 11 (by decide)).trans hF81x
          have hF126x := (hq121.2.1 13 (by decide)).trans hF82x
          have hF127x := (hq121.2.1 14 (by decide)).trans hF83x
          have hF128x := (hq121.2.1 15 (by decide)).trans hF84x
          have hfr := FR.step hfr hq121 (fun _ h => absurd h List.not_mem_nil) (by decide) (fun h => rfl)
          subst hr121
          obtain ⟨tk1, tk2, tk3⟩ := tk_mk (n := sz1) hF126x hF127x hF128x (by omega) (by omega) (by omega) (by omega)
          exact W.zret (v := 0) hx hb hr rfl (fun t ht hW => ⟨⟨0, u121, rfl, ⟨Or.inr ⟨rfl, by trivial⟩, (by first | (rw [hA124]; done) | (rw [hA124]; first | assumption | exact p1)), (by first | (rw [hA124]; done) | (rw [hA124]; first | assumption | exact p8)), (by first | (rw [hA124]; done) | (rw [hA124]; first | assumption | omega | rfl | (congr 1; omega))), (by exact tk1), (by omega), hfr⟩, (show va_P (dC, dI) vwCl (rW cs b u121) t.heap by rw [ht]; exact hP)⟩, hS.F ht⟩) hS.2.2 dX12_aStep_63
      · refine lv_if_ne (tgt := 47) hx hb dX12_aStep_42 (by decide) (fun c129 => absurd c129 (by decide)) (fun c129 => ?_)
        refine lv_iconst (v := 0) hx hb dX12_aStep_45 (by decide) ?_
        obtain ⟨tk1, tk2, tk3⟩ := tk_mk (n := sz1) hF82x hF83x hF84x (by omega) (by omega) (by omega) (by omega)
        exact W.zret (v := 0) hx hb hr rfl (fun t ht hW => ⟨⟨0, u77, rfl, ⟨Or.inr ⟨rfl, by trivial⟩, (by first | (rw [hA80]; done) | (rw [hA80]; first | assumption | exact p1)), (by first | (rw [hA80]; done) | (rw [hA80]; first | assumption | exact p8)), (by first | (rw [hA80]; done) | (rw [hA80]; first | assumption | omega | rfl | (congr 1; omega))), (by exact tk1), (by omega), hfr⟩, (show va_P (dC, dI) vwCl (rW cs b u77) t.heap by rw [ht]; exact hP)⟩, hS.F ht⟩) hS.2.2 dX12_aStep_46
  · have c9 := (b_eq (nI_toInt (n := rn w) (by omega)) (show Int32.toInt 24 = 24 from rfl)).mp c9
    refine lv_aload_n hx hb dX12_aStep_8 rfl (lv_at hl 0 rfl) ?_
    refine lv_bipush (v := 6) hx hb dX12_aStep_9 (by decide) ?_
    refine rc_i hAL hS hA (va_runV (As := [.int 6]) (rest := []) ⟨hx, hb, hml, hown, noTs⟩ (r_X12_fails l dC dI s.heap.size cs b u 6) ⟨cbE 1 (wd_1540 hE) (wd_126 hE) (wd_1537 hE) rfl rfl (by decide +kernel) ⟨Nat.le_of_ble_eq_true rfl, Nat.le_of_ble_eq_true rfl⟩, (wd_1539 hE), (wd_62 hE)⟩ ⟨PR.blind, r_recv hK hP rfl, (r_pre (av := [.ref (b 0), .int 6]) hK hP hJ hE)⟩ rfl rfl hl.1 rfl (lv_room (Nat.le_of_ble_eq_true rfl)) dX12_aStep_11 ⟨Nat.le_of_ble_eq_true rfl, Nat.le_of_ble_eq_true rfl⟩) (fun r130 u130 H locs hpo130 hP hS => ?_)
    obtain ⟨hr130, hq130⟩ := hpo130
    have hA131 := (hq130.1 1 List.not_mem_nil).trans hA1
    have hA132 := (hq130.1 16 List.not_mem_nil).trans hAc16
    have hA133 := (hq130.1 jw List.not_mem_nil).trans hAjw
    have hF134x := (hq130.2.1 11 (by decide)).trans hF11
    have hF135x := (hq130.2.1 13 (by decide)).trans hp1.1
    have hF136x := (hq130.2.1 14 (by decide)).trans hp1.2.1
    have hF137x := (hq130.2.1 15 (by decide)).trans hp1.2.2.1
    have hfr := FR.step hfr hq130 (fun _ h => absurd h List.not_mem_nil) (by decide) (fun h => rfl)
    subst hr130
    obtain ⟨tk1, tk2, tk3⟩ := tk_mk (n := sz1) hF135x hF136x hF137x (by omega) (by omega) (by omega) (by omega)
    exact W.zret (v := 0) hx hb hr rfl (fun t ht hW => ⟨⟨0, u130, rfl, ⟨Or.inr ⟨rfl, by trivial⟩, (by first | (rw [hA133]; done) | (rw [hA133]; first | assumption | exact p1)), (by first | (rw [hA133]; done) | (rw [hA133]; first | assumption | exact p8)), (by first | (rw [hA133]; done) | (rw [hA133]; first | assumption | omega | rfl | (congr 1; omega))), (by exact tk1), (by omega), hfr⟩, (show va_P (dC, dI) vwCl (rW cs b u130) t.heap by rw [ht]; exact hP)⟩, hS.F ht⟩) hS.2.2 dX12_aStep_14

set_option maxHeartbeats 4000000 in
set_option maxRecDepth 100000 in
theorem r_X12_aWord (l : Launch) (dC : Nat → ClassId) (dI : Nat → Nat → Nat) (sz : Nat) (cs : Nat → ClassId) (b : Nat → Nat) (u : RS) (a : Nat → Int32) (hA1 : rA u 1 = a) (tx : Nat → Int32) (hAc16 : rA u 16 = tx) (sz1 : Nat) (hF11 : rF u 11 = nI sz1) (hp0 : BG a) (hp1 : TK u sz1) (hp2 : sz1 ≤ 700) : Met l yX12_aWord [.code yX12_aWord cX12_aWord 3 (some .boolean)] ({ frames := 6, cells := 0, slots := 0, locals := 240 }) (PR [.ref (b 0)] sz dC dI cs b u) (va_Qi (fun (r : Int32) (u' : RS) => ((r = 1 ∧ (fN u 14 ≤ fN u' 13)) ∨ (r = 0 ∧ (True))) ∧ (BG (rA u' 1)) ∧ (∀ k, 554 ≤ k → (rA u' 1) k = a k) ∧ (TK u' sz1) ∧ (fN u 13 ≤ fN u' 13) ∧ FR [1, 3] [12, 13, 14, 15, 16, 17, 18] false u u') (BR dC dI cs b) (AR b sz)) 0 0 (AR b sz) := by
  refine Met.ofW (cc := cX12_aWord) (maxL := 3) (ret := (some .boolean)) (by decide) rfl ?_
  intro p e s m args below meth c s₁ B hml hv
  obtain ⟨rfl, hsz, hP, hK, hJ, hE⟩ := hv
  have hx := B.exec
  have hb := B.bytes
  have hr := B.returns
  have hown : s.vm.findClass RX12 = some m.cls := findClass_of_methodNamed B.named
  have hlocks := B.notSynchronized
  subst hsz
  have hAL : ∀ i, i < 108 → AR b s.heap.size (b i) := fun i h => Or.inl ⟨i, h, rfl⟩
  have hA : ∀ q : Nat, s.heap.size ≤ q → AR b s.heap.size q := fun q h => Or.inr h
  have hS : va_S (AR b s.heap.size) s.heap s.heap [] := va_S.rf
  have hfr : FR [1, 3] [12, 13, 14, 15, 16, 17, 18] false u u := FR.refl
  have hl := lv_entry ([.ref (b 0)]) (n := 3) (Nat.le_of_ble_eq_true rfl)
  rw [lg_entry_eq]
  generalize (lg_sl ([.ref (b 0)]) ++ List.replicate (3 - (lg_sl ([.ref (b 0)])).length) Slot.unset).toArray = ls at hl ⊢
  have hl : lv_has ls 3 [(0, .ref (b 0))] := hl
  have hB := hp0
  have hG := bg_g hp0
  have ha1 := gg_le hG
  have ha1b := bg_w hp0
  have htk3 := hp1.2.2.2
  refine lv_aload_n hx hb dX12_aWord_0 rfl (lv_at hl 0 rfl) ?_
  refine lv_iconst (v := 2) hx hb dX12_aWord_1 (by decide) ?_
  refine vp_callSi (va_Run.run (va_runV (As := [.int (nI 2)]) (rest := []) ⟨hx, hb, hml, hown, noTs⟩ (r_X12_of l dC dI s.heap.size cs b u a hA1 2 (by first | assumption | omega | rfl | (congr 1; omega))) ⟨cbE 1 (wd_1536 hE) (wd_126 hE) (wd_1533 hE) rfl rfl (by decide +kernel) ⟨Nat.le_of_ble_eq_true rfl, Nat.le_of_ble_eq_true rfl⟩, (wd_1535 hE), (wd_61 hE)⟩ ⟨PR.blind, r_recv hK hP rfl, (r_pre (av := [.ref (b 0), .int (nI 2)]) hK hP hJ hE)⟩ rfl rfl hl.1 rfl (lv_room (Nat.le_of_ble_eq_true rfl)) dX12_aWord_2 ⟨Nat.le_of_ble_eq_true rfl, Nat.le_of_ble_eq_true rfl⟩)) (fun r5 hr5 => ?_)
  have hr5 := hr5.trans ((bg_w hB).1)
  subst hr5
  refine lv_bipush (v := 10) hx hb dX12_aWord_5 (by decide) ?_
  refine lv_icmp_ne (tgt := 17) hx hb dX12_aWord_7 (by decide) (fun c6 => ?_) (fun c6 => ?_)
  · have c6 := mt (b_eq (nI_toInt (n := wN a) (by omega)) (show Int32.toInt 10 = 10 from rfl)).mpr c6
    refine lv_aload_n hx hb dX12_aWord_17 rfl (lv_at hl 0 rfl) ?_
    refine r_get (v := .ref (b 2)) hx hb (ly_X12 hE) hown hK hP rfl 4 (by decide) (wd_1385 hE) (fun _ h9 => h9) rfl dX12_aWord_18 ?_
    refine lv_iconst (v := 0) hx hb dX12_aWord_21 (by decide) ?_
    refine r_aald (j := 2) (k := 0) (n := 10) (t0 := 4) (j2 := 3) hx hb hK hP (by decide) rfl rfl (by decide) (by decide) rfl dX12_aWord_22 ?_
    refine lv_astore_n (lv' := [(1, .ref (b 3)), (0, .ref (b 0))]) hx hb dX12_aWord_23 rfl hl (by decide) rfl (fun ls hl => ?_)
    refine lv_aload_n hx hb dX12_aWord_24 rfl (lv_at hl 1 rfl) ?_
    refine rc_v hAL hS hA (va_runV (As := []) (rest := []) ⟨hx, hb, hml, hown, noTs⟩ (r_X12_ahead l dC dI s.heap.size cs b u tx hAc16 sz1 (fN u 14) (fN u 15) hF11 hp1.2.1 hp1.2.2.1 (by first | assumption | omega | rfl | (congr 1; omega)) (by first | assumption | omega | rfl | (congr 1; omega)) (by first | assumption | omega | rfl | (congr 1; omega))) ⟨cbE 0 (wd_1506 hE) (wd_126 hE) (wd_1503 hE) rfl rfl (by decide +kernel) ⟨Nat.le_of_ble_eq_true rfl, Nat.le_of_ble_eq_true rfl⟩, (wd_1505 hE), (wd_56 hE)⟩ ⟨PR.blind, r_recv hK hP rfl, (r_pre (av := [.ref (b 0)]) hK hP hJ hE)⟩ rfl rfl hl.1 rfl (lv_room (Nat.le_of_ble_eq_true rfl)) dX12_aWord_25 ⟨Nat.le_of_ble_eq_true rfl, Nat.le_of_ble_eq_true rfl⟩) (fun u7 H locs hpo7 hP hS => ?_)
    obtain ⟨h7_0, h7_1, h7_2, hq7⟩ := hpo7
    have hA8 := (hq7.1 1 List.not_mem_nil).trans hA1
    have hA9 := (hq7.1 16 List.not_mem_nil).trans hAc16
    have hF10x := (hq7.2.1 11 (by decide)).trans hF11
    have hfr := FR.step hfr hq7 (fun _ h => absurd h List.not_mem_nil) (by decide) (fun h => rfl)
    have htk11 := h7_0.2.2.2
    refine lv_aload_n hx hb dX12_aWord_28 rfl (lv_at hl 1 rfl) ?_
    refine rc_i hAL hS hA (va_runV (As := []) (rest := []) ⟨hx, hb, hml, hown, noTs⟩ (r_X12_isNumber l dC dI H.size cs b u7) ⟨cbE 0 (wd_1544 hE) (wd_126 hE) (wd_1541 hE) rfl rfl (by decide +kernel) ⟨Nat.le_of_ble_eq_true rfl, Nat.le_of_ble_eq_true rfl⟩, (wd_1543 hE), (wd_63 hE)⟩ ⟨PR.blind, r_recv hK hP rfl, (r_pre (av := [.ref (b 0)]) hK hP hJ hE)⟩ rfl rfl hl.1 rfl (lv_room (Nat.le_of_ble_eq_true rfl)) dX12_aWord_29 ⟨Nat.le_of_ble_eq_true rfl, Nat.le_of_ble_eq_true rfl⟩) (fun r12 u12 H locs hpo12 hP hS => ?_)
    obtain ⟨hr12, hq12⟩ := hpo12
    have hA13 := (hq12.1 1 List.not_mem_nil).trans hA8
    have hA14 := (hq12.1 16 List.not_mem_nil).trans hA9
    have hF15x := (hq12.2.1 11 (by decide)).trans hF10x
    have hF16x := (hq12.2.1 13 (by decide)).trans h7_0.1
    have hF17x := (hq12.2.1 14 (by decide)).trans h7_0.2.1
    have hF18x := (hq12.2.1 15 (by decide)).trans h7_0.2.2.1
    have hfr := FR.step hfr hq12 (fun _ h => absurd h List.not_mem_nil) (by decide) (fun h => rfl)
    rcases hr12 with ⟨rfl, hb12⟩ | ⟨rfl, hb12⟩
    · refine lv_if_ne (tgt := 37) hx hb dX12_aWord_32 (by decide) (fun c19 => ?_) (fun c19 => absurd c19 (by decide))
      refine lv_aload_n hx hb dX12_aWord_37 rfl (lv_at hl 1 rfl) ?_
      refine lv_aload_n hx hb dX12_aWord_38 rfl (lv_at hl 1 rfl) ?_
      refine r_get (v := .int (nI (fN u7 15))) hx hb (ly_X12 hE) hown hK hP rfl 15 (by decide) (wd_1396 hE) (fun _ h9 => h9) (congrArg (fun z : Int32 => some (Value.int z)) hF18x) dX12_aWord_39 ?_
      refine vp_callSi (va_Run.run (va_runV (As := [.int (nI (fN u7 15))]) (rest := []) ⟨hx, hb, hml, hown, noTs⟩ (r_X12_isVertex l dC dI H.size cs b u12 a hA13 (nI (fN u7 15)) (by first | assumption | omega | rfl | (congr 1; omega))) ⟨cbE 1 (wd_1560 hE) (wd_126 hE) (wd_1557 hE) rfl rfl (by decide +kernel) ⟨Nat.le_of_ble_eq_true rfl, Nat.le_of_ble_eq_true rfl⟩, (wd_1559 hE), (wd_67 hE)⟩ ⟨PR.blind, r_recv hK hP rfl, (r_pre (av := [.ref (b 0), .int (nI (fN u7 15))]) hK hP hJ hE)⟩ rfl rfl hl.1 rfl (lv_room (Nat.le_of_ble_eq_true rfl)) dX12_aWord_42 ⟨Nat.le_of_ble_eq_true rfl, Nat.le_of_ble_eq_true rfl⟩)) (fun r20 hr20 => ?_)
      rcases hr20 with ⟨rfl, hb20⟩ | ⟨rfl, hb20⟩
      · obtain ⟨n20, hbe20_1, hb20⟩ := hb20
        have hbe20_1 := (nI_eq (by omega) (by omega)).mp hbe20_1
        refine lv_if_ne (tgt := 54) hx hb dX12_aWord_45 (by decide) (fun c21 => ?_) (fun c21 => absurd c21 (by decide))
        refine lv_aload_n hx hb dX12_aWord_54 rfl (lv_at hl 1 rfl) ?_
        refine r_get (v := .int (nI (fN u7 15))) hx hb (ly_X12 hE) hown hK hP rfl 15 (by decide) (wd_1396 hE) (fun _ h9 => h9) (congrArg (fun z : Int32 => some (Value.int z)) hF18x) dX12_aWord_55 ?_
        refine lv_istore_n (lv' := [(2, .int (nI (fN u7 15))), (1, .ref (b 3)), (0, .ref (b 0))]) hx hb dX12_aWord_58 rfl hl (by decide) rfl (fun ls hl => ?_)
        refine lv_aload_n hx hb dX12_aWord_59 rfl (lv_at hl 2 rfl) ?_
        refine rc_v hAL hS hA (va_runV (As := []) (rest := []) ⟨hx, hb, hml, hown, noTs⟩ (r_X12_ahead l dC dI H.size cs b u12 tx hA14 sz1 (fN u7 14) (fN u7 15) hF15x hF17x hF18x (by first | assumption | omega | rfl | (congr 1; omega)) (by first | assumption | omega | rfl | (congr 1; omega)) (by first | assumption | omega | rfl | (congr 1; omega))) ⟨cbE 0 (wd_1506 hE) (wd_126 hE) (wd_1503 hE) rfl rfl (by decide +kernel) ⟨Nat.le_of_ble_eq_true rfl, Nat.le_of_ble_eq_true rfl⟩, (wd_1505 hE), (wd_56 hE)⟩ ⟨PR.blind, r_recv hK hP rfl, (r_pre (av := [.ref (b 0)]) hK hP hJ hE)⟩ rfl rfl hl.1 rfl (lv_room (Nat.le_of_ble_eq_true rfl)) dX12_aWord_60 ⟨Nat.le_of_ble_eq_true rfl, Nat.le_of_ble_eq_true rfl⟩) (fun u22 H locs hpo22 hP hS => ?_)
        obtain ⟨h22_0, h22_1, h22_2, hq22⟩ := hpo22
        have hA23 := (hq22.1 1 List.not_mem_nil).trans hA13
        have hA24 := (hq22.1 16 List.not_mem_nil).trans hA14
        have hF25x := (hq22.2.1 11 (by decide)).trans hF15x
        have hfr := FR.step hfr hq22 (fun _ h => absurd h List.not_mem_nil) (by decide) (fun h => rfl)
        have htk26 := h22_0.2.2.2
        refine lv_aload_n hx hb dX12_aWord_63 rfl (lv_at hl 1 rfl) ?_
        refine lv_iload_n hx hb dX12_aWord_64 rfl (lv_at hl 0 rfl) ?_
        refine lv_aload_n hx hb dX12_aWord_65 rfl (lv_at hl 2 rfl) ?_
        refine lv_iload_n hx hb dX12_aWord_66 rfl (lv_at hl 0 rfl) ?_
        refine rc_i hAL hS hA (va_runV (As := [.int (nI (fN u7 15))]) (rest := [.int (nI (fN u7 15)), .ref (b 3)]) ⟨hx, hb, hml, hown, noTs⟩ (r_X12_someNumber l dC dI H.size cs b u22 a hA23 tx hA24 (fN u7 15) sz1 hF25x (by first | assumption | omega | rfl | (congr 1; omega)) (by first | assumption | omega | rfl | (congr 1; omega)) (by first | assumption | omega | rfl | (congr 1; omega)) (by first | assumption | omega | rfl | (congr 1; omega))) ⟨cbE 1 (wd_1572 hE) (wd_126 hE) (wd_1569 hE) rfl rfl (by decide +kernel) ⟨Nat.le_of_ble_eq_true rfl, Nat.le_of_ble_eq_true rfl⟩, (wd_1571 hE), (wd_70 hE)⟩ ⟨PR.blind, r_recv hK hP rfl, (r_pre (av := [.ref (b 0), .int (nI (fN u7 15))]) hK hP hJ hE)⟩ rfl rfl hl.1 rfl (lv_room (Nat.le_of_ble_eq_true rfl)) dX12_aWord_67 ⟨Nat.le_of_ble_eq_true rfl, Nat.le_of_ble_eq_true rfl⟩) (fun r27 u27 H locs hpo27 hP hS => ?_)
        obtain ⟨hr27, h27_0, h27_1, hq27⟩ := hpo27
        have hA28 := (hq27.1 1 List.not_mem_nil).trans hA23
        have hA29 := (hq27.1 16 List.not_mem_nil).trans hA24
        have hF30x := (hq27.2.1 11 (by decide)).trans hF25x
        have hfr := FR.step hfr hq27 (fun _ h => absurd h List.not_mem_nil) (by decide) (fun h => rfl)
        have htk31 := h27_0.2.2.2
        obtain ⟨n27, rfl, hn27_0⟩ := hr27
        obtain ⟨g32, hg32⟩ : ∃ g, rA u27 3 = g := ⟨_, rfl⟩
        refine rc_v hAL hS hA (va_runS (As := [.ref (b 3), .int (nI (fN u7 15)), .int (nI n27)]) (rest := []) ⟨hx, hb, hml, hown, noTs⟩ (r_X12_single l dC dI H.size cs b u27 a hA28 3 (by decide) g32 hg32 (fN u7 15) (nI n27) (by first | assumption | omega | rfl | (congr 1; omega)) (by first | assumption | omega | rfl | (congr 1; omega))) ⟨cbE 3 (wd_1579 hE) (wd_126 hE) (wd_1577 hE) rfl rfl (by decide +kernel) ⟨Nat.le_of_ble_eq_true rfl, Nat.le_of_ble_eq_true rfl⟩, (wd_1578 hE)⟩ ⟨PR.blind, (r_pre (av := [.ref (b 3), .int (nI (fN u7 15)), .int (nI n27)]) hK hP hJ hE)⟩ rfl rfl hl.1 rfl (lv_room (Nat.le_of_ble_eq_true rfl)) dX12_aWord_70 ⟨Nat.le_of_ble_eq_true rfl, Nat.le_of_ble_eq_true rfl⟩) (fun u33 H locs hpo33 hP hS => ?_)
        obtain ⟨h33_0, h33_1, h33_2, h33_3, h33_4, hq33⟩ := hpo33
        obtain ⟨w34, hA34⟩ : ∃ g, rA u33 3 = g := ⟨_, rfl⟩
        rw [hA34] at h33_0 h33_1 h33_2 h33_3 h33_4
        have hA35 := (hq33.1 1 (by decide)).trans hA28
        have hA36 := (hq33.1 16 (by decide)).trans hA29
        have hF37x := (hq33.2.1 11 List.not_mem_nil).trans hF30x
        have hF38x := (hq33.2.1 13 List.not_mem_nil).trans h27_0.1
        have hF39x := (hq33.2.1 14 List.not_mem_nil).trans h27_0.2.1
        have hF40x := (hq33.2.1 15 List.not_mem_nil).trans h27_0.2.2.1
        have hfr := FR.step hfr hq33 (by decide) (fun _ h => absurd h List.not_mem_nil) (fun h => rfl)
        have hl33_0 := pg_le h33_0
        have hvo := gg_od hG (v := (fN u7 15)) (by omega)
        have q8 : LG a w34 := lg_mk (n := 0) h33_1 h33_3 h33_4 (by omega) (by omega)
        refine r_ind (I := fun n u_ H locs ls => va_P (dC, dI) vwCl (rW cs b u_) H ∧ va_S (AR b s.heap.size) s.heap H locs ∧ FR [1, 3] [12, 13, 14, 15, 16, 17, 18] false u u_ ∧ ∃ (f1_41 : Nat → Int32), n = 25 - rn f1_41 ∧ (TK u_ sz1) ∧ (PG a f1_41) ∧ (LG a f1_41) ∧ (rn f1_41 ≤ 24) ∧ (fN u 14 ≤ fN u_ 13) ∧ (rA u_ 1 = a) ∧ (rA u_ 3 = f1_41) ∧ lv_has ls 3 [(0, .ref (b 0)), (1, .ref (b 3)), (2, .int (nI (fN u7 15)))]) (fun n u41 H locs ls hI ih41 => ?_) _ u33 _ _ _ ⟨hP, hS, hfr, w34, rfl, (by exact (tk_mk (n := sz1) hF38x hF39x hF40x (by omega) (by omega) (by omega) (by omega)).1), (by first | assumption | omega | rfl | (congr 1; omega)), (by exact q8), (by first | assumption | omega | rfl | (congr 1; omega)), (by have q := (tk_mk (n := sz1) hF38x hF39x hF40x (by omega) (by omega) (by omega) (by omega)).2.1; omega), hA35, hA34, lv_sub hl [2, 1, 0] rfl⟩
        obtain ⟨hP, hS, hfr, f1_41, hmu41, hL41_0, hL41_1, hL41_2, hL41_3, hL41_4, hL41_5, hL41_6, hl⟩ := hI
        have hA42 := (hfr.1 16 (by decide)).trans hAc16
        have hF43x := (hfr.2.1 11 (by decide)).trans hF11
        subst hmu41
        have htk44 := hL41_0.2.2.2
        have hl41_1 := pg_le hL41_1
        refine lv_aload_n hx hb dX12_aWord_73 rfl (lv_at hl 0 rfl) ?_
        obtain ⟨y45, hy45⟩ : ∃ z : Int32, rF u41 12 = z := ⟨_, rfl⟩
        refine r_get (v := .int y45) hx hb (ly_X12 hE) hown hK hP rfl 12 (by decide) (wd_1393 hE) (fun _ h9 => h9) (congrArg (fun z : Int32 => some (Value.int z)) hy45) dX12_aWord_74 ?_
        refine lv_iconst (v := 4) hx hb dX12_aWord_77 (by decide) ?_
        refine lv_icmp_ne (tgt := 104) hx hb dX12_aWord_78 (by decide) (fun c46 => ?_) (fun c46 => ?_)
        · have c46 := mt (b_eq (rfl : Int32.toInt y45 = _) (show Int32.toInt 4 = 4 from rfl)).mpr c46
          refine lv_aload_n hx hb dX12_aWord_104 rfl (lv_at hl 0 rfl) ?_
          refine lv_aload_n hx hb dX12_aWord_105 rfl (lv_at hl 1 rfl) ?_
          refine rc_v hAL hS hA (va_runV (As := [.ref (b 3)]) (rest := []) ⟨hx, hb, hml, hown, noTs⟩ (r_X12_keeps l dC dI H.size cs b u41 a hL41_5 3 (by decide) f1_41 hL41_6 (by first | assumption | omega | rfl | (congr 1; omega)) (by first | assumption | omega | rfl | (congr 1; omega)) (by first | assumption | omega | rfl | (congr 1; omega)) (by first | assumption | omega | rfl | (congr 1; omega)) (by first | assumption | omega | rfl | (congr 1; omega))) ⟨cbE 1 (wd_1613 hE) (wd_126 hE) (wd_1610 hE) rfl rfl (by decide +kernel) ⟨Nat.le_of_ble_eq_true rfl, Nat.le_of_ble_eq_true rfl⟩, (wd_1612 hE), (wd_78 hE)⟩ ⟨PR.blind, r_recv hK hP rfl, (r_pre (av := [.ref (b 0), .ref (b 3)]) hK hP hJ hE)⟩ rfl rfl hl.1 rfl (lv_room (Nat.le_of_ble_eq_true rfl)) dX12_aWord_106 ⟨Nat.le_of_ble_eq_true rfl, Nat.le_of_ble_eq_true rfl⟩) (fun u47 H locs hpo47 hP hS => ?_)
          obtain ⟨h47_0, h47_1, h47_2, h47_3, h47_4, h47_5, hq47⟩ := hpo47
          obtain ⟨w48, hA48⟩ : ∃ g, rA u47 1 = g := ⟨_, rfl⟩
          rw [hA48] at h47_0 h47_1 h47_2 h47_3 h47_4 h47_5
          have hA49 := (hq47.1 16 (by decide)).trans hA42
          have hA50 := (hq47.1 3 (by decide)).trans hL41_6
          have hF51x := (hq47.2.1 11 List.not_mem_nil).trans hF43x
          have hF52x := (hq47.2.1 13 List.not_mem_nil).trans hL41_0.1
          have hF53x := (hq47.2.1 14 List.not_mem_nil).trans hL41_0.2.1
          have hF54x := (hq47.2.1 15 List.not_mem_nil).trans hL41_0.2.2.1
          have hF55x := (hq47.2.1 12 List.not_mem_nil).trans hy45
          have hfr := FR.step hfr hq47 (by decide) (fun _ h => absurd h List.not_mem_nil) (fun h => rfl)
          have hB := h47_0
          have hG := bg_g h47_0
          have ha56 := gg_le hG
          have ha56b := bg_w h47_0
          have bgx := h47_0
          have bgo := h47_2
          refine lv_iconst (v := 1) hx hb dX12_aWord_109 (by decide) ?_
          obtain ⟨tk1, tk2, tk3⟩ := tk_mk (n := sz1) hF52x hF53x hF54x (by omega) (by omega) (by omega) (by omega)
          exact W.zret (v := 1) hx hb hr rfl (fun t ht hW => ⟨⟨1, u47, rfl, ⟨Or.inl ⟨rfl, by first | assumption | omega | rfl | (congr 1; omega)⟩, (by first | (rw [hA48]; done) | (rw [hA48]; first | assumption | exact bgx)), (by first | (rw [hA48]; done) | (rw [hA48]; first | (intro k _; rfl) | exact bgo)), (by exact tk1), (by omega), hfr⟩, (show va_P (dC, dI) vwCl (rW cs b u47) t.heap by rw [ht]; exact hP)⟩, hS.F ht⟩) hS.2.2 dX12_aWord_110
        · have c46 := (b_eq (rfl : Int32.toInt y45 = _) (show Int32.toInt 4 = 4 from rfl)).mp c46
          refine lv_aload_n hx hb dX12_aWord_81 rfl (lv_at hl 0 rfl) ?_
          refine lv_aload_n hx hb dX12_aWord_82 rfl (lv_at hl 0 rfl) ?_
          refine r_get (v := .int (nI (fN u41 13))) hx hb (ly_X12 hE) hown hK hP rfl 13 (by decide) (wd_1394 hE) (fun _ h9 => h9) (congrArg (fun z : Int32 => some (Value.int z)) hL41_0.1) dX12_aWord_83 ?_
          refine vp_callSi (va_Run.run (va_runV (As := [.int (nI (fN u41 13))]) (rest := []) ⟨hx, hb, hml, hown, noTs⟩ (r_X12_byteAt l dC dI H.size cs b u41 tx hA42 (fN u41 13) sz1 hF43x (by first | assumption | omega | rfl | (congr 1; omega)) (by first | assumption | omega | rfl | (congr 1; omega))) ⟨cbE 1 (wd_1510 hE) (wd_126 hE) (wd_1507 hE) rfl rfl (by decide +kernel) ⟨Nat.le_of_ble_eq_true rfl, Nat.le_of_ble_eq_true rfl⟩, (wd_1509 hE), (wd_57 hE)⟩ ⟨PR.blind, r_recv hK hP rfl, (r_pre (av := [.ref (b 0), .int (nI (fN u41 13))]) hK hP hJ hE)⟩ rfl rfl hl.1 rfl (lv_room (Nat.le_of_ble_eq_true rfl)) dX12_aWord_86 ⟨Nat.le_of_ble_eq_true rfl, Nat.le_of_ble_eq_true rfl⟩)) (fun r57 hr57 => ?_)
          subst hr57
          have htf57 := bA_f tx sz1 (fN u41 13)
          refine lv_bipush (v := 59) hx hb dX12_aWord_89 (by decide) ?_
          refine lv_icmp_eq (tgt := 104) hx hb dX12_aWord_91 (by decide) (fun c58 => ?_) (fun c58 => ?_)
          · have c58 := (b_eq (rfl : Int32.toInt (bA tx sz1 (fN u41 13)) = _) (show Int32.toInt 59 = 59 from rfl)).mp c58
            refine lv_aload_n hx hb dX12_aWord_104 rfl (lv_at hl 0 rfl) ?_
            refine lv_aload_n hx hb dX12_aWord_105 rfl (lv_at hl 1 rfl) ?_
            refine rc_v hAL hS hA (va_runV (As := [.ref (b 3)]) (rest := []) ⟨hx, hb, hml, hown, noTs⟩ (r_X12_keeps l dC dI H.size cs b u41 a hL41_5 3 (by decide) f1_41 hL41_6 (by first | assumption | omega | rfl | (congr 1; omega)) (by first | assumption | omega | rfl | (congr 1; omega)) (by first | assumption | omega | rfl | (congr 1; omega)) (by first | assumption | omega | rfl | (congr 1; omega)) (by first | assumption | omega | rfl | (congr 1; omega))) ⟨cbE 1 (wd_1613 hE) (wd_126 hE) (wd_1610 hE) rfl rfl (by decide +kernel) ⟨Nat.le_of_ble_eq_true rfl, Nat.le_of_ble_eq_true rfl⟩, (wd_1612 hE), (wd_78 hE)⟩ ⟨PR.blind, r_recv hK hP rfl, (r_pre (av := [.ref (b 0), .ref (b 3)]) hK hP hJ hE)⟩ rfl rfl hl.1 rfl (lv_room (Nat.le_of_ble_eq_true rfl)) dX12_aWord_106 ⟨Nat.le_of_ble_eq_true rfl, Nat.le_of_ble_eq_true rfl⟩) (fun u59 H locs hpo59 hP hS => ?_)
            obtain ⟨h59_0, h59_1, h59_2, h59_3, h59_4, h59_5, hq59⟩ := hpo59
            obtain ⟨w60, hA60⟩ : ∃ g, rA u59 1 = g := ⟨_, rfl⟩
            rw [hA60] at h59_0 h59_1 h59_2 h59_3 h59_4 h59_5
            have hA61 := (hq59.1 16 (by decide)).trans hA42
            have hA62 := (hq59.1 3 (by decide)).trans hL41_6
            have hF63x := (hq59.2.1 11 List.not_mem_nil).trans hF43x
            have hF64x := (hq59.2.1 13 List.not_mem_nil).trans hL41_0.1
            have hF65x := (hq59.2.1 14 List.not_mem_nil).trans hL41_0.2.1
            have hF66x := (hq59.2.1 15 List.not_mem_nil).trans hL41_0.2.2.1
            have hF67x := (hq59.2.1 12 List.not_mem_nil).trans hy45
            have hfr := FR.step hfr hq59 (by decide) (fun _ h => absurd h List.not_mem_nil) (fun h => rfl)
            have hB := h59_0
            have hG := bg_g h59_0
            have ha68 := gg_le hG
            have ha68b := bg_w h59_0
            have bgx := h59_0
            have bgo := h59_2
            refine lv_iconst (v := 1) hx hb dX12_aWord_109 (by decide) ?_
            obtain ⟨tk1, tk2, tk3⟩ := tk_mk (n := sz1) hF64x hF65x hF66x (by omega) (by omega) (by omega) (by omega)
            exact W.zret (v := 1) hx hb hr rfl (fun t ht hW => ⟨⟨1, u59, rfl, ⟨Or.inl ⟨rfl, by first | assumption | omega | rfl | (congr 1; omega)⟩, (by first | (rw [hA60]; done) | (rw [hA60]; first | assumption | exact bgx)), (by first | (rw [hA60]; done) | (rw [hA60]; first | (intro k _; rfl) | exact bgo)), (by exact tk1), (by omega), hfr⟩, (show va_P (dC, dI) vwCl (rW cs b u59) t.heap by rw [ht]; exact hP)⟩, hS.F ht⟩) hS.2.2 dX12_aWord_110
          · have c58 := mt (b_eq (rfl : Int32.toInt (bA tx sz1 (fN u41 13)) = _) (show Int32.toInt 59 = 59 from rfl)).mpr c58
            refine lv_aload_n hx hb dX12_aWord_94 rfl (lv_at hl 0 rfl) ?_
            refine lv_aload_n hx hb dX12_aWord_95 rfl (lv_at hl 1 rfl) ?_
            refine rc_i hAL hS hA (va_runV (As := [.ref (b 3)]) (rest := []) ⟨hx, hb, hml, hown, noTs⟩ (r_X12_aStep l dC dI H.size cs b u41 a hL41_5 tx hA42 3 (by decide) f1_41 hL41_6 sz1 hF43x (by first | assumption | omega | rfl | (congr 1; omega)) (by first | assumption | omega | rfl | (congr 1; omega)) (by first | assumption | omega | rfl | (congr 1; omega)) (by first | assumption | omega | rfl | (congr 1; omega)) (by first | assumption | omega | rfl | (congr 1; omega)) (by first | assumption | omega | rfl | (congr 1; omega))) ⟨cbE 1 (wd_1583 hE) (wd_126 hE) (wd_1580 hE) rfl rfl (by decide +kernel) ⟨Nat.le_of_ble_eq_true rfl, Nat.le_of_ble_eq_true rfl⟩, (wd_1582 hE), (wd_72 hE)⟩ ⟨PR.blind, r_recv hK hP rfl, (r_pre (av := [.ref (b 0), .ref (b 3)]) hK hP hJ hE)⟩ rfl rfl hl.1 rfl (lv_room (Nat.le_of_ble_eq_true rfl)) dX12_aWord_96 ⟨Nat.le_of_ble_eq_true rfl, Nat.le_of_ble_eq_true rfl⟩) (fun r69 u69 H locs hpo69 hP hS => ?_)
            obtain ⟨hr69, h69_0, h69_1, h69_2, h69_3, h69_4, hq69⟩ := hpo69
            obtain ⟨w70, hA70⟩ : ∃ g, rA u69 3 = g := ⟨_, rfl⟩
            rw [hA70] at h69_0 h69_1 h69_2 hr69
            have hA71 := (hq69.1 16 (by decide)).trans hA42
            have hA72 := (hq69.1 1 (by decide)).trans hL41_5
            have hF73x := (hq69.2.1 11 (by decide)).trans hF43x
            have hfr := FR.step hfr hq69 (by decide) (by decide) (fun h => rfl)
            have hl69_0 := pg_le h69_0
            have htk74 := h69_3.2.2.2
            rcases hr69 with ⟨rfl, hb69⟩ | ⟨rfl, hb69⟩
            · refine lv_if_ne (tgt := 73) hx hb dX12_aWord_99 (by decide) (fun c75 => ?_) (fun c75 => absurd c75 (by decide))
              exact ih41 _ u69 _ _ _ (by omega) ⟨hP, hS, hfr, w70, rfl, (by exact (tk_mk (n := sz1) h69_3.1 h69_3.2.1 h69_3.2.2.1 (by omega) (by omega) (by omega) (by omega)).1), (by first | assumption | omega | rfl | (congr 1; omega)), (by first | assumption | omega | rfl | (congr 1; omega)), (by first | assumption | omega | rfl | (congr 1; omega)), (by have q := (tk_mk (n := sz1) h69_3.1 h69_3.2.1 h69_3.2.2.1 (by omega) (by omega) (by omega) (by omega)).2.1; omega), hA72, hA70, lv_sub hl [0, 1, 2] rfl⟩
            · refine lv_if_ne (tgt := 73) hx hb dX12_aWord_99 (by decide) (fun c76 => absurd c76 (by decide)) (fun c76 => ?_)
              refine lv_iconst (v := 0) hx hb dX12_aWord_102 (by decide) ?_
              obtain ⟨tk1, tk2, tk3⟩ := tk_mk (n := sz1) h69_3.1 h69_3.2.1 h69_3.2.2.1 (by omega) (by omega) (by omega) (by omega)
              exact W.zret (v := 0) hx hb hr rfl (fun t ht hW => ⟨⟨0, u69, rfl, ⟨Or.inr ⟨rfl, by trivial⟩, (by first | (rw [hA72]; done) | (rw [hA72]; first | assumption | exact bgx)), (by first | (rw [hA72]; done) | (rw [hA72]; first | (intro k _; rfl) | exact bgo)), (by exact tk1), (by omega), hfr⟩, (show va_P (dC, dI) vwCl (rW cs b u69) t.heap by rw [ht]; exact hP)⟩, hS.F ht⟩) hS.2.2 dX12_aWord_103
      · refine lv_if_ne (tgt := 54) hx hb dX12_aWord_45 (by decide) (fun c77 => absurd c77 (by decide)) (fun c77 => ?_)
        refine lv_aload_n hx hb dX12_aWord_48 rfl (lv_at hl 1 rfl) ?_
        refine lv_iconst (v := 3) hx hb dX12_aWord_49 (by decide) ?_
        refine rc_i hAL hS hA (va_runV (As := [.int 3]) (rest := []) ⟨hx, hb, hml, hown, noTs⟩ (r_X12_fails l dC dI H.size cs b u12 3) ⟨cbE 1 (wd_1540 hE) (wd_126 hE) (wd_1537 hE) rfl rfl (by decide +kernel) ⟨Nat.le_of_ble_eq_true rfl, Nat.le_of_ble_eq_true rfl⟩, (wd_1539 hE), (wd_62 hE)⟩ ⟨PR.blind, r_recv hK hP rfl, (r_pre (av := [.ref (b 0), .int 3]) hK hP hJ hE)⟩ rfl rfl hl.1 rfl (lv_room (Nat.le_of_ble_eq_true rfl)) dX12_aWord_50 ⟨Nat.le_of_ble_eq_true rfl, Nat.le_of_ble_eq_true rfl⟩) (fun r78 u78 H locs hpo78 hP hS => ?_)
        obtain ⟨hr78, hq78⟩ := hpo78
        have hA79 := (hq78.1 1 List.not_mem_nil).trans hA13
        have hA80 := (hq78.1 16 List.not_mem_nil).trans hA14
        have hF81x := (hq78.2.1 11 (by decide)).trans hF15x
        have hF82x := (hq78.2.1 13 (by decide)).trans hF16x
        have hF83x := (hq78.2.1 14 (by decide)).trans hF17x
        have hF84x := (hq78.2.1 15 (by decide)).trans hF18x
        have hfr := FR.step hfr hq78 (fun _ h => absurd h List.not_mem_nil) (by decide) (fun h => rfl)
        subst hr78
        obtain ⟨tk1, tk2, tk3⟩ := tk_mk (n := sz1) hF82x hF83x hF84x (by omega) (by omega) (by omega) (by omega)
        exact W.zret (v := 0) hx hb hr rfl (fun t ht hW => ⟨⟨0, u78, rfl, ⟨Or.inr ⟨rfl, by trivial⟩, (by first | (rw [hA79]; done) | (rw [hA79]; first | assumption | exact bgx)), (by first | (rw [hA79]; done) | (rw [hA79]; first | (intro k _; rfl) | exact bgo)), (by exact tk1), (by omega), hfr⟩, (show va_P (dC, dI) vwCl (rW cs b u78) t.heap by rw [ht]; exact hP)⟩, hS.F ht⟩) hS.2.2 dX12_aWord_53
    · refine lv_if_ne (tgt := 37) hx hb dX12_aWord_32 (by decide) (fun c85 => absurd c85 (by decide)) (fun c85 => ?_)
      refine lv_iconst (v := 0) hx hb dX12_aWord_35 (by decide) ?_
      obtain ⟨tk1, tk2, tk3⟩ := tk_mk (n := sz1) hF16x hF17x hF18x (by omega) (by omega) (by omega) (by omega)
      exact W.zret (v := 0) hx hb hr rfl (fun t ht hW => ⟨⟨0, u12, rfl, ⟨Or.inr ⟨rfl, by trivial⟩, (by first | (rw [hA13]; done) | (rw [hA13]; first | assumption | exact bgx)), (by first | (rw [hA13]; done) | (rw [hA13]; first | (intro k _; rfl) | exact bgo)), (by exact tk1), (by omega), hfr⟩, (show va_P (dC, dI) vwCl (rW cs b u12) t.heap by rw [ht]; exact hP)⟩, hS.F ht⟩) hS.2.2 dX12_aWord_36
  · have c6 := (b_eq (nI_toInt (n := wN a) (by omega)) (show Int32.toInt 10 = 10 from rfl)).mp c6
    refine lv_aload_n hx hb dX12_aWord_10 rfl (lv_at hl 0 rfl) ?_
    refine lv_bipush (v := 6) hx hb dX12_aWord_11 (by decide) ?_
    refine rc_i hAL hS hA (va_runV (As := [.int 6]) (rest := []) ⟨hx, hb, hml, hown, noTs⟩ (r_X12_fails l dC dI s.heap.size cs b u 6) ⟨cbE 1 (wd_1540 hE) (wd_126 hE) (wd_1537 hE) rfl rfl (by decide +kernel) ⟨Nat.le_of_ble_eq_true rfl, Nat.le_of_ble_eq_true rfl⟩, (wd_1539 hE), (wd_62 hE)⟩ ⟨PR.blind, r_recv hK hP rfl, (r_pre (av := [.ref (b 0), .int 6]) hK hP hJ hE)⟩ rfl rfl hl.1 rfl (lv_room (Nat.le_of_ble_eq_true rfl)) dX12_aWord_13 ⟨Nat.le_of_ble_eq_true rfl, Nat.le_of_ble_eq_true rfl⟩) (fun r86 u86 H locs hpo86 hP hS => ?_)
    obtain ⟨hr86, hq86⟩ := hpo86
    have hA87 := (hq86.1 1 List.not_mem_nil).trans hA1
    have hA88 := (hq86.1 16 List.not_mem_nil).trans hAc16
    have hF89x := (hq86.2.1 11 (by decide)).trans hF11
    have hF90x := (hq86.2.1 13 (by decide)).trans hp1.1
    have hF91x := (hq86.2.1 14 (by decide)).trans hp1.2.1
    have hF92x := (hq86.2.1 15 (by decide)).trans hp1.2.2.1
    have hfr := FR.step hfr hq86 (fun _ h => absurd h List.not_mem_nil) (by decide) (fun h => rfl)
    subst hr86
    obtain ⟨tk1, tk2, tk3⟩ := tk_mk (n := sz1) hF90x hF91x hF92x (by omega) (by omega) (by omega) (by omega)
    exact W.zret (v := 0) hx hb hr rfl (fun t ht hW => ⟨⟨0, u86, rfl, ⟨Or.inr ⟨rfl, by trivial⟩, (by first | (rw [hA87]; done) | (rw [hA87]; first | assumption | exact bgx)), (by first | (rw [hA87]; done) | (rw [hA87]; first | (intro k _; rfl) | exact bgo)), (by exact tk1), (by omega), hfr⟩, (show va_P (dC, dI) vwCl (rW cs b u86) t.heap by rw [ht]; exact hP)⟩, hS.F ht⟩) hS.2.2 dX12_aWord_16

set_option maxHeartbeats 4000000 in
set_option maxRecDepth 100000 in
theorem r_X12_fault (l : Launch) (dC : Nat → ClassId) (dI : Nat → Nat → Nat) (sz : Nat) (cs : Nat → ClassId) (b : Nat → Nat) (u : RS) (x : Int32) : Met l yX12_fault [.code yX12_fault cX12_fault 2 (some .int)] ({ frames := 0, cells := 0, slots := 0, locals := 0 }) (PR [.ref (b 0), .int x] sz dC dI cs b u) (vp_Si (fun (r : Int32) => True)) 0 0 (fun _ => False) := by
  refine Met.ofW (cc := cX12_fault) (maxL := 2) (ret := (some .int)) (by decide) rfl ?_
  intro p e s m args below meth c s₁ B hml hv
  obtain ⟨rfl, hsz, hP, hK, hJ, hE⟩ := hv
  have hx := B.exec
  have hb := B.bytes
  have hr := B.returns
  have hown : s.vm.findClass RX12 = some m.cls := findClass_of_methodNamed B.named
  have hlocks := B.notSynchronized
  subst hsz
  have hl := lv_entry ([.ref (b 0), .int x]) (n := 2) (Nat.le_of_ble_eq_true rfl)
  rw [lg_entry_eq]
  generalize (lg_sl ([.ref (b 0), .int x]) ++ List.replicate (2 - (lg_sl ([.ref (b 0), .int x])).length) Slot.unset).toArray = ls at hl ⊢
  have hl : lv_has ls 2 [(0, .ref (b 0)), (1, .int x)] := hl
  refine lv_iload_n hx hb dX12_fault_0 rfl (lv_at hl 1 rfl) ?_
  refine lv_if_ne (tgt := 11) hx hb dX12_fault_1 (by decide) (fun c1 => ?_) (fun c1 => ?_)
  · have c1 := mt (b_eq (rfl : Int32.toInt x = _) (show Int32.toInt 0 = 0 from rfl)).mpr c1
    refine lv_iload_n hx hb dX12_fault_11 rfl (lv_at hl 1 rfl) ?_
    refine lv_iconst (v := 1) hx hb dX12_fault_12 (by decide) ?_
    refine lv_icmp_ne (tgt := 23) hx hb dX12_fault_13 (by decide) (fun c2 => ?_) (fun c2 => ?_)
    · have c2 := mt (b_eq (rfl : Int32.toInt x = _) (show Int32.toInt 1 = 1 from rfl)).mpr c2
      refine lv_iload_n hx hb dX12_fault_23 rfl (lv_at hl 1 rfl) ?_
      refine lv_iconst (v := 2) hx hb dX12_fault_24 (by decide) ?_
      refine lv_icmp_ne (tgt := 35) hx hb dX12_fault_25 (by decide) (fun c3 => ?_) (fun c3 => ?_)
      · have c3 := mt (b_eq (rfl : Int32.toInt x = _) (show Int32.toInt 2 = 2 from rfl)).mpr c3
        refine lv_iconst (v := -1) hx hb dX12_fault_35 (by decide) ?_
        exact W.iret (v := -1) hx hb hr (fun t ht hW => ⟨-1, rfl, trivial, ht⟩) (fun _ h => absurd h List.not_mem_nil) dX12_fault_36
      · have c3 := (b_eq (rfl : Int32.toInt x = _) (show Int32.toInt 2 = 2 from rfl)).mp c3
        refine lv_aload_n hx hb dX12_fault_28 rfl (lv_at hl 0 rfl) ?_
        obtain ⟨y4, hy4⟩ : ∃ z : Int32, rF u 18 = z := ⟨_, rfl⟩
        refine r_get (v := .int y4) hx hb (ly_X12 hE) hown hK hP rfl 18 (by decide) (wd_1399 hE) (fun _ h9 => h9) (congrArg (fun z : Int32 => some (Value.int z)) hy4) dX12_fault_29 ?_
        refine lv_goto (tgt := 36) hx hb dX12_fault_32 (by decide) ?_
        exact W.iret (v := y4) hx hb hr (fun t ht hW => ⟨y4, rfl, trivial, ht⟩) (fun _ h => absurd h List.not_mem_nil) dX12_fault_36
    · have c2 := (b_eq (rfl : Int32.toInt x = _) (show Int32.toInt 1 = 1 from rfl)).mp c2
      refine lv_aload_n hx hb dX12_fault_16 rfl (lv_at hl 0 rfl) ?_
      obtain ⟨y5, hy5⟩ : ∃ z : Int32, rF u 17 = z := ⟨_, rfl⟩
      refine r_get (v := .int y5) hx hb (ly_X12 hE) hown hK hP rfl 17 (by decide) (wd_1398 hE) (fun _ h9 => h9) (congrArg (fun z : Int32 => some (Value.int z)) hy5) dX12_fault_17 ?_
      refine lv_goto (tgt := 36) hx hb dX12_fault_20 (by decide) ?_
      exact W.iret (v := y5) hx hb hr (fun t ht hW => ⟨y5, rfl, trivial, ht⟩) (fun _ h => absurd h List.not_mem_nil) dX12_fault_36
  · have c1 := (b_eq (rfl : Int32.toInt x = _) (show Int32.toInt 0 = 0 from rfl)).mp c1
    refine lv_aload_n hx hb dX12_fault_4 rfl (lv_at hl 0 rfl) ?_
    obtain ⟨y6, hy6⟩ : ∃ z : Int32, rF u 19 = z := ⟨_, rfl⟩
    refine r_get (v := .int y6) hx hb (ly_X12 hE) hown hK hP rfl 19 (by decide) (wd_1400 hE) (fun _ h9 => h9) (congrArg (fun z : Int32 => some (Value.int z)) hy6) dX12_fault_5 ?_
    refine lv_goto (tgt := 36) hx hb dX12_fault_8 (by decide) ?_
    exact W.iret (v := y6) hx hb hr (fun t ht hW => ⟨y6, rfl, trivial, ht⟩) (fun _ h => absurd h List.not_mem_nil) dX12_fault_36
