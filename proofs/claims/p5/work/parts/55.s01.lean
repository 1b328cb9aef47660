set_option maxHeartbeats 4000000 in
set_option maxRecDepth 100000 in
theorem r_X12_aLine (l : Launch) (dC : Nat → ClassId) (dI : Nat → Nat → Nat) (sz : Nat) (cs : Nat → ClassId) (b : Nat → Nat) (u : RS) (adK adV : Nat → Nat) (a : Nat → Int32) (hA1 : rA u 1 = a) (tx : Nat → Int32) (hAc16 : rA u 16 = tx) (sz1 : Nat) (hF11 : rF u 11 = nI sz1) (hp0 : BG a) (hp1 : TK u sz1) (hp2 : sz1 ≤ 700) : Met l yX12_aLine [.code yX12_aLine cX12_aLine 3 (some .boolean)] ({ frames := 7, cells := 0, slots := 0, locals := 280 }) (PRX [.ref (b 0)] sz dC dI cs b u adK adV) (va_Qi (fun (r : Int32) (u' : RS) => ((r = 1 ∧ (fN u 14 ≤ fN u' 13 ∧ (rF u' 12 = 0 ∨ fN u' 13 < fN u' 14))) ∨ (r = 0 ∧ (True))) ∧ (BG (rA u' 1)) ∧ (∀ k, 554 ≤ k → (rA u' 1) k = a k) ∧ (TK u' sz1) ∧ (fN u 13 ≤ fN u' 13) ∧ FR [1, 3] [12, 13, 14, 15, 16, 17, 18, 20] false u u') (BR dC dI cs b) (AR b sz)) 0 0 (AR b sz) := by
  refine Met.ofW (cc := cX12_aLine) (maxL := 3) (ret := (some .boolean)) (by decide) rfl ?_
  intro p e s m args below meth c s₁ B hml hv
  obtain ⟨rfl, hsz, hP, hK, hJ, hE, hX, hZ⟩ := hv
  have hx := B.exec
  have hb := B.bytes
  have hr := B.returns
  have hown : s.vm.findClass RX12 = some m.cls := findClass_of_methodNamed B.named
  have hlocks := B.notSynchronized
  subst hsz
  have hAL : ∀ i, i < 108 → AR b s.heap.size (b i) := fun i h => Or.inl ⟨i, h, rfl⟩
  have hA : ∀ q : Nat, s.heap.size ≤ q → AR b s.heap.size q := fun q h => Or.inr h
  have hS : va_S (AR b s.heap.size) s.heap s.heap [] := va_S.rf
  have hfr : FR [1, 3] [12, 13, 14, 15, 16, 17, 18, 20] false u u := FR.refl
  have hl := lv_entry ([.ref (b 0)]) (n := 3) (Nat.le_of_ble_eq_true rfl)
  rw [lg_entry_eq]
  generalize (lg_sl ([.ref (b 0)]) ++ List.replicate (3 - (lg_sl ([.ref (b 0)])).length) Slot.unset).toArray = ls at hl ⊢
  have hl : lv_has ls 3 [(0, .ref (b 0))] := hl
  have hB := hp0
  have hG := bg_g hp0
  have ha1 := gg_le hG
  have ha1b := bg_w hp0
  have htk3 := hp1.2.2.2
  refine lv_aload_n hx hb dX12_aLine_0 rfl (lv_at hl 0 rfl) ?_
  refine vp_callSi (va_Run.run (va_runV (As := []) (rest := []) ⟨hx, hb, hml, hown, noTs⟩ (r_X12_key l dC dI s.heap.size cs b u adK adV tx hAc16 sz1 hF11 (by first | assumption | omega | rfl | (congr 1; omega)) (by first | assumption | omega | rfl | (congr 1; omega))) ⟨cbE 0 (wd_1525 hE) (wd_126 hE) (wd_1522 hE) rfl rfl (by decide +kernel) ⟨Nat.le_of_ble_eq_true rfl, Nat.le_of_ble_eq_true rfl⟩, (wd_1524 hE), (wd_59 hE)⟩ ⟨PRX.blind, r_recv hK hP rfl, (rx_pre (av := [.ref (b 0)]) hK hP hJ hE hX hZ hS)⟩ rfl rfl hl.1 rfl (lv_room (Nat.le_of_ble_eq_true rfl)) dX12_aLine_1 ⟨Nat.le_of_ble_eq_true rfl, Nat.le_of_ble_eq_true rfl⟩)) (fun r5 hr5 => ?_)
  refine lv_istore_n (lv' := [(1, .int r5), (0, .ref (b 0))]) hx hb dX12_aLine_4 rfl hl (by decide) rfl (fun ls hl => ?_)
  refine lv_iload_n hx hb dX12_aLine_5 rfl (lv_at hl 0 rfl) ?_
  refine lv_if_ne (tgt := 16) hx hb dX12_aLine_6 (by decide) (fun c6 => ?_) (fun c6 => ?_)
  · have c6 := mt (b_eq (rfl : Int32.toInt r5 = _) (show Int32.toInt 0 = 0 from rfl)).mpr c6
    refine lv_iload_n hx hb dX12_aLine_16 rfl (lv_at hl 0 rfl) ?_
    refine lv_iconst (v := 1) hx hb dX12_aLine_17 (by decide) ?_
    refine lv_icmp_ne (tgt := 28) hx hb dX12_aLine_18 (by decide) (fun c7 => ?_) (fun c7 => ?_)
    · have c7 := mt (b_eq (rfl : Int32.toInt r5 = _) (show Int32.toInt 1 = 1 from rfl)).mpr c7
      refine lv_iload_n hx hb dX12_aLine_28 rfl (lv_at hl 0 rfl) ?_
      refine lv_iconst (v := 2) hx hb dX12_aLine_29 (by decide) ?_
      refine lv_icmp_ne (tgt := 40) hx hb dX12_aLine_30 (by decide) (fun c8 => ?_) (fun c8 => ?_)
      · have c8 := mt (b_eq (rfl : Int32.toInt r5 = _) (show Int32.toInt 2 = 2 from rfl)).mpr c8
        refine lv_aload_n hx hb dX12_aLine_40 rfl (lv_at hl 1 rfl) ?_
        refine lv_iconst (v := 2) hx hb dX12_aLine_41 (by decide) ?_
        refine rc_i hAL hS hA (va_runV (As := [.int 2]) (rest := []) ⟨hx, hb, hml, hown, noTs⟩ (r_X12_fails l dC dI s.heap.size cs b u 2) ⟨cbE 1 (wd_1540 hE) (wd_126 hE) (wd_1537 hE) rfl rfl (by decide +kernel) ⟨Nat.le_of_ble_eq_true rfl, Nat.le_of_ble_eq_true rfl⟩, (wd_1539 hE), (wd_62 hE)⟩ ⟨PR.blind, r_recv hK hP rfl, (r_pre (av := [.ref (b 0), .int 2]) hK hP hJ hE)⟩ rfl rfl hl.1 rfl (lv_room (Nat.le_of_ble_eq_true rfl)) dX12_aLine_42 ⟨Nat.le_of_ble_eq_true rfl, Nat.le_of_ble_eq_true rfl⟩) (fun r9 u9 H locs hpo9 hP hS => ?_)
        obtain ⟨hr9, hq9⟩ := hpo9
        have hA10 := (hq9.1 1 List.not_mem_nil).trans hA1
        have hA11 := (hq9.1 16 List.not_mem_nil).trans hAc16
        have hF12x := (hq9.2.1 11 (by decide)).trans hF11
        have hF13x := (hq9.2.1 13 (by decide)).trans hp1.1
        have hF14x := (hq9.2.1 14 (by decide)).trans hp1.2.1
        have hF15x := (hq9.2.1 15 (by decide)).trans hp1.2.2.1
        have hfr := FR.step hfr hq9 (fun _ h => absurd h List.not_mem_nil) (by decide) (fun h => rfl)
        subst hr9
        refine lv_istore_n (lv' := [(2, .int 0), (1, .int r5), (0, .ref (b 0))]) hx hb dX12_aLine_45 rfl hl (by decide) rfl (fun ls hl => ?_)
        refine lv_iload_n hx hb dX12_aLine_46 rfl (lv_at hl 0 rfl) ?_
        refine lv_if_ne (tgt := 52) hx hb dX12_aLine_47 (by decide) (fun c16 => absurd c16 (by decide)) (fun c16 => ?_)
        refine lv_iconst (v := 0) hx hb dX12_aLine_50 (by decide) ?_
        obtain ⟨tk1, tk2, tk3⟩ := tk_mk (n := sz1) hF13x hF14x hF15x (by omega) (by omega) (by omega) (by omega)
        exact W.zret (v := 0) hx hb hr rfl (fun t ht hW => ⟨⟨0, u9, rfl, ⟨Or.inr ⟨rfl, by trivial⟩, (by first | (rw [hA10]; done) | (rw [hA10]; first | assumption | exact bgx)), (by first | (rw [hA10]; done) | (rw [hA10]; first | (intro k _; rfl) | exact bgo)), (by exact tk1), (by omega), hfr⟩, (show va_P (dC, dI) vwCl (rW cs b u9) t.heap by rw [ht]; exact hP)⟩, hS.F ht⟩) hS.2.2 dX12_aLine_51
      · have c8 := (b_eq (rfl : Int32.toInt r5 = _) (show Int32.toInt 2 = 2 from rfl)).mp c8
        refine lv_aload_n hx hb dX12_aLine_33 rfl (lv_at hl 1 rfl) ?_
        refine rc_i hAL hS hA (va_runV (As := []) (rest := []) ⟨hx, hb, hml, hown, noTs⟩ (r_X12_aWord l dC dI s.heap.size cs b u a hA1 tx hAc16 sz1 hF11 (by first | assumption | omega | rfl | (congr 1; omega)) (by first | assumption | omega | rfl | (congr 1; omega)) (by first | assumption | omega | rfl | (congr 1; omega))) ⟨cbE 0 (wd_1568 hE) (wd_126 hE) (wd_1565 hE) rfl rfl (by decide +kernel) ⟨Nat.le_of_ble_eq_true rfl, Nat.le_of_ble_eq_true rfl⟩, (wd_1567 hE), (wd_69 hE)⟩ ⟨PR.blind, r_recv hK hP rfl, (r_pre (av := [.ref (b 0)]) hK hP hJ hE)⟩ rfl rfl hl.1 rfl (lv_room (Nat.le_of_ble_eq_true rfl)) dX12_aLine_34 ⟨Nat.le_of_ble_eq_true rfl, Nat.le_of_ble_eq_true rfl⟩) (fun r17 u17 H locs hpo17 hP hS => ?_)
        obtain ⟨hr17, h17_0, h17_1, h17_2, h17_3, hq17⟩ := hpo17
        obtain ⟨w18, hA18⟩ : ∃ g, rA u17 1 = g := ⟨_, rfl⟩
        rw [hA18] at h17_0 h17_1
        have hA19 := (hq17.1 16 (by decide)).trans hAc16
        have hF20x := (hq17.2.1 11 (by decide)).trans hF11
        have hfr := FR.step hfr hq17 (by decide) (by decide) (fun h => rfl)
        have hB := h17_0
        have hG := bg_g h17_0
        have ha21 := gg_le hG
        have ha21b := bg_w h17_0
        have htk22 := h17_2.2.2.2
        have bgo := h17_1
        rcases hr17 with ⟨rfl, hb17⟩ | ⟨rfl, hb17⟩
        · refine lv_goto (tgt := 45) hx hb dX12_aLine_37 (by decide) ?_
          refine lv_istore_n (lv' := [(2, .int 1), (1, .int r5), (0, .ref (b 0))]) hx hb dX12_aLine_45 rfl hl (by decide) rfl (fun ls hl => ?_)
          refine lv_iload_n hx hb dX12_aLine_46 rfl (lv_at hl 0 rfl) ?_
          refine lv_if_ne (tgt := 52) hx hb dX12_aLine_47 (by decide) (fun c23 => ?_) (fun c23 => absurd c23 (by decide))
          refine lv_aload_n hx hb dX12_aLine_52 rfl (lv_at hl 2 rfl) ?_
          obtain ⟨y24, hy24⟩ : ∃ z : Int32, rF u17 12 = z := ⟨_, rfl⟩
          refine r_get (v := .int y24) hx hb (ly_X12 hE) hown hK hP rfl 12 (by decide) (wd_1393 hE) (fun _ h9 => h9) (congrArg (fun z : Int32 => some (Value.int z)) hy24) dX12_aLine_53 ?_
          refine lv_iconst (v := 4) hx hb dX12_aLine_56 (by decide) ?_
          refine lv_icmp_ne (tgt := 73) hx hb dX12_aLine_57 (by decide) (fun c25 => ?_) (fun c25 => ?_)
          · have c25 := mt (b_eq (rfl : Int32.toInt y24 = _) (show Int32.toInt 4 = 4 from rfl)).mpr c25
            refine lv_aload_n hx hb dX12_aLine_73 rfl (lv_at hl 2 rfl) ?_
            refine lv_iconst (v := 2) hx hb dX12_aLine_74 (by decide) ?_
            refine rc_i hAL hS hA (va_runV (As := [.int 2]) (rest := []) ⟨hx, hb, hml, hown, noTs⟩ (r_X12_fails l dC dI H.size cs b u17 2) ⟨cbE 1 (wd_1540 hE) (wd_126 hE) (wd_1537 hE) rfl rfl (by decide +kernel) ⟨Nat.le_of_ble_eq_true rfl, Nat.le_of_ble_eq_true rfl⟩, (wd_1539 hE), (wd_62 hE)⟩ ⟨PR.blind, r_recv hK hP rfl, (r_pre (av := [.ref (b 0), .int 2]) hK hP hJ hE)⟩ rfl rfl hl.1 rfl (lv_room (Nat.le_of_ble_eq_true rfl)) dX12_aLine_75 ⟨Nat.le_of_ble_eq_true rfl, Nat.le_of_ble_eq_true rfl⟩) (fun r26 u26 H locs hpo26 hP hS => ?_)
            obtain ⟨hr26, hq26⟩ := hpo26
            have hA27 := (hq26.1 16 List.not_mem_nil).trans hA19
            have hA28 := (hq26.1 1 List.not_mem_nil).trans hA18
            have hF29x := (hq26.2.1 11 (by decide)).trans hF20x
            have hF30x := (hq26.2.1 13 (by decide)).trans h17_2.1
            have hF31x := (hq26.2.1 14 (by decide)).trans h17_2.2.1
            have hF32x := (hq26.2.1 15 (by decide)).trans h17_2.2.2.1
            have hF33x := (hq26.2.1 12 (by decide)).trans hy24
            have hfr := FR.step hfr hq26 (fun _ h => absurd h List.not_mem_nil) (by decide) (fun h => rfl)
            subst hr26
            obtain ⟨tk1, tk2, tk3⟩ := tk_mk (n := sz1) hF30x hF31x hF32x (by omega) (by omega) (by omega) (by omega)
            exact W.zret (v := 0) hx hb hr rfl (fun t ht hW => ⟨⟨0, u26, rfl, ⟨Or.inr ⟨rfl, by trivial⟩, (by first | (rw [hA28]; done) | (rw [hA28]; first | assumption | exact bgx)), (by first | (rw [hA28]; done) | (rw [hA28]; first | (intro k _; rfl) | exact bgo)), (by exact tk1), (by omega), hfr⟩, (show va_P (dC, dI) vwCl (rW cs b u26) t.heap by rw [ht]; exact hP)⟩, hS.F ht⟩) hS.2.2 dX12_aLine_78
          · have c25 := (b_eq (rfl : Int32.toInt y24 = _) (show Int32.toInt 4 = 4 from rfl)).mp c25
            refine lv_aload_n hx hb dX12_aLine_60 rfl (lv_at hl 2 rfl) ?_
            refine lv_aload_n hx hb dX12_aLine_61 rfl (lv_at hl 2 rfl) ?_
            refine r_get (v := .int (nI (fN u17 13))) hx hb (ly_X12 hE) hown hK hP rfl 13 (by decide) (wd_1394 hE) (fun _ h9 => h9) (congrArg (fun z : Int32 => some (Value.int z)) h17_2.1) dX12_aLine_62 ?_
            refine vp_callSi (va_Run.run (va_runV (As := [.int (nI (fN u17 13))]) (rest := []) ⟨hx, hb, hml, hown, noTs⟩ (r_X12_byteAt l dC dI H.size cs b u17 tx hA19 (fN u17 13) sz1 hF20x (by first | assumption | omega | rfl | (congr 1; omega)) (by first | assumption | omega | rfl | (congr 1; omega))) ⟨cbE 1 (wd_1510 hE) (wd_126 hE) (wd_1507 hE) rfl rfl (by decide +kernel) ⟨Nat.le_of_ble_eq_true rfl, Nat.le_of_ble_eq_true rfl⟩, (wd_1509 hE), (wd_57 hE)⟩ ⟨PR.blind, r_recv hK hP rfl, (r_pre (av := [.ref (b 0), .int (nI (fN u17 13))]) hK hP hJ hE)⟩ rfl rfl hl.1 rfl (lv_room (Nat.le_of_ble_eq_true rfl)) dX12_aLine_65 ⟨Nat.le_of_ble_eq_true rfl, Nat.le_of_ble_eq_true rfl⟩)) (fun r34 hr34 => ?_)
            subst hr34
            have htf34 := bA_f tx sz1 (fN u17 13)
            refine lv_bipush (v := 59) hx hb dX12_aLine_68 (by decide) ?_
            refine lv_icmp_eq (tgt := 79) hx hb dX12_aLine_70 (by decide) (fun c35 => ?_) (fun c35 => ?_)
            · have c35 := (b_eq (rfl : Int32.toInt (bA tx sz1 (fN u17 13)) = _) (show Int32.toInt 59 = 59 from rfl)).mp c35
              refine lv_aload_n hx hb dX12_aLine_79 rfl (lv_at hl 2 rfl) ?_
              refine lv_dup hx hb dX12_aLine_80 rfl ?_
              obtain ⟨y36, hy36⟩ : ∃ z : Int32, rF u17 20 = z := ⟨_, rfl⟩
              refine r_get (v := .int y36) hx hb (ly_X12 hE) hown hK hP rfl 20 (by decide) (wd_1401 hE) (fun _ h9 => h9) (congrArg (fun z : Int32 => some (Value.int z)) hy36) dX12_aLine_81 ?_
              refine lv_iconst (v := 1) hx hb dX12_aLine_84 (by decide) ?_
              refine lv_iadd hx hb dX12_aLine_85 ?_
              refine lv_topi (fun x37 ex37 => ?_)
              refine r_put (v := x37) hx hb (ly_X12 hE) tyX12 tyX12_ok nmX12 hown hK hP hJ hAL hS rfl 20 (by decide) (wd_1401 hE) (fun _ h9 => h9) rfl (by decide +kernel) rfl (by decide) dX12_aLine_86 (fun u38 H locs hf38 hq38 hP hS => ?_)
              have hA39 := (hq38.1 16 List.not_mem_nil).trans hA19
              have hA40 := (hq38.1 1 List.not_mem_nil).trans hA18
              have hF41x := (hq38.2.1 11 (by decide)).trans hF20x
              have hF42x := (hq38.2.1 13 (by decide)).trans h17_2.1
              have hF43x := (hq38.2.1 14 (by decide)).trans h17_2.2.1
              have hF44x := (hq38.2.1 15 (by decide)).trans h17_2.2.2.1
              have hF45x := (hq38.2.1 12 (by decide)).trans hy24
              have hfr := FR.step hfr hq38 (fun _ h => absurd h List.not_mem_nil) (by decide) (fun h => rfl)
              refine lv_aload_n hx hb dX12_aLine_89 rfl (lv_at hl 2 rfl) ?_
              refine rc_i hAL hS hA (va_runV (As := []) (rest := []) ⟨hx, hb, hml, hown, noTs⟩ (r_X12_takesOn l dC dI H.size cs b u38 tx hA39 sz1 (fN u17 14) (fN u17 15) hF41x hF43x hF44x (by first | assumption | omega | rfl | (congr 1; omega)) (by first | assumption | omega | rfl | (congr 1; omega)) (by first | assumption | omega | rfl | (congr 1; omega))) ⟨cbE 0 (wd_1548 hE) (wd_126 hE) (wd_1545 hE) rfl rfl (by decide +kernel) ⟨Nat.le_of_ble_eq_true rfl, Nat.le_of_ble_eq_true rfl⟩, (wd_1547 hE), (wd_64 hE)⟩ ⟨PR.blind, r_recv hK hP rfl, (r_pre (av := [.ref (b 0)]) hK hP hJ hE)⟩ rfl rfl hl.1 rfl (lv_room (Nat.le_of_ble_eq_true rfl)) dX12_aLine_90 ⟨Nat.le_of_ble_eq_true rfl, Nat.le_of_ble_eq_true rfl⟩) (fun r46 u46 H locs hpo46 hP hS => ?_)
              obtain ⟨hr46, h46_0, h46_1, h46_2, hq46⟩ := hpo46
              have hA47 := (hq46.1 16 List.not_mem_nil).trans hA39
              have hA48 := (hq46.1 1 List.not_mem_nil).trans hA40
              have hF49x := (hq46.2.1 11 (by decide)).trans hF41x
              have hF50x := (hq46.2.1 20 (by decide)).trans hf38
              have hfr := FR.step hfr hq46 (fun _ h => absurd h List.not_mem_nil) (by decide) (fun h => rfl)
              have htk51 := h46_0.2.2.2
              have RR := h46_2
              subst hr46
              obtain ⟨tk1, tk2, tk3⟩ := tk_mk (n := sz1) h46_0.1 h46_0.2.1 h46_0.2.2.1 (by omega) (by omega) (by omega) (by omega)
              exact W.zret (v := 1) hx hb hr rfl (fun t ht hW => ⟨⟨1, u46, rfl, ⟨Or.inl ⟨rfl, by exact ⟨by omega, RR⟩⟩, (by first | (rw [hA48]; done) | (rw [hA48]; first | assumption | exact bgx)), (by first | (rw [hA48]; done) | (rw [hA48]; first | (intro k _; rfl) | exact bgo)), (by exact tk1), (by omega), hfr⟩, (show va_P (dC, dI) vwCl (rW cs b u46) t.heap by rw [ht]; exact hP)⟩, hS.F ht⟩) hS.2.2 dX12_aLine_93
            · have c35 := mt (b_eq (rfl : Int32.toInt (bA tx sz1 (fN u17 13)) = _) (show Int32.toInt 59 = 59 from rfl)).mpr c35
              refine lv_aload_n hx hb dX12_aLine_73 rfl (lv_at hl 2 rfl) ?_
              refine lv_iconst (v := 2) hx hb dX12_aLine_74 (by decide) ?_
              refine rc_i hAL hS hA (va_runV (As := [.int 2]) (rest := []) ⟨hx, hb, hml, hown, noTs⟩ (r_X12_fails l dC dI H.size cs b u17 2) ⟨cbE 1 (wd_1540 hE) (wd_126 hE) (wd_1537 hE) rfl rfl (by decide +kernel) ⟨Nat.le_of_ble_eq_true rfl, Nat.le_of_ble_eq_true rfl⟩, (wd_1539 hE), (wd_62 hE)⟩ ⟨PR.blind, r_recv hK hP rfl, (r_pre (av := [.ref (b 0), .int 2]) hK hP hJ hE)⟩ rfl rfl hl.1 rfl (lv_room (Nat.le_of_ble_eq_true rfl)) dX12_aLine_75 ⟨Nat.le_of_ble_eq_true rfl, Nat.le_of_ble_eq_true rfl⟩) (fun r52 u52 H locs hpo52 hP hS => ?_)
              obtain ⟨hr52, hq52⟩ := hpo52
              have hA53 := (hq52.1 16 List.not_mem_nil).trans hA19
              have hA54 := (hq52.1 1 List.not_mem_nil).trans hA18
              have hF55x := (hq52.2.1 11 (by decide)).trans hF20x
              have hF56x := (hq52.2.1 13 (by decide)).trans h17_2.1
              have hF57x := (hq52.2.1 14 (by decide)).trans h17_2.2.1
              have hF58x := (hq52.2.1 15 (by decide)).trans h17_2.2.2.1
              have hF59x := (hq52.2.1 12 (by decide)).trans hy24
              have hfr := FR.step hfr hq52 (fun _ h => absurd h List.not_mem_nil) (by decide) (fun h => rfl)
              subst hr52
              obtain ⟨tk1, tk2, tk3⟩ := tk_mk (n := sz1) hF56x hF57x hF58x (by omega) (by omega) (by omega) (by omega)
              exact W.zret (v := 0) hx hb hr rfl (fun t ht hW => ⟨⟨0, u52, rfl, ⟨Or.inr ⟨rfl, by trivial⟩, (by first | (rw [hA54]; done) | (rw [hA54]; first | assumption | exact bgx)), (by first | (rw [hA54]; done) | (rw [hA54]; first | (intro k _; rfl) | exact bgo)), (by exact tk1), (by omega), hfr⟩, (show va_P (dC, dI) vwCl (rW cs b u52) t.heap by rw [ht]; exact hP)⟩, hS.F ht⟩) hS.2.2 dX12_aLine_78
        · refine lv_goto (tgt := 45) hx hb dX12_aLine_37 (by decide) ?_
          refine lv_istore_n (lv' := [(2, .int 0), (1, .int r5), (0, .ref (b 0))]) hx hb dX12_aLine_45 rfl hl (by decide) rfl (fun ls hl => ?_)
          refine lv_iload_n hx hb dX12_aLine_46 rfl (lv_at hl 0 rfl) ?_
          refine lv_if_ne (tgt := 52) hx hb dX12_aLine_47 (by decide) (fun c60 => absurd c60 (by decide)) (fun c60 => ?_)
          refine lv_iconst (v := 0) hx hb dX12_aLine_50 (by decide) ?_
          obtain ⟨tk1, tk2, tk3⟩ := tk_mk (n := sz1) h17_2.1 h17_2.2.1 h17_2.2.2.1 (by omega) (by omega) (by omega) (by omega)
          exact W.zret (v := 0) hx hb hr rfl (fun t ht hW => ⟨⟨0, u17, rfl, ⟨Or.inr ⟨rfl, by trivial⟩, (by first | (rw [hA18]; done) | (rw [hA18]; first | assumption | exact bgx)), (by first | (rw [hA18]; done) | (rw [hA18]; first | (intro k _; rfl) | exact bgo)), (by exact tk1), (by omega), hfr⟩, (show va_P (dC, dI) vwCl (rW cs b u17) t.heap by rw [ht]; exact hP)⟩, hS.F ht⟩) hS.2.2 dX12_aLine_51
    · have c7 := (b_eq (rfl : Int32.toInt r5 = _) (show Int32.toInt 1 = 1 from rfl)).mp c7
      refine lv_aload_n hx hb dX12_aLine_21 rfl (lv_at hl 1 rfl) ?_
      refine rc_i hAL hS hA (va_runV (As := []) (rest := []) ⟨hx, hb, hml, hown, noTs⟩ (r_X12_anEdge l dC dI s.heap.size cs b u a hA1 tx hAc16 sz1 hF11 (by first | assumption | omega | rfl | (congr 1; omega)) (by first | assumption | omega | rfl | (congr 1; omega)) (by first | assumption | omega | rfl | (congr 1; omega))) ⟨cbE 0 (wd_1552 hE) (wd_126 hE) (wd_1549 hE) rfl rfl (by decide +kernel) ⟨Nat.le_of_ble_eq_true rfl, Nat.le_of_ble_eq_true rfl⟩, (wd_1551 hE), (wd_65 hE)⟩ ⟨PR.blind, r_recv hK hP rfl, (r_pre (av := [.ref (b 0)]) hK hP hJ hE)⟩ rfl rfl hl.1 rfl (lv_room (Nat.le_of_ble_eq_true rfl)) dX12_aLine_22 ⟨Nat.le_of_ble_eq_true rfl, Nat.le_of_ble_eq_true rfl⟩) (fun r61 u61 H locs hpo61 hP hS => ?_)
      obtain ⟨hr61, h61_0, h61_1, h61_2, h61_3, hq61⟩ := hpo61
      obtain ⟨w62, hA62⟩ : ∃ g, rA u61 1 = g := ⟨_, rfl⟩
      rw [hA62] at h61_0 h61_1
      have hA63 := (hq61.1 16 (by decide)).trans hAc16
      have hF64x := (hq61.2.1 11 (by decide)).trans hF11
      have hfr := FR.step hfr hq61 (by decide) (by decide) (fun h => rfl)
      have hB := h61_0
      have hG := bg_g h61_0
      have ha65 := gg_le hG
      have ha65b := bg_w h61_0
      have htk66 := h61_2.2.2.2
      have bgo := h61_1
      rcases hr61 with ⟨rfl, hb61⟩ | ⟨rfl, hb61⟩
      · refine lv_goto (tgt := 45) hx hb dX12_aLine_25 (by decide) ?_
        refine lv_istore_n (lv' := [(2, .int 1), (1, .int r5), (0, .ref (b 0))]) hx hb dX12_aLine_45 rfl hl (by decide) rfl (fun ls hl => ?_)
        refine lv_iload_n hx hb dX12_aLine_46 rfl (lv_at hl 0 rfl) ?_
        refine lv_if_ne (tgt := 52) hx hb dX12_aLine_47 (by decide) (fun c67 => ?_) (fun c67 => absurd c67 (by decide))
        refine lv_aload_n hx hb dX12_aLine_52 rfl (lv_at hl 2 rfl) ?_
        obtain ⟨y68, hy68⟩ : ∃ z : Int32, rF u61 12 = z := ⟨_, rfl⟩
        refine r_get (v := .int y68) hx hb (ly_X12 hE) hown hK hP rfl 12 (by decide) (wd_1393 hE) (fun _ h9 => h9) (congrArg (fun z : Int32 => some (Value.int z)) hy68) dX12_aLine_53 ?_
        refine lv_iconst (v := 4) hx hb dX12_aLine_56 (by decide) ?_
        refine lv_icmp_ne (tgt := 73) hx hb dX12_aLine_57 (by decide) (fun c69 => ?_) (fun c69 => ?_)
        · have c69 := mt (b_eq (rfl : Int32.toInt y68 = _) (show Int32.toInt 4 = 4 from rfl)).mpr c69
          refine lv_aload_n hx hb dX12_aLine_73 rfl (lv_at hl 2 rfl) ?_
          refine lv_iconst (v := 2) hx hb dX12_aLine_74 (by decide) ?_
          refine rc_i hAL hS hA (va_runV (As := [.int 2]) (rest := []) ⟨hx, hb, hml, hown, noTs⟩ (r_X12_fails l dC dI H.size cs b u61 2) ⟨cbE 1 (wd_1540 hE) (wd_126 hE) (wd_1537 hE) rfl rfl (by decide +kernel) ⟨Nat.le_of_ble_eq_true rfl, Nat.le_of_ble_eq_true rfl⟩, (wd_1539 hE), (wd_62 hE)⟩ ⟨PR.blind, r_recv hK hP rfl, (r_pre (av := [.ref (b 0), .int 2]) hK hP hJ hE)⟩ rfl rfl hl.1 rfl (lv_room (Nat.le_of_ble_eq_true rfl)) dX12_aLine_75 ⟨Nat.le_of_ble_eq_true rfl, Nat.le_of_ble_eq_true rfl⟩) (fun r70 u70 H locs hpo70 hP hS => ?_)
          obtain ⟨hr70, hq70⟩ := hpo70
          have hA71 := (hq70.1 16 List.not_mem_nil).trans hA63
          have hA72 := (hq70.1 1 List.not_mem_nil).trans hA62
          have hF73x := (hq70.2.1 11 (by decide)).trans hF64x
          have hF74x := (hq70.2.1 13 (by decide)).trans h61_2.1
          have hF75x := (hq70.2.1 14 (by decide)).trans h61_2.2.1
          have hF76x := (hq70.2.1 15 (by decide)).trans h61_2.2.2.1
          have hF77x := (hq70.2.1 12 (by decide)).trans hy68
          have hfr := FR.step hfr hq70 (fun _ h => absurd h List.not_mem_nil) (by decide) (fun h => rfl)
          subst hr70
          obtain ⟨tk1, tk2, tk3⟩ := tk_mk (n := sz1) hF74x hF75x hF76x (by omega) (by omega) (by omega) (by omega)
          exact W.zret (v := 0) hx hb hr rfl (fun t ht hW => ⟨⟨0, u70, rfl, ⟨Or.inr ⟨rfl, by trivial⟩, (by first | (rw [hA72]; done) | (rw [hA72]; first | assumption | exact bgx)), (by first | (rw [hA72]; done) | (rw [hA72]; first | (intro k _; rfl) | exact bgo)), (by exact tk1), (by omega), hfr⟩, (show va_P (dC, dI) vwCl (rW cs b u70) t.heap by rw [ht]; exact hP)⟩, hS.F ht⟩) hS.2.2 dX12_aLine_78
        · have c69 := (b_eq (rfl : Int32.toInt y68 = _) (show Int32.toInt 4 = 4 from rfl)).mp c69
          refine lv_aload_n hx hb dX12_aLine_60 rfl (lv_at hl 2 rfl) ?_
          refine lv_aload_n hx hb dX12_aLine_61 rfl (lv_at hl 2 rfl) ?_
          refine r_get (v := .int (nI (fN u61 13))) hx hb (ly_X12 hE) hown hK hP rfl 13 (by decide) (wd_1394 hE) (fun _ h9 => h9) (congrArg (fun z : Int32 => some (Value.int z)) h61_2.1) dX12_aLine_62 ?_
          refine vp_callSi (va_Run.run (va_runV (As := [.int (nI (fN u61 13))]) (rest := []) ⟨hx, hb, hml, hown, noTs⟩ (r_X12_byteAt l dC dI H.size cs b u61 tx hA63 (fN u61 13) sz1 hF64x (by first | assumption | omega | rfl | (congr 1; omega)) (by first | assumption | omega | rfl | (congr 1; omega))) ⟨cbE 1 (wd_1510 hE) (wd_126 hE) (wd_1507 hE) rfl rfl (by decide +kernel) ⟨Nat.le_of_ble_eq_true rfl, Nat.le_of_ble_eq_true rfl⟩, (wd_1509 hE), (wd_57 hE)⟩ ⟨PR.blind, r_recv hK hP rfl, (r_pre (av := [.ref (b 0), .int (nI (fN u61 13))]) hK hP hJ hE)⟩ rfl rfl hl.1 rfl (lv_room (Nat.le_of_ble_eq_true rfl)) dX12_aLine_65 ⟨Nat.le_of_ble_eq_true rfl, Nat.le_of_ble_eq_true rfl⟩)) (fun r78 hr78 => ?_)
          subst hr78
          have htf78 := bA_f tx sz1 (fN u61 13)
          refine lv_bipush (v := 59) hx hb dX12_aLine_68 (by decide) ?_
          refine lv_icmp_eq (tgt := 79) hx hb dX12_aLine_70 (by decide) (fun c79 => ?_) (fun c79 => ?_)
          · have c79 := (b_eq (rfl : Int32.toInt (bA tx sz1 (fN u61 13)) = _) (show Int32.toInt 59 = 59 from rfl)).mp c79
            refine lv_aload_n hx hb dX12_aLine_79 rfl (lv_at hl 2 rfl) ?_
            refine lv_dup hx hb dX12_aLine_80 rfl ?_
            obtain ⟨y80, hy80⟩ : ∃ z : Int32, rF u61 20 = z := ⟨_, rfl⟩
            refine r_get (v := .int y80) hx hb (ly_X12 hE) hown hK hP rfl 20 (by decide) (wd_1401 hE) (fun _ h9 => h9) (congrArg (fun z : Int32 => some (Value.int z)) hy80) dX12_aLine_81 ?_
            refine lv_iconst (v := 1) hx hb dX12_aLine_84 (by decide) ?_
            refine lv_iadd hx hb dX12_aLine_85 ?_
            refine lv_topi (fun x81 ex81 => ?_)
            refine r_put (v := x81) hx hb (ly_X12 hE) tyX12 tyX12_ok nmX12 hown hK hP hJ hAL hS rfl 20 (by decide) (wd_1401 hE) (fun _ h9 => h9) rfl (by decide +kernel) rfl (by decide) dX12_aLine_86 (fun u82 H locs hf82 hq82 hP hS => ?_)
            have hA83 := (hq82.1 16 List.not_mem_nil).trans hA63
            have hA84 := (hq82.1 1 List.not_mem_nil).trans hA62
            have hF85x := (hq82.2.1 11 (by decide)).trans hF64x
            have hF86x := (hq82.2.1 13 (by decide)).trans h61_2.1
            have hF87x := (hq82.2.1 14 (by decide)).trans h61_2.2.1
            have hF88x := (hq82.2.1 15 (by decide)).trans h61_2.2.2.1
            have hF89x := (hq82.2.1 12 (by decide)).trans hy68
            have hfr := FR.step hfr hq82 (fun _ h => absurd h List.not_mem_nil) (by decide) (fun h => rfl)
            refine lv_aload_n hx hb dX12_aLine_89 rfl (lv_at hl 2 rfl) ?_
            refine rc_i hAL hS hA (va_runV (As := []) (rest := []) ⟨hx, hb, hml, hown, noTs⟩ (r_X12_takesOn l dC dI H.size cs b u82 tx hA83 sz1 (fN u61 14) (fN u61 15) hF85x hF87x hF88x (by first | assumption | omega | rfl | (congr 1; omega)) (by first | assumption | omega | rfl | (congr 1; omega)) (by first | assumption | omega | rfl | (congr 1; omega))) ⟨cbE 0 (wd_1548 hE) (wd_126 hE) (wd_1545 hE) rfl rfl (by decide +kernel) ⟨Nat.le_of_ble_eq_true rfl, Nat.le_of_ble_eq_true rfl⟩, (wd_1547 hE), (wd_64 hE)⟩ ⟨PR.blind, r_recv hK hP rfl, (r_pre (av := [.ref (b 0)]) hK hP hJ hE)⟩ rfl rfl hl.1 rfl (lv_room (Nat.le_of_ble_eq_true rfl)) dX12_aLine_90 ⟨Nat.le_of_ble_eq_true rfl, Nat.le_of_ble_eq_true rfl⟩) (fun r90 u90 H locs hpo90 hP hS => ?_)
            obtain ⟨hr90, h90_0, h90_1, h90_2, hq90⟩ := hpo90
            have hA91 := (hq90.1 16 List.not_mem_nil).trans hA83
            have hA92 := (hq90.1 1 List.not_mem_nil).trans hA84
            have hF93x := (hq90.2.1 11 (by decide)).trans hF85x
            have hF94x := (hq90.2.1 20 (by decide)).trans hf82
            have hfr := FR.step hfr hq90 (fun _ h => absurd h List.not_mem_nil) (by decide) (fun h => rfl)
            have htk95 := h90_0.2.2.2
            have RR := h90_2
            subst hr90
            obtain ⟨tk1, tk2, tk3⟩ := tk_mk (n := sz1) h90_0.1 h90_0.2.1 h90_0.2.2.1 (by omega) (by omega) (by omega) (by omega)
            exact W.zret (v := 1) hx hb hr rfl (fun t ht hW => ⟨⟨1, u90, rfl, ⟨Or.inl ⟨rfl, by exact ⟨by omega, RR⟩⟩, (by first | (rw [hA92]; done) | (rw [hA92]; first | assumption | exact bgx)), (by first | (rw [hA92]; done) | (rw [hA92]; first | (intro k _; rfl) | exact bgo)), (by exact tk1), (by omega), hfr⟩, (show va_P (dC, dI) vwCl (rW cs b u90) t.heap by rw [ht]; exact hP)⟩, hS.F ht⟩) hS.2.2 dX12_aLine_93
          · have c79 := mt (b_eq (rfl : Int32.toInt (bA tx sz1 (fN u61 13)) = _) (show Int32.toInt 59 = 59 from rfl)).mpr c79
            refine lv_aload_n hx hb dX12_aLine_73 rfl (lv_at hl 2 rfl) ?_
            refine lv_iconst (v := 2) hx hb dX12_aLine_74 (by decide) ?_
            refine rc_i hAL hS hA (va_runV (As := [.int 2]) (rest := []) ⟨hx, hb, hml, hown, noTs⟩ (r_X12_fails l dC dI H.size cs b u61 2) ⟨cbE 1 (wd_1540 hE) (wd_126 hE) (wd_1537 hE) rfl rfl (by decide +kernel) ⟨Nat.le_of_ble_eq_true rfl, Nat.le_of_ble_eq_true rfl⟩, (wd_1539 hE), (wd_62 hE)⟩ ⟨PR.blind, r_recv hK hP rfl, (r_pre (av := [.ref (b 0), .int 2]) hK hP hJ hE)⟩ rfl rfl hl.1 rfl (lv_room (Nat.le_of_ble_eq_true rfl)) dX12_aLine_75 ⟨Nat.le_of_ble_eq_true rfl, Nat.le_of_ble_eq_true rfl⟩) (fun r96 u96 H locs hpo96 hP hS => ?_)
            obtain ⟨hr96, hq96⟩ := hpo96
            have hA97 := (hq96.1 16 List.not_mem_nil).trans hA63
            have hA98 := (hq96.1 1 List.not_mem_nil).trans hA62
            have hF99x := (hq96.2.1 11 (by decide)).trans hF64x
            have hF100x := (hq96.2.1 13 (by decide)).trans h61_2.1
            have hF101x := (hq96.2.1 14 (by decide)).trans h61_2.2.1
            have hF102x := (hq96.2.1 15 (by decide)).trans h61_2.2.2.1
            have hF103x := (hq96.2.1 12 (by decide)).trans hy68
            have hfr := FR.step hfr hq96 (fun _ h => absurd h List.not_mem_nil) (by decide) (fun h => rfl)
            subst hr96
            obtain ⟨tk1, tk2, tk3⟩ := tk_mk (n := sz1) hF100x hF101x hF102x (by omega) (by omega) (by omega) (by omega)
            exact W.zret (v := 0) hx hb hr rfl (fun t ht hW => ⟨⟨0, u96, rfl, ⟨Or.inr ⟨rfl, by trivial⟩, (by first | (rw [hA98]; done) | (rw [hA98]; first | assumption | exact bgx)), (by first | (rw [hA98]; done) | (rw [hA98]; first | (intro k _; rfl) | exact bgo)), (by exact tk1), (by omega), hfr⟩, (show va_P (dC, dI) vwCl (rW cs b u96) t.heap by rw [ht]; exact hP)⟩, hS.F ht⟩) hS.2.2 dX12_aLine_78
      · refine lv_goto (tgt := 45) hx hb dX12_aLine_25 (by decide) ?_
        refine lv_istore_n (lv' := [(2, .int 0), (1, .int r5), (0, .ref (b 0))]) hx hb dX12_aLine_45 rfl hl (by decide) rfl (fun ls hl => ?_)
        refine lv_iload_n hx hb dX12_aLine_46 rfl (lv_at hl 0 rfl) ?_
        refine lv_if_ne (tgt := 52) hx hb dX12_aLine_47 (by decide) (fun c104 => absurd c104 (by decide)) (fun c104 => ?_)
        refine lv_iconst (v := 0) hx hb dX12_aLine_50 (by decide) ?_
        obtain ⟨tk1, tk2, tk3⟩ := tk_mk (n := sz1) h61_2.1 h61_2.2.1 h61_2.2.2.1 (by omega) (by omega) (by omega) (by omega)
        exact W.zret (v := 0) hx hb hr rfl (fun t ht hW => ⟨⟨0, u61, rfl, ⟨Or.inr ⟨rfl, by trivial⟩, (by first | (rw [hA62]; done) | (rw [hA62]; first | assumption | exact bgx)), (by first | (rw [hA62]; done) | (rw [hA62]; first | (intro k _; rfl) | exact bgo)), (by exact tk1), (by omega), hfr⟩, (show va_P (dC, dI) vwCl (rW cs b u61) t.heap by rw [ht]; exact hP)⟩, hS.F ht⟩) hS.2.2 dX12_aLine_51
  · have c6 := (b_eq (rfl : Int32.toInt r5 = _) (show Int32.toInt 0 = 0 from rfl)).mp c6
    refine lv_aload_n hx hb dX12_aLine_9 rfl (lv_at hl 1 rfl) ?_
    refine rc_i hAL hS hA (va_runV (As := []) (rest := []) ⟨hx, hb, hml, hown, noTs⟩ (r_X12_aVertex l dC dI s.heap.size cs b u a hA1 tx hAc16 sz1 hF11 (by first | assumption | omega | rfl | (congr 1; omega)) (by first | assumption | omega | rfl | (congr 1; omega)) (by first | assumption | omega | rfl | (congr 1; omega))) ⟨cbE 0 (wd_1532 hE) (wd_126 hE) (wd_1529 hE) rfl rfl (by decide +kernel) ⟨Nat.le_of_ble_eq_true rfl, Nat.le_of_ble_eq_true rfl⟩, (wd_1531 hE), (wd_60 hE)⟩ ⟨PR.blind, r_recv hK hP rfl, (r_pre (av := [.ref (b 0)]) hK hP hJ hE)⟩ rfl rfl hl.1 rfl (lv_room (Nat.le_of_ble_eq_true rfl)) dX12_aLine_10 ⟨Nat.le_of_ble_eq_true rfl, Nat.le_of_ble_eq_true rfl⟩) (fun r105 u105 H locs hpo105 hP hS => ?_)
    obtain ⟨hr105, h105_0, h105_1, h105_2, h105_3, hq105⟩ := hpo105
    obtain ⟨w106, hA106⟩ : ∃ g, rA u105 1 = g := ⟨_, rfl⟩
    rw [hA106] at h105_0 h105_1
    have hA107 := (hq105.1 16 (by decide)).trans hAc16
    have hF108x := (hq105.2.1 11 (by decide)).trans hF11
    have hfr := FR.step hfr hq105 (by decide) (by decide) (fun h => rfl)
    have hB := h105_0
    have hG := bg_g h105_0
    have ha109 := gg_le hG
    have ha109b := bg_w h105_0
    have htk110 := h105_2.2.2.2
    have bgo := h105_1
    rcases hr105 with ⟨rfl, hb105⟩ | ⟨rfl, hb105⟩
    · refine lv_goto (tgt := 45) hx hb dX12_aLine_13 (by decide) ?_
      refine lv_istore_n (lv' := [(2, .int 1), (1, .int r5), (0, .ref (b 0))]) hx hb dX12_aLine_45 rfl hl (by decide) rfl (fun ls hl => ?_)
      refine lv_iload_n hx hb dX12_aLine_46 rfl (lv_at hl 0 rfl) ?_
      refine lv_if_ne (tgt := 52) hx hb dX12_aLine_47 (by decide) (fun c111 => ?_) (fun c111 => absurd c111 (by decide))
      refine lv_aload_n hx hb dX12_aLine_52 rfl (lv_at hl 2 rfl) ?_
      obtain ⟨y112, hy112⟩ : ∃ z : Int32, rF u105 12 = z := ⟨_, rfl⟩
      refine r_get (v := .int y112) hx hb (ly_X12 hE) hown hK hP rfl 12 (by decide) (wd_1393 hE) (fun _ h9 => h9) (congrArg (fun z : Int32 => some (Value.int z)) hy112) dX12_aLine_53 ?_
      refine lv_iconst (v := 4) hx hb dX12_aLine_56 (by decide) ?_
      refine lv_icmp_ne (tgt := 73) hx hb dX12_aLine_57 (by decide) (fun c113 => ?_) (fun c113 => ?_)
      · have c113 := mt (b_eq (rfl : Int32.toInt y112 = _) (show Int32.toInt 4 = 4 from rfl)).mpr c113
        refine lv_aload_n hx hb dX12_aLine_73 rfl (lv_at hl 2 rfl) ?_
        refine lv_iconst (v := 2) hx hb dX12_aLine_74 (by decide) ?_
        refine rc_i hAL hS hA (va_runV (As := [.int 2]) (rest := []) ⟨hx, hb, hml, hown, noTs⟩ (r_X12_fails l dC dI H.size cs b u105 2) ⟨cbE 1 (wd_1540 hE) (wd_126 hE) (wd_1537 hE) rfl rfl (by decide +kernel) ⟨Nat.le_of_ble_eq_true rfl, Nat.le_of_ble_eq_true rfl⟩, (wd_1539 hE), (wd_62 hE)⟩ ⟨PR.blind, r_recv hK hP rfl, (r_pre (av := [.ref (b 0), .int 2]) hK hP hJ hE)⟩ rfl rfl hl.1 rfl (lv_room (Nat.le_of_ble_eq_true rfl)) dX12_aLine_75 ⟨Nat.le_of_ble_eq_true rfl, Nat.le_of_ble_eq_true rfl⟩) (fun r114 u114 H locs hpo114 hP hS => ?_)
        obtain ⟨hr114, hq114⟩ := hpo114
        have hA115 := (hq114.1 16 List.not_mem_nil).trans hA107
        have hA116 := (hq114.1 1 List.not_mem_nil).trans hA106
        have hF117x := (hq114.2.1 11 (by decide)).trans hF108x
        have hF118x := (hq114.2.1 13 (by decide)).trans h105_2.1
        have hF119x := (hq114.2.1 14 (by decide)).trans h105_2.2.1
        have hF120x := (hq114.2.1 15 (by decide)).trans h105_2.2.2.1
        have hF121x := (hq114.2.1 12 (by decide)).trans hy112
        have hfr := FR.step hfr hq114 (fun _ h => absurd h List.not_mem_nil) (by decide) (fun h => rfl)
        subst hr114
        obtain ⟨tk1, tk2, tk3⟩ := tk_mk (n := sz1) hF118x hF119x hF120x (by omega) (by omega) (by omega) (by omega)
        exact W.zret (v := 0) hx hb hr rfl (fun t ht hW => ⟨⟨0, u114, rfl, ⟨Or.inr ⟨rfl, by trivial⟩, (by first | (rw [hA116]; done) | (rw [hA116]; first | assumption | exact bgx)), (by first | (rw [hA116]; done) | (rw [hA116]; first | (intro k _; rfl) | exact bgo)), (by exact tk1), (by omega), hfr⟩, (show va_P (dC, dI) vwCl (rW cs b u114) t.heap by rw [ht]; exact hP)⟩, hS.F ht⟩) hS.2.2 dX12_aLine_78
      · have c113 := (b_eq (rfl : Int32.toInt y112 = _) (show Int32.toInt 4 = 4 from rfl)).mp c113
        refine lv_aload_n hx hb dX12_aLine_60 rfl (lv_at hl 2 rfl) ?_
        refine lv_aload_n hx hb dX12_aLine_61 rfl (lv_at hl 2 rfl) ?_
        refine r_get (v := .int (nI (fN u105 13))) hx hb (ly_X12 hE) hown hK hP rfl 13 (by decide) (wd_1394 hE) (fun _ h9 => h9) (congrArg (fun z : Int32 => some (Value.int z)) h105_2.1) dX12_aLine_62 ?_
        refine vp_callSi (va_Run.run (va_runV (As := [.int (nI (fN u105 13))]) (rest := []) ⟨hx, hb, hml, hown, noTs⟩ (r_X12_byteAt l dC dI H.size cs b u105 tx hA107 (fN u105 13) sz1 hF108x (by first | assumption | omega | rfl | (congr 1; omega)) (by first | assumption | omega | rfl | (congr 1; omega))) ⟨cbE 1 (wd_1510 hE) (wd_126 hE) (wd_1507 hE) rfl rfl (by decide +kernel) ⟨Nat.le_of_ble_eq_true rfl, Nat.le_of_ble_eq_true rfl⟩, (wd_1509 hE), (wd_57 hE)⟩ ⟨PR.blind, r_recv hK hP rfl, (r_pre (av := [.ref (b 0), .int (nI (fN u105 13))]) hK hP hJ hE)⟩ rfl rfl hl.1 rfl (lv_room (Nat.le_of_ble_eq_true rfl)) dX12_aLine_65 ⟨Nat.le_of_ble_eq_true rfl, Nat.le_of_ble_eq_true rfl⟩)) (fun r122 hr122 => ?_)
        subst hr122
        have htf122 := bA_f tx sz1 (fN u105 13)
        refine lv_bipush (v := 59) hx hb dX12_aLine_68 (by decide) ?_
        refine lv_icmp_eq (tgt := 79) hx hb dX12_aLine_70 (by decide) (fun c123 => ?_) (fun c123 => ?_)
        · have c123 := (b_eq (rfl : Int32.toInt (bA tx sz1 (fN u105 13)) = _) (show Int32.toInt 59 = 59 from rfl)).mp c123
          refine lv_aload_n hx hb dX12_aLine_79 rfl (lv_at hl 2 rfl) ?_
          refine lv_dup hx hb dX12_aLine_80 rfl ?_
          obtain ⟨y124, hy124⟩ : ∃ z : Int32, rF u105 20 = z := ⟨_, rfl⟩
          refine r_get (v := .int y124) hx hb (ly_X12 hE) hown hK hP rfl 20 (by decide) (wd_1401 hE) (fun _ h9 => h9) (congrArg (fun z : Int32 => some (Value.int z)) hy124) dX12_aLine_81 ?_
          refine lv_iconst (v := 1) hx hb dX12_aLine_84 (by decide) ?_
          refine lv_iadd hx hb dX12_aLine_85 ?_
          refine lv_topi (fun x125 ex125 => ?_)
          refine r_put (v := x125) hx hb (ly_X12 hE) tyX12 tyX12_ok nmX12 hown hK hP hJ hAL hS rfl 20 (by decide) (wd_1401 hE) (fun _ h9 => h9) rfl (by decide +kernel) rfl (by decide) dX12_aLine_86 (fun u126 H locs hf126 hq126 hP hS => ?_)
          have hA127 := (hq126.1 16 List.not_mem_nil).trans hA107
          have hA128 := (hq126.1 1 List.not_mem_nil).trans hA106
          have hF129x := (hq126.2.1 11 (by decide)).trans hF108x
          have hF130x := (hq126.2.1 13 (by decide)).trans h105_2.1
          have hF131x := (hq126.2.1 14 (by decide)).trans h105_2.2.1
          have hF132x := (hq126.2.1 15 (by decide)).trans h105_2.2.2.1
          have hF133x := (hq126.2.1 12 (by decide)).trans hy112
          have hfr := FR.step hfr hq126 (fun _ h => absurd h List.not_mem_nil) (by decide) (fun h => rfl)
          refine lv_aload_n hx hb dX12_aLine_89 rfl (lv_at hl 2 rfl) ?_
          refine rc_i hAL hS hA (va_runV (As := []) (rest := []) ⟨hx, hb, hml, hown, noTs⟩ (r_X12_takesOn l dC dI H.size cs b u126 tx hA127 sz1 (fN u105 14) (fN u105 15) hF129x hF131x hF132x (by first | assumption | omega | rfl | (congr 1; omega)) (by first | assumption | omega | rfl | (congr 1; omega)) (by first | assumption | omega | rfl | (congr 1; omega))) ⟨cbE 0 (wd_1548 hE) (wd_126 hE) (wd_1545 hE) rfl rfl (by decide +kernel) ⟨Nat.le_of_ble_eq_true rfl, Nat.le_of_ble_eq_true rfl⟩, (wd_1547 hE), (wd_64 hE)⟩ ⟨PR.blind, r_recv hK hP rfl, (r_pre (av := [.ref (b 0)]) hK hP hJ hE)⟩ rfl rfl hl.1 rfl (lv_room (Nat.le_of_ble_eq_true rfl)) dX12_aLine_90 ⟨Nat.le_of_ble_eq_true rfl, Nat.le_of_ble_eq_true rfl⟩) (fun r134 u134 H locs hpo134 hP hS => ?_)
          obtain ⟨hr134, h134_0, h134_1, h134_2, hq134⟩ := hpo134
          have hA135 := (hq134.1 16 List.not_mem_nil).trans hA127
          have hA136 := (hq134.1 1 List.not_mem_nil).trans hA128
          have hF137x := (hq134.2.1 11 (by decide)).trans hF129x
          have hF138x := (hq134.2.1 20 (by decide)).trans hf126
          have hfr := FR.step hfr hq134 (fun _ h => absurd h List.not_mem_nil) (by decide) (fun h => rfl)
          have htk139 := h134_0.2.2.2
          have RR := h134_2
          subst hr134
          obtain ⟨tk1, tk2, tk3⟩ := tk_mk (n := sz1) h134_0.1 h134_0.2.1 h134_0.2.2.1 (by omega) (by omega) (by omega) (by omega)
          exact W.zret (v := 1) hx hb hr rfl (fun t ht hW => ⟨⟨1, u134, rfl, ⟨Or.inl ⟨rfl, by exact ⟨by omega, RR⟩⟩, (by first | (rw [hA136]; done) | (rw [hA136]; first | assumption | exact bgx)), (by first | (rw [hA136]; done) | (rw [hA136]; first | (intro k _; rfl) | exact bgo)), (by exact tk1), (by omega), hfr⟩, (show va_P (dC, dI) vwCl (rW cs b u134) t.heap by rw [ht]; exact hP)⟩, hS.F ht⟩) hS.2.2 dX12_aLine_93
        · have c123 := mt (b_eq (rfl : Int32.toInt (bA tx sz1 (fN u105 13)) = _) (show Int32.toInt 59 = 59 from rfl)).mpr c123
          refine lv_aload_n hx hb dX12_aLine_73 rfl (lv_at hl 2 rfl) ?_
          refine lv_iconst (v := 2) hx hb dX12_aLine_74 (by decide) ?_
          refine rc_i hAL hS hA (va_runV (As := [.int 2]) (rest := []) ⟨hx, hb, hml, hown, noTs⟩ (r_X12_fails l dC dI H.size cs b u105 2) ⟨cbE 1 (wd_1540 hE) (wd_126 hE) (wd_1537 hE) rfl rfl (by decide +kernel) ⟨Nat.le_of_ble_eq_true rfl, Nat.le_of_ble_eq_true rfl⟩, (wd_1539 hE), (wd_62 hE)⟩ ⟨PR.blind, r_recv hK hP rfl, (r_pre (av := [.ref (b 0), .int 2]) hK hP hJ hE)⟩ rfl rfl hl.1 rfl (lv_room (Nat.le_of_ble_eq_true rfl)) dX12_aLine_75 ⟨Nat.le_of_ble_eq_true rfl, Nat.le_of_ble_eq_true rfl⟩) (fun r140 u140 H locs hpo140 hP hS => ?_)
          obtain ⟨hr140, hq140⟩ := hpo140
          have hA141 := (hq140.1 16 List.not_mem_nil).trans hA107
          have hA142 := (hq140.1 1 List.not_mem_nil).trans hA106
          have hF143x := (hq140.2.1 11 (by decide)).trans hF108x
          have hF144x := (hq140.2.1 13 (by decide)).trans h105_2.1
          have hF145x := (hq140.2.1 14 (by decide)).trans h105_2.2.1
          have hF146x := (hq140.2.1 15 (by decide)).trans h105_2.2.2.1
          have hF147x := (hq140.2.1 12 (by decide)).trans hy112
          have hfr := FR.step hfr hq140 (fun _ h => absurd h List.not_mem_nil) (by decide) (fun h => rfl)
          subst hr140
          obtain ⟨tk1, tk2, tk3⟩ := tk_mk (n := sz1) hF144x hF145x hF146x (by omega) (by omega) (by omega) (by omega)
          exact W.zret (v := 0) hx hb hr rfl (fun t ht hW => ⟨⟨0, u140, rfl, ⟨Or.inr ⟨rfl, by trivial⟩, (by first | (rw [hA142]; done) | (rw [hA142]; first | assumption | exact bgx)), (by first | (rw [hA142]; done) | (rw [hA142]; first | (intro k _; rfl) | exact bgo)), (by exact tk1), (by omega), hfr⟩, (show va_P (dC, dI) vwCl (rW cs b u140) t.heap by rw [ht]; exact hP)⟩, hS.F ht⟩) hS.2.2 dX12_aLine_78
    · refine lv_goto (tgt := 45) hx hb dX12_aLine_13 (by decide) ?_
      refine lv_istore_n (lv' := [(2, .int 0), (1, .int r5), (0, .ref (b 0))]) hx hb dX12_aLine_45 rfl hl (by decide) rfl (fun ls hl => ?_)
      refine lv_iload_n hx hb dX12_aLine_46 rfl (lv_at hl 0 rfl) ?_
      refine lv_if_ne (tgt := 52) hx hb dX12_aLine_47 (by decide) (fun c148 => absurd c148 (by decide)) (fun c148 => ?_)
      refine lv_iconst (v := 0) hx hb dX12_aLine_50 (by decide) ?_
      obtain ⟨tk1, tk2, tk3⟩ := tk_mk (n := sz1) h105_2.1 h105_2.2.1 h105_2.2.2.1 (by omega) (by omega) (by omega) (by omega)
      exact W.zret (v := 0) hx hb hr rfl (fun t ht hW => ⟨⟨0, u105, rfl, ⟨Or.inr ⟨rfl, by trivial⟩, (by first | (rw [hA106]; done) | (rw [hA106]; first | assumption | exact bgx)), (by first | (rw [hA106]; done) | (rw [hA106]; first | (intro k _; rfl) | exact bgo)), (by exact tk1), (by omega), hfr⟩, (show va_P (dC, dI) vwCl (rW cs b u105) t.heap by rw [ht]; exact hP)⟩, hS.F ht⟩) hS.2.2 dX12_aLine_51

set_option maxHeartbeats 4000000 in
set_option maxRecDepth 100000 in
theorem r_X12_load_no (l : Launch) (dC : Nat → ClassId) (dI : Nat → Nat → Nat) (sz : Nat) (cs : Nat → ClassId) (b : Nat → Nat) (u : RS) (a : Nat → Int32) (hA1 : rA u 1 = a) (x : Int32) (tt : Nat) (hF10 : rF u 10 = nI tt) (hp0 : tt ≤ 700) (hp1 : x.toInt < 0 ∨ (tt : Int) < x.toInt) : Met l yX12_load [.code yX12_load cX12_load 3 (some .int)] ({ frames := 1, cells := 0, slots := 0, locals := 40 }) (PR [.ref (b 0), .int x] sz dC dI cs b u) (va_Qi (fun (r : Int32) (u' : RS) => (True) ∧ FR [] [1] false u u') (BR dC dI cs b) (AR b sz)) 0 0 (AR b sz) := by
  refine Met.ofW (cc := cX12_load) (maxL := 3) (ret := (some .int)) (by decide) rfl ?_
  intro p e s m args below meth c s₁ B hml hv
  obtain ⟨rfl, hsz, hP, hK, hJ, hE⟩ := hv
  have hx := B.exec
  have hb := B.bytes
  have hr := B.returns
  have hown : s.vm.findClass RX12 = some m.cls := findClass_of_methodNamed B.named
  have hlocks := B.notSynchronized
  subst hsz
  have hAL : ∀ i, i < 108 → AR b s.heap.size (b i) := fun i h => Or.inl ⟨i, h, rfl⟩
  have hA : ∀ q : Nat, s.heap.size ≤ q → AR b s.heap.size q := fun q h => Or.inr h
  have hS : va_S (AR b s.heap.size) s.heap s.heap [] := va_S.rf
  have hfr : FR [] [1] false u u := FR.refl
  have hl := lv_entry ([.ref (b 0), .int x]) (n := 3) (Nat.le_of_ble_eq_true rfl)
  rw [lg_entry_eq]
  generalize (lg_sl ([.ref (b 0), .int x]) ++ List.replicate (3 - (lg_sl ([.ref (b 0), .int x])).length) Slot.unset).toArray = ls at hl ⊢
  have hl : lv_has ls 3 [(0, .ref (b 0)), (1, .int x)] := hl
  refine lv_iload_n hx hb dX12_load_0 rfl (lv_at hl 1 rfl) ?_
  refine lv_iconst (v := 0) hx hb dX12_load_1 (by decide) ?_
  refine lv_aload_n hx hb dX12_load_2 rfl (lv_at hl 0 rfl) ?_
  refine r_get (v := .int (nI tt)) hx hb (ly_X12 hE) hown hK hP rfl 10 (by decide) (wd_1391 hE) (fun _ h9 => h9) (congrArg (fun z : Int32 => some (Value.int z)) hF10) dX12_load_3 ?_
  refine vp_callSi (va_Run.run (va_runS (As := [.int x, .int 0, .int (nI tt)]) (rest := []) ⟨hx, hb, hml, hown, noTs⟩ (r_X12_isFrom l dC dI s.heap.size cs b u a hA1 x 0 (nI tt) ((0 : Int)) (((tt : Nat) : Int)) (show Int32.toInt 0 = 0 from rfl) (nI_toInt (n := tt) (by omega))) ⟨cbE 3 (wd_1494 hE) (wd_126 hE) (wd_1492 hE) rfl rfl (by decide +kernel) ⟨Nat.le_of_ble_eq_true rfl, Nat.le_of_ble_eq_true rfl⟩, (wd_1493 hE)⟩ ⟨PR.blind, (r_pre (av := [.int x, .int 0, .int (nI tt)]) hK hP hJ hE)⟩ rfl rfl hl.1 rfl (lv_room (Nat.le_of_ble_eq_true rfl)) dX12_load_6 ⟨Nat.le_of_ble_eq_true rfl, Nat.le_of_ble_eq_true rfl⟩)) (fun r3 hr3 => ?_)
  rcases hr3 with ⟨rfl, hb3⟩ | ⟨rfl, hb3⟩
  · exact False.elim (by omega)
  · refine lv_if_ne (tgt := 18) hx hb dX12_load_9 (by decide) (fun c4 => absurd c4 (by decide)) (fun c4 => ?_)
    refine lv_aload_n hx hb dX12_load_12 rfl (lv_at hl 0 rfl) ?_
    refine lv_iconst (v := 1) hx hb dX12_load_13 (by decide) ?_
    refine rc_i hAL hS hA (va_runV (As := [.int 1]) (rest := []) ⟨hx, hb, hml, hown, noTs⟩ (r_X12_refuse l dC dI s.heap.size cs b u a hA1 1) ⟨cbE 1 (wd_1498 hE) (wd_126 hE) (wd_1495 hE) rfl rfl (by decide +kernel) ⟨Nat.le_of_ble_eq_true rfl, Nat.le_of_ble_eq_true rfl⟩, (wd_1497 hE), (wd_54 hE)⟩ ⟨PR.blind, r_recv hK hP rfl, (r_pre (av := [.ref (b 0), .int 1]) hK hP hJ hE)⟩ rfl rfl hl.1 rfl (lv_room (Nat.le_of_ble_eq_true rfl)) dX12_load_14 ⟨Nat.le_of_ble_eq_true rfl, Nat.le_of_ble_eq_true rfl⟩) (fun r5 u5 H locs hpo5 hP hS => ?_)
    obtain ⟨hr5, hq5⟩ := hpo5
    have hA6 := (hq5.1 1 List.not_mem_nil).trans hA1
    have hF7x := (hq5.2.1 10 (by decide)).trans hF10
    have hfr := FR.step hfr hq5 (fun _ h => absurd h List.not_mem_nil) (by decide) (fun h => rfl)
    subst hr5
    exact W.iret (v := -1) hx hb hr (fun t ht hW => ⟨⟨-1, u5, rfl, ⟨trivial, hfr⟩, (show va_P (dC, dI) vwCl (rW cs b u5) t.heap by rw [ht]; exact hP)⟩, hS.F ht⟩) hS.2.2 dX12_load_17

set_option maxHeartbeats 4000000 in
set_option maxRecDepth 100000 in
theorem r_X12_load (l : Launch) (dC : Nat → ClassId) (dI : Nat → Nat → Nat) (sz : Nat) (cs : Nat → ClassId) (b : Nat → Nat) (u : RS) (adK adV : Nat → Nat) (a : Nat → Int32) (hA1 : rA u 1 = a) (x : Int32) (tt : Nat) (ac : Nat) (v0 : Nat) (hF10 : rF u 10 = nI tt) (hF2 : rF u 2 = nI ac) (hF15 : rF u 15 = nI v0) (hp0 : AB a) (hp1 : ac ≤ 8) (hp2 : tt ≤ 700) (hp3 : v0 ≤ 9999) (hp4 : 0 ≤ x.toInt ∧ x.toInt ≤ (tt : Int)) : Met l yX12_load [.code yX12_load cX12_load 3 (some .int)] ({ frames := 8, cells := 0, slots := 0, locals := 320 }) (PRX [.ref (b 0), .int x] sz dC dI cs b u adK adV) (va_Qi (fun (r : Int32) (u' : RS) => (True) ∧ (AB (rA u' 1)) ∧ (∃ k : Nat, k ≤ 8 ∧ rF u' 2 = nI k) ∧ (rF u' 10 = nI 0) ∧ (∃ k : Nat, k ≤ 9999 ∧ rF u' 15 = nI k) ∧ FR [1, 3, 16] [1, 2, 10, 11, 12, 13, 14, 15, 16, 17, 18, 19, 20] false u u') (BR dC dI cs b) (AR b sz)) 0 0 (AR b sz) := by
  refine Met.ofW (cc := cX12_load) (maxL := 3) (ret := (some .int)) (by decide) rfl ?_
  intro p e s m args below meth c s₁ B hml hv
  obtain ⟨rfl, hsz, hP, hK, hJ, hE, hX, hZ⟩ := hv
  have hx := B.exec
  have hb := B.bytes
  have hr := B.returns
  have hown : s.vm.findClass RX12 = some m.cls := findClass_of_methodNamed B.named
  have hlocks := B.notSynchronized
  subst hsz
  have hAL : ∀ i, i < 108 → AR b s.heap.size (b i) := fun i h => Or.inl ⟨i, h, rfl⟩
  have hA : ∀ q : Nat, s.heap.size ≤ q → AR b s.heap.size q := fun q h => Or.inr h
  have hS : va_S (AR b s.heap.size) s.heap s.heap [] := va_S.rf
  have hfr : FR [1, 3, 16] [1, 2, 10, 11, 12, 13, 14, 15, 16, 17, 18, 19, 20] false u u := FR.refl
  have hl := lv_entry ([.ref (b 0), .int x]) (n := 3) (Nat.le_of_ble_eq_true rfl)
  rw [lg_entry_eq]
  generalize (lg_sl ([.ref (b 0), .int x]) ++ List.replicate (3 - (lg_sl ([.ref (b 0), .int x])).length) Slot.unset).toArray = ls at hl ⊢
  have hl : lv_has ls 3 [(0, .ref (b 0)), (1, .int x)] := hl
  have hB := ab_0 hp0
  have hG := bg_g hB
  have ha2 := gg_le hG
  have ha2b := bg_w hB
  refine lv_iload_n hx hb dX12_load_0 rfl (lv_at hl 1 rfl) ?_
  refine lv_iconst (v := 0) hx hb dX12_load_1 (by decide) ?_
  refine lv_aload_n hx hb dX12_load_2 rfl (lv_at hl 0 rfl) ?_
  refine r_get (v := .int (nI tt)) hx hb (ly_X12 hE) hown hK hP rfl 10 (by decide) (wd_1391 hE) (fun _ h9 => h9) (congrArg (fun z : Int32 => some (Value.int z)) hF10) dX12_load_3 ?_
  refine vp_callSi (va_Run.run (va_runS (As := [.int x, .int 0, .int (nI tt)]) (rest := []) ⟨hx, hb, hml, hown, noTs⟩ (r_X12_isFrom l dC dI s.heap.size cs b u a hA1 x 0 (nI tt) ((0 : Int)) (((tt : Nat) : Int)) (show Int32.toInt 0 = 0 from rfl) (nI_toInt (n := tt) (by omega))) ⟨cbE 3 (wd_1494 hE) (wd_126 hE) (wd_1492 hE) rfl rfl (by decide +kernel) ⟨Nat.le_of_ble_eq_true rfl, Nat.le_of_ble_eq_true rfl⟩, (wd_1493 hE)⟩ ⟨PR.blind, (r_pre (av := [.int x, .int 0, .int (nI tt)]) hK hP hJ hE)⟩ rfl rfl hl.1 rfl (lv_room (Nat.le_of_ble_eq_true rfl)) dX12_load_6 ⟨Nat.le_of_ble_eq_true rfl, Nat.le_of_ble_eq_true rfl⟩)) (fun r7 hr7 => ?_)
  rcases hr7 with ⟨rfl, hb7⟩ | ⟨rfl, hb7⟩
  · obtain ⟨nx8, hi8, hj8⟩ := z_ex (x := x) (n := tt + 1) (by omega) (by omega)
    subst hi8
    have hti9 := nI_toInt (n := nx8) (by omega)
    refine lv_if_ne (tgt := 18) hx hb dX12_load_9 (by decide) (fun c10 => ?_) (fun c10 => absurd c10 (by decide))
    refine lv_aload_n hx hb dX12_load_18 rfl (lv_at hl 0 rfl) ?_
    refine lv_iload_n hx hb dX12_load_19 rfl (lv_at hl 1 rfl) ?_
    refine r_put (v := nI nx8) hx hb (ly_X12 hE) tyX12 tyX12_ok nmX12 hown hK hP hJ hAL hS rfl 11 (by decide) (wd_1392 hE) (fun _ h9 => h9) rfl (by decide +kernel) rfl (by decide) dX12_load_20 (fun u11 H locs hf11 hq11 hP hS => ?_)
    have hA12 := (hq11.1 1 List.not_mem_nil).trans hA1
    have hF13x := (hq11.2.1 10 (by decide)).trans hF10
    have hF14x := (hq11.2.1 2 (by decide)).trans hF2
    have hF15x := (hq11.2.1 15 (by decide)).trans hF15
    have hfr := FR.step hfr hq11 (fun _ h => absurd h List.not_mem_nil) (by decide) (fun h => rfl)
    refine lv_iconst (v := 0) hx hb dX12_load_23 (by decide) ?_
    refine lv_istore_n (lv' := [(2, .int 0), (0, .ref (b 0)), (1, .int (nI nx8))]) hx hb dX12_load_24 rfl hl (by decide) rfl (fun ls hl => ?_)
    obtain ⟨g16, hg16⟩ : ∃ g, rA u11 16 = g := ⟨_, rfl⟩
    refine r_ind (I := fun n u_ H locs ls => va_P (dC, dI) vwCl (rW cs b u_) H ∧ va_S (AR b s.heap.size) s.heap H locs ∧ FR [1, 3, 16] [1, 2, 10, 11, 12, 13, 14, 15, 16, 17, 18, 19, 20] false u u_ ∧ ∃ (k_17 : Nat) (g1_17 : Nat → Int32), n = nx8 - k_17 ∧ (k_17 ≤ nx8) ∧ (rA u_ 1 = a) ∧ (rA u_ 16 = g1_17) ∧ (rF u_ 2 = nI ac) ∧ (rF u_ 10 = nI tt) ∧ (rF u_ 11 = nI nx8) ∧ (rF u_ 15 = nI v0) ∧ lv_has ls 3 [(0, .ref (b 0)), (1, .int (nI nx8)), (2, .int (nI k_17))]) (fun n u17 H locs ls hI ih17 => ?_) _ u11 _ _ _ ⟨hP, hS, hfr, 0, g16, rfl, (by first | assumption | omega | rfl | (congr 1; omega)), hA12, hg16, hF14x, hF13x, hf11, hF15x, lv_sub hl [1, 2, 0] rfl⟩
    obtain ⟨hP, hS, hfr, k_17, g1_17, hmu17, hL17_0, hL17_1, hL17_2, hL17_3, hL17_4, hL17_5, hL17_6, hl⟩ := hI
    subst hmu17
    refine lv_iload_n hx hb dX12_load_25 rfl (lv_at hl 2 rfl) ?_
    refine lv_iload_n hx hb dX12_load_26 rfl (lv_at hl 1 rfl) ?_
    refine lv_icmp_ge (tgt := 48) hx hb dX12_load_27 (by decide) (fun c18 => ?_) (fun c18 => ?_)
    · have c18 := (b_le (nI_toInt (n := nx8) (by omega)) (nI_toInt (n := k_17) (by omega))).mp c18
      refine lv_aload_n hx hb dX12_load_48 rfl (lv_at hl 0 rfl) ?_
      refine lv_iconst (v := 0) hx hb dX12_load_49 (by decide) ?_
      refine r_put (v := 0) hx hb (ly_X12 hE) tyX12 tyX12_ok nmX12 hown hK hP hJ hAL hS rfl 10 (by decide) (wd_1391 hE) (fun _ h9 => h9) rfl (by decide +kernel) rfl (by decide) dX12_load_50 (fun u19 H locs hf19 hq19 hP hS => ?_)
      have hA20 := (hq19.1 1 List.not_mem_nil).trans hL17_1
      have hA21 := (hq19.1 16 List.not_mem_nil).trans hL17_2
      have hF22x := (hq19.2.1 2 (by decide)).trans hL17_3
      have hF23x := (hq19.2.1 11 (by decide)).trans hL17_5
      have hF24x := (hq19.2.1 15 (by decide)).trans hL17_6
      have hfr := FR.step hfr hq19 (fun _ h => absurd h List.not_mem_nil) (by decide) (fun h => rfl)
      refine lv_aload_n hx hb dX12_load_53 rfl (lv_at hl 0 rfl) ?_
      refine lv_iconst (v := 0) hx hb dX12_load_54 (by decide) ?_
      refine r_put (v := 0) hx hb (ly_X12 hE) tyX12 tyX12_ok nmX12 hown hK hP hJ hAL hS rfl 16 (by decide) (wd_1397 hE) (fun _ h9 => h9) rfl (by decide +kernel) rfl (by decide) dX12_load_55 (fun u25 H locs hf25 hq25 hP hS => ?_)
      have hA26 := (hq25.1 1 List.not_mem_nil).trans hA20
      have hA27 := (hq25.1 16 List.not_mem_nil).trans hA21
      have hF28x := (hq25.2.1 2 (by decide)).trans hF22x
      have hF29x := (hq25.2.1 11 (by decide)).trans hF23x
      have hF30x := (hq25.2.1 15 (by decide)).trans hF24x
      have hF31x := (hq25.2.1 10 (by decide)).trans hf19
      have hfr := FR.step hfr hq25 (fun _ h => absurd h List.not_mem_nil) (by decide) (fun h => rfl)
      refine lv_aload_n hx hb dX12_load_58 rfl (lv_at hl 0 rfl) ?_
      refine lv_iconst (v := -1) hx hb dX12_load_59 (by decide) ?_
      refine r_put (v := -1) hx hb (ly_X12 hE) tyX12 tyX12_ok nmX12 hown hK hP hJ hAL hS rfl 17 (by decide) (wd_1398 hE) (fun _ h9 => h9) rfl (by decide +kernel) rfl (by decide) dX12_load_60 (fun u32 H locs hf32 hq32 hP hS => ?_)
      have hA33 := (hq32.1 1 List.not_mem_nil).trans hA26
      have hA34 := (hq32.1 16 List.not_mem_nil).trans hA27
      have hF35x := (hq32.2.1 2 (by decide)).trans hF28x
      have hF36x := (hq32.2.1 11 (by decide)).trans hF29x
      have hF37x := (hq32.2.1 15 (by decide)).trans hF30x
      have hF38x := (hq32.2.1 10 (by decide)).trans hF31x
      have hF39x := (hq32.2.1 16 (by decide)).trans hf25
      have hfr := FR.step hfr hq32 (fun _ h => absurd h List.not_mem_nil) (by decide) (fun h => rfl)
      refine lv_aload_n hx hb dX12_load_63 rfl (lv_at hl 0 rfl) ?_
      refine lv_iconst (v := -1) hx hb dX12_load_64 (by decide) ?_
      refine r_put (v := -1) hx hb (ly_X12 hE) tyX12 tyX12_ok nmX12 hown hK hP hJ hAL hS rfl 18 (by decide) (wd_1399 hE) (fun _ h9 => h9) rfl (by decide +kernel) rfl (by decide) dX12_load_65 (fun u40 H locs hf40 hq40 hP hS => ?_)
      have hA41 := (hq40.1 1 List.not_mem_nil).trans hA33
      have hA42 := (hq40.1 16 List.not_mem_nil).trans hA34
      have hF43x := (hq40.2.1 2 (by decide)).trans hF35x
      have hF44x := (hq40.2.1 11 (by decide)).trans hF36x
      have hF45x := (hq40.2.1 15 (by decide)).trans hF37x
      have hF46x := (hq40.2.1 10 (by decide)).trans hF38x
      have hF47x := (hq40.2.1 16 (by decide)).trans hF39x
      have hF48x := (hq40.2.1 17 (by decide)).trans hf32
      have hfr := FR.step hfr hq40 (fun _ h => absurd h List.not_mem_nil) (by decide) (fun h => rfl)
      refine lv_aload_n hx hb dX12_load_68 rfl (lv_at hl 0 rfl) ?_
      refine lv_iconst (v := 0) hx hb dX12_load_69 (by decide) ?_
      refine r_put (v := 0) hx hb (ly_X12 hE) tyX12 tyX12_ok nmX12 hown hK hP hJ hAL hS rfl 20 (by decide) (wd_1401 hE) (fun _ h9 => h9) rfl (by decide +kernel) rfl (by decide) dX12_load_70 (fun u49 H locs hf49 hq49 hP hS => ?_)
      have hA50 := (hq49.1 1 List.not_mem_nil).trans hA41
      have hA51 := (hq49.1 16 List.not_mem_nil).trans hA42
      have hF52x := (hq49.2.1 2 (by decide)).trans hF43x
      have hF53x := (hq49.2.1 11 (by decide)).trans hF44x
      have hF54x := (hq49.2.1 15 (by decide)).trans hF45x
      have hF55x := (hq49.2.1 10 (by decide)).trans hF46x
      have hF56x := (hq49.2.1 16 (by decide)).trans hF47x
      have hF57x := (hq49.2.1 17 (by decide)).trans hF48x
      have hF58x := (hq49.2.1 18 (by decide)).trans hf40
      have hfr := FR.step hfr hq49 (fun _ h => absurd h List.not_mem_nil) (by decide) (fun h => rfl)
      refine lv_aload_n hx hb dX12_load_73 rfl (lv_at hl 0 rfl) ?_
      refine lv_iconst (v := 0) hx hb dX12_load_74 (by decide) ?_
      refine r_put (v := 0) hx hb (ly_X12 hE) tyX12 tyX12_ok nmX12 hown hK hP hJ hAL hS rfl 14 (by decide) (wd_1395 hE) (fun _ h9 => h9) rfl (by decide +kernel) rfl (by decide) dX12_load_75 (fun u59 H locs hf59 hq59 hP hS => ?_)
      have hA60 := (hq59.1 1 List.not_mem_nil).trans hA50
      have hA61 := (hq59.1 16 List.not_mem_nil).trans hA51
      have hF62x := (hq59.2.1 2 (by decide)).trans hF52x
      have hF63x := (hq59.2.1 11 (by decide)).trans hF53x
      have hF64x := (hq59.2.1 15 (by decide)).trans hF54x
      have hF65x := (hq59.2.1 10 (by decide)).trans hF55x
      have hF66x := (hq59.2.1 16 (by decide)).trans hF56x
      have hF67x := (hq59.2.1 17 (by decide)).trans hF57x
      have hF68x := (hq59.2.1 18 (by decide)).trans hF58x
      have hF69x := (hq59.2.1 20 (by decide)).trans hf49
      have hfr := FR.step hfr hq59 (fun _ h => absurd h List.not_mem_nil) (by decide) (fun h => rfl)
      refine lv_aload_n hx hb dX12_load_78 rfl (lv_at hl 0 rfl) ?_
      refine lv_iconst (v := 0) hx hb dX12_load_79 (by decide) ?_
      refine lv_sipush (v := 554) hx hb dX12_load_80 (by decide) ?_
      refine rc_v hAL hS hA (va_runV (As := [.int (nI 0), .int (nI 554)]) (rest := []) ⟨hx, hb, hml, hown, noTs⟩ (r_X12_copies l dC dI H.size cs b u59 a hA60 0 554 (by first | assumption | omega | rfl | (congr 1; omega)) (by first | assumption | omega | rfl | (congr 1; omega)) (by first | assumption | omega | rfl | (congr 1; omega))) ⟨cbE 2 (wd_1502 hE) (wd_126 hE) (wd_1499 hE) rfl rfl (by decide +kernel) ⟨Nat.le_of_ble_eq_true rfl, Nat.le_of_ble_eq_true rfl⟩, (wd_1501 hE), (wd_55 hE)⟩ ⟨PR.blind, r_recv hK hP rfl, (r_pre (av := [.ref (b 0), .int (nI 0), .int (nI 554)]) hK hP hJ hE)⟩ rfl rfl hl.1 rfl (lv_room (Nat.le_of_ble_eq_true rfl)) dX12_load_83 ⟨Nat.le_of_ble_eq_true rfl, Nat.le_of_ble_eq_true rfl⟩) (fun u70 H locs hpo70 hP hS => ?_)
      obtain ⟨h70_0, h70_1, hq70⟩ := hpo70
      obtain ⟨w71, hA71⟩ : ∃ g, rA u70 1 = g := ⟨_, rfl⟩
      rw [hA71] at h70_0 h70_1
      have hA72 := (hq70.1 16 (by decide)).trans hA61
      have hF73x := (hq70.2.1 2 List.not_mem_nil).trans hF62x
      have hF74x := (hq70.2.1 11 List.not_mem_nil).trans hF63x
      have hF75x := (hq70.2.1 15 List.not_mem_nil).trans hF64x
      have hF76x := (hq70.2.1 10 List.not_mem_nil).trans hF65x
      have hF77x := (hq70.2.1 16 List.not_mem_nil).trans hF66x
      have hF78x := (hq70.2.1 17 List.not_mem_nil).trans hF67x
      have hF79x := (hq70.2.1 18 List.not_mem_nil).trans hF68x
      have hF80x := (hq70.2.1 20 List.not_mem_nil).trans hF69x
      have hF81x := (hq70.2.1 14 List.not_mem_nil).trans hf59
      have hfr := FR.step hfr hq70 (by decide) (fun _ h => absurd h List.not_mem_nil) (fun h => rfl)
      have AB1 := ab_copy (i := 0) (j := 1) (by omega) hp0 (fun q hq => (congrArg w71 (show 554 * 1 + q = 554 + q by omega)).trans ((h70_0 q hq).trans (congrArg a (by omega)))) (fun q hq => h70_1 q (by omega))
      refine lv_iconst (v := 0) hx hb dX12_load_86 (by decide) ?_
      refine lv_istore_n (lv' := [(2, .int 0), (0, .ref (b 0)), (1, .int (nI nx8))]) hx hb dX12_load_87 rfl hl (by decide) rfl (fun ls hl => ?_)
      refine r_ind (I := fun n u_ H locs ls => va_P (dC, dI) vwCl (rW cs b u_) H ∧ va_S (AR b s.heap.size) s.heap H locs ∧ FR [1, 3, 16] [1, 2, 10, 11, 12, 13, 14, 15, 16, 17, 18, 19, 20] false u u_ ∧ ∃ (k_82 : Nat) (g_82 : Nat → Int32), n = 554 - k_82 ∧ (k_82 ≤ 554) ∧ (∀ q, q < k_82 → g_82 q = 0) ∧ (∀ q, k_82 ≤ q → g_82 q = w71 q) ∧ (rA u_ 1 = g_82) ∧ (rA u_ 16 = g1_17) ∧ (rF u_ 2 = nI ac) ∧ (rF u_ 10 = 0) ∧ (rF u_ 11 = nI nx8) ∧ (rF u_ 14 = 0) ∧ (rF u_ 15 = nI v0) ∧ lv_has ls 3 [(0, .ref (b 0)), (1, .int (nI nx8)), (2, .int (nI k_82))]) (fun n u82 H locs ls hI ih82 => ?_) _ u70 _ _ _ ⟨hP, hS, hfr, 0, w71, rfl, (by first | assumption | omega | rfl | (congr 1; omega)), (by intro q hq; omega), (by intro q _; rfl), hA71, hA72, hF73x, hF76x, hF74x, hF81x, hF75x, lv_sub hl [1, 2, 0] rfl⟩
      obtain ⟨hP, hS, hfr, k_82, g_82, hmu82, hL82_0, hL82_1, hL82_2, hL82_3, hL82_4, hL82_5, hL82_6, hL82_7, hL82_8, hL82_9, hl⟩ := hI
      subst hmu82
      refine lv_iload_n hx hb dX12_load_88 rfl (lv_at hl 2 rfl) ?_
      refine lv_sipush (v := 554) hx hb dX12_load_89 (by decide) ?_
      refine lv_icmp_ge (tgt := 108) hx hb dX12_load_92 (by decide) (fun c83 => ?_) (fun c83 => ?_)
      · have c83 := (b_le (show Int32.toInt 554 = 554 from rfl) (nI_toInt (n := k_82) (by omega))).mp c83
        have bgz := bg_zero (fun k hk => hL82_1 k (by omega))
        have LF88o : ∀ q, 554 ≤ q → g_82 q = w71 q := fun q hq => hL82_2 q (by omega)
        refine lv_aload_n hx hb dX12_load_108 rfl (lv_at hl 0 rfl) ?_
        refine rc_v hAL hS hA (va_runV (As := []) (rest := []) ⟨hx, hb, hml, hown, noTs⟩ (r_X12_ahead l dC dI H.size cs b u82 g1_17 hL82_4 nx8 0 v0 hL82_7 hL82_8 hL82_9 (by first | assumption | omega | rfl | (congr 1; omega)) (by first | assumption | omega | rfl | (congr 1; omega)) (by first | assumption | omega | rfl | (congr 1; omega))) ⟨cbE 0 (wd_1506 hE) (wd_126 hE) (wd_1503 hE) rfl rfl (by decide +kernel) ⟨Nat.le_of_ble_eq_true rfl, Nat.le_of_ble_eq_true rfl⟩, (wd_1505 hE), (wd_56 hE)⟩ ⟨PR.blind, r_recv hK hP rfl, (r_pre (av := [.ref (b 0)]) hK hP hJ hE)⟩ rfl rfl hl.1 rfl (lv_room (Nat.le_of_ble_eq_true rfl)) dX12_load_109 ⟨Nat.le_of_ble_eq_true rfl, Nat.le_of_ble_eq_true rfl⟩) (fun u84 H locs hpo84 hP hS => ?_)
        obtain ⟨h84_0, h84_1, h84_2, hq84⟩ := hpo84
        have hA85 := (hq84.1 1 List.not_mem_nil).trans hL82_3
        have hA86 := (hq84.1 16 List.not_mem_nil).trans hL82_4
        have hF87x := (hq84.2.1 2 (by decide)).trans hL82_5
        have hF88x := (hq84.2.1 10 (by decide)).trans hL82_6
        have hF89x := (hq84.2.1 11 (by decide)).trans hL82_7
        have hfr := FR.step hfr hq84 (fun _ h => absurd h List.not_mem_nil) (by decide) (fun h => rfl)
        have htk90 := h84_0.2.2.2
        have RR0 := h84_2
        refine lv_iconst (v := 1) hx hb dX12_load_112 (by decide) ?_
        refine lv_istore_n (lv' := [(2, .int 1), (0, .ref (b 0)), (1, .int (nI nx8))]) hx hb dX12_load_113 rfl hl (by decide) rfl (fun ls hl => ?_)
        refine r_ind (I := fun n u_ H locs ls => va_P (dC, dI) vwCl (rW cs b u_) H ∧ va_S (AR b s.heap.size) s.heap H locs ∧ FR [1, 3, 16] [1, 2, 10, 11, 12, 13, 14, 15, 16, 17, 18, 19, 20] false u u_ ∧ ∃ (gd_91 : Nat) (g_91 : Nat → Int32), n = gd_91 + (700 - fN u_ 13) ∧ (BG g_91) ∧ (∀ q, 554 ≤ q → g_91 q = w71 q) ∧ (TK u_ nx8) ∧ (gd_91 = 1 → ((rF u_ 12).toInt = 0 ∨ fN u_ 13 < fN u_ 14)) ∧ (gd_91 ≤ 1) ∧ (rA u_ 1 = g_91) ∧ (rA u_ 16 = g1_17) ∧ (rF u_ 2 = nI ac) ∧ (rF u_ 10 = 0) ∧ (rF u_ 11 = nI nx8) ∧ lv_has ls 3 [(0, .ref (b 0)), (1, .int (nI nx8)), (2, .int (nI gd_91))]) (fun n u91 H locs ls hI ih91 => ?_) _ u84 _ _ _ ⟨hP, hS, hfr, 1, g_82, rfl, (by exact bgz), (by exact LF88o), (by assumption), (by intro _; rcases RR0 with e | e; (exact Or.inl (by rw [e]; rfl)); (exact Or.inr e)), (by first | assumption | omega | rfl | (congr 1; omega)), hA85, hA86, hF87x, hF88x, hF89x, lv_sub hl [1, 2, 0] rfl⟩
        obtain ⟨hP, hS, hfr, gd_91, g_91, hmu91, hL91_0, hL91_1, hL91_2, hL91_3, hL91_4, hL91_5, hL91_6, hL91_7, hL91_8, hL91_9, hl⟩ := hI
        subst hmu91
        have hB := hL91_0
        have hG := bg_g hL91_0
        have ha92 := gg_le hG
        have ha92b := bg_w hL91_0
        have htk93 := hL91_2.2.2.2
        refine lv_iload_n hx hb dX12_load_114 rfl (lv_at hl 2 rfl) ?_
        refine lv_if_eq (tgt := 133) hx hb dX12_load_115 (by decide) (fun c94 => ?_) (fun c94 => ?_)
        · have c94 := (b_eq (nI_toInt (n := gd_91) (by omega)) (show Int32.toInt 0 = 0 from rfl)).mp c94
          have abg := ab_now AB1 hL91_0 hL91_1
          refine lv_aload_n hx hb dX12_load_133 rfl (lv_at hl 0 rfl) ?_
          refine lv_aload_n hx hb dX12_load_134 rfl (lv_at hl 0 rfl) ?_
          obtain ⟨y95, hy95⟩ : ∃ z : Int32, rF u91 16 = z := ⟨_, rfl⟩
          refine r_get (v := .int y95) hx hb (ly_X12 hE) hown hK hP rfl 16 (by decide) (wd_1397 hE) (fun _ h9 => h9) (congrArg (fun z : Int32 => some (Value.int z)) hy95) dX12_load_135 ?_
          refine r_put (v := y95) hx hb (ly_X12 hE) tyX12 tyX12_ok nmX12 hown hK hP hJ hAL hS rfl 19 (by decide) (wd_1400 hE) (fun _ h9 => h9) rfl (by decide +kernel) rfl (by decide) dX12_load_138 (fun u96 H locs hf96 hq96 hP hS => ?_)
          have hA97 := (hq96.1 1 List.not_mem_nil).trans hL91_5
          have hA98 := (hq96.1 16 List.not_mem_nil).trans hL91_6
          have hF99x := (hq96.2.1 2 (by decide)).trans hL91_7
          have hF100x := (hq96.2.1 10 (by decide)).trans hL91_8
          have hF101x := (hq96.2.1 11 (by decide)).trans hL91_9
          have hF102x := (hq96.2.1 13 (by decide)).trans hL91_2.1
          have hF103x := (hq96.2.1 14 (by decide)).trans hL91_2.2.1
          have hF104x := (hq96.2.1 15 (by decide)).trans hL91_2.2.2.1
          have hF105x := (hq96.2.1 16 (by decide)).trans hy95
          have hfr := FR.step hfr hq96 (fun _ h => absurd h List.not_mem_nil) (by decide) (fun h => rfl)
          refine lv_aload_n hx hb dX12_load_141 rfl (lv_at hl 0 rfl) ?_
          refine r_get (v := .int y95) hx hb (ly_X12 hE) hown hK hP rfl 16 (by decide) (wd_1397 hE) (fun _ h9 => h9) (congrArg (fun z : Int32 => some (Value.int z)) hF105x) dX12_load_142 ?_
          refine lv_if_le (tgt := 163) hx hb dX12_load_145 (by decide) (fun c106 => ?_) (fun c106 => ?_)
          · have c106 := (b_le (rfl : Int32.toInt y95 = _) (show Int32.toInt 0 = 0 from rfl)).mp c106
            refine lv_aload_n hx hb dX12_load_163 rfl (lv_at hl 0 rfl) ?_
            refine lv_sipush (v := 554) hx hb dX12_load_164 (by decide) ?_
            refine rc_v hAL hS hA (va_runV (As := [.int (nI 554)]) (rest := []) ⟨hx, hb, hml, hown, noTs⟩ (r_X12_acted l dC dI H.size cs b u96 g_91 hA97 554 ac hF99x (by first | assumption | omega | rfl | (congr 1; omega)) (by first | assumption | omega | rfl | (congr 1; omega)) (by first | assumption | omega | rfl | (congr 1; omega))) ⟨cbE 1 (wd_1617 hE) (wd_126 hE) (wd_1614 hE) rfl rfl (by decide +kernel) ⟨Nat.le_of_ble_eq_true rfl, Nat.le_of_ble_eq_true rfl⟩, (wd_1616 hE), (wd_79 hE)⟩ ⟨PR.blind, r_recv hK hP rfl, (r_pre (av := [.ref (b 0), .int (nI 554)]) hK hP hJ hE)⟩ rfl rfl hl.1 rfl (lv_room (Nat.le_of_ble_eq_true rfl)) dX12_load_167 ⟨Nat.le_of_ble_eq_true rfl, Nat.le_of_ble_eq_true rfl⟩) (fun u107 H locs hpo107 hP hS => ?_)
            obtain ⟨h107_0, h107_1, h107_2, hq107⟩ := hpo107
            obtain ⟨w108, hA108⟩ : ∃ g, rA u107 1 = g := ⟨_, rfl⟩
            rw [hA108] at h107_0 h107_1
            obtain ⟨n107_2, hn107_2, hfe107_2⟩ := h107_2
            have hA109 := (hq107.1 16 (by decide)).trans hA98
            have hF110x := (hq107.2.1 10 (by decide)).trans hF100x
            have hF111x := (hq107.2.1 11 (by decide)).trans hF101x
            have hF112x := (hq107.2.1 13 (by decide)).trans hF102x
            have hF113x := (hq107.2.1 14 (by decide)).trans hF103x
            have hF114x := (hq107.2.1 15 (by decide)).trans hF104x
            have hF115x := (hq107.2.1 16 (by decide)).trans hF105x
            have hF116x := (hq107.2.1 19 (by decide)).trans hf96
            have hfr := FR.step hfr hq107 (by decide) (by decide) (fun h => rfl)
            have hB := ab_0 h107_0
            have hG := bg_g hB
            have ha117 := gg_le hG
            have ha117b := bg_w hB
            refine lv_aload_n hx hb dX12_load_170 rfl (lv_at hl 0 rfl) ?_
            refine lv_aload_n hx hb dX12_load_171 rfl (lv_at hl 0 rfl) ?_
            refine lv_iconst (v := 2) hx hb dX12_load_172 (by decide) ?_
            refine vp_callSi (va_Run.run (va_runV (As := [.int (nI 2)]) (rest := [.ref (b 0)]) ⟨hx, hb, hml, hown, noTs⟩ (r_X12_of l dC dI H.size cs b u107 w108 hA108 2 (by first | assumption | omega | rfl | (congr 1; omega))) ⟨cbE 1 (wd_1536 hE) (wd_126 hE) (wd_1533 hE) rfl rfl (by decide +kernel) ⟨Nat.le_of_ble_eq_true rfl, Nat.le_of_ble_eq_true rfl⟩, (wd_1535 hE), (wd_61 hE)⟩ ⟨PR.blind, r_recv hK hP rfl, (r_pre (av := [.ref (b 0), .int (nI 2)]) hK hP hJ hE)⟩ rfl rfl hl.1 rfl (lv_room (Nat.le_of_ble_eq_true rfl)) dX12_load_173 ⟨Nat.le_of_ble_eq_true rfl, Nat.le_of_ble_eq_true rfl⟩)) (fun r118 hr118 => ?_)
            have hr118 := hr118.trans ((bg_w hB).1)
            subst hr118
            refine rc_i hAL hS hA (va_runV (As := [.int (nI (wN w108))]) (rest := []) ⟨hx, hb, hml, hown, noTs⟩ (r_X12_gives l dC dI H.size cs b u107 w108 hA108 (nI (wN w108))) ⟨cbE 1 (wd_1621 hE) (wd_126 hE) (wd_1618 hE) rfl rfl (by decide +kernel) ⟨Nat.le_of_ble_eq_true rfl, Nat.le_of_ble_eq_true rfl⟩, (wd_1620 hE), (wd_80 hE)⟩ ⟨PR.blind, r_recv hK hP rfl, (r_pre (av := [.ref (b 0), .int (nI (wN w108))]) hK hP hJ hE)⟩ rfl rfl hl.1 rfl (lv_room (Nat.le_of_ble_eq_true rfl)) dX12_load_176 ⟨Nat.le_of_ble_eq_true rfl, Nat.le_of_ble_eq_true rfl⟩) (fun r119 u119 H locs hpo119 hP hS => ?_)
            obtain ⟨hr119, hq119⟩ := hpo119
            have hA120 := (hq119.1 16 List.not_mem_nil).trans hA109
            have hA121 := (hq119.1 1 List.not_mem_nil).trans hA108
            have hF122x := (hq119.2.1 10 (by decide)).trans hF110x
            have hF123x := (hq119.2.1 11 (by decide)).trans hF111x
            have hF124x := (hq119.2.1 13 (by decide)).trans hF112x
            have hF125x := (hq119.2.1 14 (by decide)).trans hF113x
            have hF126x := (hq119.2.1 15 (by decide)).trans hF114x
            have hF127x := (hq119.2.1 16 (by decide)).trans hF115x
            have hF128x := (hq119.2.1 19 (by decide)).trans hF116x
            have hF129x := (hq119.2.1 2 (by decide)).trans hfe107_2
            have hfr := FR.step hfr hq119 (fun _ h => absurd h List.not_mem_nil) (by decide) (fun h => rfl)
            refine W.eq (g2 := F0 m 179 ls [.int (nI (wN w108))]) (by rw [hr119]) ?_
            exact W.iret (v := nI (wN w108)) hx hb hr (fun t ht hW => ⟨⟨nI (wN w108), u119, rfl, ⟨trivial, (by first | (rw [hA121]; done) | (rw [hA121]; assumption)), (by first | (rw [hF129x]; done) | (rw [hF129x]; refine ⟨_, ?_, rfl⟩; omega)), (by first | (rw [hF122x]; done) | (rw [hF122x]; first | rfl | assumption)), (by first | (rw [hF126x]; done) | (rw [hF126x]; refine ⟨_, ?_, rfl⟩; omega)), hfr⟩, (show va_P (dC, dI) vwCl (rW cs b u119) t.heap by rw [ht]; exact hP)⟩, hS.F ht⟩) hS.2.2 dX12_load_179
          · have c106 := mt (b_le (rfl : Int32.toInt y95 = _) (show Int32.toInt 0 = 0 from rfl)).mpr c106
            refine lv_aload_n hx hb dX12_load_148 rfl (lv_at hl 0 rfl) ?_
            refine lv_sipush (v := 554) hx hb dX12_load_149 (by decide) ?_
            refine lv_iconst (v := 0) hx hb dX12_load_152 (by decide) ?_
            refine rc_v hAL hS hA (va_runV (As := [.int (nI 554), .int (nI 0)]) (rest := []) ⟨hx, hb, hml, hown, noTs⟩ (r_X12_copies l dC dI H.size cs b u96 g_91 hA97 554 0 (by first | assumption | omega | rfl | (congr 1; omega)) (by first | assumption | omega | rfl | (congr 1; omega)) (by first | assumption | omega | rfl | (congr 1; omega))) ⟨cbE 2 (wd_1502 hE) (wd_126 hE) (wd_1499 hE) rfl rfl (by decide +kernel) ⟨Nat.le_of_ble_eq_true rfl, Nat.le_of_ble_eq_true rfl⟩, (wd_1501 hE), (wd_55 hE)⟩ ⟨PR.blind, r_recv hK hP rfl, (r_pre (av := [.ref (b 0), .int (nI 554), .int (nI 0)]) hK hP hJ hE)⟩ rfl rfl hl.1 rfl (lv_room (Nat.le_of_ble_eq_true rfl)) dX12_load_153 ⟨Nat.le_of_ble_eq_true rfl, Nat.le_of_ble_eq_true rfl⟩) (fun u130 H locs hpo130 hP hS => ?_)
            obtain ⟨h130_0, h130_1, hq130⟩ := hpo130
            obtain ⟨w131, hA131⟩ : ∃ g, rA u130 1 = g := ⟨_, rfl⟩
            rw [hA131] at h130_0 h130_1
            have hA132 := (hq130.1 16 (by decide)).trans hA98
            have hF133x := (hq130.2.1 2 List.not_mem_nil).trans hF99x
            have hF134x := (hq130.2.1 10 List.not_mem_nil).trans hF100x
            have hF135x := (hq130.2.1 11 List.not_mem_nil).trans hF101x
            have hF136x := (hq130.2.1 13 List.not_mem_nil).trans hF102x
            have hF137x := (hq130.2.1 14 List.not_mem_nil).trans hF103x
            have hF138x := (hq130.2.1 15 List.not_mem_nil).trans hF104x
            have hF139x := (hq130.2.1 16 List.not_mem_nil).trans hF105x
            have hF140x := (hq130.2.1 19 List.not_mem_nil).trans hf96
            have hfr := FR.step hfr hq130 (by decide) (fun _ h => absurd h List.not_mem_nil) (fun h => rfl)
            have abx := ab_copy (i := 1) (j := 0) (by omega) abg (fun q hq => (congrArg w131 (show 554 * 0 + q = 0 + q by omega)).trans ((h130_0 q hq).trans (congrArg _ (by omega)))) (fun q hq => h130_1 q (by omega))
            refine lv_aload_n hx hb dX12_load_156 rfl (lv_at hl 0 rfl) ?_
            refine lv_bipush (v := 9) hx hb dX12_load_157 (by decide) ?_
            refine rc_i hAL hS hA (va_runV (As := [.int 9]) (rest := []) ⟨hx, hb, hml, hown, noTs⟩ (r_X12_refuse l dC dI H.size cs b u130 w131 hA131 9) ⟨cbE 1 (wd_1498 hE) (wd_126 hE) (wd_1495 hE) rfl rfl (by decide +kernel) ⟨Nat.le_of_ble_eq_true rfl, Nat.le_of_ble_eq_true rfl⟩, (wd_1497 hE), (wd_54 hE)⟩ ⟨PR.blind, r_recv hK hP rfl, (r_pre (av := [.ref (b 0), .int 9]) hK hP hJ hE)⟩ rfl rfl hl.1 rfl (lv_room (Nat.le_of_ble_eq_true rfl)) dX12_load_159 ⟨Nat.le_of_ble_eq_true rfl, Nat.le_of_ble_eq_true rfl⟩) (fun r141 u141 H locs hpo141 hP hS => ?_)
            obtain ⟨hr141, hq141⟩ := hpo141
            have hA142 := (hq141.1 16 List.not_mem_nil).trans hA132
            have hA143 := (hq141.1 1 List.not_mem_nil).trans hA131
            have hF144x := (hq141.2.1 2 (by decide)).trans hF133x
            have hF145x := (hq141.2.1 10 (by decide)).trans hF134x
            have hF146x := (hq141.2.1 11 (by decide)).trans hF135x
            have hF147x := (hq141.2.1 13 (by decide)).trans hF136x
            have hF148x := (hq141.2.1 14 (by decide)).trans hF137x
            have hF149x := (hq141.2.1 15 (by decide)).trans hF138x
            have hF150x := (hq141.2.1 16 (by decide)).trans hF139x
            have hF151x := (hq141.2.1 19 (by decide)).trans hF140x
            have hfr := FR.step hfr hq141 (fun _ h => absurd h List.not_mem_nil) (by decide) (fun h => rfl)
            subst hr141
            exact W.iret (v := -1) hx hb hr (fun t ht hW => ⟨⟨-1, u141, rfl, ⟨trivial, (by first | (rw [hA143]; done) | (rw [hA143]; exact abx)), (by first | (rw [hF144x]; done) | (rw [hF144x]; refine ⟨_, ?_, rfl⟩; omega)), (by first | (rw [hF145x]; done) | (rw [hF145x]; first | rfl | assumption)), (by first | (rw [hF149x]; done) | (rw [hF149x]; refine ⟨_, ?_, rfl⟩; omega)), hfr⟩, (show va_P (dC, dI) vwCl (rW cs b u141) t.heap by rw [ht]; exact hP)⟩, hS.F ht⟩) hS.2.2 dX12_load_162
        · have c94 := mt (b_eq (nI_toInt (n := gd_91) (by omega)) (show Int32.toInt 0 = 0 from rfl)).mpr c94
          refine lv_aload_n hx hb dX12_load_118 rfl (lv_at hl 0 rfl) ?_
          obtain ⟨y152, hy152⟩ : ∃ z : Int32, rF u91 12 = z := ⟨_, rfl⟩
          refine r_get (v := .int y152) hx hb (ly_X12 hE) hown hK hP rfl 12 (by decide) (wd_1393 hE) (fun _ h9 => h9) (congrArg (fun z : Int32 => some (Value.int z)) hy152) dX12_load_119 ?_
          have hyt : (rF u91 12).toInt = Int32.toInt y152 := by rw [hy152]
          refine lv_if_eq (tgt := 133) hx hb dX12_load_122 (by decide) (fun c153 => ?_) (fun c153 => ?_)
          · have c153 := (b_eq (rfl : Int32.toInt y152 = _) (show Int32.toInt 0 = 0 from rfl)).mp c153
            have abg := ab_now AB1 hL91_0 hL91_1
            refine lv_aload_n hx hb dX12_load_133 rfl (lv_at hl 0 rfl) ?_
            refine lv_aload_n hx hb dX12_load_134 rfl (lv_at hl 0 rfl) ?_
            obtain ⟨y154, hy154⟩ : ∃ z : Int32, rF u91 16 = z := ⟨_, rfl⟩
            refine r_get (v := .int y154) hx hb (ly_X12 hE) hown hK hP rfl 16 (by decide) (wd_1397 hE) (fun _ h9 => h9) (congrArg (fun z : Int32 => some (Value.int z)) hy154) dX12_load_135 ?_
            refine r_put (v := y154) hx hb (ly_X12 hE) tyX12 tyX12_ok nmX12 hown hK hP hJ hAL hS rfl 19 (by decide) (wd_1400 hE) (fun _ h9 => h9) rfl (by decide +kernel) rfl (by decide) dX12_load_138 (fun u155 H locs hf155 hq155 hP hS => ?_)
            have hA156 := (hq155.1 1 List.not_mem_nil).trans hL91_5
            have hA157 := (hq155.1 16 List.not_mem_nil).trans hL91_6
            have hF158x := (hq155.2.1 2 (by decide)).trans hL91_7
            have hF159x := (hq155.2.1 10 (by decide)).trans hL91_8
            have hF160x := (hq155.2.1 11 (by decide)).trans hL91_9
            have hF161x := (hq155.2.1 13 (by decide)).trans hL91_2.1
            have hF162x := (hq155.2.1 14 (by decide)).trans hL91_2.2.1
            have hF163x := (hq155.2.1 15 (by decide)).trans hL91_2.2.2.1
            have hF164x := (hq155.2.1 12 (by decide)).trans hy152
            have hF165x := (hq155.2.1 16 (by decide)).trans hy154
            have hfr := FR.step hfr hq155 (fun _ h => absurd h List.not_mem_nil) (by decide) (fun h => rfl)
            refine lv_aload_n hx hb dX12_load_141 rfl (lv_at hl 0 rfl) ?_
            refine r_get (v := .int y154) hx hb (ly_X12 hE) hown hK hP rfl 16 (by decide) (wd_1397 hE) (fun _ h9 => h9) (congrArg (fun z : Int32 => some (Value.int z)) hF165x) dX12_load_142 ?_
            refine lv_if_le (tgt := 163) hx hb dX12_load_145 (by decide) (fun c166 => ?_) (fun c166 => ?_)
            · have c166 := (b_le (rfl : Int32.toInt y154 = _) (show Int32.toInt 0 = 0 from rfl)).mp c166
              refine lv_aload_n hx hb dX12_load_163 rfl (lv_at hl 0 rfl) ?_
              refine lv_sipush (v := 554) hx hb dX12_load_164 (by decide) ?_
              refine rc_v hAL hS hA (va_runV (As := [.int (nI 554)]) (rest := []) ⟨hx, hb, hml, hown, noTs⟩ (r_X12_acted l dC dI H.size cs b u155 g_91 hA156 554 ac hF158x (by first | assumption | omega | rfl | (congr 1; omega)) (by first | assumption | omega | rfl | (congr 1; omega)) (by first | assumption | omega | rfl | (congr 1; omega))) ⟨cbE 1 (wd_1617 hE) (wd_126 hE) (wd_1614 hE) rfl rfl (by decide +kernel) ⟨Nat.le_of_ble_eq_true rfl, Nat.le_of_ble_eq_true rfl⟩, (wd_1616 hE), (wd_79 hE)⟩ ⟨PR.blind, r_recv hK hP rfl, (r_pre (av := [.ref (b 0), .int (nI 554)]) hK hP hJ hE)⟩ rfl rfl hl.1 rfl (lv_room (Nat.le_of_ble_eq_true rfl)) dX12_load_167 ⟨Nat.le_of_ble_eq_true rfl, Nat.le_of_ble_eq_true rfl⟩) (fun u167 H locs hpo167 hP hS => ?_)
              obtain ⟨h167_0, h167_1, h167_2, hq167⟩ := hpo167
              obtain ⟨w168, hA168⟩ : ∃ g, rA u167 1 = g := ⟨_, rfl⟩
              rw [hA168] at h167_0 h167_1
              obtain ⟨n167_2, hn167_2, hfe167_2⟩ := h167_2
              have hA169 := (hq167.1 16 (by decide)).trans hA157
              have hF170x := (hq167.2.1 10 (by decide)).trans hF159x
              have hF171x := (hq167.2.1 11 (by decide)).trans hF160x
              have hF172x := (hq167.2.1 13 (by decide)).trans hF161x
              have hF173x := (hq167.2.1 14 (by decide)).trans hF162x
              have hF174x := (hq167.2.1 15 (by decide)).trans hF163x
              have hF175x := (hq167.2.1 12 (by decide)).trans hF164x
              have hF176x := (hq167.2.1 16 (by decide)).trans hF165x
              have hF177x := (hq167.2.1 19 (by decide)).trans hf155
              have hfr := FR.step hfr hq167 (by decide) (by decide) (fun h => rfl)
              have hB := ab_0 h167_0
              have hG := bg_g hB
              have ha178 := gg_le hG
              have ha178b := bg_w hB
              refine lv_aload_n hx hb dX12_load_170 rfl (lv_at hl 0 rfl) ?_
              refine lv_aload_n hx hb dX12_load_171 rfl (lv_at hl 0 rfl) ?_
              refine lv_iconst (v := 2) hx hb dX12_load_172 (by decide) ?_
              refine vp_callSi (va_Run.run (va_runV (As := [.int (nI 2)]) (rest := [.ref (b 0)]) ⟨hx, hb, hml, hown, noTs⟩ (r_X12_of l dC dI H.size cs b u167 w168 hA168 2 (by first | assumption | omega | rfl | (congr 1; omega))) ⟨cbE 1 (wd_1536 hE) (wd_126 hE) (wd_1533 hE) rfl rfl (by decide +kernel) ⟨Nat.le_of_ble_eq_true rfl, Nat.le_of_ble_eq_true rfl⟩, (wd_1535 hE), (wd_61 hE)⟩ ⟨PR.blind, r_recv hK hP rfl, (r_pre (av := [.ref (b 0), .int (nI 2)]) hK hP hJ hE)⟩ rfl rfl hl.1 rfl (lv_room (Nat.le_of_ble_eq_true rfl)) dX12_load_173 ⟨Nat.le_of_ble_eq_true rfl, Nat.le_of_ble_eq_true rfl⟩)) (fun r179 hr179 => ?_)
              have hr179 := hr179.trans ((bg_w hB).1)
              subst hr179
              refine rc_i hAL hS hA (va_runV (As := [.int (nI (wN w168))]) (rest := []) ⟨hx, hb, hml, hown, noTs⟩ (r_X12_gives l dC dI H.size cs b u167 w168 hA168 (nI (wN w168))) ⟨cbE 1 (wd_1621 hE) (wd_126 hE) (wd_1618 hE) rfl rfl (by decide +kernel) ⟨Nat.le_of_ble_eq_true rfl, Nat.le_of_ble_eq_true rfl⟩, (wd_1620 hE), (wd_80 hE)⟩ ⟨PR.blind, r_recv hK hP rfl, (r_pre (av := [.ref (b 0), .int (nI (wN w168))]) hK hP hJ hE)⟩ rfl rfl hl.1 rfl (lv_room (Nat.le_of_ble_eq_true rfl)) dX12_load_176 ⟨Nat.le_of_ble_eq_true rfl, Nat.le_of_ble_eq_true rfl⟩) (fun r180 u180 H locs hpo180 hP hS => ?_)
              obtain ⟨hr180, hq180⟩ := hpo180
              have hA181 := (hq180.1 16 List.not_mem_nil).trans hA169
              have hA182 := (hq180.1 1 List.not_mem_nil).trans hA168
              have hF183x := (hq180.2.1 10 (by decide)).trans hF170x
              have hF184x := (hq180.2.1 11 (by decide)).trans hF171x
              have hF185x := (hq180.2.1 13 (by decide)).trans hF172x
              have hF186x := (hq180.2.1 14 (by decide)).trans hF173x
              have hF187x := (hq180.2.1 15 (by decide)).trans hF174x
              have hF188x := (hq180.2.1 12 (by decide)).trans hF175x
              have hF189x := (hq180.2.1 16 (by decide)).trans hF176x
              have hF190x := (hq180.2.1 19 (by decide)).trans hF177x
              have hF191x := (hq180.2.1 2 (by decide)).trans hfe167_2
              have hfr := FR.step hfr hq180 (fun _ h => absurd h List.not_mem_nil) (by decide) (fun h => rfl)
              refine W.eq (g2 := F0 m 179 ls [.int (nI (wN w168))]) (by rw [hr180]) ?_
              exact W.iret (v := nI (wN w168)) hx hb hr (fun t ht hW => ⟨⟨nI (wN w168), u180, rfl, ⟨trivial, (by first | (rw [hA182]; done) | (rw [hA182]; assumption)), (by first | (rw [hF191x]; done) | (rw [hF191x]; refine ⟨_, ?_, rfl⟩; omega)), (by first | (rw [hF183x]; done) | (rw [hF183x]; first | rfl | assumption)), (by first | (rw [hF187x]; done) | (rw [hF187x]; refine ⟨_, ?_, rfl⟩; omega)), hfr⟩, (show va_P (dC, dI) vwCl (rW cs b u180) t.heap by rw [ht]; exact hP)⟩, hS.F ht⟩) hS.2.2 dX12_load_179
            · have c166 := mt (b_le (rfl : Int32.toInt y154 = _) (show Int32.toInt 0 = 0 from rfl)).mpr c166
              refine lv_aload_n hx hb dX12_load_148 rfl (lv_at hl 0 rfl) ?_
              refine lv_sipush (v := 554) hx hb dX12_load_149 (by decide) ?_
              refine lv_iconst (v := 0) hx hb dX12_load_152 (by decide) ?_
              refine rc_v hAL hS hA (va_runV (As := [.int (nI 554), .int (nI 0)]) (rest := []) ⟨hx, hb, hml, hown, noTs⟩ (r_X12_copies l dC dI H.size cs b u155 g_91 hA156 554 0 (by first | assumption | omega | rfl | (congr 1; omega)) (by first | assumption | omega | rfl | (congr 1; omega)) (by first | assumption | omega | rfl | (congr 1; omega))) ⟨cbE 2 (wd_1502 hE) (wd_126 hE) (wd_1499 hE) rfl rfl (by decide +kernel) ⟨Nat.le_of_ble_eq_true rfl, Nat.le_of_ble_eq_true rfl⟩, (wd_1501 hE), (wd_55 hE)⟩ ⟨PR.blind, r_recv hK hP rfl, (r_pre (av := [.ref (b 0), .int (nI 554), .int (nI 0)]) hK hP hJ hE)⟩ rfl rfl hl.1 rfl (lv_room (Nat.le_of_ble_eq_true rfl)) dX12_load_153 ⟨Nat.le_of_ble_eq_true rfl, Nat.le_of_ble_eq_true rfl⟩) (fun u192 H locs hpo192 hP hS => ?_)
              obtain ⟨h192_0, h192_1, hq192⟩ := hpo192
              obtain ⟨w193, hA193⟩ : ∃ g, rA u192 1 = g := ⟨_, rfl⟩
              rw [hA193] at h192_0 h192_1
              have hA194 := (hq192.1 16 (by decide)).trans hA157
              have hF195x := (hq192.2.1 2 List.not_mem_nil).trans hF158x
              have hF196x := (hq192.2.1 10 List.not_mem_nil).trans hF159x
              have hF197x := (hq192.2.1 11 List.not_mem_nil).trans hF160x
              have hF198x := (hq192.2.1 13 List.not_mem_nil).trans hF161x
              have hF199x := (hq192.2.1 14 List.not_mem_nil).trans hF162x
              have hF200x := (hq192.2.1 15 List.not_mem_nil).trans hF163x
              have hF201x := (hq192.2.1 12 List.not_mem_nil).trans hF164x
              have hF202x := (hq192.2.1 16 List.not_mem_nil).trans hF165x
              have hF203x := (hq192.2.1 19 List.not_mem_nil).trans hf155
              have hfr := FR.step hfr hq192 (by decide) (fun _ h => absurd h List.not_mem_nil) (fun h => rfl)
              have abx := ab_copy (i := 1) (j := 0) (by omega) abg (fun q hq => (congrArg w193 (show 554 * 0 + q = 0 + q by omega)).trans ((h192_0 q hq).trans (congrArg _ (by omega)))) (fun q hq => h192_1 q (by omega))
              refine lv_aload_n hx hb dX12_load_156 rfl (lv_at hl 0 rfl) ?_
              refine lv_bipush (v := 9) hx hb dX12_load_157 (by decide) ?_
              refine rc_i hAL hS hA (va_runV (As := [.int 9]) (rest := []) ⟨hx, hb, hml, hown, noTs⟩ (r_X12_refuse l dC dI H.size cs b u192 w193 hA193 9) ⟨cbE 1 (wd_1498 hE) (wd_126 hE) (wd_1495 hE) rfl rfl (by decide +kernel) ⟨Nat.le_of_ble_eq_true rfl, Nat.le_of_ble_eq_true rfl⟩, (wd_1497 hE), (wd_54 hE)⟩ ⟨PR.blind, r_recv hK hP rfl, (r_pre (av := [.ref (b 0), .int 9]) hK hP hJ hE)⟩ rfl rfl hl.1 rfl (lv_room (Nat.le_of_ble_eq_true rfl)) dX12_load_159 ⟨Nat.le_of_ble_eq_true rfl, Nat.le_of_ble_eq_true rfl⟩) (fun r204 u204 H locs hpo204 hP hS => ?_)
              obtain ⟨hr204, hq204⟩ := hpo204
              have hA205 := (hq204.1 16 List.not_mem_nil).trans hA194
              have hA206 := (hq204.1 1 List.not_mem_nil).trans hA193
              have hF207x := (hq204.2.1 2 (by decide)).trans hF195x
              have hF208x := (hq204.2.1 10 (by decide)).trans hF196x
              have hF209x := (hq204.2.1 11 (by decide)).trans hF197x
              have hF210x := (hq204.2.1 13 (by decide)).trans hF198x
              have hF211x := (hq204.2.1 14 (by decide)).trans hF199x
              have hF212x := (hq204.2.1 15 (by decide)).trans hF200x
              have hF213x := (hq204.2.1 12 (by decide)).trans hF201x
              have hF214x := (hq204.2.1 16 (by decide)).trans hF202x
              have hF215x := (hq204.2.1 19 (by decide)).trans hF203x
              have hfr := FR.step hfr hq204 (fun _ h => absurd h List.not_mem_nil) (by decide) (fun h => rfl)
              subst hr204
              exact W.iret (v := -1) hx hb hr (fun t ht hW => ⟨⟨-1, u204, rfl, ⟨trivial, (by first | (rw [hA206]; done) | (rw [hA206]; exact abx)), (by first | (rw [hF207x]; done) | (rw [hF207x]; refine ⟨_, ?_, rfl⟩; omega)), (by first | (rw [hF208x]; done) | (rw [hF208x]; first | rfl | assumption)), (by first | (rw [hF212x]; done) | (rw [hF212x]; refine ⟨_, ?_, rfl⟩; omega)), hfr⟩, (show va_P (dC, dI) vwCl (rW cs b u204) t.heap by rw [ht]; exact hP)⟩, hS.F ht⟩) hS.2.2 dX12_load_162
          · have c153 := mt (b_eq (rfl : Int32.toInt y152 = _) (show Int32.toInt 0 = 0 from rfl)).mpr c153
            refine lv_aload_n hx hb dX12_load_125 rfl (lv_at hl 0 rfl) ?_
            refine rc_i hAL hS hA (va_runV (As := []) (rest := []) ⟨hx, hb, hml, hown, noTs⟩ (r_X12_aLine l dC dI H.size cs b u91 adK adV g_91 hL91_5 g1_17 hL91_6 nx8 hL91_9 (by first | assumption | omega | rfl | (congr 1; omega)) (by first | assumption | omega | rfl | (congr 1; omega)) (by first | assumption | omega | rfl | (congr 1; omega))) ⟨cbE 0 (wd_1521 hE) (wd_126 hE) (wd_1518 hE) rfl rfl (by decide +kernel) ⟨Nat.le_of_ble_eq_true rfl, Nat.le_of_ble_eq_true rfl⟩, (wd_1520 hE), (wd_58 hE)⟩ ⟨PRX.blind, r_recv hK hP rfl, (rx_pre (av := [.ref (b 0)]) hK hP hJ hE hX hZ hS)⟩ rfl rfl hl.1 rfl (lv_room (Nat.le_of_ble_eq_true rfl)) dX12_load_126 ⟨Nat.le_of_ble_eq_true rfl, Nat.le_of_ble_eq_true rfl⟩) (fun r216 u216 H locs hpo216 hP hS => ?_)
            obtain ⟨hr216, h216_0, h216_1, h216_2, h216_3, hq216⟩ := hpo216
            obtain ⟨w217, hA217⟩ : ∃ g, rA u216 1 = g := ⟨_, rfl⟩
            rw [hA217] at h216_0 h216_1
            have hA218 := (hq216.1 16 (by decide)).trans hL91_6
            have hF219x := (hq216.2.1 2 (by decide)).trans hL91_7
            have hF220x := (hq216.2.1 10 (by decide)).trans hL91_8
            have hF221x := (hq216.2.1 11 (by decide)).trans hL91_9
            have hfr := FR.step hfr hq216 (by decide) (by decide) (fun h => rfl)
            have hB := h216_0
            have hG := bg_g h216_0
            have ha222 := gg_le hG
            have ha222b := bg_w h216_0
            have htk223 := h216_2.2.2.2
            have BO := h216_1
            rcases hr216 with ⟨rfl, hb216⟩ | ⟨rfl, hb216⟩
            · have RRL := hb216.2
              refine lv_istore_n (lv' := [(2, .int 1), (0, .ref (b 0)), (1, .int (nI nx8))]) hx hb dX12_load_129 rfl hl (by decide) rfl (fun ls hl => ?_)
              refine lv_goto (tgt := 114) hx hb dX12_load_130 (by decide) ?_
              exact ih91 _ u216 _ _ _ (by first | omega | (have := hL91_3 (by omega); omega)) ⟨hP, hS, hfr, 1, w217, rfl, (by assumption), (by intro q hq; rw [BO q hq]; exact hL91_1 q hq), (by assumption), (by intro hh; first | omega | (rcases RRL with e | e; (exact Or.inl (by rw [e]; rfl)); (exact Or.inr e))), (by first | assumption | omega | rfl | (congr 1; omega)), hA217, hA218, hF219x, hF220x, hF221x, lv_sub hl [1, 2, 0] rfl⟩
            · refine lv_istore_n (lv' := [(2, .int 0), (0, .ref (b 0)), (1, .int (nI nx8))]) hx hb dX12_load_129 rfl hl (by decide) rfl (fun ls hl => ?_)
              refine lv_goto (tgt := 114) hx hb dX12_load_130 (by decide) ?_
              exact ih91 _ u216 _ _ _ (by first | omega | (have := hL91_3 (by omega); omega)) ⟨hP, hS, hfr, 0, w217, rfl, (by assumption), (by intro q hq; rw [BO q hq]; exact hL91_1 q hq), (by assumption), (by intro hh; first | omega | (rcases RRL with e | e; (exact Or.inl (by rw [e]; rfl)); (exact Or.inr e))), (by first | assumption | omega | rfl | (congr 1; omega)), hA217, hA218, hF219x, hF220x, hF221x, lv_sub hl [1, 2, 0] rfl⟩
      · have c83 := mt (b_le (show Int32.toInt 554 = 554 from rfl) (nI_toInt (n := k_82) (by omega))).mpr c83
        refine lv_aload_n hx hb dX12_load_95 rfl (lv_at hl 0 rfl) ?_
        refine r_get (v := .ref (b 1)) hx hb (ly_X12 hE) hown hK hP rfl 0 (by decide) (wd_1381 hE) (fun _ h9 => h9) rfl dX12_load_96 ?_
        refine lv_iload_n hx hb dX12_load_99 rfl (lv_at hl 2 rfl) ?_
        refine lv_iconst (v := 0) hx hb dX12_load_100 (by decide) ?_
        refine r_iast (j := 1) (k := k_82) (n := 7202) (x := 0) hx hb hK hP hJ hAL hS (by decide) (fun _ => rfl) hL82_3 (by omega) (by decide) dX12_load_101 (fun u224 H locs hs224 hq224 hP hS => ?_)
        obtain ⟨w224, hw224⟩ : ∃ g, g = upd g_82 k_82 0 := ⟨_, rfl⟩
        rw [← hw224] at hs224
        have hA225 := (hq224.1 16 (by decide)).trans hL82_4
        have hF226x := (hq224.2.1 2 List.not_mem_nil).trans hL82_5
        have hF227x := (hq224.2.1 10 List.not_mem_nil).trans hL82_6
        have hF228x := (hq224.2.1 11 List.not_mem_nil).trans hL82_7
        have hF229x := (hq224.2.1 14 List.not_mem_nil).trans hL82_8
        have hF230x := (hq224.2.1 15 List.not_mem_nil).trans hL82_9
        have hfr := FR.step hfr hq224 (by decide) (fun _ h => absurd h List.not_mem_nil) (fun h => rfl)
        have k1 := hw224
        refine lv_iinc (v := nI (k_82 + 1)) (lv' := [(2, .int (nI (k_82 + 1))), (0, .ref (b 0)), (1, .int (nI nx8))]) hx hb dX12_load_102 hl (k := 2) rfl (nI_1 k_82) (by decide) rfl (fun ls hl => ?_)
        refine lv_goto (tgt := 88) hx hb dX12_load_105 (by decide) ?_
        exact ih82 _ u224 _ _ _ (by omega) ⟨hP, hS, hfr, (k_82 + 1), w224, rfl, (by first | assumption | omega | rfl | (congr 1; omega)), (by exact upd_lt (R := fun _ => 0) k1 rfl hL82_1), (by intro q hq; rw [k1, pk_un (by omega)]; exact hL82_2 q (by omega)), hs224, hA225, hF226x, hF227x, hF228x, hF229x, hF230x, lv_sub hl [1, 2, 0] rfl⟩
    · have c18 := mt (b_le (nI_toInt (n := nx8) (by omega)) (nI_toInt (n := k_17) (by omega))).mpr c18
      refine lv_aload_n hx hb dX12_load_30 rfl (lv_at hl 0 rfl) ?_
      refine r_get (v := .ref (b 16)) hx hb (ly_X12 hE) hown hK hP rfl 9 (by decide) (wd_1390 hE) (fun _ h9 => h9) rfl dX12_load_31 ?_
      refine lv_iload_n hx hb dX12_load_34 rfl (lv_at hl 2 rfl) ?_
      refine lv_aload_n hx hb dX12_load_35 rfl (lv_at hl 0 rfl) ?_
      refine r_get (v := .ref (b 15)) hx hb (ly_X12 hE) hown hK hP rfl 8 (by decide) (wd_1389 hE) (fun _ h9 => h9) rfl dX12_load_36 ?_
      refine lv_iload_n hx hb dX12_load_39 rfl (lv_at hl 2 rfl) ?_
      obtain ⟨y231, hy231⟩ : ∃ z : Int32, rA u17 15 k_17 = z := ⟨_, rfl⟩
      refine r_bald (j := 15) (k := k_17) (n := 700) (x := y231) hx hb hK hP (by decide) rfl (by omega) (by decide) hy231 dX12_load_40 ?_
      refine r_bast (j := 16) (k := k_17) (n := 700) (x := y231) hx hb hK hP hJ hAL hS (by decide) (fun _ => rfl) hL17_2 (by omega) (by decide) dX12_load_41 (fun u232 H locs hs232 hq232 hP hS => ?_)
      obtain ⟨w232, hw232⟩ : ∃ g, g = upd g1_17 k_17 (vp_nar .byte y231) := ⟨_, rfl⟩
      rw [← hw232] at hs232
      have hA233 := (hq232.1 1 (by decide)).trans hL17_1
      have hF234x := (hq232.2.1 2 List.not_mem_nil).trans hL17_3
      have hF235x := (hq232.2.1 10 List.not_mem_nil).trans hL17_4
      have hF236x := (hq232.2.1 11 List.not_mem_nil).trans hL17_5
      have hF237x := (hq232.2.1 15 List.not_mem_nil).trans hL17_6
      have hfr := FR.step hfr hq232 (by decide) (fun _ h => absurd h List.not_mem_nil) (fun h => rfl)
      refine lv_iinc (v := nI (k_17 + 1)) (lv' := [(2, .int (nI (k_17 + 1))), (0, .ref (b 0)), (1, .int (nI nx8))]) hx hb dX12_load_42 hl (k := 2) rfl (nI_1 k_17) (by decide) rfl (fun ls hl => ?_)
      refine lv_goto (tgt := 25) hx hb dX12_load_45 (by decide) ?_
      exact ih17 _ u232 _ _ _ (by omega) ⟨hP, hS, hfr, (k_17 + 1), w232, rfl, (by first | assumption | omega | rfl | (congr 1; omega)), hA233, hs232, hF234x, hF235x, hF236x, hF237x, lv_sub hl [1, 2, 0] rfl⟩
  · exact False.elim (by omega)
