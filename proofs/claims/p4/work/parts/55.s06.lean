set_option maxHeartbeats 4000000 in
set_option maxRecDepth 100000 in
theorem x_X12_aLine (l : Launch) (dC : Nat → ClassId) (dI : Nat → Nat → Nat) (sz : Nat) (cs : Nat → ClassId) (b : Nat → Nat) (u : RS) (adK adV : Nat → Nat) (a : Nat → Int32) (hA1 : rA u 1 = a) (tx : Nat → Int32) (hAc16 : rA u 16 = tx) (sz1 : Nat) (p0 : Nat) (ln : Nat) (x17 : Int32) (x18 : Int32) (gg : PGr) (hF11 : rF u 11 = nI sz1) (hF16 : rF u 16 = 0) (hF17 : rF u 17 = x17) (hF18 : rF u 18 = x18) (hF20 : rF u 20 = nI ln) (hp0 : BG a) (hp1 : TE u tx sz1 p0) (hp2 : sz1 ≤ 700) (hp3 : GA a gg) : Met l yX12_aLine [.code yX12_aLine cX12_aLine 3 (some .boolean)] ({ frames := 7, cells := 0, slots := 0, locals := 280 }) (PRX [.ref (b 0)] sz dC dI cs b u adK adV) (va_Qi (fun (r : Int32) (u' : RS) => ((r = 1 ∧ ((pLine tx sz1 gg p0).1 = 0 ∧ TE u' tx sz1 (pLine tx sz1 gg p0).2.1 ∧ GA (rA u' 1) (pLine tx sz1 gg p0).2.2 ∧ rF u' 20 = nI (ln + 1) ∧ rF u' 16 = 0 ∧ rF u' 17 = x17 ∧ rF u' 18 = x18)) ∨ (r = 0 ∧ ((pLine tx sz1 gg p0).1 ≠ 0 ∧ FL u' (pLine tx sz1 gg p0).1 (pLine tx sz1 gg p0).2.1 ln))) ∧ (BG (rA u' 1)) ∧ (∀ k, 554 ≤ k → (rA u' 1) k = a k) ∧ (∃ k : Nat, k ≤ 9999 ∧ rF u' 15 = nI k) ∧ FR [1, 3] [12, 13, 14, 15, 16, 17, 18, 20] false u u') (BR dC dI cs b) (AR b sz)) 0 0 (AR b sz) := by
  refine Met.ofW (cc := cX12_aLine) (maxL := 3) (ret := (some .boolean)) (by decide) rfl ?_
  intro p e s m args below meth c s₁ B hml hv
  obtain ⟨rfl, hsz, hP, hK, hJ, hE, hX, hZ⟩ := hv
  have hx := B.exec
  have hb := B.bytes
  have hr := B.returns
  have hown : s.vm.findClass RX12 = some m.cls := findClass_of_methodNamed B.named
  have hlocks := B.notSynchronized
  subst hsz
  have hAL : ∀ i, i < 108 → AR b s.heap.size (b i) := fun i h => Or.inl ⟨i, h, rfl⟩
  have hA : ∀ q : Nat, s.heap.size ≤ q → AR b s.heap.size q := fun q h => Or.inr h
  have hS : va_S (AR b s.heap.size) s.heap s.heap [] := va_S.rf
  have hfr : FR [1, 3] [12, 13, 14, 15, 16, 17, 18, 20] false u u := FR.refl
  have hl := lv_entry ([.ref (b 0)]) (n := 3) (Nat.le_of_ble_eq_true rfl)
  rw [lg_entry_eq]
  generalize (lg_sl ([.ref (b 0)]) ++ List.replicate (3 - (lg_sl ([.ref (b 0)])).length) Slot.unset).toArray = ls at hl ⊢
  have hl : lv_has ls 3 [(0, .ref (b 0))] := hl
  have hB := hp0
  have hG := bg_g hp0
  have ha1 := gg_le hG
  have ha1b := bg_w hp0
  have hte3 : TE u tx sz1 p0 := hp1
  obtain ⟨te13_3, te14_3, te12_3, tep3, tv3, tvl3, te15_3, tvv3⟩ := hte3
  have tkf3 := kd_f tx sz1 p0
  have tna3 := tnd_le (tx := tx) tep3
  have tnb3 := fun h : p0 < sz1 => tnd_gt (tx := tx) h
  have ga1 := hp3.1
  have ga2 := hp3.2.1
  have ga3 := hp3.2.2.1
  refine lv_aload_n hx hb dX12_aLine_0 rfl (lv_at hl 0 rfl) ?_
  refine vp_callSi (va_Run.run (va_runV (As := []) (rest := []) ⟨hx, hb, hml, hown, noTs⟩ (x_X12_key l dC dI s.heap.size cs b u adK adV tx hAc16 sz1 p0 hF11 ⟨te13_3, te14_3, te12_3, by omega, _, by omega, te15_3, tvv3⟩ (by first | assumption | omega | rfl | (congr 1; omega))) ⟨cbE 0 (wd_1525 hE) (wd_126 hE) (wd_1522 hE) rfl rfl (by decide +kernel) ⟨Nat.le_of_ble_eq_true rfl, Nat.le_of_ble_eq_true rfl⟩, (wd_1524 hE), (wd_59 hE)⟩ ⟨PRX.blind, r_recv hK hP rfl, (rx_pre (av := [.ref (b 0)]) hK hP hJ hE hX hZ hS)⟩ rfl rfl hl.1 rfl (lv_room (Nat.le_of_ble_eq_true rfl)) dX12_aLine_1 ⟨Nat.le_of_ble_eq_true rfl, Nat.le_of_ble_eq_true rfl⟩)) (fun r6 hr6 => ?_)
  rcases hr6 with ⟨rfl, hb6⟩ | ⟨rfl, hb6⟩ | ⟨rfl, hb6⟩ | ⟨rfl, hb6⟩
  · have KD := hb6
    refine lv_istore_n (lv' := [(1, .int 0), (0, .ref (b 0))]) hx hb dX12_aLine_4 rfl hl (by decide) rfl (fun ls hl => ?_)
    refine lv_iload_n hx hb dX12_aLine_5 rfl (lv_at hl 0 rfl) ?_
    refine lv_if_ne (tgt := 16) hx hb dX12_aLine_6 (by decide) (fun c7 => absurd c7 (by decide)) (fun c7 => ?_)
    refine lv_aload_n hx hb dX12_aLine_9 rfl (lv_at hl 1 rfl) ?_
    refine rc_i hAL hS hA (va_runV (As := []) (rest := []) ⟨hx, hb, hml, hown, noTs⟩ (x_X12_aVertex l dC dI s.heap.size cs b u a hA1 tx hAc16 sz1 p0 ln x17 x18 gg hF11 hF16 hF17 hF18 hF20 (by first | assumption | omega | rfl | (congr 1; omega)) ⟨te13_3, te14_3, te12_3, by omega, _, by omega, te15_3, tvv3⟩ (by first | assumption | omega | rfl | (congr 1; omega)) (by first | assumption | omega | rfl | (congr 1; omega)) (by first | assumption | omega | rfl | (congr 1; omega))) ⟨cbE 0 (wd_1532 hE) (wd_126 hE) (wd_1529 hE) rfl rfl (by decide +kernel) ⟨Nat.le_of_ble_eq_true rfl, Nat.le_of_ble_eq_true rfl⟩, (wd_1531 hE), (wd_60 hE)⟩ ⟨PR.blind, r_recv hK hP rfl, (r_pre (av := [.ref (b 0)]) hK hP hJ hE)⟩ rfl rfl hl.1 rfl (lv_room (Nat.le_of_ble_eq_true rfl)) dX12_aLine_10 ⟨Nat.le_of_ble_eq_true rfl, Nat.le_of_ble_eq_true rfl⟩) (fun r8 u8 H locs hpo8 hP hS => ?_)
    obtain ⟨hr8, h8_0, h8_1, h8_2, hq8⟩ := hpo8
    obtain ⟨w9, hA9⟩ : ∃ g, rA u8 1 = g := ⟨_, rfl⟩
    rw [hA9] at h8_0 h8_1 hr8
    obtain ⟨n8_2, hn8_2, hfe8_2⟩ := h8_2
    have hA10 := (hq8.1 16 (by decide)).trans hAc16
    have hF11x := (hq8.2.1 11 (by decide)).trans hF11
    have hF12x := (hq8.2.1 20 (by decide)).trans hF20
    have hfr := FR.step hfr hq8 (by decide) (by decide) (fun h => rfl)
    have hB := h8_0
    have hG := bg_g h8_0
    have ha13 := gg_le hG
    have ha13b := bg_w h8_0
    have bgo := h8_1
    rcases hr8 with ⟨rfl, hb8⟩ | ⟨rfl, hb8⟩
    · clear tkf3 tnb3
      have hte14 : TE u8 tx sz1 ((pVertex tx sz1 gg p0).2.1) := hb8.2.1
      obtain ⟨te13_14, te14_14, te12_14, tep14, tv14, tvl14, te15_14, tvv14⟩ := hte14
      have tkf14 := kd_f tx sz1 ((pVertex tx sz1 gg p0).2.1)
      have tna14 := tnd_le (tx := tx) tep14
      have tnb14 := fun h : ((pVertex tx sz1 gg p0).2.1) < sz1 => tnd_gt (tx := tx) h
      have HQ : (pHead tx sz1 gg p0) = pVertex tx sz1 gg p0 := ph_v KD
      have Z1 := hb8.1
      have gah := hb8.2.2.1
      refine lv_goto (tgt := 45) hx hb dX12_aLine_13 (by decide) ?_
      refine lv_istore_n (lv' := [(2, .int 1), (1, .int 0), (0, .ref (b 0))]) hx hb dX12_aLine_45 rfl hl (by decide) rfl (fun ls hl => ?_)
      refine lv_iload_n hx hb dX12_aLine_46 rfl (lv_at hl 0 rfl) ?_
      refine lv_if_ne (tgt := 52) hx hb dX12_aLine_47 (by decide) (fun c15 => ?_) (fun c15 => absurd c15 (by decide))
      refine lv_aload_n hx hb dX12_aLine_52 rfl (lv_at hl 2 rfl) ?_
      refine r_get (v := .int (nI (tkr (kd tx sz1 ((pVertex tx sz1 gg p0).2.1))))) hx hb (ly_X12 hE) hown hK hP rfl 12 (by decide) (wd_1393 hE) (fun _ h9 => h9) (congrArg (fun z : Int32 => some (Value.int z)) te12_14) dX12_aLine_53 ?_
      refine lv_iconst (v := 4) hx hb dX12_aLine_56 (by decide) ?_
      refine lv_icmp_ne (tgt := 73) hx hb dX12_aLine_57 (by decide) (fun c16 => ?_) (fun c16 => ?_)
      · have c16 := mt (b_eq (nI_toInt (n := tkr (kd tx sz1 ((pVertex tx sz1 gg p0).2.1))) (by omega)) (show Int32.toInt 4 = 4 from rfl)).mpr c16
        have K9 : kd tx sz1 ((pVertex tx sz1 gg p0).2.1) ≠ 9 := by omega
        refine lv_aload_n hx hb dX12_aLine_73 rfl (lv_at hl 2 rfl) ?_
        refine lv_iconst (v := 2) hx hb dX12_aLine_74 (by decide) ?_
        refine rc_i hAL hS hA (va_runV (As := [.int (nI 2)]) (rest := []) ⟨hx, hb, hml, hown, noTs⟩ (x_X12_fails l dC dI H.size cs b u8 2 (tkr (kd tx sz1 ((pVertex tx sz1 gg p0).2.1))) ((pVertex tx sz1 gg p0).2.1) ln hb8.2.2.2.1 te12_14 te13_14 hF12x (by first | assumption | omega | rfl | (congr 1; omega))) ⟨cbE 1 (wd_1540 hE) (wd_126 hE) (wd_1537 hE) rfl rfl (by decide +kernel) ⟨Nat.le_of_ble_eq_true rfl, Nat.le_of_ble_eq_true rfl⟩, (wd_1539 hE), (wd_62 hE)⟩ ⟨PR.blind, r_recv hK hP rfl, (r_pre (av := [.ref (b 0), .int (nI 2)]) hK hP hJ hE)⟩ rfl rfl hl.1 rfl (lv_room (Nat.le_of_ble_eq_true rfl)) dX12_aLine_75 ⟨Nat.le_of_ble_eq_true rfl, Nat.le_of_ble_eq_true rfl⟩) (fun r17 u17 H locs hpo17 hP hS => ?_)
        obtain ⟨hr17, h17_0, h17_1, h17_2, hq17⟩ := hpo17
        have hA18 := (hq17.1 16 List.not_mem_nil).trans hA10
        have hA19 := (hq17.1 1 List.not_mem_nil).trans hA9
        have hF20x := (hq17.2.1 11 (by decide)).trans hF11x
        have hF21x := (hq17.2.1 20 (by decide)).trans hF12x
        have hF22x := (hq17.2.1 15 (by decide)).trans te15_14
        have hF23x := (hq17.2.1 13 (by decide)).trans te13_14
        have hF24x := (hq17.2.1 14 (by decide)).trans te14_14
        have hF25x := (hq17.2.1 12 (by decide)).trans te12_14
        have hfr := FR.step hfr hq17 (fun _ h => absurd h List.not_mem_nil) (by decide) (fun h => rfl)
        subst hr17
        exact W.zret (v := 0) hx hb hr rfl (fun t ht hW => ⟨⟨0, u17, rfl, ⟨Or.inr ⟨rfl, by rw [pl_e (by rw [HQ]; exact Z1) (by rw [HQ]; exact K9)]; dsimp only; rw [HQ]; exact ⟨bad_ne, by rw [h17_0, tkr_bad], h17_1, h17_2⟩⟩, (by first | (rw [hA19]; done) | (rw [hA19]; first | assumption | exact bgx)), (by first | (rw [hA19]; done) | (rw [hA19]; first | (intro k _; rfl) | exact bgo)), (by first | (rw [hF22x]; done) | (rw [hF22x]; refine ⟨_, ?_, rfl⟩; omega)), hfr⟩, (show va_P (dC, dI) vwCl (rW cs b u17) t.heap by rw [ht]; exact hP)⟩, hS.F ht⟩) hS.2.2 dX12_aLine_78
      · have c16 := (b_eq (nI_toInt (n := tkr (kd tx sz1 ((pVertex tx sz1 gg p0).2.1))) (by omega)) (show Int32.toInt 4 = 4 from rfl)).mp c16
        refine lv_aload_n hx hb dX12_aLine_60 rfl (lv_at hl 2 rfl) ?_
        refine lv_aload_n hx hb dX12_aLine_61 rfl (lv_at hl 2 rfl) ?_
        refine r_get (v := .int (nI ((pVertex tx sz1 gg p0).2.1))) hx hb (ly_X12 hE) hown hK hP rfl 13 (by decide) (wd_1394 hE) (fun _ h9 => h9) (congrArg (fun z : Int32 => some (Value.int z)) te13_14) dX12_aLine_62 ?_
        refine vp_callSi (va_Run.run (va_runV (As := [.int (nI ((pVertex tx sz1 gg p0).2.1))]) (rest := []) ⟨hx, hb, hml, hown, noTs⟩ (r_X12_byteAt l dC dI H.size cs b u8 tx hA10 ((pVertex tx sz1 gg p0).2.1) sz1 hF11x (by first | assumption | omega | rfl | (congr 1; omega)) (by first | assumption | omega | rfl | (congr 1; omega))) ⟨cbE 1 (wd_1510 hE) (wd_126 hE) (wd_1507 hE) rfl rfl (by decide +kernel) ⟨Nat.le_of_ble_eq_true rfl, Nat.le_of_ble_eq_true rfl⟩, (wd_1509 hE), (wd_57 hE)⟩ ⟨PR.blind, r_recv hK hP rfl, (r_pre (av := [.ref (b 0), .int (nI ((pVertex tx sz1 gg p0).2.1))]) hK hP hJ hE)⟩ rfl rfl hl.1 rfl (lv_room (Nat.le_of_ble_eq_true rfl)) dX12_aLine_65 ⟨Nat.le_of_ble_eq_true rfl, Nat.le_of_ble_eq_true rfl⟩)) (fun r26 hr26 => ?_)
        subst hr26
        have htf26 := bA_f tx sz1 ((pVertex tx sz1 gg p0).2.1)
        refine lv_bipush (v := 59) hx hb dX12_aLine_68 (by decide) ?_
        refine lv_icmp_eq (tgt := 79) hx hb dX12_aLine_70 (by decide) (fun c27 => ?_) (fun c27 => ?_)
        · have c27 := (b_eq (rfl : Int32.toInt (bA tx sz1 ((pVertex tx sz1 gg p0).2.1)) = _) (show Int32.toInt 59 = 59 from rfl)).mp c27
          have K9 : kd tx sz1 ((pVertex tx sz1 gg p0).2.1) = 9 := by have q := kd_byte (show tkr (kd tx sz1 ((pVertex tx sz1 gg p0).2.1)) = 4 by omega); omega
          refine lv_aload_n hx hb dX12_aLine_79 rfl (lv_at hl 2 rfl) ?_
          refine lv_dup hx hb dX12_aLine_80 rfl ?_
          refine r_get (v := .int (nI ln)) hx hb (ly_X12 hE) hown hK hP rfl 20 (by decide) (wd_1401 hE) (fun _ h9 => h9) (congrArg (fun z : Int32 => some (Value.int z)) hF12x) dX12_aLine_81 ?_
          refine lv_iconst (v := 1) hx hb dX12_aLine_84 (by decide) ?_
          refine lv_iadd hx hb dX12_aLine_85 ?_
          refine W.eq (g2 := F0 m 86 ls [.int (nI (ln + 1)), .ref (b 0)]) (congrArg (fun z : Int32 => F0 m 86 ls (.int z :: [.ref (b 0)])) (nI_add ln 1)) ?_
          refine r_put (v := nI (ln + 1)) hx hb (ly_X12 hE) tyX12 tyX12_ok nmX12 hown hK hP hJ hAL hS rfl 20 (by decide) (wd_1401 hE) (fun _ h9 => h9) rfl (by decide +kernel) rfl (by decide) dX12_aLine_86 (fun u28 H locs hf28 hq28 hP hS => ?_)
          have hA29 := (hq28.1 16 List.not_mem_nil).trans hA10
          have hA30 := (hq28.1 1 List.not_mem_nil).trans hA9
          have hF31x := (hq28.2.1 11 (by decide)).trans hF11x
          have hF32x := (hq28.2.1 15 (by decide)).trans te15_14
          have hF33x := (hq28.2.1 13 (by decide)).trans te13_14
          have hF34x := (hq28.2.1 14 (by decide)).trans te14_14
          have hF35x := (hq28.2.1 12 (by decide)).trans te12_14
          have hF36x := (hq28.2.1 16 (by decide)).trans hb8.2.2.2.1
          have hF37x := (hq28.2.1 17 (by decide)).trans hb8.2.2.2.2.1
          have hF38x := (hq28.2.1 18 (by decide)).trans hb8.2.2.2.2.2
          have hfr := FR.step hfr hq28 (fun _ h => absurd h List.not_mem_nil) (by decide) (fun h => rfl)
          refine lv_aload_n hx hb dX12_aLine_89 rfl (lv_at hl 2 rfl) ?_
          refine rc_i hAL hS hA (va_runV (As := []) (rest := []) ⟨hx, hb, hml, hown, noTs⟩ (x_X12_takesOn l dC dI H.size cs b u28 tx hA29 sz1 (tnd tx sz1 ((pVertex tx sz1 gg p0).2.1)) tv14 hF31x hF34x hF32x (by first | assumption | omega | rfl | (congr 1; omega)) (by first | assumption | omega | rfl | (congr 1; omega)) (by first | assumption | omega | rfl | (congr 1; omega))) ⟨cbE 0 (wd_1548 hE) (wd_126 hE) (wd_1545 hE) rfl rfl (by decide +kernel) ⟨Nat.le_of_ble_eq_true rfl, Nat.le_of_ble_eq_true rfl⟩, (wd_1547 hE), (wd_64 hE)⟩ ⟨PR.blind, r_recv hK hP rfl, (r_pre (av := [.ref (b 0)]) hK hP hJ hE)⟩ rfl rfl hl.1 rfl (lv_room (Nat.le_of_ble_eq_true rfl)) dX12_aLine_90 ⟨Nat.le_of_ble_eq_true rfl, Nat.le_of_ble_eq_true rfl⟩) (fun r39 u39 H locs hpo39 hP hS => ?_)
          obtain ⟨hr39, h39_0, hq39⟩ := hpo39
          have hA40 := (hq39.1 16 List.not_mem_nil).trans hA29
          have hA41 := (hq39.1 1 List.not_mem_nil).trans hA30
          have hF42x := (hq39.2.1 11 (by decide)).trans hF31x
          have hF43x := (hq39.2.1 16 (by decide)).trans hF36x
          have hF44x := (hq39.2.1 17 (by decide)).trans hF37x
          have hF45x := (hq39.2.1 18 (by decide)).trans hF38x
          have hF46x := (hq39.2.1 20 (by decide)).trans hf28
          have hfr := FR.step hfr hq39 (fun _ h => absurd h List.not_mem_nil) (by decide) (fun h => rfl)
          clear tkf14 tnb14
          have hte47 : TE u39 tx sz1 (nxt tx sz1 ((pVertex tx sz1 gg p0).2.1)) := h39_0
          obtain ⟨te13_47, te14_47, te12_47, tep47, tv47, tvl47, te15_47, tvv47⟩ := hte47
          have tkf47 := kd_f tx sz1 (nxt tx sz1 ((pVertex tx sz1 gg p0).2.1))
          have tna47 := tnd_le (tx := tx) tep47
          have tnb47 := fun h : (nxt tx sz1 ((pVertex tx sz1 gg p0).2.1)) < sz1 => tnd_gt (tx := tx) h
          subst hr39
          exact W.zret (v := 1) hx hb hr rfl (fun t ht hW => ⟨⟨1, u39, rfl, ⟨Or.inl ⟨rfl, by rw [pl_ok (by rw [HQ]; exact Z1) (by rw [HQ]; exact K9)]; dsimp only; rw [HQ]; exact ⟨rfl, ⟨te13_47, te14_47, te12_47, by omega, _, by omega, te15_47, tvv47⟩, (by rw [hA41]; exact gah), hF46x, hF43x, hF44x, hF45x⟩⟩, (by first | (rw [hA41]; done) | (rw [hA41]; first | assumption | exact bgx)), (by first | (rw [hA41]; done) | (rw [hA41]; first | (intro k _; rfl) | exact bgo)), (by first | (rw [te15_47]; done) | (rw [te15_47]; refine ⟨_, ?_, rfl⟩; omega)), hfr⟩, (show va_P (dC, dI) vwCl (rW cs b u39) t.heap by rw [ht]; exact hP)⟩, hS.F ht⟩) hS.2.2 dX12_aLine_93
        · have c27 := mt (b_eq (rfl : Int32.toInt (bA tx sz1 ((pVertex tx sz1 gg p0).2.1)) = _) (show Int32.toInt 59 = 59 from rfl)).mpr c27
          have K9 : kd tx sz1 ((pVertex tx sz1 gg p0).2.1) ≠ 9 := by have q := kd_byte (show tkr (kd tx sz1 ((pVertex tx sz1 gg p0).2.1)) = 4 by omega); omega
          refine lv_aload_n hx hb dX12_aLine_73 rfl (lv_at hl 2 rfl) ?_
          refine lv_iconst (v := 2) hx hb dX12_aLine_74 (by decide) ?_
          refine rc_i hAL hS hA (va_runV (As := [.int (nI 2)]) (rest := []) ⟨hx, hb, hml, hown, noTs⟩ (x_X12_fails l dC dI H.size cs b u8 2 (tkr (kd tx sz1 ((pVertex tx sz1 gg p0).2.1))) ((pVertex tx sz1 gg p0).2.1) ln hb8.2.2.2.1 te12_14 te13_14 hF12x (by first | assumption | omega | rfl | (congr 1; omega))) ⟨cbE 1 (wd_1540 hE) (wd_126 hE) (wd_1537 hE) rfl rfl (by decide +kernel) ⟨Nat.le_of_ble_eq_true rfl, Nat.le_of_ble_eq_true rfl⟩, (wd_1539 hE), (wd_62 hE)⟩ ⟨PR.blind, r_recv hK hP rfl, (r_pre (av := [.ref (b 0), .int (nI 2)]) hK hP hJ hE)⟩ rfl rfl hl.1 rfl (lv_room (Nat.le_of_ble_eq_true rfl)) dX12_aLine_75 ⟨Nat.le_of_ble_eq_true rfl, Nat.le_of_ble_eq_true rfl⟩) (fun r48 u48 H locs hpo48 hP hS => ?_)
          obtain ⟨hr48, h48_0, h48_1, h48_2, hq48⟩ := hpo48
          have hA49 := (hq48.1 16 List.not_mem_nil).trans hA10
          have hA50 := (hq48.1 1 List.not_mem_nil).trans hA9
          have hF51x := (hq48.2.1 11 (by decide)).trans hF11x
          have hF52x := (hq48.2.1 20 (by decide)).trans hF12x
          have hF53x := (hq48.2.1 15 (by decide)).trans te15_14
          have hF54x := (hq48.2.1 13 (by decide)).trans te13_14
          have hF55x := (hq48.2.1 14 (by decide)).trans te14_14
          have hF56x := (hq48.2.1 12 (by decide)).trans te12_14
          have hfr := FR.step hfr hq48 (fun _ h => absurd h List.not_mem_nil) (by decide) (fun h => rfl)
          subst hr48
          exact W.zret (v := 0) hx hb hr rfl (fun t ht hW => ⟨⟨0, u48, rfl, ⟨Or.inr ⟨rfl, by rw [pl_e (by rw [HQ]; exact Z1) (by rw [HQ]; exact K9)]; dsimp only; rw [HQ]; exact ⟨bad_ne, by rw [h48_0, tkr_bad], h48_1, h48_2⟩⟩, (by first | (rw [hA50]; done) | (rw [hA50]; first | assumption | exact bgx)), (by first | (rw [hA50]; done) | (rw [hA50]; first | (intro k _; rfl) | exact bgo)), (by first | (rw [hF53x]; done) | (rw [hF53x]; refine ⟨_, ?_, rfl⟩; omega)), hfr⟩, (show va_P (dC, dI) vwCl (rW cs b u48) t.heap by rw [ht]; exact hP)⟩, hS.F ht⟩) hS.2.2 dX12_aLine_78
    · have NH : (pHead tx sz1 gg p0).1 ≠ 0 ∧ FL u8 (pHead tx sz1 gg p0).1 (pHead tx sz1 gg p0).2.1 ln := by rw [ph_v KD]; exact hb8
      refine lv_goto (tgt := 45) hx hb dX12_aLine_13 (by decide) ?_
      refine lv_istore_n (lv' := [(2, .int 0), (1, .int 0), (0, .ref (b 0))]) hx hb dX12_aLine_45 rfl hl (by decide) rfl (fun ls hl => ?_)
      refine lv_iload_n hx hb dX12_aLine_46 rfl (lv_at hl 0 rfl) ?_
      refine lv_if_ne (tgt := 52) hx hb dX12_aLine_47 (by decide) (fun c57 => absurd c57 (by decide)) (fun c57 => ?_)
      refine lv_iconst (v := 0) hx hb dX12_aLine_50 (by decide) ?_
      exact W.zret (v := 0) hx hb hr rfl (fun t ht hW => ⟨⟨0, u8, rfl, ⟨Or.inr ⟨rfl, by rw [pl_h NH.1]; exact NH⟩, (by first | (rw [hA9]; done) | (rw [hA9]; first | assumption | exact bgx)), (by first | (rw [hA9]; done) | (rw [hA9]; first | (intro k _; rfl) | exact bgo)), (by first | (rw [hfe8_2]; done) | (rw [hfe8_2]; refine ⟨_, ?_, rfl⟩; omega)), hfr⟩, (show va_P (dC, dI) vwCl (rW cs b u8) t.heap by rw [ht]; exact hP)⟩, hS.F ht⟩) hS.2.2 dX12_aLine_51
  · have KD := hb6
    refine lv_istore_n (lv' := [(1, .int 1), (0, .ref (b 0))]) hx hb dX12_aLine_4 rfl hl (by decide) rfl (fun ls hl => ?_)
    refine lv_iload_n hx hb dX12_aLine_5 rfl (lv_at hl 0 rfl) ?_
    refine lv_if_ne (tgt := 16) hx hb dX12_aLine_6 (by decide) (fun c58 => ?_) (fun c58 => absurd c58 (by decide))
    refine lv_iload_n hx hb dX12_aLine_16 rfl (lv_at hl 0 rfl) ?_
    refine lv_iconst (v := 1) hx hb dX12_aLine_17 (by decide) ?_
    refine lv_icmp_ne (tgt := 28) hx hb dX12_aLine_18 (by decide) (fun c59 => absurd c59 (by decide)) (fun c59 => ?_)
    refine lv_aload_n hx hb dX12_aLine_21 rfl (lv_at hl 1 rfl) ?_
    refine rc_i hAL hS hA (va_runV (As := []) (rest := []) ⟨hx, hb, hml, hown, noTs⟩ (x_X12_anEdge l dC dI s.heap.size cs b u a hA1 tx hAc16 sz1 p0 ln x17 x18 gg hF11 hF16 hF17 hF18 hF20 (by first | assumption | omega | rfl | (congr 1; omega)) ⟨te13_3, te14_3, te12_3, by omega, _, by omega, te15_3, tvv3⟩ (by first | assumption | omega | rfl | (congr 1; omega)) (by first | assumption | omega | rfl | (congr 1; omega)) (by first | assumption | omega | rfl | (congr 1; omega))) ⟨cbE 0 (wd_1552 hE) (wd_126 hE) (wd_1549 hE) rfl rfl (by decide +kernel) ⟨Nat.le_of_ble_eq_true rfl, Nat.le_of_ble_eq_true rfl⟩, (wd_1551 hE), (wd_65 hE)⟩ ⟨PR.blind, r_recv hK hP rfl, (r_pre (av := [.ref (b 0)]) hK hP hJ hE)⟩ rfl rfl hl.1 rfl (lv_room (Nat.le_of_ble_eq_true rfl)) dX12_aLine_22 ⟨Nat.le_of_ble_eq_true rfl, Nat.le_of_ble_eq_true rfl⟩) (fun r60 u60 H locs hpo60 hP hS => ?_)
    obtain ⟨hr60, h60_0, h60_1, h60_2, hq60⟩ := hpo60
    obtain ⟨w61, hA61⟩ : ∃ g, rA u60 1 = g := ⟨_, rfl⟩
    rw [hA61] at h60_0 h60_1 hr60
    obtain ⟨n60_2, hn60_2, hfe60_2⟩ := h60_2
    have hA62 := (hq60.1 16 (by decide)).trans hAc16
    have hF63x := (hq60.2.1 11 (by decide)).trans hF11
    have hF64x := (hq60.2.1 20 (by decide)).trans hF20
    have hfr := FR.step hfr hq60 (by decide) (by decide) (fun h => rfl)
    have hB := h60_0
    have hG := bg_g h60_0
    have ha65 := gg_le hG
    have ha65b := bg_w h60_0
    have bgo := h60_1
    rcases hr60 with ⟨rfl, hb60⟩ | ⟨rfl, hb60⟩
    · clear tkf3 tnb3
      have hte66 : TE u60 tx sz1 ((pEdge tx sz1 gg p0).2.1) := hb60.2.1
      obtain ⟨te13_66, te14_66, te12_66, tep66, tv66, tvl66, te15_66, tvv66⟩ := hte66
      have tkf66 := kd_f tx sz1 ((pEdge tx sz1 gg p0).2.1)
      have tna66 := tnd_le (tx := tx) tep66
      have tnb66 := fun h : ((pEdge tx sz1 gg p0).2.1) < sz1 => tnd_gt (tx := tx) h
      have HQ : (pHead tx sz1 gg p0) = pEdge tx sz1 gg p0 := ph_e KD
      have Z1 := hb60.1
      have gah := hb60.2.2.1
      refine lv_goto (tgt := 45) hx hb dX12_aLine_25 (by decide) ?_
      refine lv_istore_n (lv' := [(2, .int 1), (1, .int 1), (0, .ref (b 0))]) hx hb dX12_aLine_45 rfl hl (by decide) rfl (fun ls hl => ?_)
      refine lv_iload_n hx hb dX12_aLine_46 rfl (lv_at hl 0 rfl) ?_
      refine lv_if_ne (tgt := 52) hx hb dX12_aLine_47 (by decide) (fun c67 => ?_) (fun c67 => absurd c67 (by decide))
      refine lv_aload_n hx hb dX12_aLine_52 rfl (lv_at hl 2 rfl) ?_
      refine r_get (v := .int (nI (tkr (kd tx sz1 ((pEdge tx sz1 gg p0).2.1))))) hx hb (ly_X12 hE) hown hK hP rfl 12 (by decide) (wd_1393 hE) (fun _ h9 => h9) (congrArg (fun z : Int32 => some (Value.int z)) te12_66) dX12_aLine_53 ?_
      refine lv_iconst (v := 4) hx hb dX12_aLine_56 (by decide) ?_
      refine lv_icmp_ne (tgt := 73) hx hb dX12_aLine_57 (by decide) (fun c68 => ?_) (fun c68 => ?_)
      · have c68 := mt (b_eq (nI_toInt (n := tkr (kd tx sz1 ((pEdge tx sz1 gg p0).2.1))) (by omega)) (show Int32.toInt 4 = 4 from rfl)).mpr c68
        have K9 : kd tx sz1 ((pEdge tx sz1 gg p0).2.1) ≠ 9 := by omega
        refine lv_aload_n hx hb dX12_aLine_73 rfl (lv_at hl 2 rfl) ?_
        refine lv_iconst (v := 2) hx hb dX12_aLine_74 (by decide) ?_
        refine rc_i hAL hS hA (va_runV (As := [.int (nI 2)]) (rest := []) ⟨hx, hb, hml, hown, noTs⟩ (x_X12_fails l dC dI H.size cs b u60 2 (tkr (kd tx sz1 ((pEdge tx sz1 gg p0).2.1))) ((pEdge tx sz1 gg p0).2.1) ln hb60.2.2.2.1 te12_66 te13_66 hF64x (by first | assumption | omega | rfl | (congr 1; omega))) ⟨cbE 1 (wd_1540 hE) (wd_126 hE) (wd_1537 hE) rfl rfl (by decide +kernel) ⟨Nat.le_of_ble_eq_true rfl, Nat.le_of_ble_eq_true rfl⟩, (wd_1539 hE), (wd_62 hE)⟩ ⟨PR.blind, r_recv hK hP rfl, (r_pre (av := [.ref (b 0), .int (nI 2)]) hK hP hJ hE)⟩ rfl rfl hl.1 rfl (lv_room (Nat.le_of_ble_eq_true rfl)) dX12_aLine_75 ⟨Nat.le_of_ble_eq_true rfl, Nat.le_of_ble_eq_true rfl⟩) (fun r69 u69 H locs hpo69 hP hS => ?_)
        obtain ⟨hr69, h69_0, h69_1, h69_2, hq69⟩ := hpo69
        have hA70 := (hq69.1 16 List.not_mem_nil).trans hA62
        have hA71 := (hq69.1 1 List.not_mem_nil).trans hA61
        have hF72x := (hq69.2.1 11 (by decide)).trans hF63x
        have hF73x := (hq69.2.1 20 (by decide)).trans hF64x
        have hF74x := (hq69.2.1 15 (by decide)).trans te15_66
        have hF75x := (hq69.2.1 13 (by decide)).trans te13_66
        have hF76x := (hq69.2.1 14 (by decide)).trans te14_66
        have hF77x := (hq69.2.1 12 (by decide)).trans te12_66
        have hfr := FR.step hfr hq69 (fun _ h => absurd h List.not_mem_nil) (by decide) (fun h => rfl)
        subst hr69
        exact W.zret (v := 0) hx hb hr rfl (fun t ht hW => ⟨⟨0, u69, rfl, ⟨Or.inr ⟨rfl, by rw [pl_e (by rw [HQ]; exact Z1) (by rw [HQ]; exact K9)]; dsimp only; rw [HQ]; exact ⟨bad_ne, by rw [h69_0, tkr_bad], h69_1, h69_2⟩⟩, (by first | (rw [hA71]; done) | (rw [hA71]; first | assumption | exact bgx)), (by first | (rw [hA71]; done) | (rw [hA71]; first | (intro k _; rfl) | exact bgo)), (by first | (rw [hF74x]; done) | (rw [hF74x]; refine ⟨_, ?_, rfl⟩; omega)), hfr⟩, (show va_P (dC, dI) vwCl (rW cs b u69) t.heap by rw [ht]; exact hP)⟩, hS.F ht⟩) hS.2.2 dX12_aLine_78
      · have c68 := (b_eq (nI_toInt (n := tkr (kd tx sz1 ((pEdge tx sz1 gg p0).2.1))) (by omega)) (show Int32.toInt 4 = 4 from rfl)).mp c68
        refine lv_aload_n hx hb dX12_aLine_60 rfl (lv_at hl 2 rfl) ?_
        refine lv_aload_n hx hb dX12_aLine_61 rfl (lv_at hl 2 rfl) ?_
        refine r_get (v := .int (nI ((pEdge tx sz1 gg p0).2.1))) hx hb (ly_X12 hE) hown hK hP rfl 13 (by decide) (wd_1394 hE) (fun _ h9 => h9) (congrArg (fun z : Int32 => some (Value.int z)) te13_66) dX12_aLine_62 ?_
        refine vp_callSi (va_Run.run (va_runV (As := [.int (nI ((pEdge tx sz1 gg p0).2.1))]) (rest := []) ⟨hx, hb, hml, hown, noTs⟩ (r_X12_byteAt l dC dI H.size cs b u60 tx hA62 ((pEdge tx sz1 gg p0).2.1) sz1 hF63x (by first | assumption | omega | rfl | (congr 1; omega)) (by first | assumption | omega | rfl | (congr 1; omega))) ⟨cbE 1 (wd_1510 hE) (wd_126 hE) (wd_1507 hE) rfl rfl (by decide +kernel) ⟨Nat.le_of_ble_eq_true rfl, Nat.le_of_ble_eq_true rfl⟩, (wd_1509 hE), (wd_57 hE)⟩ ⟨PR.blind, r_recv hK hP rfl, (r_pre (av := [.ref (b 0), .int (nI ((pEdge tx sz1 gg p0).2.1))]) hK hP hJ hE)⟩ rfl rfl hl.1 rfl (lv_room (Nat.le_of_ble_eq_true rfl)) dX12_aLine_65 ⟨Nat.le_of_ble_eq_true rfl, Nat.le_of_ble_eq_true rfl⟩)) (fun r78 hr78 => ?_)
        subst hr78
        have htf78 := bA_f tx sz1 ((pEdge tx sz1 gg p0).2.1)
        refine lv_bipush (v := 59) hx hb dX12_aLine_68 (by decide) ?_
        refine lv_icmp_eq (tgt := 79) hx hb dX12_aLine_70 (by decide) (fun c79 => ?_) (fun c79 => ?_)
        · have c79 := (b_eq (rfl : Int32.toInt (bA tx sz1 ((pEdge tx sz1 gg p0).2.1)) = _) (show Int32.toInt 59 = 59 from rfl)).mp c79
          have K9 : kd tx sz1 ((pEdge tx sz1 gg p0).2.1) = 9 := by have q := kd_byte (show tkr (kd tx sz1 ((pEdge tx sz1 gg p0).2.1)) = 4 by omega); omega
          refine lv_aload_n hx hb dX12_aLine_79 rfl (lv_at hl 2 rfl) ?_
          refine lv_dup hx hb dX12_aLine_80 rfl ?_
          refine r_get (v := .int (nI ln)) hx hb (ly_X12 hE) hown hK hP rfl 20 (by decide) (wd_1401 hE) (fun _ h9 => h9) (congrArg (fun z : Int32 => some (Value.int z)) hF64x) dX12_aLine_81 ?_
          refine lv_iconst (v := 1) hx hb dX12_aLine_84 (by decide) ?_
          refine lv_iadd hx hb dX12_aLine_85 ?_
          refine W.eq (g2 := F0 m 86 ls [.int (nI (ln + 1)), .ref (b 0)]) (congrArg (fun z : Int32 => F0 m 86 ls (.int z :: [.ref (b 0)])) (nI_add ln 1)) ?_
          refine r_put (v := nI (ln + 1)) hx hb (ly_X12 hE) tyX12 tyX12_ok nmX12 hown hK hP hJ hAL hS rfl 20 (by decide) (wd_1401 hE) (fun _ h9 => h9) rfl (by decide +kernel) rfl (by decide) dX12_aLine_86 (fun u80 H locs hf80 hq80 hP hS => ?_)
          have hA81 := (hq80.1 16 List.not_mem_nil).trans hA62
          have hA82 := (hq80.1 1 List.not_mem_nil).trans hA61
          have hF83x := (hq80.2.1 11 (by decide)).trans hF63x
          have hF84x := (hq80.2.1 15 (by decide)).trans te15_66
          have hF85x := (hq80.2.1 13 (by decide)).trans te13_66
          have hF86x := (hq80.2.1 14 (by decide)).trans te14_66
          have hF87x := (hq80.2.1 12 (by decide)).trans te12_66
          have hF88x := (hq80.2.1 16 (by decide)).trans hb60.2.2.2.1
          have hF89x := (hq80.2.1 17 (by decide)).trans hb60.2.2.2.2.1
          have hF90x := (hq80.2.1 18 (by decide)).trans hb60.2.2.2.2.2
          have hfr := FR.step hfr hq80 (fun _ h => absurd h List.not_mem_nil) (by decide) (fun h => rfl)
          refine lv_aload_n hx hb dX12_aLine_89 rfl (lv_at hl 2 rfl) ?_
          refine rc_i hAL hS hA (va_runV (As := []) (rest := []) ⟨hx, hb, hml, hown, noTs⟩ (x_X12_takesOn l dC dI H.size cs b u80 tx hA81 sz1 (tnd tx sz1 ((pEdge tx sz1 gg p0).2.1)) tv66 hF83x hF86x hF84x (by first | assumption | omega | rfl | (congr 1; omega)) (by first | assumption | omega | rfl | (congr 1; omega)) (by first | assumption | omega | rfl | (congr 1; omega))) ⟨cbE 0 (wd_1548 hE) (wd_126 hE) (wd_1545 hE) rfl rfl (by decide +kernel) ⟨Nat.le_of_ble_eq_true rfl, Nat.le_of_ble_eq_true rfl⟩, (wd_1547 hE), (wd_64 hE)⟩ ⟨PR.blind, r_recv hK hP rfl, (r_pre (av := [.ref (b 0)]) hK hP hJ hE)⟩ rfl rfl hl.1 rfl (lv_room (Nat.le_of_ble_eq_true rfl)) dX12_aLine_90 ⟨Nat.le_of_ble_eq_true rfl, Nat.le_of_ble_eq_true rfl⟩) (fun r91 u91 H locs hpo91 hP hS => ?_)
          obtain ⟨hr91, h91_0, hq91⟩ := hpo91
          have hA92 := (hq91.1 16 List.not_mem_nil).trans hA81
          have hA93 := (hq91.1 1 List.not_mem_nil).trans hA82
          have hF94x := (hq91.2.1 11 (by decide)).trans hF83x
          have hF95x := (hq91.2.1 16 (by decide)).trans hF88x
          have hF96x := (hq91.2.1 17 (by decide)).trans hF89x
          have hF97x := (hq91.2.1 18 (by decide)).trans hF90x
          have hF98x := (hq91.2.1 20 (by decide)).trans hf80
          have hfr := FR.step hfr hq91 (fun _ h => absurd h List.not_mem_nil) (by decide) (fun h => rfl)
          clear tkf66 tnb66
          have hte99 : TE u91 tx sz1 (nxt tx sz1 ((pEdge tx sz1 gg p0).2.1)) := h91_0
          obtain ⟨te13_99, te14_99, te12_99, tep99, tv99, tvl99, te15_99, tvv99⟩ := hte99
          have tkf99 := kd_f tx sz1 (nxt tx sz1 ((pEdge tx sz1 gg p0).2.1))
          have tna99 := tnd_le (tx := tx) tep99
          have tnb99 := fun h : (nxt tx sz1 ((pEdge tx sz1 gg p0).2.1)) < sz1 => tnd_gt (tx := tx) h
          subst hr91
          exact W.zret (v := 1) hx hb hr rfl (fun t ht hW => ⟨⟨1, u91, rfl, ⟨Or.inl ⟨rfl, by rw [pl_ok (by rw [HQ]; exact Z1) (by rw [HQ]; exact K9)]; dsimp only; rw [HQ]; exact ⟨rfl, ⟨te13_99, te14_99, te12_99, by omega, _, by omega, te15_99, tvv99⟩, (by rw [hA93]; exact gah), hF98x, hF95x, hF96x, hF97x⟩⟩, (by first | (rw [hA93]; done) | (rw [hA93]; first | assumption | exact bgx)), (by first | (rw [hA93]; done) | (rw [hA93]; first | (intro k _; rfl) | exact bgo)), (by first | (rw [te15_99]; done) | (rw [te15_99]; refine ⟨_, ?_, rfl⟩; omega)), hfr⟩, (show va_P (dC, dI) vwCl (rW cs b u91) t.heap by rw [ht]; exact hP)⟩, hS.F ht⟩) hS.2.2 dX12_aLine_93
        · have c79 := mt (b_eq (rfl : Int32.toInt (bA tx sz1 ((pEdge tx sz1 gg p0).2.1)) = _) (show Int32.toInt 59 = 59 from rfl)).mpr c79
          have K9 : kd tx sz1 ((pEdge tx sz1 gg p0).2.1) ≠ 9 := by have q := kd_byte (show tkr (kd tx sz1 ((pEdge tx sz1 gg p0).2.1)) = 4 by omega); omega
          refine lv_aload_n hx hb dX12_aLine_73 rfl (lv_at hl 2 rfl) ?_
          refine lv_iconst (v := 2) hx hb dX12_aLine_74 (by decide) ?_
          refine rc_i hAL hS hA (va_runV (As := [.int (nI 2)]) (rest := []) ⟨hx, hb, hml, hown, noTs⟩ (x_X12_fails l dC dI H.size cs b u60 2 (tkr (kd tx sz1 ((pEdge tx sz1 gg p0).2.1))) ((pEdge tx sz1 gg p0).2.1) ln hb60.2.2.2.1 te12_66 te13_66 hF64x (by first | assumption | omega | rfl | (congr 1; omega))) ⟨cbE 1 (wd_1540 hE) (wd_126 hE) (wd_1537 hE) rfl rfl (by decide +kernel) ⟨Nat.le_of_ble_eq_true rfl, Nat.le_of_ble_eq_true rfl⟩, (wd_1539 hE), (wd_62 hE)⟩ ⟨PR.blind, r_recv hK hP rfl, (r_pre (av := [.ref (b 0), .int (nI 2)]) hK hP hJ hE)⟩ rfl rfl hl.1 rfl (lv_room (Nat.le_of_ble_eq_true rfl)) dX12_aLine_75 ⟨Nat.le_of_ble_eq_true rfl, Nat.le_of_ble_eq_true rfl⟩) (fun r100 u100 H locs hpo100 hP hS => ?_)
          obtain ⟨hr100, h100_0, h100_1, h100_2, hq100⟩ := hpo100
          have hA101 := (hq100.1 16 List.not_mem_nil).trans hA62
          have hA102 := (hq100.1 1 List.not_mem_nil).trans hA61
          have hF103x := (hq100.2.1 11 (by decide)).trans hF63x
          have hF104x := (hq100.2.1 20 (by decide)).trans hF64x
          have hF105x := (hq100.2.1 15 (by decide)).trans te15_66
          have hF106x := (hq100.2.1 13 (by decide)).trans te13_66
          have hF107x := (hq100.2.1 14 (by decide)).trans te14_66
          have hF108x := (hq100.2.1 12 (by decide)).trans te12_66
          have hfr := FR.step hfr hq100 (fun _ h => absurd h List.not_mem_nil) (by decide) (fun h => rfl)
          subst hr100
          exact W.zret (v := 0) hx hb hr rfl (fun t ht hW => ⟨⟨0, u100, rfl, ⟨Or.inr ⟨rfl, by rw [pl_e (by rw [HQ]; exact Z1) (by rw [HQ]; exact K9)]; dsimp only; rw [HQ]; exact ⟨bad_ne, by rw [h100_0, tkr_bad], h100_1, h100_2⟩⟩, (by first | (rw [hA102]; done) | (rw [hA102]; first | assumption | exact bgx)), (by first | (rw [hA102]; done) | (rw [hA102]; first | (intro k _; rfl) | exact bgo)), (by first | (rw [hF105x]; done) | (rw [hF105x]; refine ⟨_, ?_, rfl⟩; omega)), hfr⟩, (show va_P (dC, dI) vwCl (rW cs b u100) t.heap by rw [ht]; exact hP)⟩, hS.F ht⟩) hS.2.2 dX12_aLine_78
    · have NH : (pHead tx sz1 gg p0).1 ≠ 0 ∧ FL u60 (pHead tx sz1 gg p0).1 (pHead tx sz1 gg p0).2.1 ln := by rw [ph_e KD]; exact hb60
      refine lv_goto (tgt := 45) hx hb dX12_aLine_25 (by decide) ?_
      refine lv_istore_n (lv' := [(2, .int 0), (1, .int 1), (0, .ref (b 0))]) hx hb dX12_aLine_45 rfl hl (by decide) rfl (fun ls hl => ?_)
      refine lv_iload_n hx hb dX12_aLine_46 rfl (lv_at hl 0 rfl) ?_
      refine lv_if_ne (tgt := 52) hx hb dX12_aLine_47 (by decide) (fun c109 => absurd c109 (by decide)) (fun c109 => ?_)
      refine lv_iconst (v := 0) hx hb dX12_aLine_50 (by decide) ?_
      exact W.zret (v := 0) hx hb hr rfl (fun t ht hW => ⟨⟨0, u60, rfl, ⟨Or.inr ⟨rfl, by rw [pl_h NH.1]; exact NH⟩, (by first | (rw [hA61]; done) | (rw [hA61]; first | assumption | exact bgx)), (by first | (rw [hA61]; done) | (rw [hA61]; first | (intro k _; rfl) | exact bgo)), (by first | (rw [hfe60_2]; done) | (rw [hfe60_2]; refine ⟨_, ?_, rfl⟩; omega)), hfr⟩, (show va_P (dC, dI) vwCl (rW cs b u60) t.heap by rw [ht]; exact hP)⟩, hS.F ht⟩) hS.2.2 dX12_aLine_51
  · have KD := hb6
    refine lv_istore_n (lv' := [(1, .int 2), (0, .ref (b 0))]) hx hb dX12_aLine_4 rfl hl (by decide) rfl (fun ls hl => ?_)
    refine lv_iload_n hx hb dX12_aLine_5 rfl (lv_at hl 0 rfl) ?_
    refine lv_if_ne (tgt := 16) hx hb dX12_aLine_6 (by decide) (fun c110 => ?_) (fun c110 => absurd c110 (by decide))
    refine lv_iload_n hx hb dX12_aLine_16 rfl (lv_at hl 0 rfl) ?_
    refine lv_iconst (v := 1) hx hb dX12_aLine_17 (by decide) ?_
    refine lv_icmp_ne (tgt := 28) hx hb dX12_aLine_18 (by decide) (fun c111 => ?_) (fun c111 => absurd c111 (by decide))
    refine lv_iload_n hx hb dX12_aLine_28 rfl (lv_at hl 0 rfl) ?_
    refine lv_iconst (v := 2) hx hb dX12_aLine_29 (by decide) ?_
    refine lv_icmp_ne (tgt := 40) hx hb dX12_aLine_30 (by decide) (fun c112 => absurd c112 (by decide)) (fun c112 => ?_)
    refine lv_aload_n hx hb dX12_aLine_33 rfl (lv_at hl 1 rfl) ?_
    refine rc_i hAL hS hA (va_runV (As := []) (rest := []) ⟨hx, hb, hml, hown, noTs⟩ (x_X12_aWord l dC dI s.heap.size cs b u a hA1 tx hAc16 sz1 p0 ln x17 x18 gg hF11 hF16 hF17 hF18 hF20 (by first | assumption | omega | rfl | (congr 1; omega)) ⟨te13_3, te14_3, te12_3, by omega, _, by omega, te15_3, tvv3⟩ (by first | assumption | omega | rfl | (congr 1; omega)) (by first | assumption | omega | rfl | (congr 1; omega)) (by first | assumption | omega | rfl | (congr 1; omega))) ⟨cbE 0 (wd_1568 hE) (wd_126 hE) (wd_1565 hE) rfl rfl (by decide +kernel) ⟨Nat.le_of_ble_eq_true rfl, Nat.le_of_ble_eq_true rfl⟩, (wd_1567 hE), (wd_69 hE)⟩ ⟨PR.blind, r_recv hK hP rfl, (r_pre (av := [.ref (b 0)]) hK hP hJ hE)⟩ rfl rfl hl.1 rfl (lv_room (Nat.le_of_ble_eq_true rfl)) dX12_aLine_34 ⟨Nat.le_of_ble_eq_true rfl, Nat.le_of_ble_eq_true rfl⟩) (fun r113 u113 H locs hpo113 hP hS => ?_)
    obtain ⟨hr113, h113_0, h113_1, h113_2, hq113⟩ := hpo113
    obtain ⟨w114, hA114⟩ : ∃ g, rA u113 1 = g := ⟨_, rfl⟩
    rw [hA114] at h113_0 h113_1 hr113
    obtain ⟨n113_2, hn113_2, hfe113_2⟩ := h113_2
    have hA115 := (hq113.1 16 (by decide)).trans hAc16
    have hF116x := (hq113.2.1 11 (by decide)).trans hF11
    have hF117x := (hq113.2.1 20 (by decide)).trans hF20
    have hfr := FR.step hfr hq113 (by decide) (by decide) (fun h => rfl)
    have hB := h113_0
    have hG := bg_g h113_0
    have ha118 := gg_le hG
    have ha118b := bg_w h113_0
    have bgo := h113_1
    rcases hr113 with ⟨rfl, hb113⟩ | ⟨rfl, hb113⟩
    · clear tkf3 tnb3
      have hte119 : TE u113 tx sz1 ((pWord tx sz1 gg p0).2.1) := hb113.2.1
      obtain ⟨te13_119, te14_119, te12_119, tep119, tv119, tvl119, te15_119, tvv119⟩ := hte119
      have tkf119 := kd_f tx sz1 ((pWord tx sz1 gg p0).2.1)
      have tna119 := tnd_le (tx := tx) tep119
      have tnb119 := fun h : ((pWord tx sz1 gg p0).2.1) < sz1 => tnd_gt (tx := tx) h
      have HQ : (pHead tx sz1 gg p0) = pWord tx sz1 gg p0 := ph_w KD
      have Z1 := hb113.1
      have gah := hb113.2.2.1
      refine lv_goto (tgt := 45) hx hb dX12_aLine_37 (by decide) ?_
      refine lv_istore_n (lv' := [(2, .int 1), (1, .int 2), (0, .ref (b 0))]) hx hb dX12_aLine_45 rfl hl (by decide) rfl (fun ls hl => ?_)
      refine lv_iload_n hx hb dX12_aLine_46 rfl (lv_at hl 0 rfl) ?_
      refine lv_if_ne (tgt := 52) hx hb dX12_aLine_47 (by decide) (fun c120 => ?_) (fun c120 => absurd c120 (by decide))
      refine lv_aload_n hx hb dX12_aLine_52 rfl (lv_at hl 2 rfl) ?_
      refine r_get (v := .int (nI (tkr (kd tx sz1 ((pWord tx sz1 gg p0).2.1))))) hx hb (ly_X12 hE) hown hK hP rfl 12 (by decide) (wd_1393 hE) (fun _ h9 => h9) (congrArg (fun z : Int32 => some (Value.int z)) te12_119) dX12_aLine_53 ?_
      refine lv_iconst (v := 4) hx hb dX12_aLine_56 (by decide) ?_
      refine lv_icmp_ne (tgt := 73) hx hb dX12_aLine_57 (by decide) (fun c121 => ?_) (fun c121 => ?_)
      · have c121 := mt (b_eq (nI_toInt (n := tkr (kd tx sz1 ((pWord tx sz1 gg p0).2.1))) (by omega)) (show Int32.toInt 4 = 4 from rfl)).mpr c121
        have K9 : kd tx sz1 ((pWord tx sz1 gg p0).2.1) ≠ 9 := by omega
        refine lv_aload_n hx hb dX12_aLine_73 rfl (lv_at hl 2 rfl) ?_
        refine lv_iconst (v := 2) hx hb dX12_aLine_74 (by decide) ?_
        refine rc_i hAL hS hA (va_runV (As := [.int (nI 2)]) (rest := []) ⟨hx, hb, hml, hown, noTs⟩ (x_X12_fails l dC dI H.size cs b u113 2 (tkr (kd tx sz1 ((pWord tx sz1 gg p0).2.1))) ((pWord tx sz1 gg p0).2.1) ln hb113.2.2.2.1 te12_119 te13_119 hF117x (by first | assumption | omega | rfl | (congr 1; omega))) ⟨cbE 1 (wd_1540 hE) (wd_126 hE) (wd_1537 hE) rfl rfl (by decide +kernel) ⟨Nat.le_of_ble_eq_true rfl, Nat.le_of_ble_eq_true rfl⟩, (wd_1539 hE), (wd_62 hE)⟩ ⟨PR.blind, r_recv hK hP rfl, (r_pre (av := [.ref (b 0), .int (nI 2)]) hK hP hJ hE)⟩ rfl rfl hl.1 rfl (lv_room (Nat.le_of_ble_eq_true rfl)) dX12_aLine_75 ⟨Nat.le_of_ble_eq_true rfl, Nat.le_of_ble_eq_true rfl⟩) (fun r122 u122 H locs hpo122 hP hS => ?_)
        obtain ⟨hr122, h122_0, h122_1, h122_2, hq122⟩ := hpo122
        have hA123 := (hq122.1 16 List.not_mem_nil).trans hA115
        have hA124 := (hq122.1 1 List.not_mem_nil).trans hA114
        have hF125x := (hq122.2.1 11 (by decide)).trans hF116x
        have hF126x := (hq122.2.1 20 (by decide)).trans hF117x
        have hF127x := (hq122.2.1 15 (by decide)).trans te15_119
        have hF128x := (hq122.2.1 13 (by decide)).trans te13_119
        have hF129x := (hq122.2.1 14 (by decide)).trans te14_119
        have hF130x := (hq122.2.1 12 (by decide)).trans te12_119
        have hfr := FR.step hfr hq122 (fun _ h => absurd h List.not_mem_nil) (by decide) (fun h => rfl)
        subst hr122
        exact W.zret (v := 0) hx hb hr rfl (fun t ht hW => ⟨⟨0, u122, rfl, ⟨Or.inr ⟨rfl, by rw [pl_e (by rw [HQ]; exact Z1) (by rw [HQ]; exact K9)]; dsimp only; rw [HQ]; exact ⟨bad_ne, by rw [h122_0, tkr_bad], h122_1, h122_2⟩⟩, (by first | (rw [hA124]; done) | (rw [hA124]; first | assumption | exact bgx)), (by first | (rw [hA124]; done) | (rw [hA124]; first | (intro k _; rfl) | exact bgo)), (by first | (rw [hF127x]; done) | (rw [hF127x]; refine ⟨_, ?_, rfl⟩; omega)), hfr⟩, (show va_P (dC, dI) vwCl (rW cs b u122) t.heap by rw [ht]; exact hP)⟩, hS.F ht⟩) hS.2.2 dX12_aLine_78
      · have c121 := (b_eq (nI_toInt (n := tkr (kd tx sz1 ((pWord tx sz1 gg p0).2.1))) (by omega)) (show Int32.toInt 4 = 4 from rfl)).mp c121
        refine lv_aload_n hx hb dX12_aLine_60 rfl (lv_at hl 2 rfl) ?_
        refine lv_aload_n hx hb dX12_aLine_61 rfl (lv_at hl 2 rfl) ?_
        refine r_get (v := .int (nI ((pWord tx sz1 gg p0).2.1))) hx hb (ly_X12 hE) hown hK hP rfl 13 (by decide) (wd_1394 hE) (fun _ h9 => h9) (congrArg (fun z : Int32 => some (Value.int z)) te13_119) dX12_aLine_62 ?_
        refine vp_callSi (va_Run.run (va_runV (As := [.int (nI ((pWord tx sz1 gg p0).2.1))]) (rest := []) ⟨hx, hb, hml, hown, noTs⟩ (r_X12_byteAt l dC dI H.size cs b u113 tx hA115 ((pWord tx sz1 gg p0).2.1) sz1 hF116x (by first | assumption | omega | rfl | (congr 1; omega)) (by first | assumption | omega | rfl | (congr 1; omega))) ⟨cbE 1 (wd_1510 hE) (wd_126 hE) (wd_1507 hE) rfl rfl (by decide +kernel) ⟨Nat.le_of_ble_eq_true rfl, Nat.le_of_ble_eq_true rfl⟩, (wd_1509 hE), (wd_57 hE)⟩ ⟨PR.blind, r_recv hK hP rfl, (r_pre (av := [.ref (b 0), .int (nI ((pWord tx sz1 gg p0).2.1))]) hK hP hJ hE)⟩ rfl rfl hl.1 rfl (lv_room (Nat.le_of_ble_eq_true rfl)) dX12_aLine_65 ⟨Nat.le_of_ble_eq_true rfl, Nat.le_of_ble_eq_true rfl⟩)) (fun r131 hr131 => ?_)
        subst hr131
        have htf131 := bA_f tx sz1 ((pWord tx sz1 gg p0).2.1)
        refine lv_bipush (v := 59) hx hb dX12_aLine_68 (by decide) ?_
        refine lv_icmp_eq (tgt := 79) hx hb dX12_aLine_70 (by decide) (fun c132 => ?_) (fun c132 => ?_)
        · have c132 := (b_eq (rfl : Int32.toInt (bA tx sz1 ((pWord tx sz1 gg p0).2.1)) = _) (show Int32.toInt 59 = 59 from rfl)).mp c132
          have K9 : kd tx sz1 ((pWord tx sz1 gg p0).2.1) = 9 := by have q := kd_byte (show tkr (kd tx sz1 ((pWord tx sz1 gg p0).2.1)) = 4 by omega); omega
          refine lv_aload_n hx hb dX12_aLine_79 rfl (lv_at hl 2 rfl) ?_
          refine lv_dup hx hb dX12_aLine_80 rfl ?_
          refine r_get (v := .int (nI ln)) hx hb (ly_X12 hE) hown hK hP rfl 20 (by decide) (wd_1401 hE) (fun _ h9 => h9) (congrArg (fun z : Int32 => some (Value.int z)) hF117x) dX12_aLine_81 ?_
          refine lv_iconst (v := 1) hx hb dX12_aLine_84 (by decide) ?_
          refine lv_iadd hx hb dX12_aLine_85 ?_
          refine W.eq (g2 := F0 m 86 ls [.int (nI (ln + 1)), .ref (b 0)]) (congrArg (fun z : Int32 => F0 m 86 ls (.int z :: [.ref (b 0)])) (nI_add ln 1)) ?_
          refine r_put (v := nI (ln + 1)) hx hb (ly_X12 hE) tyX12 tyX12_ok nmX12 hown hK hP hJ hAL hS rfl 20 (by decide) (wd_1401 hE) (fun _ h9 => h9) rfl (by decide +kernel) rfl (by decide) dX12_aLine_86 (fun u133 H locs hf133 hq133 hP hS => ?_)
          have hA134 := (hq133.1 16 List.not_mem_nil).trans hA115
          have hA135 := (hq133.1 1 List.not_mem_nil).trans hA114
          have hF136x := (hq133.2.1 11 (by decide)).trans hF116x
          have hF137x := (hq133.2.1 15 (by decide)).trans te15_119
          have hF138x := (hq133.2.1 13 (by decide)).trans te13_119
          have hF139x := (hq133.2.1 14 (by decide)).trans te14_119
          have hF140x := (hq133.2.1 12 (by decide)).trans te12_119
          have hF141x := (hq133.2.1 16 (by decide)).trans hb113.2.2.2.1
          have hF142x := (hq133.2.1 17 (by decide)).trans hb113.2.2.2.2.1
          have hF143x := (hq133.2.1 18 (by decide)).trans hb113.2.2.2.2.2
          have hfr := FR.step hfr hq133 (fun _ h => absurd h List.not_mem_nil) (by decide) (fun h => rfl)
          refine lv_aload_n hx hb dX12_aLine_89 rfl (lv_at hl 2 rfl) ?_
          refine rc_i hAL hS hA (va_runV (As := []) (rest := []) ⟨hx, hb, hml, hown, noTs⟩ (x_X12_takesOn l dC dI H.size cs b u133 tx hA134 sz1 (tnd tx sz1 ((pWord tx sz1 gg p0).2.1)) tv119 hF136x hF139x hF137x (by first | assumption | omega | rfl | (congr 1; omega)) (by first | assumption | omega | rfl | (congr 1; omega)) (by first | assumption | omega | rfl | (congr 1; omega))) ⟨cbE 0 (wd_1548 hE) (wd_126 hE) (wd_1545 hE) rfl rfl (by decide +kernel) ⟨Nat.le_of_ble_eq_true rfl, Nat.le_of_ble_eq_true rfl⟩, (wd_1547 hE), (wd_64 hE)⟩ ⟨PR.blind, r_recv hK hP rfl, (r_pre (av := [.ref (b 0)]) hK hP hJ hE)⟩ rfl rfl hl.1 rfl (lv_room (Nat.le_of_ble_eq_true rfl)) dX12_aLine_90 ⟨Nat.le_of_ble_eq_true rfl, Nat.le_of_ble_eq_true rfl⟩) (fun r144 u144 H locs hpo144 hP hS => ?_)
          obtain ⟨hr144, h144_0, hq144⟩ := hpo144
          have hA145 := (hq144.1 16 List.not_mem_nil).trans hA134
          have hA146 := (hq144.1 1 List.not_mem_nil).trans hA135
          have hF147x := (hq144.2.1 11 (by decide)).trans hF136x
          have hF148x := (hq144.2.1 16 (by decide)).trans hF141x
          have hF149x := (hq144.2.1 17 (by decide)).trans hF142x
          have hF150x := (hq144.2.1 18 (by decide)).trans hF143x
          have hF151x := (hq144.2.1 20 (by decide)).trans hf133
          have hfr := FR.step hfr hq144 (fun _ h => absurd h List.not_mem_nil) (by decide) (fun h => rfl)
          clear tkf119 tnb119
          have hte152 : TE u144 tx sz1 (nxt tx sz1 ((pWord tx sz1 gg p0).2.1)) := h144_0
          obtain ⟨te13_152, te14_152, te12_152, tep152, tv152, tvl152, te15_152, tvv152⟩ := hte152
          have tkf152 := kd_f tx sz1 (nxt tx sz1 ((pWord tx sz1 gg p0).2.1))
          have tna152 := tnd_le (tx := tx) tep152
          have tnb152 := fun h : (nxt tx sz1 ((pWord tx sz1 gg p0).2.1)) < sz1 => tnd_gt (tx := tx) h
          subst hr144
          exact W.zret (v := 1) hx hb hr rfl (fun t ht hW => ⟨⟨1, u144, rfl, ⟨Or.inl ⟨rfl, by rw [pl_ok (by rw [HQ]; exact Z1) (by rw [HQ]; exact K9)]; dsimp only; rw [HQ]; exact ⟨rfl, ⟨te13_152, te14_152, te12_152, by omega, _, by omega, te15_152, tvv152⟩, (by rw [hA146]; exact gah), hF151x, hF148x, hF149x, hF150x⟩⟩, (by first | (rw [hA146]; done) | (rw [hA146]; first | assumption | exact bgx)), (by first | (rw [hA146]; done) | (rw [hA146]; first | (intro k _; rfl) | exact bgo)), (by first | (rw [te15_152]; done) | (rw [te15_152]; refine ⟨_, ?_, rfl⟩; omega)), hfr⟩, (show va_P (dC, dI) vwCl (rW cs b u144) t.heap by rw [ht]; exact hP)⟩, hS.F ht⟩) hS.2.2 dX12_aLine_93
        · have c132 := mt (b_eq (rfl : Int32.toInt (bA tx sz1 ((pWord tx sz1 gg p0).2.1)) = _) (show Int32.toInt 59 = 59 from rfl)).mpr c132
          have K9 : kd tx sz1 ((pWord tx sz1 gg p0).2.1) ≠ 9 := by have q := kd_byte (show tkr (kd tx sz1 ((pWord tx sz1 gg p0).2.1)) = 4 by omega); omega
          refine lv_aload_n hx hb dX12_aLine_73 rfl (lv_at hl 2 rfl) ?_
          refine lv_iconst (v := 2) hx hb dX12_aLine_74 (by decide) ?_
          refine rc_i hAL hS hA (va_runV (As := [.int (nI 2)]) (rest := []) ⟨hx, hb, hml, hown, noTs⟩ (x_X12_fails l dC dI H.size cs b u113 2 (tkr (kd tx sz1 ((pWord tx sz1 gg p0).2.1))) ((pWord tx sz1 gg p0).2.1) ln hb113.2.2.2.1 te12_119 te13_119 hF117x (by first | assumption | omega | rfl | (congr 1; omega))) ⟨cbE 1 (wd_1540 hE) (wd_126 hE) (wd_1537 hE) rfl rfl (by decide +kernel) ⟨Nat.le_of_ble_eq_true rfl, Nat.le_of_ble_eq_true rfl⟩, (wd_1539 hE), (wd_62 hE)⟩ ⟨PR.blind, r_recv hK hP rfl, (r_pre (av := [.ref (b 0), .int (nI 2)]) hK hP hJ hE)⟩ rfl rfl hl.1 rfl (lv_room (Nat.le_of_ble_eq_true rfl)) dX12_aLine_75 ⟨Nat.le_of_ble_eq_true rfl, Nat.le_of_ble_eq_true rfl⟩) (fun r153 u153 H locs hpo153 hP hS => ?_)
          obtain ⟨hr153, h153_0, h153_1, h153_2, hq153⟩ := hpo153
          have hA154 := (hq153.1 16 List.not_mem_nil).trans hA115
          have hA155 := (hq153.1 1 List.not_mem_nil).trans hA114
          have hF156x := (hq153.2.1 11 (by decide)).trans hF116x
          have hF157x := (hq153.2.1 20 (by decide)).trans hF117x
          have hF158x := (hq153.2.1 15 (by decide)).trans te15_119
          have hF159x := (hq153.2.1 13 (by decide)).trans te13_119
          have hF160x := (hq153.2.1 14 (by decide)).trans te14_119
          have hF161x := (hq153.2.1 12 (by decide)).trans te12_119
          have hfr := FR.step hfr hq153 (fun _ h => absurd h List.not_mem_nil) (by decide) (fun h => rfl)
          subst hr153
          exact W.zret (v := 0) hx hb hr rfl (fun t ht hW => ⟨⟨0, u153, rfl, ⟨Or.inr ⟨rfl, by rw [pl_e (by rw [HQ]; exact Z1) (by rw [HQ]; exact K9)]; dsimp only; rw [HQ]; exact ⟨bad_ne, by rw [h153_0, tkr_bad], h153_1, h153_2⟩⟩, (by first | (rw [hA155]; done) | (rw [hA155]; first | assumption | exact bgx)), (by first | (rw [hA155]; done) | (rw [hA155]; first | (intro k _; rfl) | exact bgo)), (by first | (rw [hF158x]; done) | (rw [hF158x]; refine ⟨_, ?_, rfl⟩; omega)), hfr⟩, (show va_P (dC, dI) vwCl (rW cs b u153) t.heap by rw [ht]; exact hP)⟩, hS.F ht⟩) hS.2.2 dX12_aLine_78
    · have NH : (pHead tx sz1 gg p0).1 ≠ 0 ∧ FL u113 (pHead tx sz1 gg p0).1 (pHead tx sz1 gg p0).2.1 ln := by rw [ph_w KD]; exact hb113
      refine lv_goto (tgt := 45) hx hb dX12_aLine_37 (by decide) ?_
      refine lv_istore_n (lv' := [(2, .int 0), (1, .int 2), (0, .ref (b 0))]) hx hb dX12_aLine_45 rfl hl (by decide) rfl (fun ls hl => ?_)
      refine lv_iload_n hx hb dX12_aLine_46 rfl (lv_at hl 0 rfl) ?_
      refine lv_if_ne (tgt := 52) hx hb dX12_aLine_47 (by decide) (fun c162 => absurd c162 (by decide)) (fun c162 => ?_)
      refine lv_iconst (v := 0) hx hb dX12_aLine_50 (by decide) ?_
      exact W.zret (v := 0) hx hb hr rfl (fun t ht hW => ⟨⟨0, u113, rfl, ⟨Or.inr ⟨rfl, by rw [pl_h NH.1]; exact NH⟩, (by first | (rw [hA114]; done) | (rw [hA114]; first | assumption | exact bgx)), (by first | (rw [hA114]; done) | (rw [hA114]; first | (intro k _; rfl) | exact bgo)), (by first | (rw [hfe113_2]; done) | (rw [hfe113_2]; refine ⟨_, ?_, rfl⟩; omega)), hfr⟩, (show va_P (dC, dI) vwCl (rW cs b u113) t.heap by rw [ht]; exact hP)⟩, hS.F ht⟩) hS.2.2 dX12_aLine_51
  · have KD := hb6
    refine lv_istore_n (lv' := [(1, .int (-1)), (0, .ref (b 0))]) hx hb dX12_aLine_4 rfl hl (by decide) rfl (fun ls hl => ?_)
    refine lv_iload_n hx hb dX12_aLine_5 rfl (lv_at hl 0 rfl) ?_
    refine lv_if_ne (tgt := 16) hx hb dX12_aLine_6 (by decide) (fun c163 => ?_) (fun c163 => absurd c163 (by decide))
    refine lv_iload_n hx hb dX12_aLine_16 rfl (lv_at hl 0 rfl) ?_
    refine lv_iconst (v := 1) hx hb dX12_aLine_17 (by decide) ?_
    refine lv_icmp_ne (tgt := 28) hx hb dX12_aLine_18 (by decide) (fun c164 => ?_) (fun c164 => absurd c164 (by decide))
    refine lv_iload_n hx hb dX12_aLine_28 rfl (lv_at hl 0 rfl) ?_
    refine lv_iconst (v := 2) hx hb dX12_aLine_29 (by decide) ?_
    refine lv_icmp_ne (tgt := 40) hx hb dX12_aLine_30 (by decide) (fun c165 => ?_) (fun c165 => absurd c165 (by decide))
    refine lv_aload_n hx hb dX12_aLine_40 rfl (lv_at hl 1 rfl) ?_
    refine lv_iconst (v := 2) hx hb dX12_aLine_41 (by decide) ?_
    refine rc_i hAL hS hA (va_runV (As := [.int (nI 2)]) (rest := []) ⟨hx, hb, hml, hown, noTs⟩ (x_X12_fails l dC dI s.heap.size cs b u 2 (tkr (kd tx sz1 p0)) p0 ln hF16 te12_3 te13_3 hF20 (by first | assumption | omega | rfl | (congr 1; omega))) ⟨cbE 1 (wd_1540 hE) (wd_126 hE) (wd_1537 hE) rfl rfl (by decide +kernel) ⟨Nat.le_of_ble_eq_true rfl, Nat.le_of_ble_eq_true rfl⟩, (wd_1539 hE), (wd_62 hE)⟩ ⟨PR.blind, r_recv hK hP rfl, (r_pre (av := [.ref (b 0), .int (nI 2)]) hK hP hJ hE)⟩ rfl rfl hl.1 rfl (lv_room (Nat.le_of_ble_eq_true rfl)) dX12_aLine_42 ⟨Nat.le_of_ble_eq_true rfl, Nat.le_of_ble_eq_true rfl⟩) (fun r166 u166 H locs hpo166 hP hS => ?_)
    obtain ⟨hr166, h166_0, h166_1, h166_2, hq166⟩ := hpo166
    have hA167 := (hq166.1 1 List.not_mem_nil).trans hA1
    have hA168 := (hq166.1 16 List.not_mem_nil).trans hAc16
    have hF169x := (hq166.2.1 11 (by decide)).trans hF11
    have hF170x := (hq166.2.1 20 (by decide)).trans hF20
    have hF171x := (hq166.2.1 13 (by decide)).trans te13_3
    have hF172x := (hq166.2.1 14 (by decide)).trans te14_3
    have hF173x := (hq166.2.1 12 (by decide)).trans te12_3
    have hF174x := (hq166.2.1 15 (by decide)).trans te15_3
    have hfr := FR.step hfr hq166 (fun _ h => absurd h List.not_mem_nil) (by decide) (fun h => rfl)
    have NH : (pHead tx sz1 gg p0).1 ≠ 0 ∧ FL u166 (pHead tx sz1 gg p0).1 (pHead tx sz1 gg p0).2.1 ln := by rw [ph_x KD.1 KD.2.1 KD.2.2]; dsimp only; exact ⟨bad_ne, by rw [h166_0, tkr_bad], h166_1, h166_2⟩
    subst hr166
    refine lv_istore_n (lv' := [(2, .int 0), (1, .int (-1)), (0, .ref (b 0))]) hx hb dX12_aLine_45 rfl hl (by decide) rfl (fun ls hl => ?_)
    refine lv_iload_n hx hb dX12_aLine_46 rfl (lv_at hl 0 rfl) ?_
    refine lv_if_ne (tgt := 52) hx hb dX12_aLine_47 (by decide) (fun c175 => absurd c175 (by decide)) (fun c175 => ?_)
    refine lv_iconst (v := 0) hx hb dX12_aLine_50 (by decide) ?_
    exact W.zret (v := 0) hx hb hr rfl (fun t ht hW => ⟨⟨0, u166, rfl, ⟨Or.inr ⟨rfl, by rw [pl_h NH.1]; exact NH⟩, (by first | (rw [hA167]; done) | (rw [hA167]; first | assumption | exact bgx)), (by first | (rw [hA167]; done) | (rw [hA167]; first | (intro k _; rfl) | exact bgo)), (by first | (rw [hF174x]; done) | (rw [hF174x]; refine ⟨_, ?_, rfl⟩; omega)), hfr⟩, (show va_P (dC, dI) vwCl (rW cs b u166) t.heap by rw [ht]; exact hP)⟩, hS.F ht⟩) hS.2.2 dX12_aLine_51

set_option maxHeartbeats 4000000 in
set_option maxRecDepth 100000 in
theorem x_X12_load (l : Launch) (dC : Nat → ClassId) (dI : Nat → Nat → Nat) (sz : Nat) (cs : Nat → ClassId) (b : Nat → Nat) (u : RS) (adK adV : Nat → Nat) (a : Nat → Int32) (hA1 : rA u 1 = a) (tp : Nat → Int32) (hAc15 : rA u 15 = tp) (xn : Nat) (tt : Nat) (ac : Nat) (v0 : Nat) (hF10 : rF u 10 = nI tt) (hF2 : rF u 2 = nI ac) (hF15 : rF u 15 = nI v0) (hp0 : AB a) (hp1 : ac ≤ 8) (hp2 : tt ≤ 700) (hp3 : v0 ≤ 9999) (hp4 : xn ≤ tt) (hp5 : BY tp) : Met l yX12_load [.code yX12_load cX12_load 3 (some .int)] ({ frames := 8, cells := 0, slots := 0, locals := 320 }) (PRX [.ref (b 0), .int (nI xn)] sz dC dI cs b u adK adV) (va_Qi (fun (r : Int32) (u' : RS) => (((pLoad tp xn).1 ≠ 0 ∧ r = -1) ∨ ((pLoad tp xn).1 = 0 ∧ r = nI (pW (pLoad tp xn).2.2.2))) ∧ (AB (rA u' 1)) ∧ (∃ k : Nat, k ≤ 8 ∧ rF u' 2 = nI k) ∧ (rF u' 10 = nI 0) ∧ (∃ k : Nat, k ≤ 9999 ∧ rF u' 15 = nI k) ∧ (rF u' 19 = nI (pLoad tp xn).1) ∧ (((pLoad tp xn).1 = 0 ∧ rF u' 17 = -1 ∧ rF u' 18 = -1) ∨ ((pLoad tp xn).1 ≠ 0 ∧ rF u' 17 = nI (pLoad tp xn).2.1 ∧ rF u' 18 = nI (pLoad tp xn).2.2.1)) ∧ FR [1, 3, 16] [1, 2, 10, 11, 12, 13, 14, 15, 16, 17, 18, 19, 20] false u u') (BR dC dI cs b) (AR b sz)) 0 0 (AR b sz) := by
  refine Met.ofW (cc := cX12_load) (maxL := 3) (ret := (some .int)) (by decide) rfl ?_
  intro p e s m args below meth c s₁ B hml hv
  obtain ⟨rfl, hsz, hP, hK, hJ, hE, hX, hZ⟩ := hv
  have hx := B.exec
  have hb := B.bytes
  have hr := B.returns
  have hown : s.vm.findClass RX12 = some m.cls := findClass_of_methodNamed B.named
  have hlocks := B.notSynchronized
  subst hsz
  have hAL : ∀ i, i < 108 → AR b s.heap.size (b i) := fun i h => Or.inl ⟨i, h, rfl⟩
  have hA : ∀ q : Nat, s.heap.size ≤ q → AR b s.heap.size q := fun q h => Or.inr h
  have hS : va_S (AR b s.heap.size) s.heap s.heap [] := va_S.rf
  have hfr : FR [1, 3, 16] [1, 2, 10, 11, 12, 13, 14, 15, 16, 17, 18, 19, 20] false u u := FR.refl
  have hl := lv_entry ([.ref (b 0), .int (nI xn)]) (n := 3) (Nat.le_of_ble_eq_true rfl)
  rw [lg_entry_eq]
  generalize (lg_sl ([.ref (b 0), .int (nI xn)]) ++ List.replicate (3 - (lg_sl ([.ref (b 0), .int (nI xn)])).length) Slot.unset).toArray = ls at hl ⊢
  have hl : lv_has ls 3 [(0, .ref (b 0)), (1, .int (nI xn))] := hl
  have hB := ab_0 hp0
  have hG := bg_g hB
  have ha2 := gg_le hG
  have ha2b := bg_w hB
  have hxn := nI_toInt (n := xn) (by omega)
  refine lv_iload_n hx hb dX12_load_0 rfl (lv_at hl 1 rfl) ?_
  refine lv_iconst (v := 0) hx hb dX12_load_1 (by decide) ?_
  refine lv_aload_n hx hb dX12_load_2 rfl (lv_at hl 0 rfl) ?_
  refine r_get (v := .int (nI tt)) hx hb (ly_X12 hE) hown hK hP rfl 10 (by decide) (wd_1391 hE) (fun _ h9 => h9) (congrArg (fun z : Int32 => some (Value.int z)) hF10) dX12_load_3 ?_
  refine vp_callSi (va_Run.run (va_runS (As := [.int (nI xn), .int 0, .int (nI tt)]) (rest := []) ⟨hx, hb, hml, hown, noTs⟩ (r_X12_isFrom l dC dI s.heap.size cs b u a hA1 (nI xn) 0 (nI tt) ((0 : Int)) (((tt : Nat) : Int)) (show Int32.toInt 0 = 0 from rfl) (nI_toInt (n := tt) (by omega))) ⟨cbE 3 (wd_1494 hE) (wd_126 hE) (wd_1492 hE) rfl rfl (by decide +kernel) ⟨Nat.le_of_ble_eq_true rfl, Nat.le_of_ble_eq_true rfl⟩, (wd_1493 hE)⟩ ⟨PR.blind, (r_pre (av := [.int (nI xn), .int 0, .int (nI tt)]) hK hP hJ hE)⟩ rfl rfl hl.1 rfl (lv_room (Nat.le_of_ble_eq_true rfl)) dX12_load_6 ⟨Nat.le_of_ble_eq_true rfl, Nat.le_of_ble_eq_true rfl⟩)) (fun r8 hr8 => ?_)
  rcases hr8 with ⟨rfl, hb8⟩ | ⟨rfl, hb8⟩
  · refine lv_if_ne (tgt := 18) hx hb dX12_load_9 (by decide) (fun c9 => ?_) (fun c9 => absurd c9 (by decide))
    refine lv_aload_n hx hb dX12_load_18 rfl (lv_at hl 0 rfl) ?_
    refine lv_iload_n hx hb dX12_load_19 rfl (lv_at hl 1 rfl) ?_
    refine r_put (v := nI xn) hx hb (ly_X12 hE) tyX12 tyX12_ok nmX12 hown hK hP hJ hAL hS rfl 11 (by decide) (wd_1392 hE) (fun _ h9 => h9) rfl (by decide +kernel) rfl (by decide) dX12_load_20 (fun u10 H locs hf10 hq10 hP hS => ?_)
    have hA11 := (hq10.1 1 List.not_mem_nil).trans hA1
    have hA12 := (hq10.1 15 List.not_mem_nil).trans hAc15
    have hF13x := (hq10.2.1 10 (by decide)).trans hF10
    have hF14x := (hq10.2.1 2 (by decide)).trans hF2
    have hF15x := (hq10.2.1 15 (by decide)).trans hF15
    have hfr := FR.step hfr hq10 (fun _ h => absurd h List.not_mem_nil) (by decide) (fun h => rfl)
    refine lv_iconst (v := 0) hx hb dX12_load_23 (by decide) ?_
    refine lv_istore_n (lv' := [(2, .int 0), (0, .ref (b 0)), (1, .int (nI xn))]) hx hb dX12_load_24 rfl hl (by decide) rfl (fun ls hl => ?_)
    obtain ⟨g16, hg16⟩ : ∃ g, rA u10 16 = g := ⟨_, rfl⟩
    refine r_ind (I := fun n u_ H locs ls => va_P (dC, dI) vwCl (rW cs b u_) H ∧ va_S (AR b s.heap.size) s.heap H locs ∧ FR [1, 3, 16] [1, 2, 10, 11, 12, 13, 14, 15, 16, 17, 18, 19, 20] false u u_ ∧ ∃ (k_17 : Nat) (g1_17 : Nat → Int32), n = xn - k_17 ∧ (k_17 ≤ xn) ∧ (∀ q, q < k_17 → g1_17 q = tp q) ∧ (rA u_ 1 = a) ∧ (rA u_ 16 = g1_17) ∧ (rF u_ 2 = nI ac) ∧ (rF u_ 10 = nI tt) ∧ (rF u_ 11 = nI xn) ∧ (rF u_ 15 = nI v0) ∧ lv_has ls 3 [(0, .ref (b 0)), (1, .int (nI xn)), (2, .int (nI k_17))]) (fun n u17 H locs ls hI ih17 => ?_) _ u10 _ _ _ ⟨hP, hS, hfr, 0, g16, rfl, (by first | assumption | omega | rfl | (congr 1; omega)), (by intro q hq; omega), hA11, hg16, hF14x, hF13x, hf10, hF15x, lv_sub hl [1, 2, 0] rfl⟩
    obtain ⟨hP, hS, hfr, k_17, g1_17, hmu17, hL17_0, hL17_1, hL17_2, hL17_3, hL17_4, hL17_5, hL17_6, hL17_7, hl⟩ := hI
    have hA18 := (hfr.1 15 (by decide)).trans hAc15
    subst hmu17
    refine lv_iload_n hx hb dX12_load_25 rfl (lv_at hl 2 rfl) ?_
    refine lv_iload_n hx hb dX12_load_26 rfl (lv_at hl 1 rfl) ?_
    refine lv_icmp_ge (tgt := 48) hx hb dX12_load_27 (by decide) (fun c19 => ?_) (fun c19 => ?_)
    · have c19 := (b_le (nI_toInt (n := xn) (by omega)) (nI_toInt (n := k_17) (by omega))).mp c19
      refine lv_aload_n hx hb dX12_load_48 rfl (lv_at hl 0 rfl) ?_
      refine lv_iconst (v := 0) hx hb dX12_load_49 (by decide) ?_
      refine r_put (v := 0) hx hb (ly_X12 hE) tyX12 tyX12_ok nmX12 hown hK hP hJ hAL hS rfl 10 (by decide) (wd_1391 hE) (fun _ h9 => h9) rfl (by decide +kernel) rfl (by decide) dX12_load_50 (fun u20 H locs hf20 hq20 hP hS => ?_)
      have hA21 := (hq20.1 15 List.not_mem_nil).trans hA18
      have hA22 := (hq20.1 1 List.not_mem_nil).trans hL17_2
      have hA23 := (hq20.1 16 List.not_mem_nil).trans hL17_3
      have hF24x := (hq20.2.1 2 (by decide)).trans hL17_4
      have hF25x := (hq20.2.1 11 (by decide)).trans hL17_6
      have hF26x := (hq20.2.1 15 (by decide)).trans hL17_7
      have hfr := FR.step hfr hq20 (fun _ h => absurd h List.not_mem_nil) (by decide) (fun h => rfl)
      refine lv_aload_n hx hb dX12_load_53 rfl (lv_at hl 0 rfl) ?_
      refine lv_iconst (v := 0) hx hb dX12_load_54 (by decide) ?_
      refine r_put (v := 0) hx hb (ly_X12 hE) tyX12 tyX12_ok nmX12 hown hK hP hJ hAL hS rfl 16 (by decide) (wd_1397 hE) (fun _ h9 => h9) rfl (by decide +kernel) rfl (by decide) dX12_load_55 (fun u27 H locs hf27 hq27 hP hS => ?_)
      have hA28 := (hq27.1 15 List.not_mem_nil).trans hA21
      have hA29 := (hq27.1 1 List.not_mem_nil).trans hA22
      have hA30 := (hq27.1 16 List.not_mem_nil).trans hA23
      have hF31x := (hq27.2.1 2 (by decide)).trans hF24x
      have hF32x := (hq27.2.1 11 (by decide)).trans hF25x
      have hF33x := (hq27.2.1 15 (by decide)).trans hF26x
      have hF34x := (hq27.2.1 10 (by decide)).trans hf20
      have hfr := FR.step hfr hq27 (fun _ h => absurd h List.not_mem_nil) (by decide) (fun h => rfl)
      refine lv_aload_n hx hb dX12_load_58 rfl (lv_at hl 0 rfl) ?_
      refine lv_iconst (v := -1) hx hb dX12_load_59 (by decide) ?_
      refine r_put (v := -1) hx hb (ly_X12 hE) tyX12 tyX12_ok nmX12 hown hK hP hJ hAL hS rfl 17 (by decide) (wd_1398 hE) (fun _ h9 => h9) rfl (by decide +kernel) rfl (by decide) dX12_load_60 (fun u35 H locs hf35 hq35 hP hS => ?_)
      have hA36 := (hq35.1 15 List.not_mem_nil).trans hA28
      have hA37 := (hq35.1 1 List.not_mem_nil).trans hA29
      have hA38 := (hq35.1 16 List.not_mem_nil).trans hA30
      have hF39x := (hq35.2.1 2 (by decide)).trans hF31x
      have hF40x := (hq35.2.1 11 (by decide)).trans hF32x
      have hF41x := (hq35.2.1 15 (by decide)).trans hF33x
      have hF42x := (hq35.2.1 10 (by decide)).trans hF34x
      have hF43x := (hq35.2.1 16 (by decide)).trans hf27
      have hfr := FR.step hfr hq35 (fun _ h => absurd h List.not_mem_nil) (by decide) (fun h => rfl)
      refine lv_aload_n hx hb dX12_load_63 rfl (lv_at hl 0 rfl) ?_
      refine lv_iconst (v := -1) hx hb dX12_load_64 (by decide) ?_
      refine r_put (v := -1) hx hb (ly_X12 hE) tyX12 tyX12_ok nmX12 hown hK hP hJ hAL hS rfl 18 (by decide) (wd_1399 hE) (fun _ h9 => h9) rfl (by decide +kernel) rfl (by decide) dX12_load_65 (fun u44 H locs hf44 hq44 hP hS => ?_)
      have hA45 := (hq44.1 15 List.not_mem_nil).trans hA36
      have hA46 := (hq44.1 1 List.not_mem_nil).trans hA37
      have hA47 := (hq44.1 16 List.not_mem_nil).trans hA38
      have hF48x := (hq44.2.1 2 (by decide)).trans hF39x
      have hF49x := (hq44.2.1 11 (by decide)).trans hF40x
      have hF50x := (hq44.2.1 15 (by decide)).trans hF41x
      have hF51x := (hq44.2.1 10 (by decide)).trans hF42x
      have hF52x := (hq44.2.1 16 (by decide)).trans hF43x
      have hF53x := (hq44.2.1 17 (by decide)).trans hf35
      have hfr := FR.step hfr hq44 (fun _ h => absurd h List.not_mem_nil) (by decide) (fun h => rfl)
      refine lv_aload_n hx hb dX12_load_68 rfl (lv_at hl 0 rfl) ?_
      refine lv_iconst (v := 0) hx hb dX12_load_69 (by decide) ?_
      refine r_put (v := 0) hx hb (ly_X12 hE) tyX12 tyX12_ok nmX12 hown hK hP hJ hAL hS rfl 20 (by decide) (wd_1401 hE) (fun _ h9 => h9) rfl (by decide +kernel) rfl (by decide) dX12_load_70 (fun u54 H locs hf54 hq54 hP hS => ?_)
      have hA55 := (hq54.1 15 List.not_mem_nil).trans hA45
      have hA56 := (hq54.1 1 List.not_mem_nil).trans hA46
      have hA57 := (hq54.1 16 List.not_mem_nil).trans hA47
      have hF58x := (hq54.2.1 2 (by decide)).trans hF48x
      have hF59x := (hq54.2.1 11 (by decide)).trans hF49x
      have hF60x := (hq54.2.1 15 (by decide)).trans hF50x
      have hF61x := (hq54.2.1 10 (by decide)).trans hF51x
      have hF62x := (hq54.2.1 16 (by decide)).trans hF52x
      have hF63x := (hq54.2.1 17 (by decide)).trans hF53x
      have hF64x := (hq54.2.1 18 (by decide)).trans hf44
      have hfr := FR.step hfr hq54 (fun _ h => absurd h List.not_mem_nil) (by decide) (fun h => rfl)
      refine lv_aload_n hx hb dX12_load_73 rfl (lv_at hl 0 rfl) ?_
      refine lv_iconst (v := 0) hx hb dX12_load_74 (by decide) ?_
      refine r_put (v := 0) hx hb (ly_X12 hE) tyX12 tyX12_ok nmX12 hown hK hP hJ hAL hS rfl 14 (by decide) (wd_1395 hE) (fun _ h9 => h9) rfl (by decide +kernel) rfl (by decide) dX12_load_75 (fun u65 H locs hf65 hq65 hP hS => ?_)
      have hA66 := (hq65.1 15 List.not_mem_nil).trans hA55
      have hA67 := (hq65.1 1 List.not_mem_nil).trans hA56
      have hA68 := (hq65.1 16 List.not_mem_nil).trans hA57
      have hF69x := (hq65.2.1 2 (by decide)).trans hF58x
      have hF70x := (hq65.2.1 11 (by decide)).trans hF59x
      have hF71x := (hq65.2.1 15 (by decide)).trans hF60x
      have hF72x := (hq65.2.1 10 (by decide)).trans hF61x
      have hF73x := (hq65.2.1 16 (by decide)).trans hF62x
      have hF74x := (hq65.2.1 17 (by decide)).trans hF63x
      have hF75x := (hq65.2.1 18 (by decide)).trans hF64x
      have hF76x := (hq65.2.1 20 (by decide)).trans hf54
      have hfr := FR.step hfr hq65 (fun _ h => absurd h List.not_mem_nil) (by decide) (fun h => rfl)
      refine lv_aload_n hx hb dX12_load_78 rfl (lv_at hl 0 rfl) ?_
      refine lv_iconst (v := 0) hx hb dX12_load_79 (by decide) ?_
      refine lv_sipush (v := 554) hx hb dX12_load_80 (by decide) ?_
      refine rc_v hAL hS hA (va_runV (As := [.int (nI 0), .int (nI 554)]) (rest := []) ⟨hx, hb, hml, hown, noTs⟩ (r_X12_copies l dC dI H.size cs b u65 a hA67 0 554 (by first | assumption | omega | rfl | (congr 1; omega)) (by first | assumption | omega | rfl | (congr 1; omega)) (by first | assumption | omega | rfl | (congr 1; omega))) ⟨cbE 2 (wd_1502 hE) (wd_126 hE) (wd_1499 hE) rfl rfl (by decide +kernel) ⟨Nat.le_of_ble_eq_true rfl, Nat.le_of_ble_eq_true rfl⟩, (wd_1501 hE), (wd_55 hE)⟩ ⟨PR.blind, r_recv hK hP rfl, (r_pre (av := [.ref (b 0), .int (nI 0), .int (nI 554)]) hK hP hJ hE)⟩ rfl rfl hl.1 rfl (lv_room (Nat.le_of_ble_eq_true rfl)) dX12_load_83 ⟨Nat.le_of_ble_eq_true rfl, Nat.le_of_ble_eq_true rfl⟩) (fun u77 H locs hpo77 hP hS => ?_)
      obtain ⟨h77_0, h77_1, hq77⟩ := hpo77
      obtain ⟨w78, hA78⟩ : ∃ g, rA u77 1 = g := ⟨_, rfl⟩
      rw [hA78] at h77_0 h77_1
      have hA79 := (hq77.1 15 (by decide)).trans hA66
      have hA80 := (hq77.1 16 (by decide)).trans hA68
      have hF81x := (hq77.2.1 2 List.not_mem_nil).trans hF69x
      have hF82x := (hq77.2.1 11 List.not_mem_nil).trans hF70x
      have hF83x := (hq77.2.1 15 List.not_mem_nil).trans hF71x
      have hF84x := (hq77.2.1 10 List.not_mem_nil).trans hF72x
      have hF85x := (hq77.2.1 16 List.not_mem_nil).trans hF73x
      have hF86x := (hq77.2.1 17 List.not_mem_nil).trans hF74x
      have hF87x := (hq77.2.1 18 List.not_mem_nil).trans hF75x
      have hF88x := (hq77.2.1 20 List.not_mem_nil).trans hF76x
      have hF89x := (hq77.2.1 14 List.not_mem_nil).trans hf65
      have hfr := FR.step hfr hq77 (by decide) (fun _ h => absurd h List.not_mem_nil) (fun h => rfl)
      have AB1 := ab_copy (i := 0) (j := 1) (by omega) hp0 (fun q hq => (congrArg w78 (show 554 * 1 + q = 554 + q by omega)).trans ((h77_0 q hq).trans (congrArg a (by omega)))) (fun q hq => h77_1 q (by omega))
      refine lv_iconst (v := 0) hx hb dX12_load_86 (by decide) ?_
      refine lv_istore_n (lv' := [(2, .int 0), (0, .ref (b 0)), (1, .int (nI xn))]) hx hb dX12_load_87 rfl hl (by decide) rfl (fun ls hl => ?_)
      refine r_ind (I := fun n u_ H locs ls => va_P (dC, dI) vwCl (rW cs b u_) H ∧ va_S (AR b s.heap.size) s.heap H locs ∧ FR [1, 3, 16] [1, 2, 10, 11, 12, 13, 14, 15, 16, 17, 18, 19, 20] false u u_ ∧ ∃ (k_90 : Nat) (g_90 : Nat → Int32), n = 554 - k_90 ∧ (k_90 ≤ 554) ∧ (∀ q, q < k_90 → g_90 q = 0) ∧ (∀ q, k_90 ≤ q → g_90 q = w78 q) ∧ (rA u_ 1 = g_90) ∧ (rA u_ 16 = g1_17) ∧ (rF u_ 2 = nI ac) ∧ (rF u_ 10 = 0) ∧ (rF u_ 11 = nI xn) ∧ (rF u_ 14 = 0) ∧ (rF u_ 15 = nI v0) ∧ (rF u_ 16 = 0) ∧ (rF u_ 17 = -1) ∧ (rF u_ 18 = -1) ∧ (rF u_ 20 = 0) ∧ lv_has ls 3 [(0, .ref (b 0)), (1, .int (nI xn)), (2, .int (nI k_90))]) (fun n u90 H locs ls hI ih90 => ?_) _ u77 _ _ _ ⟨hP, hS, hfr, 0, w78, rfl, (by first | assumption | omega | rfl | (congr 1; omega)), (by intro q hq; omega), (by intro q _; rfl), hA78, hA80, hF81x, hF84x, hF82x, hF89x, hF83x, hF85x, hF86x, hF87x, hF88x, lv_sub hl [1, 2, 0] rfl⟩
      obtain ⟨hP, hS, hfr, k_90, g_90, hmu90, hL90_0, hL90_1, hL90_2, hL90_3, hL90_4, hL90_5, hL90_6, hL90_7, hL90_8, hL90_9, hL90_10, hL90_11, hL90_12, hL90_13, hl⟩ := hI
      have hA91 := (hfr.1 15 (by decide)).trans hAc15
      subst hmu90
      refine lv_iload_n hx hb dX12_load_88 rfl (lv_at hl 2 rfl) ?_
      refine lv_sipush (v := 554) hx hb dX12_load_89 (by decide) ?_
      refine lv_icmp_ge (tgt := 108) hx hb dX12_load_92 (by decide) (fun c92 => ?_) (fun c92 => ?_)
      · have c92 := (b_le (show Int32.toInt 554 = 554 from rfl) (nI_toInt (n := k_90) (by omega))).mp c92
        have bgz := bg_zero (fun k hk => hL90_1 k (by omega))
        have ga0 := ga_zero (fun k hk => hL90_1 k (by omega))
        have LF88o : ∀ q, 554 ≤ q → g_90 q = w78 q := fun q hq => hL90_2 q (by omega)
        have TXC : bA g1_17 xn = bA tp xn := funext fun k => by unfold bA; by_cases h : k < xn; (rw [if_pos h, if_pos h, hL17_1 k (by omega)]); (rw [if_neg h, if_neg h])
        refine lv_aload_n hx hb dX12_load_108 rfl (lv_at hl 0 rfl) ?_
        refine rc_v hAL hS hA (va_runV (As := []) (rest := []) ⟨hx, hb, hml, hown, noTs⟩ (x_X12_ahead l dC dI H.size cs b u90 g1_17 hL90_4 xn 0 v0 hL90_7 hL90_8 hL90_9 (by first | assumption | omega | rfl | (congr 1; omega)) (by first | assumption | omega | rfl | (congr 1; omega)) (by first | assumption | omega | rfl | (congr 1; omega))) ⟨cbE 0 (wd_1506 hE) (wd_126 hE) (wd_1503 hE) rfl rfl (by decide +kernel) ⟨Nat.le_of_ble_eq_true rfl, Nat.le_of_ble_eq_true rfl⟩, (wd_1505 hE), (wd_56 hE)⟩ ⟨PR.blind, r_recv hK hP rfl, (r_pre (av := [.ref (b 0)]) hK hP hJ hE)⟩ rfl rfl hl.1 rfl (lv_room (Nat.le_of_ble_eq_true rfl)) dX12_load_109 ⟨Nat.le_of_ble_eq_true rfl, Nat.le_of_ble_eq_true rfl⟩) (fun u93 H locs hpo93 hP hS => ?_)
        obtain ⟨h93_0, hq93⟩ := hpo93
        have hA94 := (hq93.1 15 List.not_mem_nil).trans hA91
        have hA95 := (hq93.1 1 List.not_mem_nil).trans hL90_3
        have hA96 := (hq93.1 16 List.not_mem_nil).trans hL90_4
        have hF97x := (hq93.2.1 2 (by decide)).trans hL90_5
        have hF98x := (hq93.2.1 10 (by decide)).trans hL90_6
        have hF99x := (hq93.2.1 11 (by decide)).trans hL90_7
        have hF100x := (hq93.2.1 16 (by decide)).trans hL90_10
        have hF101x := (hq93.2.1 17 (by decide)).trans hL90_11
        have hF102x := (hq93.2.1 18 (by decide)).trans hL90_12
        have hF103x := (hq93.2.1 20 (by decide)).trans hL90_13
        have hfr := FR.step hfr hq93 (fun _ h => absurd h List.not_mem_nil) (by decide) (fun h => rfl)
        have hte104 : TE u93 g1_17 xn (skp g1_17 xn 0) := h93_0
        obtain ⟨te13_104, te14_104, te12_104, tep104, tv104, tvl104, te15_104, tvv104⟩ := hte104
        have tkf104 := kd_f g1_17 xn (skp g1_17 xn 0)
        have tna104 := tnd_le (tx := g1_17) tep104
        have tnb104 := fun h : (skp g1_17 xn 0) < xn => tnd_gt (tx := g1_17) h
        refine lv_iconst (v := 1) hx hb dX12_load_112 (by decide) ?_
        refine lv_istore_n (lv' := [(2, .int 1), (0, .ref (b 0)), (1, .int (nI xn))]) hx hb dX12_load_113 rfl hl (by decide) rfl (fun ls hl => ?_)
        refine r_ind (I := fun n u_ H locs ls => va_P (dC, dI) vwCl (rW cs b u_) H ∧ va_S (AR b s.heap.size) s.heap H locs ∧ FR [1, 3, 16] [1, 2, 10, 11, 12, 13, 14, 15, 16, 17, 18, 19, 20] false u u_ ∧ ∃ (g_105 : Nat → Int32) (pz_105 : Nat) (gr_105 : PGr) (lz_105 : Nat), n = 701 - pz_105 ∧ (BG g_105) ∧ (∀ q, 554 ≤ q → g_105 q = w78 q) ∧ (TE u_ g1_17 xn pz_105) ∧ (GA g_105 gr_105) ∧ (lz_105 ≤ pz_105) ∧ (pAll g1_17 xn (700 - lz_105) gr_105 pz_105 lz_105 = pLoad g1_17 xn) ∧ (rA u_ 1 = g_105) ∧ (rA u_ 16 = g1_17) ∧ (rF u_ 2 = nI ac) ∧ (rF u_ 10 = 0) ∧ (rF u_ 11 = nI xn) ∧ (rF u_ 16 = 0) ∧ (rF u_ 17 = -1) ∧ (rF u_ 18 = -1) ∧ (rF u_ 20 = nI lz_105) ∧ lv_has ls 3 [(0, .ref (b 0)), (1, .int (nI xn)), (2, .int 1)]) (fun n u105 H locs ls hI ih105 => ?_) _ u93 _ _ _ ⟨hP, hS, hfr, g_90, (skp g1_17 xn 0), g0, 0, rfl, (by exact bgz), (by exact LF88o), (by exact ⟨te13_104, te14_104, te12_104, by omega, _, by omega, te15_104, tvv104⟩), (by exact ga0), (by omega), (by rfl), hA95, hA96, hF97x, hF98x, hF99x, hF100x, hF101x, hF102x, hF103x, lv_sub hl [1, 2, 0] rfl⟩
        obtain ⟨hP, hS, hfr, g_105, pz_105, gr_105, lz_105, hmu105, hL105_0, hL105_1, hL105_2, hL105_3, hL105_4, hL105_5, hL105_6, hL105_7, hL105_8, hL105_9, hL105_10, hL105_11, hL105_12, hL105_13, hL105_14, hl⟩ := hI
        have hA106 := (hfr.1 15 (by decide)).trans hAc15
        subst hmu105
        have hB := hL105_0
        have hG := bg_g hL105_0
        have ha107 := gg_le hG
        have ha107b := bg_w hL105_0
        clear tkf104 tnb104
        have hte108 : TE u105 g1_17 xn pz_105 := hL105_2
        obtain ⟨te13_108, te14_108, te12_108, tep108, tv108, tvl108, te15_108, tvv108⟩ := hte108
        have tkf108 := kd_f g1_17 xn pz_105
        have tna108 := tnd_le (tx := g1_17) tep108
        have tnb108 := fun h : pz_105 < xn => tnd_gt (tx := g1_17) h
        refine lv_iload_n hx hb dX12_load_114 rfl (lv_at hl 2 rfl) ?_
        refine lv_if_eq (tgt := 133) hx hb dX12_load_115 (by decide) (fun c109 => absurd c109 (by decide)) (fun c109 => ?_)
        refine lv_aload_n hx hb dX12_load_118 rfl (lv_at hl 0 rfl) ?_
        refine r_get (v := .int (nI (tkr (kd g1_17 xn pz_105)))) hx hb (ly_X12 hE) hown hK hP rfl 12 (by decide) (wd_1393 hE) (fun _ h9 => h9) (congrArg (fun z : Int32 => some (Value.int z)) te12_108) dX12_load_119 ?_
        refine lv_if_eq (tgt := 133) hx hb dX12_load_122 (by decide) (fun c110 => ?_) (fun c110 => ?_)
        · have c110 := (b_eq (nI_toInt (n := tkr (kd g1_17 xn pz_105)) (by omega)) (show Int32.toInt 0 = 0 from rfl)).mp c110
          have KZ : kd g1_17 xn pz_105 = 0 := by omega
          have abg := ab_now AB1 hL105_0 hL105_1
          have PF : pLoad g1_17 xn = (0, pz_105, lz_105, gr_105) := hL105_5.symm.trans (pa_e KZ)
          refine lv_aload_n hx hb dX12_load_133 rfl (lv_at hl 0 rfl) ?_
          refine lv_aload_n hx hb dX12_load_134 rfl (lv_at hl 0 rfl) ?_
          refine r_get (v := .int 0) hx hb (ly_X12 hE) hown hK hP rfl 16 (by decide) (wd_1397 hE) (fun _ h9 => h9) (congrArg (fun z : Int32 => some (Value.int z)) hL105_11) dX12_load_135 ?_
          refine r_put (v := 0) hx hb (ly_X12 hE) tyX12 tyX12_ok nmX12 hown hK hP hJ hAL hS rfl 19 (by decide) (wd_1400 hE) (fun _ h9 => h9) rfl (by decide +kernel) rfl (by decide) dX12_load_138 (fun u111 H locs hf111 hq111 hP hS => ?_)
          have hA112 := (hq111.1 15 List.not_mem_nil).trans hA106
          have hA113 := (hq111.1 1 List.not_mem_nil).trans hL105_6
          have hA114 := (hq111.1 16 List.not_mem_nil).trans hL105_7
          have hF115x := (hq111.2.1 2 (by decide)).trans hL105_8
          have hF116x := (hq111.2.1 10 (by decide)).trans hL105_9
          have hF117x := (hq111.2.1 11 (by decide)).trans hL105_10
          have hF118x := (hq111.2.1 16 (by decide)).trans hL105_11
          have hF119x := (hq111.2.1 17 (by decide)).trans hL105_12
          have hF120x := (hq111.2.1 18 (by decide)).trans hL105_13
          have hF121x := (hq111.2.1 20 (by decide)).trans hL105_14
          have hF122x := (hq111.2.1 13 (by decide)).trans te13_108
          have hF123x := (hq111.2.1 14 (by decide)).trans te14_108
          have hF124x := (hq111.2.1 12 (by decide)).trans te12_108
          have hF125x := (hq111.2.1 15 (by decide)).trans te15_108
          have hfr := FR.step hfr hq111 (fun _ h => absurd h List.not_mem_nil) (by decide) (fun h => rfl)
          refine lv_aload_n hx hb dX12_load_141 rfl (lv_at hl 0 rfl) ?_
          refine r_get (v := .int 0) hx hb (ly_X12 hE) hown hK hP rfl 16 (by decide) (wd_1397 hE) (fun _ h9 => h9) (congrArg (fun z : Int32 => some (Value.int z)) hF118x) dX12_load_142 ?_
          refine lv_if_le (tgt := 163) hx hb dX12_load_145 (by decide) (fun c126 => ?_) (fun c126 => absurd c126 (by decide))
          refine lv_aload_n hx hb dX12_load_163 rfl (lv_at hl 0 rfl) ?_
          refine lv_sipush (v := 554) hx hb dX12_load_164 (by decide) ?_
          refine rc_v hAL hS hA (va_runV (As := [.int (nI 554)]) (rest := []) ⟨hx, hb, hml, hown, noTs⟩ (r_X12_acted l dC dI H.size cs b u111 g_105 hA113 554 ac hF115x (by first | assumption | omega | rfl | (congr 1; omega)) (by first | assumption | omega | rfl | (congr 1; omega)) (by first | assumption | omega | rfl | (congr 1; omega))) ⟨cbE 1 (wd_1617 hE) (wd_126 hE) (wd_1614 hE) rfl rfl (by decide +kernel) ⟨Nat.le_of_ble_eq_true rfl, Nat.le_of_ble_eq_true rfl⟩, (wd_1616 hE), (wd_79 hE)⟩ ⟨PR.blind, r_recv hK hP rfl, (r_pre (av := [.ref (b 0), .int (nI 554)]) hK hP hJ hE)⟩ rfl rfl hl.1 rfl (lv_room (Nat.le_of_ble_eq_true rfl)) dX12_load_167 ⟨Nat.le_of_ble_eq_true rfl, Nat.le_of_ble_eq_true rfl⟩) (fun u127 H locs hpo127 hP hS => ?_)
          obtain ⟨h127_0, h127_1, h127_2, hq127⟩ := hpo127
          obtain ⟨w128, hA128⟩ : ∃ g, rA u127 1 = g := ⟨_, rfl⟩
          rw [hA128] at h127_0 h127_1
          obtain ⟨n127_2, hn127_2, hfe127_2⟩ := h127_2
          have hA129 := (hq127.1 15 (by decide)).trans hA112
          have hA130 := (hq127.1 16 (by decide)).trans hA114
          have hF131x := (hq127.2.1 10 (by decide)).trans hF116x
          have hF132x := (hq127.2.1 11 (by decide)).trans hF117x
          have hF133x := (hq127.2.1 16 (by decide)).trans hF118x
          have hF134x := (hq127.2.1 17 (by decide)).trans hF119x
          have hF135x := (hq127.2.1 18 (by decide)).trans hF120x
          have hF136x := (hq127.2.1 20 (by decide)).trans hF121x
          have hF137x := (hq127.2.1 13 (by decide)).trans hF122x
          have hF138x := (hq127.2.1 14 (by decide)).trans hF123x
          have hF139x := (hq127.2.1 12 (by decide)).trans hF124x
          have hF140x := (hq127.2.1 15 (by decide)).trans hF125x
          have hF141x := (hq127.2.1 19 (by decide)).trans hf111
          have hfr := FR.step hfr hq127 (by decide) (by decide) (fun h => rfl)
          have hB := ab_0 h127_0
          have hG := bg_g hB
          have ha142 := gg_le hG
          have ha142b := bg_w hB
          have OA := h127_1
          refine lv_aload_n hx hb dX12_load_170 rfl (lv_at hl 0 rfl) ?_
          refine lv_aload_n hx hb dX12_load_171 rfl (lv_at hl 0 rfl) ?_
          refine lv_iconst (v := 2) hx hb dX12_load_172 (by decide) ?_
          refine vp_callSi (va_Run.run (va_runV (As := [.int (nI 2)]) (rest := [.ref (b 0)]) ⟨hx, hb, hml, hown, noTs⟩ (r_X12_of l dC dI H.size cs b u127 w128 hA128 2 (by first | assumption | omega | rfl | (congr 1; omega))) ⟨cbE 1 (wd_1536 hE) (wd_126 hE) (wd_1533 hE) rfl rfl (by decide +kernel) ⟨Nat.le_of_ble_eq_true rfl, Nat.le_of_ble_eq_true rfl⟩, (wd_1535 hE), (wd_61 hE)⟩ ⟨PR.blind, r_recv hK hP rfl, (r_pre (av := [.ref (b 0), .int (nI 2)]) hK hP hJ hE)⟩ rfl rfl hl.1 rfl (lv_room (Nat.le_of_ble_eq_true rfl)) dX12_load_173 ⟨Nat.le_of_ble_eq_true rfl, Nat.le_of_ble_eq_true rfl⟩)) (fun r143 hr143 => ?_)
          have hr143 := hr143.trans ((show w128 2 = nI (wN g_105) by rw [OA 2 (by omega)]; exact (bg_w hL105_0).1))
          subst hr143
          refine rc_i hAL hS hA (va_runV (As := [.int (nI (wN g_105))]) (rest := []) ⟨hx, hb, hml, hown, noTs⟩ (r_X12_gives l dC dI H.size cs b u127 w128 hA128 (nI (wN g_105))) ⟨cbE 1 (wd_1621 hE) (wd_126 hE) (wd_1618 hE) rfl rfl (by decide +kernel) ⟨Nat.le_of_ble_eq_true rfl, Nat.le_of_ble_eq_true rfl⟩, (wd_1620 hE), (wd_80 hE)⟩ ⟨PR.blind, r_recv hK hP rfl, (r_pre (av := [.ref (b 0), .int (nI (wN g_105))]) hK hP hJ hE)⟩ rfl rfl hl.1 rfl (lv_room (Nat.le_of_ble_eq_true rfl)) dX12_load_176 ⟨Nat.le_of_ble_eq_true rfl, Nat.le_of_ble_eq_true rfl⟩) (fun r144 u144 H locs hpo144 hP hS => ?_)
          obtain ⟨hr144, hq144⟩ := hpo144
          have hA145 := (hq144.1 15 List.not_mem_nil).trans hA129
          have hA146 := (hq144.1 16 List.not_mem_nil).trans hA130
          have hA147 := (hq144.1 1 List.not_mem_nil).trans hA128
          have hF148x := (hq144.2.1 10 (by decide)).trans hF131x
          have hF149x := (hq144.2.1 11 (by decide)).trans hF132x
          have hF150x := (hq144.2.1 16 (by decide)).trans hF133x
          have hF151x := (hq144.2.1 17 (by decide)).trans hF134x
          have hF152x := (hq144.2.1 18 (by decide)).trans hF135x
          have hF153x := (hq144.2.1 20 (by decide)).trans hF136x
          have hF154x := (hq144.2.1 13 (by decide)).trans hF137x
          have hF155x := (hq144.2.1 14 (by decide)).trans hF138x
          have hF156x := (hq144.2.1 12 (by decide)).trans hF139x
          have hF157x := (hq144.2.1 15 (by decide)).trans hF140x
          have hF158x := (hq144.2.1 19 (by decide)).trans hF141x
          have hF159x := (hq144.2.1 2 (by decide)).trans hfe127_2
          have hfr := FR.step hfr hq144 (fun _ h => absurd h List.not_mem_nil) (by decide) (fun h => rfl)
          refine W.eq (g2 := F0 m 179 ls [.int (nI (wN g_105))]) (by rw [hr144]) ?_
          exact W.iret (v := nI (wN g_105)) hx hb hr (fun t ht hW => ⟨⟨nI (wN g_105), u144, rfl, ⟨(by rw [← pLoad_cg TXC, PF]; exact Or.inr ⟨rfl, congrArg nI hL105_3.2.2.1⟩), (by first | (rw [hA147]; done) | (rw [hA147]; assumption)), (by first | (rw [hF159x]; done) | (rw [hF159x]; refine ⟨_, ?_, rfl⟩; omega)), (by first | (rw [hF148x]; done) | (rw [hF148x]; first | rfl | assumption)), (by first | (rw [hF157x]; done) | (rw [hF157x]; refine ⟨_, ?_, rfl⟩; omega)), (by first | (rw [hF158x]; done) | (rw [hF158x]; first | (rw [← pLoad_cg TXC, PF]; done) | (rw [← pLoad_cg TXC, PF]; rfl))), (by first | (rw [hF151x, hF152x]; done) | (rw [hF151x, hF152x]; rw [← pLoad_cg TXC, PF]; first | exact Or.inl ⟨rfl, rfl, rfl⟩ | exact Or.inr ⟨NLE, rfl, rfl⟩)), hfr⟩, (show va_P (dC, dI) vwCl (rW cs b u144) t.heap by rw [ht]; exact hP)⟩, hS.F ht⟩) hS.2.2 dX12_load_179
        · have c110 := mt (b_eq (nI_toInt (n := tkr (kd g1_17 xn pz_105)) (by omega)) (show Int32.toInt 0 = 0 from rfl)).mpr c110
          have KN : kd g1_17 xn pz_105 ≠ 0 := by omega
          refine lv_aload_n hx hb dX12_load_125 rfl (lv_at hl 0 rfl) ?_
          refine rc_i hAL hS hA (va_runV (As := []) (rest := []) ⟨hx, hb, hml, hown, noTs⟩ (x_X12_aLine l dC dI H.size cs b u105 adK adV g_105 hL105_6 g1_17 hL105_7 xn pz_105 lz_105 (-1) (-1) gr_105 hL105_10 hL105_11 hL105_12 hL105_13 hL105_14 (by first | assumption | omega | rfl | (congr 1; omega)) ⟨te13_108, te14_108, te12_108, by omega, _, by omega, te15_108, tvv108⟩ (by first | assumption | omega | rfl | (congr 1; omega)) (by first | assumption | omega | rfl | (congr 1; omega))) ⟨cbE 0 (wd_1521 hE) (wd_126 hE) (wd_1518 hE) rfl rfl (by decide +kernel) ⟨Nat.le_of_ble_eq_true rfl, Nat.le_of_ble_eq_true rfl⟩, (wd_1520 hE), (wd_58 hE)⟩ ⟨PRX.blind, r_recv hK hP rfl, (rx_pre (av := [.ref (b 0)]) hK hP hJ hE hX hZ hS)⟩ rfl rfl hl.1 rfl (lv_room (Nat.le_of_ble_eq_true rfl)) dX12_load_126 ⟨Nat.le_of_ble_eq_true rfl, Nat.le_of_ble_eq_true rfl⟩) (fun r160 u160 H locs hpo160 hP hS => ?_)
          obtain ⟨hr160, h160_0, h160_1, h160_2, hq160⟩ := hpo160
          obtain ⟨w161, hA161⟩ : ∃ g, rA u160 1 = g := ⟨_, rfl⟩
          rw [hA161] at h160_0 h160_1 hr160
          obtain ⟨n160_2, hn160_2, hfe160_2⟩ := h160_2
          have hA162 := (hq160.1 15 (by decide)).trans hA106
          have hA163 := (hq160.1 16 (by decide)).trans hL105_7
          have hF164x := (hq160.2.1 2 (by decide)).trans hL105_8
          have hF165x := (hq160.2.1 10 (by decide)).trans hL105_9
          have hF166x := (hq160.2.1 11 (by decide)).trans hL105_10
          have hfr := FR.step hfr hq160 (by decide) (by decide) (fun h => rfl)
          have hB := h160_0
          have hG := bg_g h160_0
          have ha167 := gg_le hG
          have ha167b := bg_w h160_0
          have BO := h160_1
          rcases hr160 with ⟨rfl, hb160⟩ | ⟨rfl, hb160⟩
          · clear tkf108 tnb108
            have hte168 : TE u160 g1_17 xn ((pLine g1_17 xn gr_105 pz_105).2.1) := hb160.2.1
            obtain ⟨te13_168, te14_168, te12_168, tep168, tv168, tvl168, te15_168, tvv168⟩ := hte168
            have tkf168 := kd_f g1_17 xn ((pLine g1_17 xn gr_105 pz_105).2.1)
            have tna168 := tnd_le (tx := g1_17) tep168
            have tnb168 := fun h : ((pLine g1_17 xn gr_105 pz_105).2.1) < xn => tnd_gt (tx := g1_17) h
            have PL1 := hb160.1
            have GAL := hb160.2.2.1
            have PGT := pline_gt (tx := g1_17) (n := xn) (g := gr_105) (p := pz_105) (by omega) PL1
            refine lv_istore_n (lv' := [(2, .int 1), (0, .ref (b 0)), (1, .int (nI xn))]) hx hb dX12_load_129 rfl hl (by decide) rfl (fun ls hl => ?_)
            refine lv_goto (tgt := 114) hx hb dX12_load_130 (by decide) ?_
            exact ih105 _ u160 _ _ _ (by omega) ⟨hP, hS, hfr, w161, ((pLine g1_17 xn gr_105 pz_105).2.1), (pLine g1_17 xn gr_105 pz_105).2.2, lz_105 + 1, rfl, (by assumption), (by intro q hq; rw [BO q hq]; exact hL105_1 q hq), (by exact ⟨te13_168, te14_168, te12_168, by omega, _, by omega, te15_168, tvv168⟩), (by exact GAL), (by omega), (by rw [← pa_s KN PL1, show 700 - (lz_105 + 1) + 1 = 700 - lz_105 by omega]; exact hL105_5), hA161, hA163, hF164x, hF165x, hF166x, hb160.2.2.2.2.1, hb160.2.2.2.2.2.1, hb160.2.2.2.2.2.2, hb160.2.2.2.1, lv_sub hl [1, 2, 0] rfl⟩
          · have NLE := hb160.1
            have PLK := pline_k (tx := g1_17) (n := xn) (g := gr_105) (p := pz_105)
            have abg := ab_now AB1 h160_0 (fun q hq => (BO q hq).trans (hL105_1 q hq))
            have PF : pLoad g1_17 xn = ((pLine g1_17 xn gr_105 pz_105).1, (pLine g1_17 xn gr_105 pz_105).2.1, lz_105, gr_105) := hL105_5.symm.trans (by rw [show 700 - lz_105 = (699 - lz_105) + 1 by omega]; exact pa_f KN NLE)
            refine lv_istore_n (lv' := [(2, .int 0), (0, .ref (b 0)), (1, .int (nI xn))]) hx hb dX12_load_129 rfl hl (by decide) rfl (fun ls hl => ?_)
            refine lv_goto (tgt := 114) hx hb dX12_load_130 (by decide) ?_
            refine lv_iload_n hx hb dX12_load_114 rfl (lv_at hl 0 rfl) ?_
            refine lv_if_eq (tgt := 133) hx hb dX12_load_115 (by decide) (fun c169 => ?_) (fun c169 => absurd c169 (by decide))
            refine lv_aload_n hx hb dX12_load_133 rfl (lv_at hl 1 rfl) ?_
            refine lv_aload_n hx hb dX12_load_134 rfl (lv_at hl 1 rfl) ?_
            refine r_get (v := .int (nI ((pLine g1_17 xn gr_105 pz_105).1))) hx hb (ly_X12 hE) hown hK hP rfl 16 (by decide) (wd_1397 hE) (fun _ h9 => h9) (congrArg (fun z : Int32 => some (Value.int z)) hb160.2.1) dX12_load_135 ?_
            refine r_put (v := nI ((pLine g1_17 xn gr_105 pz_105).1)) hx hb (ly_X12 hE) tyX12 tyX12_ok nmX12 hown hK hP hJ hAL hS rfl 19 (by decide) (wd_1400 hE) (fun _ h9 => h9) rfl (by decide +kernel) rfl (by decide) dX12_load_138 (fun u170 H locs hf170 hq170 hP hS => ?_)
            have hA171 := (hq170.1 15 List.not_mem_nil).trans hA162
            have hA172 := (hq170.1 16 List.not_mem_nil).trans hA163
            have hA173 := (hq170.1 1 List.not_mem_nil).trans hA161
            have hF174x := (hq170.2.1 2 (by decide)).trans hF164x
            have hF175x := (hq170.2.1 10 (by decide)).trans hF165x
            have hF176x := (hq170.2.1 11 (by decide)).trans hF166x
            have hF177x := (hq170.2.1 15 (by decide)).trans hfe160_2
            have hF178x := (hq170.2.1 16 (by decide)).trans hb160.2.1
            have hF179x := (hq170.2.1 17 (by decide)).trans hb160.2.2.1
            have hF180x := (hq170.2.1 18 (by decide)).trans hb160.2.2.2
            have hfr := FR.step hfr hq170 (fun _ h => absurd h List.not_mem_nil) (by decide) (fun h => rfl)
            refine lv_aload_n hx hb dX12_load_141 rfl (lv_at hl 1 rfl) ?_
            refine r_get (v := .int (nI ((pLine g1_17 xn gr_105 pz_105).1))) hx hb (ly_X12 hE) hown hK hP rfl 16 (by decide) (wd_1397 hE) (fun _ h9 => h9) (congrArg (fun z : Int32 => some (Value.int z)) hF178x) dX12_load_142 ?_
            refine lv_if_le (tgt := 163) hx hb dX12_load_145 (by decide) (fun c181 => False.elim (by have c181 := (b_le (nI_toInt (n := (pLine g1_17 xn gr_105 pz_105).1) (by omega)) (show Int32.toInt 0 = 0 from rfl)).mp c181; omega)) (fun c181 => ?_)
            have c181 := mt (b_le (nI_toInt (n := (pLine g1_17 xn gr_105 pz_105).1) (by omega)) (show Int32.toInt 0 = 0 from rfl)).mpr c181
            refine lv_aload_n hx hb dX12_load_148 rfl (lv_at hl 1 rfl) ?_
            refine lv_sipush (v := 554) hx hb dX12_load_149 (by decide) ?_
            refine lv_iconst (v := 0) hx hb dX12_load_152 (by decide) ?_
            refine rc_v hAL hS hA (va_runV (As := [.int (nI 554), .int (nI 0)]) (rest := []) ⟨hx, hb, hml, hown, noTs⟩ (r_X12_copies l dC dI H.size cs b u170 w161 hA173 554 0 (by first | assumption | omega | rfl | (congr 1; omega)) (by first | assumption | omega | rfl | (congr 1; omega)) (by first | assumption | omega | rfl | (congr 1; omega))) ⟨cbE 2 (wd_1502 hE) (wd_126 hE) (wd_1499 hE) rfl rfl (by decide +kernel) ⟨Nat.le_of_ble_eq_true rfl, Nat.le_of_ble_eq_true rfl⟩, (wd_1501 hE), (wd_55 hE)⟩ ⟨PR.blind, r_recv hK hP rfl, (r_pre (av := [.ref (b 0), .int (nI 554), .int (nI 0)]) hK hP hJ hE)⟩ rfl rfl hl.1 rfl (lv_room (Nat.le_of_ble_eq_true rfl)) dX12_load_153 ⟨Nat.le_of_ble_eq_true rfl, Nat.le_of_ble_eq_true rfl⟩) (fun u182 H locs hpo182 hP hS => ?_)
            obtain ⟨h182_0, h182_1, hq182⟩ := hpo182
            obtain ⟨w183, hA183⟩ : ∃ g, rA u182 1 = g := ⟨_, rfl⟩
            rw [hA183] at h182_0 h182_1
            have hA184 := (hq182.1 15 (by decide)).trans hA171
            have hA185 := (hq182.1 16 (by decide)).trans hA172
            have hF186x := (hq182.2.1 2 List.not_mem_nil).trans hF174x
            have hF187x := (hq182.2.1 10 List.not_mem_nil).trans hF175x
            have hF188x := (hq182.2.1 11 List.not_mem_nil).trans hF176x
            have hF189x := (hq182.2.1 15 List.not_mem_nil).trans hF177x
            have hF190x := (hq182.2.1 16 List.not_mem_nil).trans hF178x
            have hF191x := (hq182.2.1 17 List.not_mem_nil).trans hF179x
            have hF192x := (hq182.2.1 18 List.not_mem_nil).trans hF180x
            have hF193x := (hq182.2.1 19 List.not_mem_nil).trans hf170
            have hfr := FR.step hfr hq182 (by decide) (fun _ h => absurd h List.not_mem_nil) (fun h => rfl)
            have abx := ab_copy (i := 1) (j := 0) (by omega) abg (fun q hq => (congrArg w183 (show 554 * 0 + q = 0 + q by omega)).trans ((h182_0 q hq).trans (congrArg _ (by omega)))) (fun q hq => h182_1 q (by omega))
            refine lv_aload_n hx hb dX12_load_156 rfl (lv_at hl 1 rfl) ?_
            refine lv_bipush (v := 9) hx hb dX12_load_157 (by decide) ?_
            refine rc_i hAL hS hA (va_runV (As := [.int 9]) (rest := []) ⟨hx, hb, hml, hown, noTs⟩ (r_X12_refuse l dC dI H.size cs b u182 w183 hA183 9) ⟨cbE 1 (wd_1498 hE) (wd_126 hE) (wd_1495 hE) rfl rfl (by decide +kernel) ⟨Nat.le_of_ble_eq_true rfl, Nat.le_of_ble_eq_true rfl⟩, (wd_1497 hE), (wd_54 hE)⟩ ⟨PR.blind, r_recv hK hP rfl, (r_pre (av := [.ref (b 0), .int 9]) hK hP hJ hE)⟩ rfl rfl hl.1 rfl (lv_room (Nat.le_of_ble_eq_true rfl)) dX12_load_159 ⟨Nat.le_of_ble_eq_true rfl, Nat.le_of_ble_eq_true rfl⟩) (fun r194 u194 H locs hpo194 hP hS => ?_)
            obtain ⟨hr194, hq194⟩ := hpo194
            have hA195 := (hq194.1 15 List.not_mem_nil).trans hA184
            have hA196 := (hq194.1 16 List.not_mem_nil).trans hA185
            have hA197 := (hq194.1 1 List.not_mem_nil).trans hA183
            have hF198x := (hq194.2.1 2 (by decide)).trans hF186x
            have hF199x := (hq194.2.1 10 (by decide)).trans hF187x
            have hF200x := (hq194.2.1 11 (by decide)).trans hF188x
            have hF201x := (hq194.2.1 15 (by decide)).trans hF189x
            have hF202x := (hq194.2.1 16 (by decide)).trans hF190x
            have hF203x := (hq194.2.1 17 (by decide)).trans hF191x
            have hF204x := (hq194.2.1 18 (by decide)).trans hF192x
            have hF205x := (hq194.2.1 19 (by decide)).trans hF193x
            have hfr := FR.step hfr hq194 (fun _ h => absurd h List.not_mem_nil) (by decide) (fun h => rfl)
            subst hr194
            exact W.iret (v := -1) hx hb hr (fun t ht hW => ⟨⟨-1, u194, rfl, ⟨(by rw [← pLoad_cg TXC, PF]; exact Or.inl ⟨NLE, rfl⟩), (by first | (rw [hA197]; done) | (rw [hA197]; exact abx)), (by first | (rw [hF198x]; done) | (rw [hF198x]; refine ⟨_, ?_, rfl⟩; omega)), (by first | (rw [hF199x]; done) | (rw [hF199x]; first | rfl | assumption)), (by first | (rw [hF201x]; done) | (rw [hF201x]; refine ⟨_, ?_, rfl⟩; omega)), (by first | (rw [hF205x]; done) | (rw [hF205x]; first | (rw [← pLoad_cg TXC, PF]; done) | (rw [← pLoad_cg TXC, PF]; rfl))), (by first | (rw [hF203x, hF204x]; done) | (rw [hF203x, hF204x]; rw [← pLoad_cg TXC, PF]; first | exact Or.inl ⟨rfl, rfl, rfl⟩ | exact Or.inr ⟨NLE, rfl, rfl⟩)), hfr⟩, (show va_P (dC, dI) vwCl (rW cs b u194) t.heap by rw [ht]; exact hP)⟩, hS.F ht⟩) hS.2.2 dX12_load_162
      · have c92 := mt (b_le (show Int32.toInt 554 = 554 from rfl) (nI_toInt (n := k_90) (by omega))).mpr c92
        refine lv_aload_n hx hb dX12_load_95 rfl (lv_at hl 0 rfl) ?_
        refine r_get (v := .ref (b 1)) hx hb (ly_X12 hE) hown hK hP rfl 0 (by decide) (wd_1381 hE) (fun _ h9 => h9) rfl dX12_load_96 ?_
        refine lv_iload_n hx hb dX12_load_99 rfl (lv_at hl 2 rfl) ?_
        refine lv_iconst (v := 0) hx hb dX12_load_100 (by decide) ?_
        refine r_iast (j := 1) (k := k_90) (n := 7202) (x := 0) hx hb hK hP hJ hAL hS (by decide) (fun _ => rfl) hL90_3 (by omega) (by decide) dX12_load_101 (fun u206 H locs hs206 hq206 hP hS => ?_)
        obtain ⟨w206, hw206⟩ : ∃ g, g = upd g_90 k_90 0 := ⟨_, rfl⟩
        rw [← hw206] at hs206
        have hA207 := (hq206.1 15 (by decide)).trans hA91
        have hA208 := (hq206.1 16 (by decide)).trans hL90_4
        have hF209x := (hq206.2.1 2 List.not_mem_nil).trans hL90_5
        have hF210x := (hq206.2.1 10 List.not_mem_nil).trans hL90_6
        have hF211x := (hq206.2.1 11 List.not_mem_nil).trans hL90_7
        have hF212x := (hq206.2.1 14 List.not_mem_nil).trans hL90_8
        have hF213x := (hq206.2.1 15 List.not_mem_nil).trans hL90_9
        have hF214x := (hq206.2.1 16 List.not_mem_nil).trans hL90_10
        have hF215x := (hq206.2.1 17 List.not_mem_nil).trans hL90_11
        have hF216x := (hq206.2.1 18 List.not_mem_nil).trans hL90_12
        have hF217x := (hq206.2.1 20 List.not_mem_nil).trans hL90_13
        have hfr := FR.step hfr hq206 (by decide) (fun _ h => absurd h List.not_mem_nil) (fun h => rfl)
        have k1 := hw206
        refine lv_iinc (v := nI (k_90 + 1)) (lv' := [(2, .int (nI (k_90 + 1))), (0, .ref (b 0)), (1, .int (nI xn))]) hx hb dX12_load_102 hl (k := 2) rfl (nI_1 k_90) (by decide) rfl (fun ls hl => ?_)
        refine lv_goto (tgt := 88) hx hb dX12_load_105 (by decide) ?_
        exact ih90 _ u206 _ _ _ (by omega) ⟨hP, hS, hfr, (k_90 + 1), w206, rfl, (by first | assumption | omega | rfl | (congr 1; omega)), (by exact upd_lt (R := fun _ => 0) k1 rfl hL90_1), (by intro q hq; rw [k1, pk_un (by omega)]; exact hL90_2 q (by omega)), hs206, hA208, hF209x, hF210x, hF211x, hF212x, hF213x, hF214x, hF215x, hF216x, hF217x, lv_sub hl [1, 2, 0] rfl⟩
    · have c19 := mt (b_le (nI_toInt (n := xn) (by omega)) (nI_toInt (n := k_17) (by omega))).mpr c19
      refine lv_aload_n hx hb dX12_load_30 rfl (lv_at hl 0 rfl) ?_
      refine r_get (v := .ref (b 16)) hx hb (ly_X12 hE) hown hK hP rfl 9 (by decide) (wd_1390 hE) (fun _ h9 => h9) rfl dX12_load_31 ?_
      refine lv_iload_n hx hb dX12_load_34 rfl (lv_at hl 2 rfl) ?_
      refine lv_aload_n hx hb dX12_load_35 rfl (lv_at hl 0 rfl) ?_
      refine r_get (v := .ref (b 15)) hx hb (ly_X12 hE) hown hK hP rfl 8 (by decide) (wd_1389 hE) (fun _ h9 => h9) rfl dX12_load_36 ?_
      refine lv_iload_n hx hb dX12_load_39 rfl (lv_at hl 2 rfl) ?_
      refine r_bald (j := 15) (k := k_17) (n := 700) (x := tp k_17) hx hb hK hP (by decide) rfl (by omega) (by decide) (by rw [hA18]) dX12_load_40 ?_
      refine lv_topi (fun x219 ex219 => ?_)
      have TX1 := ex219
      refine r_bast (j := 16) (k := k_17) (n := 700) (x := x219) hx hb hK hP hJ hAL hS (by decide) (fun _ => rfl) hL17_3 (by omega) (by decide) dX12_load_41 (fun u220 H locs hs220 hq220 hP hS => ?_)
      obtain ⟨w220, hw220⟩ : ∃ g, g = upd g1_17 k_17 (vp_nar .byte x219) := ⟨_, rfl⟩
      rw [← hw220] at hs220
      have hA221 := (hq220.1 15 (by decide)).trans hA18
      have hA222 := (hq220.1 1 (by decide)).trans hL17_2
      have hF223x := (hq220.2.1 2 List.not_mem_nil).trans hL17_4
      have hF224x := (hq220.2.1 10 List.not_mem_nil).trans hL17_5
      have hF225x := (hq220.2.1 11 List.not_mem_nil).trans hL17_6
      have hF226x := (hq220.2.1 15 List.not_mem_nil).trans hL17_7
      have hfr := FR.step hfr hq220 (by decide) (fun _ h => absurd h List.not_mem_nil) (fun h => rfl)
      have TW := hw220
      refine lv_iinc (v := nI (k_17 + 1)) (lv' := [(2, .int (nI (k_17 + 1))), (0, .ref (b 0)), (1, .int (nI xn))]) hx hb dX12_load_42 hl (k := 2) rfl (nI_1 k_17) (by decide) rfl (fun ls hl => ?_)
      refine lv_goto (tgt := 25) hx hb dX12_load_45 (by decide) ?_
      exact ih17 _ u220 _ _ _ (by omega) ⟨hP, hS, hfr, (k_17 + 1), w220, rfl, (by first | assumption | omega | rfl | (congr 1; omega)), (by exact upd_lt (R := tp) TW (by rw [TX1]; exact hp5 _) hL17_1), hA222, hs220, hF223x, hF224x, hF225x, hF226x, lv_sub hl [1, 2, 0] rfl⟩
  · exact False.elim (by omega)

set_option maxHeartbeats 4000000 in
set_option maxRecDepth 100000 in
theorem x_X12_fault (l : Launch) (dC : Nat → ClassId) (dI : Nat → Nat → Nat) (sz : Nat) (cs : Nat → ClassId) (b : Nat → Nat) (u : RS) (x : Int32) (y17 : Int32) (y18 : Int32) (y19 : Int32) (hF17 : rF u 17 = y17) (hF18 : rF u 18 = y18) (hF19 : rF u 19 = y19) : Met l yX12_fault [.code yX12_fault cX12_fault 2 (some .int)] ({ frames := 0, cells := 0, slots := 0, locals := 0 }) (PR [.ref (b 0), .int x] sz dC dI cs b u) (vp_Si (fun (r : Int32) => r = if x.toInt = 0 then y19 else if x.toInt = 1 then y17 else if x.toInt = 2 then y18 else -1)) 0 0 (fun _ => False) := by
  refine Met.ofW (cc := cX12_fault) (maxL := 2) (ret := (some .int)) (by decide) rfl ?_
  intro p e s m args below meth c s₁ B hml hv
  obtain ⟨rfl, hsz, hP, hK, hJ, hE⟩ := hv
  have hx := B.exec
  have hb := B.bytes
  have hr := B.returns
  have hown : s.vm.findClass RX12 = some m.cls := findClass_of_methodNamed B.named
  have hlocks := B.notSynchronized
  subst hsz
  have hl := lv_entry ([.ref (b 0), .int x]) (n := 2) (Nat.le_of_ble_eq_true rfl)
  rw [lg_entry_eq]
  generalize (lg_sl ([.ref (b 0), .int x]) ++ List.replicate (2 - (lg_sl ([.ref (b 0), .int x])).length) Slot.unset).toArray = ls at hl ⊢
  have hl : lv_has ls 2 [(0, .ref (b 0)), (1, .int x)] := hl
  refine lv_iload_n hx hb dX12_fault_0 rfl (lv_at hl 1 rfl) ?_
  refine lv_if_ne (tgt := 11) hx hb dX12_fault_1 (by decide) (fun c1 => ?_) (fun c1 => ?_)
  · have c1 := mt (b_eq (rfl : Int32.toInt x = _) (show Int32.toInt 0 = 0 from rfl)).mpr c1
    refine lv_iload_n hx hb dX12_fault_11 rfl (lv_at hl 1 rfl) ?_
    refine lv_iconst (v := 1) hx hb dX12_fault_12 (by decide) ?_
    refine lv_icmp_ne (tgt := 23) hx hb dX12_fault_13 (by decide) (fun c2 => ?_) (fun c2 => ?_)
    · have c2 := mt (b_eq (rfl : Int32.toInt x = _) (show Int32.toInt 1 = 1 from rfl)).mpr c2
      refine lv_iload_n hx hb dX12_fault_23 rfl (lv_at hl 1 rfl) ?_
      refine lv_iconst (v := 2) hx hb dX12_fault_24 (by decide) ?_
      refine lv_icmp_ne (tgt := 35) hx hb dX12_fault_25 (by decide) (fun c3 => ?_) (fun c3 => ?_)
      · have c3 := mt (b_eq (rfl : Int32.toInt x = _) (show Int32.toInt 2 = 2 from rfl)).mpr c3
        refine lv_iconst (v := -1) hx hb dX12_fault_35 (by decide) ?_
        exact W.iret (v := -1) hx hb hr (fun t ht hW => ⟨-1, rfl, (by first | (rw [if_pos (by omega)]; done) | (rw [if_neg (by omega), if_pos (by omega)]; done) | (rw [if_neg (by omega), if_neg (by omega), if_pos (by omega)]; done) | (rw [if_neg (by omega), if_neg (by omega), if_neg (by omega)]; done)), ht⟩) (fun _ h => absurd h List.not_mem_nil) dX12_fault_36
      · have c3 := (b_eq (rfl : Int32.toInt x = _) (show Int32.toInt 2 = 2 from rfl)).mp c3
        refine lv_aload_n hx hb dX12_fault_28 rfl (lv_at hl 0 rfl) ?_
        refine r_get (v := .int y18) hx hb (ly_X12 hE) hown hK hP rfl 18 (by decide) (wd_1399 hE) (fun _ h9 => h9) (congrArg (fun z : Int32 => some (Value.int z)) hF18) dX12_fault_29 ?_
        refine lv_goto (tgt := 36) hx hb dX12_fault_32 (by decide) ?_
        exact W.iret (v := y18) hx hb hr (fun t ht hW => ⟨y18, rfl, (by first | (rw [if_pos (by omega)]; done) | (rw [if_neg (by omega), if_pos (by omega)]; done) | (rw [if_neg (by omega), if_neg (by omega), if_pos (by omega)]; done) | (rw [if_neg (by omega), if_neg (by omega), if_neg (by omega)]; done)), ht⟩) (fun _ h => absurd h List.not_mem_nil) dX12_fault_36
    · have c2 := (b_eq (rfl : Int32.toInt x = _) (show Int32.toInt 1 = 1 from rfl)).mp c2
      refine lv_aload_n hx hb dX12_fault_16 rfl (lv_at hl 0 rfl) ?_
      refine r_get (v := .int y17) hx hb (ly_X12 hE) hown hK hP rfl 17 (by decide) (wd_1398 hE) (fun _ h9 => h9) (congrArg (fun z : Int32 => some (Value.int z)) hF17) dX12_fault_17 ?_
      refine lv_goto (tgt := 36) hx hb dX12_fault_20 (by decide) ?_
      exact W.iret (v := y17) hx hb hr (fun t ht hW => ⟨y17, rfl, (by first | (rw [if_pos (by omega)]; done) | (rw [if_neg (by omega), if_pos (by omega)]; done) | (rw [if_neg (by omega), if_neg (by omega), if_pos (by omega)]; done) | (rw [if_neg (by omega), if_neg (by omega), if_neg (by omega)]; done)), ht⟩) (fun _ h => absurd h List.not_mem_nil) dX12_fault_36
  · have c1 := (b_eq (rfl : Int32.toInt x = _) (show Int32.toInt 0 = 0 from rfl)).mp c1
    refine lv_aload_n hx hb dX12_fault_4 rfl (lv_at hl 0 rfl) ?_
    refine r_get (v := .int y19) hx hb (ly_X12 hE) hown hK hP rfl 19 (by decide) (wd_1400 hE) (fun _ h9 => h9) (congrArg (fun z : Int32 => some (Value.int z)) hF19) dX12_fault_5 ?_
    refine lv_goto (tgt := 36) hx hb dX12_fault_8 (by decide) ?_
    exact W.iret (v := y19) hx hb hr (fun t ht hW => ⟨y19, rfl, (by first | (rw [if_pos (by omega)]; done) | (rw [if_neg (by omega), if_pos (by omega)]; done) | (rw [if_neg (by omega), if_neg (by omega), if_pos (by omega)]; done) | (rw [if_neg (by omega), if_neg (by omega), if_neg (by omega)]; done)), ht⟩) (fun _ h => absurd h List.not_mem_nil) dX12_fault_36

/-! four bytes of an int, the highest first, behind what is on the tape -/
def fb (v : Int32) (j : Nat) : Int32 := match j with
  | 0 => (v >>> (24 &&& 31)).toInt8.toInt32
  | 1 => (v >>> (16 &&& 31)).toInt8.toInt32
  | 2 => (v >>> (8 &&& 31)).toInt8.toInt32
  | _ => (v >>> (0 &&& 31)).toInt8.toInt32
def F4 (tp : Nat → Int32) (tt : Nat) (v : Int32) (k : Nat) (g : Nat → Int32) : Prop := BY g ∧ (∀ q, q < tt → g q = tp q) ∧ ∀ j, j < k → g (tt + j) = fb v j
theorem nar_byte (y : Int8) : vp_nar .byte y.toInt32 = y.toInt32 := by
  show y.toInt32.toInt8.toInt32 = y.toInt32
  rw [Int8.toInt8_toInt32]
theorem f4_0 {tp : Nat → Int32} {tt : Nat} {v : Int32} (h : BY tp) : F4 tp tt v 0 tp := ⟨h, fun _ _ => rfl, fun j hj => absurd hj (Nat.not_lt_zero j)⟩
theorem fb_8 (v : Int32) (j : Nat) : ∃ y : Int8, fb v j = y.toInt32 := by
  unfold fb
  split <;> exact ⟨_, rfl⟩
theorem f4_s {tp g g' : Nat → Int32} {tt k i : Nat} {v y : Int32} (h : F4 tp tt v k g) (hi : i = tt + k) (hw : g' = upd g i (vp_nar .byte y)) (hy : y = fb v k) : F4 tp tt v (k + 1) g' := by
  obtain ⟨h1, h2, h3⟩ := h
  obtain ⟨z, hz⟩ := fb_8 v k
  have e : vp_nar .byte y = fb v k := by rw [hy, hz, nar_byte]
  subst hi
  refine ⟨fun q => ?_, fun q hq => ?_, fun j hj => ?_⟩
  · by_cases q1 : q = tt + k
    · subst q1
      rw [hw, pk_us, e, hz, nar_byte]
    · rw [hw, pk_un q1]
      exact h1 q
  · rw [hw, pk_un (by omega)]
    exact h2 q hq
  · by_cases q1 : j = k
    · subst q1
      rw [hw, pk_us, e]
    · rw [hw, pk_un (by omega)]
      exact h3 j (by omega)
def fbv (x1 x2 x3 x4 x5 : Int32) (j : Nat) : Int32 := if j < 4 then fb x1 j else if j < 8 then fb x2 (j - 4) else if j < 12 then fb x3 (j - 8) else if j < 16 then fb x4 (j - 12) else fb x5 (j - 16)
def FD (tp : Nat → Int32) (tt : Nat) (x1 x2 x3 x4 x5 : Int32) (g : Nat → Int32) : Prop := BY g ∧ (∀ q, q < tt → g q = tp q) ∧ ∀ j, j < 20 → g (tt + j) = fbv x1 x2 x3 x4 x5 j
theorem fd_of {tp g1 g2 g3 g4 g5 : Nat → Int32} {tt t1 t2 t3 t4 : Nat} {x1 x2 x3 x4 x5 : Int32} (h1 : F4 tp tt x1 4 g1) (h2 : F4 g1 t1 x2 4 g2) (h3 : F4 g2 t2 x3 4 g3) (h4 : F4 g3 t3 x4 4 g4) (h5 : F4 g4 t4 x5 4 g5) (e1 : t1 = tt + 4) (e2 : t2 = tt + 8) (e3 : t3 = tt + 12) (e4 : t4 = tt + 16) : FD tp tt x1 x2 x3 x4 x5 g5 := by
  subst e1 e2 e3 e4
  refine ⟨h5.1, fun q hq => ?_, fun j hj => ?_⟩
  · rw [h5.2.1 q (by omega), h4.2.1 q (by omega), h3.2.1 q (by omega), h2.2.1 q (by omega), h1.2.1 q hq]
  · unfold fbv
    by_cases a : j < 4
    · rw [if_pos a, h5.2.1 _ (by omega), h4.2.1 _ (by omega), h3.2.1 _ (by omega), h2.2.1 _ (by omega)]
      exact h1.2.2 j a
    · rw [if_neg a]
      by_cases b : j < 8
      · rw [if_pos b, h5.2.1 _ (by omega), h4.2.1 _ (by omega), h3.2.1 _ (by omega), show tt + j = tt + 4 + (j - 4) by omega]
        exact h2.2.2 _ (by omega)
      · rw [if_neg b]
        by_cases c : j < 12
        · rw [if_pos c, h5.2.1 _ (by omega), h4.2.1 _ (by omega), show tt + j = tt + 8 + (j - 8) by omega]
          exact h3.2.2 _ (by omega)
        · rw [if_neg c]
          by_cases d : j < 16
          · rw [if_pos d, h5.2.1 _ (by omega), show tt + j = tt + 12 + (j - 12) by omega]
            exact h4.2.2 _ (by omega)
          · rw [if_neg d, show tt + j = tt + 16 + (j - 16) by omega]
            exact h5.2.2 _ (by omega)
/-- both tapes stay alike -/
theorem fd_eq {tp tq g h : Nat → Int32} {tt : Nat} {x1 x2 x3 x4 x5 : Int32} (h1 : FD tp tt x1 x2 x3 x4 x5 g) (h2 : FD tq tt x1 x2 x3 x4 x5 h) (he : ∀ q, q < tt → tp q = tq q) : ∀ q, q < tt + 20 → g q = h q := fun q hq => by
  by_cases a : q < tt
  · rw [h1.2.1 q a, h2.2.1 q a, he q a]
  · rw [show q = tt + (q - tt) by omega, h1.2.2 _ (by omega), h2.2.2 _ (by omega)]

set_option maxHeartbeats 4000000 in
set_option maxRecDepth 100000 in
theorem x_X12_four (l : Launch) (dC : Nat → ClassId) (dI : Nat → Nat → Nat) (sz : Nat) (cs : Nat → ClassId) (b : Nat → Nat) (u : RS) (tp : Nat → Int32) (hAc15 : rA u 15 = tp) (x : Int32) (tt : Nat) (hF10 : rF u 10 = nI tt) (hp0 : tt + 4 ≤ 700) (hp1 : BY tp) : Met l yX12_four [.code yX12_four cX12_four 3 none] ({ frames := 0, cells := 0, slots := 0, locals := 0 }) (PR [.ref (b 0), .int x] sz dC dI cs b u) (va_Qv (fun (u' : RS) => (rF u' 10 = nI (tt + 4)) ∧ (F4 tp tt x 4 (rA u' 15)) ∧ FR [15] [10] false u u') (BR dC dI cs b) (AR b sz)) 0 0 (AR b sz) := by
  refine Met.ofW (cc := cX12_four) (maxL := 3) (ret := none) (by decide) rfl ?_
  intro p e s m args below meth c s₁ B hml hv
  obtain ⟨rfl, hsz, hP, hK, hJ, hE⟩ := hv
  have hx := B.exec
  have hb := B.bytes
  have hr := B.returns
  have hown : s.vm.findClass RX12 = some m.cls := findClass_of_methodNamed B.named
  have hlocks := B.notSynchronized
  subst hsz
  have hAL : ∀ i, i < 108 → AR b s.heap.size (b i) := fun i h => Or.inl ⟨i, h, rfl⟩
  have hA : ∀ q : Nat, s.heap.size ≤ q → AR b s.heap.size q := fun q h => Or.inr h
  have hS : va_S (AR b s.heap.size) s.heap s.heap [] := va_S.rf
  have hfr : FR [15] [10] false u u := FR.refl
  have hl := lv_entry ([.ref (b 0), .int x]) (n := 3) (Nat.le_of_ble_eq_true rfl)
  rw [lg_entry_eq]
  generalize (lg_sl ([.ref (b 0), .int x]) ++ List.replicate (3 - (lg_sl ([.ref (b 0), .int x])).length) Slot.unset).toArray = ls at hl ⊢
  have hl : lv_has ls 3 [(0, .ref (b 0)), (1, .int x)] := hl
  have F4h : F4 tp tt x 0 tp := f4_0 hp1
  refine lv_iconst (v := 3) hx hb dX12_four_0 (by decide) ?_
  refine lv_istore_n (lv' := [(2, .int 3), (0, .ref (b 0)), (1, .int x)]) hx hb dX12_four_1 rfl hl (by decide) rfl (fun ls hl => ?_)
  refine lv_iload_n hx hb dX12_four_2 rfl (lv_at hl 0 rfl) ?_
  refine lv_if_lt (tgt := 38) hx hb dX12_four_3 (by decide) (fun c3 => absurd c3 (by decide)) (fun c3 => ?_)
  refine lv_aload_n hx hb dX12_four_6 rfl (lv_at hl 1 rfl) ?_
  refine r_get (v := .ref (b 15)) hx hb (ly_X12 hE) hown hK hP rfl 8 (by decide) (wd_1389 hE) (fun _ h9 => h9) rfl dX12_four_7 ?_
  refine lv_aload_n hx hb dX12_four_10 rfl (lv_at hl 1 rfl) ?_
  refine r_get (v := .int (nI tt)) hx hb (ly_X12 hE) hown hK hP rfl 10 (by decide) (wd_1391 hE) (fun _ h9 => h9) (congrArg (fun z : Int32 => some (Value.int z)) hF10) dX12_four_11 ?_
  refine lv_iload_n hx hb dX12_four_14 rfl (lv_at hl 2 rfl) ?_
  refine lv_bipush (v := 8) hx hb dX12_four_15 (by decide) ?_
  refine lv_iload_n hx hb dX12_four_17 rfl (lv_at hl 0 rfl) ?_
  refine lv_imul hx hb dX12_four_18 ?_
  refine W.eq (g2 := F0 m 19 ls [.int 24, .int x, .int (nI tt), .ref (b 15)]) rfl ?_
  refine lv_ishr hx hb dX12_four_19 ?_
  refine lv_topi (fun x4 ex4 => ?_)
  have ES := ex4
  refine lv_i2b hx hb dX12_four_20 rfl ?_
  refine lv_topi (fun x5 ex5 => ?_)
  have EY := ex5
  refine r_bast (j := 15) (k := tt) (n := 700) (x := x5) hx hb hK hP hJ hAL hS (by decide) (fun _ => rfl) hAc15 (by omega) (by decide) dX12_four_21 (fun u6 H locs hs6 hq6 hP hS => ?_)
  obtain ⟨w6, hw6⟩ : ∃ g, g = upd tp tt (vp_nar .byte x5) := ⟨_, rfl⟩
  rw [← hw6] at hs6
  have hF7x := (hq6.2.1 10 List.not_mem_nil).trans hF10
  have hfr := FR.step hfr hq6 (by decide) (fun _ h => absurd h List.not_mem_nil) (fun h => rfl)
  have F4h := f4_s F4h (by omega) hw6 (EY.trans (by rw [ES]; rfl))
  refine lv_aload_n hx hb dX12_four_22 rfl (lv_at hl 1 rfl) ?_
  refine lv_dup hx hb dX12_four_23 rfl ?_
  refine r_get (v := .int (nI tt)) hx hb (ly_X12 hE) hown hK hP rfl 10 (by decide) (wd_1391 hE) (fun _ h9 => h9) (congrArg (fun z : Int32 => some (Value.int z)) hF7x) dX12_four_24 ?_
  refine lv_iconst (v := 1) hx hb dX12_four_27 (by decide) ?_
  refine lv_iadd hx hb dX12_four_28 ?_
  refine W.eq (g2 := F0 m 29 ls [.int (nI (tt + 1)), .ref (b 0)]) (congrArg (fun z : Int32 => F0 m 29 ls (.int z :: [.ref (b 0)])) (nI_add tt 1)) ?_
  refine r_put (v := nI (tt + 1)) hx hb (ly_X12 hE) tyX12 tyX12_ok nmX12 hown hK hP hJ hAL hS rfl 10 (by decide) (wd_1391 hE) (fun _ h9 => h9) rfl (by decide +kernel) rfl (by decide) dX12_four_29 (fun u8 H locs hf8 hq8 hP hS => ?_)
  have hA9 := (hq8.1 15 List.not_mem_nil).trans hs6
  have hfr := FR.step hfr hq8 (fun _ h => absurd h List.not_mem_nil) (by decide) (fun h => rfl)
  refine lv_iinc (v := 2) (lv' := [(2, .int 2), (0, .ref (b 0)), (1, .int x)]) hx hb dX12_four_32 hl (k := 0) rfl (by decide) (by decide) rfl (fun ls hl => ?_)
  refine lv_goto (tgt := 2) hx hb dX12_four_35 (by decide) ?_
  refine lv_iload_n hx hb dX12_four_2 rfl (lv_at hl 0 rfl) ?_
  refine lv_if_lt (tgt := 38) hx hb dX12_four_3 (by decide) (fun c10 => absurd c10 (by decide)) (fun c10 => ?_)
  refine lv_aload_n hx hb dX12_four_6 rfl (lv_at hl 1 rfl) ?_
  refine r_get (v := .ref (b 15)) hx hb (ly_X12 hE) hown hK hP rfl 8 (by decide) (wd_1389 hE) (fun _ h9 => h9) rfl dX12_four_7 ?_
  refine lv_aload_n hx hb dX12_four_10 rfl (lv_at hl 1 rfl) ?_
  refine r_get (v := .int (nI (tt + 1))) hx hb (ly_X12 hE) hown hK hP rfl 10 (by decide) (wd_1391 hE) (fun _ h9 => h9) (congrArg (fun z : Int32 => some (Value.int z)) hf8) dX12_four_11 ?_
  refine lv_iload_n hx hb dX12_four_14 rfl (lv_at hl 2 rfl) ?_
  refine lv_bipush (v := 8) hx hb dX12_four_15 (by decide) ?_
  refine lv_iload_n hx hb dX12_four_17 rfl (lv_at hl 0 rfl) ?_
  refine lv_imul hx hb dX12_four_18 ?_
  refine W.eq (g2 := F0 m 19 ls [.int 16, .int x, .int (nI (tt + 1)), .ref (b 15)]) rfl ?_
  refine lv_ishr hx hb dX12_four_19 ?_
  refine lv_topi (fun x11 ex11 => ?_)
  have ES := ex11
  refine lv_i2b hx hb dX12_four_20 rfl ?_
  refine lv_topi (fun x12 ex12 => ?_)
  have EY := ex12
  refine r_bast (j := 15) (k := tt + 1) (n := 700) (x := x12) hx hb hK hP hJ hAL hS (by decide) (fun _ => rfl) hA9 (by omega) (by decide) dX12_four_21 (fun u13 H locs hs13 hq13 hP hS => ?_)
  obtain ⟨w13, hw13⟩ : ∃ g, g = upd w6 (tt + 1) (vp_nar .byte x12) := ⟨_, rfl⟩
  rw [← hw13] at hs13
  have hF14x := (hq13.2.1 10 List.not_mem_nil).trans hf8
  have hfr := FR.step hfr hq13 (by decide) (fun _ h => absurd h List.not_mem_nil) (fun h => rfl)
  have F4h := f4_s F4h (by omega) hw13 (EY.trans (by rw [ES]; rfl))
  refine lv_aload_n hx hb dX12_four_22 rfl (lv_at hl 1 rfl) ?_
  refine lv_dup hx hb dX12_four_23 rfl ?_
  refine r_get (v := .int (nI (tt + 1))) hx hb (ly_X12 hE) hown hK hP rfl 10 (by decide) (wd_1391 hE) (fun _ h9 => h9) (congrArg (fun z : Int32 => some (Value.int z)) hF14x) dX12_four_24 ?_
  refine lv_iconst (v := 1) hx hb dX12_four_27 (by decide) ?_
  refine lv_iadd hx hb dX12_four_28 ?_
  refine W.eq (g2 := F0 m 29 ls [.int (nI ((tt + 1) + 1)), .ref (b 0)]) (congrArg (fun z : Int32 => F0 m 29 ls (.int z :: [.ref (b 0)])) (nI_add (tt + 1) 1)) ?_
  refine r_put (v := nI ((tt + 1) + 1)) hx hb (ly_X12 hE) tyX12 tyX12_ok nmX12 hown hK hP hJ hAL hS rfl 10 (by decide) (wd_1391 hE) (fun _ h9 => h9) rfl (by decide +kernel) rfl (by decide) dX12_four_29 (fun u15 H locs hf15 hq15 hP hS => ?_)
  have hA16 := (hq15.1 15 List.not_mem_nil).trans hs13
  have hfr := FR.step hfr hq15 (fun _ h => absurd h List.not_mem_nil) (by decide) (fun h => rfl)
  refine lv_iinc (v := 1) (lv' := [(2, .int 1), (0, .ref (b 0)), (1, .int x)]) hx hb dX12_four_32 hl (k := 0) rfl (by decide) (by decide) rfl (fun ls hl => ?_)
  refine lv_goto (tgt := 2) hx hb dX12_four_35 (by decide) ?_
  refine lv_iload_n hx hb dX12_four_2 rfl (lv_at hl 0 rfl) ?_
  refine lv_if_lt (tgt := 38) hx hb dX12_four_3 (by decide) (fun c17 => absurd c17 (by decide)) (fun c17 => ?_)
  refine lv_aload_n hx hb dX12_four_6 rfl (lv_at hl 1 rfl) ?_
  refine r_get (v := .ref (b 15)) hx hb (ly_X12 hE) hown hK hP rfl 8 (by decide) (wd_1389 hE) (fun _ h9 => h9) rfl dX12_four_7 ?_
  refine lv_aload_n hx hb dX12_four_10 rfl (lv_at hl 1 rfl) ?_
  refine r_get (v := .int (nI ((tt + 1) + 1))) hx hb (ly_X12 hE) hown hK hP rfl 10 (by decide) (wd_1391 hE) (fun _ h9 => h9) (congrArg (fun z : Int32 => some (Value.int z)) hf15) dX12_four_11 ?_
  refine lv_iload_n hx hb dX12_four_14 rfl (lv_at hl 2 rfl) ?_
  refine lv_bipush (v := 8) hx hb dX12_four_15 (by decide) ?_
  refine lv_iload_n hx hb dX12_four_17 rfl (lv_at hl 0 rfl) ?_
  refine lv_imul hx hb dX12_four_18 ?_
  refine W.eq (g2 := F0 m 19 ls [.int 8, .int x, .int (nI ((tt + 1) + 1)), .ref (b 15)]) rfl ?_
  refine lv_ishr hx hb dX12_four_19 ?_
  refine lv_topi (fun x18 ex18 => ?_)
  have ES := ex18
  refine lv_i2b hx hb dX12_four_20 rfl ?_
  refine lv_topi (fun x19 ex19 => ?_)
  have EY := ex19
  refine r_bast (j := 15) (k := (tt + 1) + 1) (n := 700) (x := x19) hx hb hK hP hJ hAL hS (by decide) (fun _ => rfl) hA16 (by omega) (by decide) dX12_four_21 (fun u20 H locs hs20 hq20 hP hS => ?_)
  obtain ⟨w20, hw20⟩ : ∃ g, g = upd w13 ((tt + 1) + 1) (vp_nar .byte x19) := ⟨_, rfl⟩
  rw [← hw20] at hs20
  have hF21x := (hq20.2.1 10 List.not_mem_nil).trans hf15
  have hfr := FR.step hfr hq20 (by decide) (fun _ h => absurd h List.not_mem_nil) (fun h => rfl)
  have F4h := f4_s F4h (by omega) hw20 (EY.trans (by rw [ES]; rfl))
  refine lv_aload_n hx hb dX12_four_22 rfl (lv_at hl 1 rfl) ?_
  refine lv_dup hx hb dX12_four_23 rfl ?_
  refine r_get (v := .int (nI ((tt + 1) + 1))) hx hb (ly_X12 hE) hown hK hP rfl 10 (by decide) (wd_1391 hE) (fun _ h9 => h9) (congrArg (fun z : Int32 => some (Value.int z)) hF21x) dX12_four_24 ?_
  refine lv_iconst (v := 1) hx hb dX12_four_27 (by decide) ?_
  refine lv_iadd hx hb dX12_four_28 ?_
  refine W.eq (g2 := F0 m 29 ls [.int (nI (((tt + 1) + 1) + 1)), .ref (b 0)]) (congrArg (fun z : Int32 => F0 m 29 ls (.int z :: [.ref (b 0)])) (nI_add ((tt + 1) + 1) 1)) ?_
  refine r_put (v := nI (((tt + 1) + 1) + 1)) hx hb (ly_X12 hE) tyX12 tyX12_ok nmX12 hown hK hP hJ hAL hS rfl 10 (by decide) (wd_1391 hE) (fun _ h9 => h9) rfl (by decide +kernel) rfl (by decide) dX12_four_29 (fun u22 H locs hf22 hq22 hP hS => ?_)
  have hA23 := (hq22.1 15 List.not_mem_nil).trans hs20
  have hfr := FR.step hfr hq22 (fun _ h => absurd h List.not_mem_nil) (by decide) (fun h => rfl)
  refine lv_iinc (v := 0) (lv' := [(2, .int 0), (0, .ref (b 0)), (1, .int x)]) hx hb dX12_four_32 hl (k := 0) rfl (by decide) (by decide) rfl (fun ls hl => ?_)
  refine lv_goto (tgt := 2) hx hb dX12_four_35 (by decide) ?_
  refine lv_iload_n hx hb dX12_four_2 rfl (lv_at hl 0 rfl) ?_
  refine lv_if_lt (tgt := 38) hx hb dX12_four_3 (by decide) (fun c24 => absurd c24 (by decide)) (fun c24 => ?_)
  refine lv_aload_n hx hb dX12_four_6 rfl (lv_at hl 1 rfl) ?_
  refine r_get (v := .ref (b 15)) hx hb (ly_X12 hE) hown hK hP rfl 8 (by decide) (wd_1389 hE) (fun _ h9 => h9) rfl dX12_four_7 ?_
  refine lv_aload_n hx hb dX12_four_10 rfl (lv_at hl 1 rfl) ?_
  refine r_get (v := .int (nI (((tt + 1) + 1) + 1))) hx hb (ly_X12 hE) hown hK hP rfl 10 (by decide) (wd_1391 hE) (fun _ h9 => h9) (congrArg (fun z : Int32 => some (Value.int z)) hf22) dX12_four_11 ?_
  refine lv_iload_n hx hb dX12_four_14 rfl (lv_at hl 2 rfl) ?_
  refine lv_bipush (v := 8) hx hb dX12_four_15 (by decide) ?_
  refine lv_iload_n hx hb dX12_four_17 rfl (lv_at hl 0 rfl) ?_
  refine lv_imul hx hb dX12_four_18 ?_
  refine W.eq (g2 := F0 m 19 ls [.int 0, .int x, .int (nI (((tt + 1) + 1) + 1)), .ref (b 15)]) rfl ?_
  refine lv_ishr hx hb dX12_four_19 ?_
  refine lv_topi (fun x25 ex25 => ?_)
  have ES := ex25
  refine lv_i2b hx hb dX12_four_20 rfl ?_
  refine lv_topi (fun x26 ex26 => ?_)
  have EY := ex26
  refine r_bast (j := 15) (k := ((tt + 1) + 1) + 1) (n := 700) (x := x26) hx hb hK hP hJ hAL hS (by decide) (fun _ => rfl) hA23 (by omega) (by decide) dX12_four_21 (fun u27 H locs hs27 hq27 hP hS => ?_)
  obtain ⟨w27, hw27⟩ : ∃ g, g = upd w20 (((tt + 1) + 1) + 1) (vp_nar .byte x26) := ⟨_, rfl⟩
  rw [← hw27] at hs27
  have hF28x := (hq27.2.1 10 List.not_mem_nil).trans hf22
  have hfr := FR.step hfr hq27 (by decide) (fun _ h => absurd h List.not_mem_nil) (fun h => rfl)
  have F4h := f4_s F4h (by omega) hw27 (EY.trans (by rw [ES]; rfl))
  refine lv_aload_n hx hb dX12_four_22 rfl (lv_at hl 1 rfl) ?_
  refine lv_dup hx hb dX12_four_23 rfl ?_
  refine r_get (v := .int (nI (((tt + 1) + 1) + 1))) hx hb (ly_X12 hE) hown hK hP rfl 10 (by decide) (wd_1391 hE) (fun _ h9 => h9) (congrArg (fun z : Int32 => some (Value.int z)) hF28x) dX12_four_24 ?_
  refine lv_iconst (v := 1) hx hb dX12_four_27 (by decide) ?_
  refine lv_iadd hx hb dX12_four_28 ?_
  refine W.eq (g2 := F0 m 29 ls [.int (nI ((((tt + 1) + 1) + 1) + 1)), .ref (b 0)]) (congrArg (fun z : Int32 => F0 m 29 ls (.int z :: [.ref (b 0)])) (nI_add (((tt + 1) + 1) + 1) 1)) ?_
  refine r_put (v := nI ((((tt + 1) + 1) + 1) + 1)) hx hb (ly_X12 hE) tyX12 tyX12_ok nmX12 hown hK hP hJ hAL hS rfl 10 (by decide) (wd_1391 hE) (fun _ h9 => h9) rfl (by decide +kernel) rfl (by decide) dX12_four_29 (fun u29 H locs hf29 hq29 hP hS => ?_)
  have hA30 := (hq29.1 15 List.not_mem_nil).trans hs27
  have hfr := FR.step hfr hq29 (fun _ h => absurd h List.not_mem_nil) (by decide) (fun h => rfl)
  refine lv_iinc (v := -1) (lv' := [(2, .int (-1)), (0, .ref (b 0)), (1, .int x)]) hx hb dX12_four_32 hl (k := 0) rfl (by decide) (by decide) rfl (fun ls hl => ?_)
  refine lv_goto (tgt := 2) hx hb dX12_four_35 (by decide) ?_
  refine lv_iload_n hx hb dX12_four_2 rfl (lv_at hl 0 rfl) ?_
  refine lv_if_lt (tgt := 38) hx hb dX12_four_3 (by decide) (fun c31 => ?_) (fun c31 => absurd c31 (by decide))
  exact W.vret hx hb hr (fun t ht hW => ⟨⟨u29, rfl, ⟨(by first | (rw [hf29]; done) | (rw [hf29]; first | assumption | omega | rfl | (congr 1; omega))), (by first | (rw [hA30]; done) | (rw [hA30]; exact F4h)), hfr⟩, (show va_P (dC, dI) vwCl (rW cs b u29) t.heap by rw [ht]; exact hP)⟩, hS.F ht⟩) hS.2.2 dX12_four_38
