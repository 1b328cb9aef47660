set_option maxHeartbeats 4000000 in
set_option maxRecDepth 100000 in
theorem x_X12_aWord (l : Launch) (dC : Nat → ClassId) (dI : Nat → Nat → Nat) (sz : Nat) (cs : Nat → ClassId) (b : Nat → Nat) (u : RS) (a : Nat → Int32) (hA1 : rA u 1 = a) (tx : Nat → Int32) (hAc16 : rA u 16 = tx) (sz1 : Nat) (p0 : Nat) (ln : Nat) (x17 : Int32) (x18 : Int32) (gg : PGr) (hF11 : rF u 11 = nI sz1) (hF16 : rF u 16 = 0) (hF17 : rF u 17 = x17) (hF18 : rF u 18 = x18) (hF20 : rF u 20 = nI ln) (hp0 : BG a) (hp1 : TE u tx sz1 p0) (hp2 : sz1 ≤ 700) (hp3 : GA a gg) (hp4 : kd tx sz1 p0 = 5) : Met l yX12_aWord [.code yX12_aWord cX12_aWord 3 (some .boolean)] ({ frames := 6, cells := 0, slots := 0, locals := 240 }) (PR [.ref (b 0)] sz dC dI cs b u) (va_Qi (fun (r : Int32) (u' : RS) => ((r = 1 ∧ ((pWord tx sz1 gg p0).1 = 0 ∧ TE u' tx sz1 (pWord tx sz1 gg p0).2.1 ∧ GA (rA u' 1) (pWord tx sz1 gg p0).2.2 ∧ rF u' 16 = 0 ∧ rF u' 17 = x17 ∧ rF u' 18 = x18)) ∨ (r = 0 ∧ ((pWord tx sz1 gg p0).1 ≠ 0 ∧ FL u' (pWord tx sz1 gg p0).1 (pWord tx sz1 gg p0).2.1 ln))) ∧ (BG (rA u' 1)) ∧ (∀ k, 554 ≤ k → (rA u' 1) k = a k) ∧ (∃ k : Nat, k ≤ 9999 ∧ rF u' 15 = nI k) ∧ FR [1, 3] [12, 13, 14, 15, 16, 17, 18] false u u') (BR dC dI cs b) (AR b sz)) 0 0 (AR b sz) := by
  refine Met.ofW (cc := cX12_aWord) (maxL := 3) (ret := (some .boolean)) (by decide) rfl ?_
  intro p e s m args below meth c s₁ B hml hv
  obtain ⟨rfl, hsz, hP, hK, hJ, hE⟩ := hv
  have hx := B.exec
  have hb := B.bytes
  have hr := B.returns
  have hown : s.vm.findClass RX12 = some m.cls := findClass_of_methodNamed B.named
  have hlocks := B.notSynchronized
  subst hsz
  have hAL : ∀ i, i < 108 → AR b s.heap.size (b i) := fun i h => Or.inl ⟨i, h, rfl⟩
  have hA : ∀ q : Nat, s.heap.size ≤ q → AR b s.heap.size q := fun q h => Or.inr h
  have hS : va_S (AR b s.heap.size) s.heap s.heap [] := va_S.rf
  have hfr : FR [1, 3] [12, 13, 14, 15, 16, 17, 18] false u u := FR.refl
  have hl := lv_entry ([.ref (b 0)]) (n := 3) (Nat.le_of_ble_eq_true rfl)
  rw [lg_entry_eq]
  generalize (lg_sl ([.ref (b 0)]) ++ List.replicate (3 - (lg_sl ([.ref (b 0)])).length) Slot.unset).toArray = ls at hl ⊢
  have hl : lv_has ls 3 [(0, .ref (b 0))] := hl
  have hB := hp0
  have hG := bg_g hp0
  have ha1 := gg_le hG
  have ha1b := bg_w hp0
  have hte3 : TE u tx sz1 p0 := hp1
  obtain ⟨te13_3, te14_3, te12_3, tep3, tv3, tvl3, te15_3, tvv3⟩ := hte3
  have tkf3 := kd_f tx sz1 p0
  have tna3 := tnd_le (tx := tx) tep3
  have tnb3 := fun h : p0 < sz1 => tnd_gt (tx := tx) h
  have ga1 := hp3.1
  have ga2 := hp3.2.1
  have ga3 := hp3.2.2.1
  refine lv_aload_n hx hb dX12_aWord_0 rfl (lv_at hl 0 rfl) ?_
  refine lv_iconst (v := 2) hx hb dX12_aWord_1 (by decide) ?_
  refine vp_callSi (va_Run.run (va_runV (As := [.int (nI 2)]) (rest := []) ⟨hx, hb, hml, hown, noTs⟩ (r_X12_of l dC dI s.heap.size cs b u a hA1 2 (by first | assumption | omega | rfl | (congr 1; omega))) ⟨cbE 1 (wd_1536 hE) (wd_126 hE) (wd_1533 hE) rfl rfl (by decide +kernel) ⟨Nat.le_of_ble_eq_true rfl, Nat.le_of_ble_eq_true rfl⟩, (wd_1535 hE), (wd_61 hE)⟩ ⟨PR.blind, r_recv hK hP rfl, (r_pre (av := [.ref (b 0), .int (nI 2)]) hK hP hJ hE)⟩ rfl rfl hl.1 rfl (lv_room (Nat.le_of_ble_eq_true rfl)) dX12_aWord_2 ⟨Nat.le_of_ble_eq_true rfl, Nat.le_of_ble_eq_true rfl⟩)) (fun r7 hr7 => ?_)
  have hr7 := hr7.trans ((bg_w hB).1)
  subst hr7
  refine lv_bipush (v := 10) hx hb dX12_aWord_5 (by decide) ?_
  refine lv_icmp_ne (tgt := 17) hx hb dX12_aWord_7 (by decide) (fun c8 => ?_) (fun c8 => ?_)
  · have c8 := mt (b_eq (nI_toInt (n := wN a) (by omega)) (show Int32.toInt 10 = 10 from rfl)).mpr c8
    refine lv_aload_n hx hb dX12_aWord_17 rfl (lv_at hl 0 rfl) ?_
    refine r_get (v := .ref (b 2)) hx hb (ly_X12 hE) hown hK hP rfl 4 (by decide) (wd_1385 hE) (fun _ h9 => h9) rfl dX12_aWord_18 ?_
    refine lv_iconst (v := 0) hx hb dX12_aWord_21 (by decide) ?_
    refine r_aald (j := 2) (k := 0) (n := 10) (t0 := 4) (j2 := 3) hx hb hK hP (by decide) rfl rfl (by decide) (by decide) rfl dX12_aWord_22 ?_
    refine lv_astore_n (lv' := [(1, .ref (b 3)), (0, .ref (b 0))]) hx hb dX12_aWord_23 rfl hl (by decide) rfl (fun ls hl => ?_)
    refine lv_aload_n hx hb dX12_aWord_24 rfl (lv_at hl 1 rfl) ?_
    refine rc_v hAL hS hA (va_runV (As := []) (rest := []) ⟨hx, hb, hml, hown, noTs⟩ (x_X12_ahead l dC dI s.heap.size cs b u tx hAc16 sz1 (tnd tx sz1 p0) tv3 hF11 te14_3 te15_3 (by first | assumption | omega | rfl | (congr 1; omega)) (by first | assumption | omega | rfl | (congr 1; omega)) (by first | assumption | omega | rfl | (congr 1; omega))) ⟨cbE 0 (wd_1506 hE) (wd_126 hE) (wd_1503 hE) rfl rfl (by decide +kernel) ⟨Nat.le_of_ble_eq_true rfl, Nat.le_of_ble_eq_true rfl⟩, (wd_1505 hE), (wd_56 hE)⟩ ⟨PR.blind, r_recv hK hP rfl, (r_pre (av := [.ref (b 0)]) hK hP hJ hE)⟩ rfl rfl hl.1 rfl (lv_room (Nat.le_of_ble_eq_true rfl)) dX12_aWord_25 ⟨Nat.le_of_ble_eq_true rfl, Nat.le_of_ble_eq_true rfl⟩) (fun u9 H locs hpo9 hP hS => ?_)
    obtain ⟨h9_0, hq9⟩ := hpo9
    have hA10 := (hq9.1 1 List.not_mem_nil).trans hA1
    have hA11 := (hq9.1 16 List.not_mem_nil).trans hAc16
    have hF12x := (hq9.2.1 11 (by decide)).trans hF11
    have hF13x := (hq9.2.1 16 (by decide)).trans hF16
    have hF14x := (hq9.2.1 17 (by decide)).trans hF17
    have hF15x := (hq9.2.1 18 (by decide)).trans hF18
    have hF16x := (hq9.2.1 20 (by decide)).trans hF20
    have hfr := FR.step hfr hq9 (fun _ h => absurd h List.not_mem_nil) (by decide) (fun h => rfl)
    clear tkf3 tnb3
    have hte17 : TE u9 tx sz1 (nxt tx sz1 p0) := h9_0
    obtain ⟨te13_17, te14_17, te12_17, tep17, tv17, tvl17, te15_17, tvv17⟩ := hte17
    have tkf17 := kd_f tx sz1 (nxt tx sz1 p0)
    have tna17 := tnd_le (tx := tx) tep17
    have tnb17 := fun h : (nxt tx sz1 p0) < sz1 => tnd_gt (tx := tx) h
    refine lv_aload_n hx hb dX12_aWord_28 rfl (lv_at hl 1 rfl) ?_
    refine rc_i hAL hS hA (va_runV (As := []) (rest := []) ⟨hx, hb, hml, hown, noTs⟩ (x_X12_isNumber l dC dI H.size cs b u9 tx hA11 sz1 (nxt tx sz1 p0) ln x17 x18 hF12x hF13x hF14x hF15x hF16x ⟨te13_17, te14_17, te12_17, by omega, _, by omega, te15_17, tvv17⟩ (by first | assumption | omega | rfl | (congr 1; omega))) ⟨cbE 0 (wd_1544 hE) (wd_126 hE) (wd_1541 hE) rfl rfl (by decide +kernel) ⟨Nat.le_of_ble_eq_true rfl, Nat.le_of_ble_eq_true rfl⟩, (wd_1543 hE), (wd_63 hE)⟩ ⟨PR.blind, r_recv hK hP rfl, (r_pre (av := [.ref (b 0)]) hK hP hJ hE)⟩ rfl rfl hl.1 rfl (lv_room (Nat.le_of_ble_eq_true rfl)) dX12_aWord_29 ⟨Nat.le_of_ble_eq_true rfl, Nat.le_of_ble_eq_true rfl⟩) (fun r18 u18 H locs hpo18 hP hS => ?_)
    obtain ⟨hr18, hq18⟩ := hpo18
    have hA19 := (hq18.1 1 List.not_mem_nil).trans hA10
    have hA20 := (hq18.1 16 List.not_mem_nil).trans hA11
    have hF21x := (hq18.2.1 11 (by decide)).trans hF12x
    have hF22x := (hq18.2.1 20 (by decide)).trans hF16x
    have hF23x := (hq18.2.1 13 (by decide)).trans te13_17
    have hF24x := (hq18.2.1 14 (by decide)).trans te14_17
    have hF25x := (hq18.2.1 12 (by decide)).trans te12_17
    have hF26x := (hq18.2.1 15 (by decide)).trans te15_17
    have hfr := FR.step hfr hq18 (fun _ h => absurd h List.not_mem_nil) (by decide) (fun h => rfl)
    rcases hr18 with ⟨rfl, hb18⟩ | ⟨rfl, hb18⟩
    · have K6 := hb18.1
      have TV := tvv17 K6
      refine lv_if_ne (tgt := 37) hx hb dX12_aWord_32 (by decide) (fun c27 => ?_) (fun c27 => absurd c27 (by decide))
      refine lv_aload_n hx hb dX12_aWord_37 rfl (lv_at hl 1 rfl) ?_
      refine lv_aload_n hx hb dX12_aWord_38 rfl (lv_at hl 1 rfl) ?_
      refine r_get (v := .int (nI tv17)) hx hb (ly_X12 hE) hown hK hP rfl 15 (by decide) (wd_1396 hE) (fun _ h9 => h9) (congrArg (fun z : Int32 => some (Value.int z)) hF26x) dX12_aWord_39 ?_
      refine vp_callSi (va_Run.run (va_runV (As := [.int (nI tv17)]) (rest := []) ⟨hx, hb, hml, hown, noTs⟩ (x_X12_isVertex l dC dI H.size cs b u18 a hA19 (nI tv17) (by first | assumption | omega | rfl | (congr 1; omega))) ⟨cbE 1 (wd_1560 hE) (wd_126 hE) (wd_1557 hE) rfl rfl (by decide +kernel) ⟨Nat.le_of_ble_eq_true rfl, Nat.le_of_ble_eq_true rfl⟩, (wd_1559 hE), (wd_67 hE)⟩ ⟨PR.blind, r_recv hK hP rfl, (r_pre (av := [.ref (b 0), .int (nI tv17)]) hK hP hJ hE)⟩ rfl rfl hl.1 rfl (lv_room (Nat.le_of_ble_eq_true rfl)) dX12_aWord_42 ⟨Nat.le_of_ble_eq_true rfl, Nat.le_of_ble_eq_true rfl⟩)) (fun r28 hr28 => ?_)
      rcases hr28 with ⟨rfl, hb28⟩ | ⟨rfl, hb28⟩
      · obtain ⟨n28, hbe28_1, hb28⟩ := hb28
        have hbe28_1 := (nI_eq (by omega) (by omega)).mp hbe28_1
        subst hbe28_1
        have hvx := nI_toInt (n := tv17) (by omega)
        refine lv_if_ne (tgt := 54) hx hb dX12_aWord_45 (by decide) (fun c29 => ?_) (fun c29 => absurd c29 (by decide))
        refine lv_aload_n hx hb dX12_aWord_54 rfl (lv_at hl 1 rfl) ?_
        refine r_get (v := .int (nI tv17)) hx hb (ly_X12 hE) hown hK hP rfl 15 (by decide) (wd_1396 hE) (fun _ h9 => h9) (congrArg (fun z : Int32 => some (Value.int z)) hF26x) dX12_aWord_55 ?_
        refine lv_istore_n (lv' := [(2, .int (nI tv17)), (1, .ref (b 3)), (0, .ref (b 0))]) hx hb dX12_aWord_58 rfl hl (by decide) rfl (fun ls hl => ?_)
        refine lv_aload_n hx hb dX12_aWord_59 rfl (lv_at hl 2 rfl) ?_
        refine rc_v hAL hS hA (va_runV (As := []) (rest := []) ⟨hx, hb, hml, hown, noTs⟩ (x_X12_ahead l dC dI H.size cs b u18 tx hA20 sz1 (tnd tx sz1 (nxt tx sz1 p0)) tv17 hF21x hF24x hF26x (by first | assumption | omega | rfl | (congr 1; omega)) (by first | assumption | omega | rfl | (congr 1; omega)) (by first | assumption | omega | rfl | (congr 1; omega))) ⟨cbE 0 (wd_1506 hE) (wd_126 hE) (wd_1503 hE) rfl rfl (by decide +kernel) ⟨Nat.le_of_ble_eq_true rfl, Nat.le_of_ble_eq_true rfl⟩, (wd_1505 hE), (wd_56 hE)⟩ ⟨PR.blind, r_recv hK hP rfl, (r_pre (av := [.ref (b 0)]) hK hP hJ hE)⟩ rfl rfl hl.1 rfl (lv_room (Nat.le_of_ble_eq_true rfl)) dX12_aWord_60 ⟨Nat.le_of_ble_eq_true rfl, Nat.le_of_ble_eq_true rfl⟩) (fun u30 H locs hpo30 hP hS => ?_)
        obtain ⟨h30_0, hq30⟩ := hpo30
        have hA31 := (hq30.1 1 List.not_mem_nil).trans hA19
        have hA32 := (hq30.1 16 List.not_mem_nil).trans hA20
        have hF33x := (hq30.2.1 11 (by decide)).trans hF21x
        have hF34x := (hq30.2.1 20 (by decide)).trans hF22x
        have hF35x := (hq30.2.1 16 (by decide)).trans hb18.2.1
        have hF36x := (hq30.2.1 17 (by decide)).trans hb18.2.2.1
        have hF37x := (hq30.2.1 18 (by decide)).trans hb18.2.2.2
        have hfr := FR.step hfr hq30 (fun _ h => absurd h List.not_mem_nil) (by decide) (fun h => rfl)
        clear tkf17 tnb17
        have hte38 : TE u30 tx sz1 (nxt tx sz1 (nxt tx sz1 p0)) := h30_0
        obtain ⟨te13_38, te14_38, te12_38, tep38, tv38, tvl38, te15_38, tvv38⟩ := hte38
        have tkf38 := kd_f tx sz1 (nxt tx sz1 (nxt tx sz1 p0))
        have tna38 := tnd_le (tx := tx) tep38
        have tnb38 := fun h : (nxt tx sz1 (nxt tx sz1 p0)) < sz1 => tnd_gt (tx := tx) h
        refine lv_aload_n hx hb dX12_aWord_63 rfl (lv_at hl 1 rfl) ?_
        refine lv_iload_n hx hb dX12_aWord_64 rfl (lv_at hl 0 rfl) ?_
        refine lv_aload_n hx hb dX12_aWord_65 rfl (lv_at hl 2 rfl) ?_
        refine lv_iload_n hx hb dX12_aWord_66 rfl (lv_at hl 0 rfl) ?_
        refine rc_i hAL hS hA (va_runV (As := [.int (nI tv17)]) (rest := [.int (nI tv17), .ref (b 3)]) ⟨hx, hb, hml, hown, noTs⟩ (x_X12_someNumber l dC dI H.size cs b u30 a hA31 tx hA32 tv17 sz1 (nxt tx sz1 (nxt tx sz1 p0)) hF33x (by first | assumption | omega | rfl | (congr 1; omega)) ⟨te13_38, te14_38, te12_38, by omega, _, by omega, te15_38, tvv38⟩ (by first | assumption | omega | rfl | (congr 1; omega)) (by first | assumption | omega | rfl | (congr 1; omega))) ⟨cbE 1 (wd_1572 hE) (wd_126 hE) (wd_1569 hE) rfl rfl (by decide +kernel) ⟨Nat.le_of_ble_eq_true rfl, Nat.le_of_ble_eq_true rfl⟩, (wd_1571 hE), (wd_70 hE)⟩ ⟨PR.blind, r_recv hK hP rfl, (r_pre (av := [.ref (b 0), .int (nI tv17)]) hK hP hJ hE)⟩ rfl rfl hl.1 rfl (lv_room (Nat.le_of_ble_eq_true rfl)) dX12_aWord_67 ⟨Nat.le_of_ble_eq_true rfl, Nat.le_of_ble_eq_true rfl⟩) (fun r39 u39 H locs hpo39 hP hS => ?_)
        obtain ⟨hr39, h39_0, hq39⟩ := hpo39
        have hA40 := (hq39.1 1 List.not_mem_nil).trans hA31
        have hA41 := (hq39.1 16 List.not_mem_nil).trans hA32
        have hF42x := (hq39.2.1 11 (by decide)).trans hF33x
        have hF43x := (hq39.2.1 20 (by decide)).trans hF34x
        have hF44x := (hq39.2.1 16 (by decide)).trans hF35x
        have hF45x := (hq39.2.1 17 (by decide)).trans hF36x
        have hF46x := (hq39.2.1 18 (by decide)).trans hF37x
        have hfr := FR.step hfr hq39 (fun _ h => absurd h List.not_mem_nil) (by decide) (fun h => rfl)
        clear tkf38 tnb38
        have hte47 : TE u39 tx sz1 (pNum tx sz1 (nxt tx sz1 (nxt tx sz1 p0))) := h39_0
        obtain ⟨te13_47, te14_47, te12_47, tep47, tv47, tvl47, te15_47, tvv47⟩ := hte47
        have tkf47 := kd_f tx sz1 (pNum tx sz1 (nxt tx sz1 (nxt tx sz1 p0)))
        have tna47 := tnd_le (tx := tx) tep47
        have tnb47 := fun h : (pNum tx sz1 (nxt tx sz1 (nxt tx sz1 p0))) < sz1 => tnd_gt (tx := tx) h
        obtain ⟨n39, rfl, hn39_0⟩ := hr39
        obtain ⟨g48, hg48⟩ : ∃ g, rA u39 3 = g := ⟨_, rfl⟩
        refine rc_v hAL hS hA (va_runS (As := [.ref (b 3), .int (nI tv17), .int (nI n39)]) (rest := []) ⟨hx, hb, hml, hown, noTs⟩ (r_X12_single l dC dI H.size cs b u39 a hA40 3 (by decide) g48 hg48 tv17 (nI n39) (by first | assumption | omega | rfl | (congr 1; omega)) (by first | assumption | omega | rfl | (congr 1; omega))) ⟨cbE 3 (wd_1579 hE) (wd_126 hE) (wd_1577 hE) rfl rfl (by decide +kernel) ⟨Nat.le_of_ble_eq_true rfl, Nat.le_of_ble_eq_true rfl⟩, (wd_1578 hE)⟩ ⟨PR.blind, (r_pre (av := [.ref (b 3), .int (nI tv17), .int (nI n39)]) hK hP hJ hE)⟩ rfl rfl hl.1 rfl (lv_room (Nat.le_of_ble_eq_true rfl)) dX12_aWord_70 ⟨Nat.le_of_ble_eq_true rfl, Nat.le_of_ble_eq_true rfl⟩) (fun u49 H locs hpo49 hP hS => ?_)
        obtain ⟨h49_0, h49_1, h49_2, h49_3, h49_4, hq49⟩ := hpo49
        obtain ⟨w50, hA50⟩ : ∃ g, rA u49 3 = g := ⟨_, rfl⟩
        rw [hA50] at h49_0 h49_1 h49_2 h49_3 h49_4
        have hA51 := (hq49.1 1 (by decide)).trans hA40
        have hA52 := (hq49.1 16 (by decide)).trans hA41
        have hF53x := (hq49.2.1 11 List.not_mem_nil).trans hF42x
        have hF54x := (hq49.2.1 20 List.not_mem_nil).trans hF43x
        have hF55x := (hq49.2.1 16 List.not_mem_nil).trans hF44x
        have hF56x := (hq49.2.1 17 List.not_mem_nil).trans hF45x
        have hF57x := (hq49.2.1 18 List.not_mem_nil).trans hF46x
        have hF58x := (hq49.2.1 13 List.not_mem_nil).trans te13_47
        have hF59x := (hq49.2.1 14 List.not_mem_nil).trans te14_47
        have hF60x := (hq49.2.1 12 List.not_mem_nil).trans te12_47
        have hF61x := (hq49.2.1 15 List.not_mem_nil).trans te15_47
        have hfr := FR.step hfr hq49 (by decide) (fun _ h => absurd h List.not_mem_nil) (fun h => rfl)
        have hl49_0 := pg_le h49_0
        have hvo := gg_od hG (v := tv17) (by omega)
        have q8 : LG a w50 := lg_mk (n := 0) h49_1 h49_3 h49_4 (by omega) (by omega)
        have VE0 := h49_3
        have RN0 := h49_1
        refine r_ind (I := fun n u_ H locs ls => va_P (dC, dI) vwCl (rW cs b u_) H ∧ va_S (AR b s.heap.size) s.heap H locs ∧ FR [1, 3] [12, 13, 14, 15, 16, 17, 18] false u u_ ∧ ∃ (f1_62 : Nat → Int32) (pz_62 : Nat), n = 25 - rn f1_62 ∧ (TE u_ tx sz1 pz_62) ∧ (PG a f1_62) ∧ (LG a f1_62) ∧ (rn f1_62 ≤ 24) ∧ (pSteps tx sz1 gg (25 - rn f1_62) (vend a f1_62) (rn f1_62) pz_62 = pSteps tx sz1 gg 25 (vl tx sz1 (nxt tx sz1 p0)) 0 (pNum tx sz1 (nxt tx sz1 (nxt tx sz1 p0)))) ∧ (rA u_ 1 = a) ∧ (rA u_ 3 = f1_62) ∧ (rF u_ 16 = 0) ∧ (rF u_ 17 = x17) ∧ (rF u_ 18 = x18) ∧ lv_has ls 3 [(0, .ref (b 0)), (1, .ref (b 3)), (2, .int (nI tv17))]) (fun n u62 H locs ls hI ih62 => ?_) _ u49 _ _ _ ⟨hP, hS, hfr, w50, (pNum tx sz1 (nxt tx sz1 (nxt tx sz1 p0))), rfl, (by exact ⟨hF58x, hF59x, hF60x, by omega, _, by omega, hF61x, tvv47⟩), (by first | assumption | omega | rfl | (congr 1; omega)), (by exact q8), (by first | assumption | omega | rfl | (congr 1; omega)), (by rw [RN0, VE0, TV, Nat.sub_zero]), hA51, hA50, hF55x, hF56x, hF57x, lv_sub hl [2, 1, 0] rfl⟩
        obtain ⟨hP, hS, hfr, f1_62, pz_62, hmu62, hL62_0, hL62_1, hL62_2, hL62_3, hL62_4, hL62_5, hL62_6, hL62_7, hL62_8, hL62_9, hl⟩ := hI
        have hA63 := (hfr.1 16 (by decide)).trans hAc16
        have hF64x := (hfr.2.1 11 (by decide)).trans hF11
        have hF65x := (hfr.2.1 20 (by decide)).trans hF20
        subst hmu62
        clear tkf47 tnb47
        have hte66 : TE u62 tx sz1 pz_62 := hL62_0
        obtain ⟨te13_66, te14_66, te12_66, tep66, tv66, tvl66, te15_66, tvv66⟩ := hte66
        have tkf66 := kd_f tx sz1 pz_62
        have tna66 := tnd_le (tx := tx) tep66
        have tnb66 := fun h : pz_62 < sz1 => tnd_gt (tx := tx) h
        have hl62_1 := pg_le hL62_1
        refine lv_aload_n hx hb dX12_aWord_73 rfl (lv_at hl 0 rfl) ?_
        refine r_get (v := .int (nI (tkr (kd tx sz1 pz_62)))) hx hb (ly_X12 hE) hown hK hP rfl 12 (by decide) (wd_1393 hE) (fun _ h9 => h9) (congrArg (fun z : Int32 => some (Value.int z)) te12_66) dX12_aWord_74 ?_
        refine lv_iconst (v := 4) hx hb dX12_aWord_77 (by decide) ?_
        refine lv_icmp_ne (tgt := 104) hx hb dX12_aWord_78 (by decide) (fun c67 => ?_) (fun c67 => ?_)
        · have c67 := mt (b_eq (nI_toInt (n := tkr (kd tx sz1 pz_62)) (by omega)) (show Int32.toInt 4 = 4 from rfl)).mpr c67
          have K9 : kd tx sz1 pz_62 ≠ 7 ∧ kd tx sz1 pz_62 ≠ 8 := by omega
          refine lv_aload_n hx hb dX12_aWord_104 rfl (lv_at hl 0 rfl) ?_
          refine lv_aload_n hx hb dX12_aWord_105 rfl (lv_at hl 1 rfl) ?_
          refine rc_v hAL hS hA (va_runV (As := [.ref (b 3)]) (rest := []) ⟨hx, hb, hml, hown, noTs⟩ (r_X12_keeps l dC dI H.size cs b u62 a hL62_5 3 (by decide) f1_62 hL62_6 (by first | assumption | omega | rfl | (congr 1; omega)) (by first | assumption | omega | rfl | (congr 1; omega)) (by first | assumption | omega | rfl | (congr 1; omega)) (by first | assumption | omega | rfl | (congr 1; omega)) (by first | assumption | omega | rfl | (congr 1; omega))) ⟨cbE 1 (wd_1613 hE) (wd_126 hE) (wd_1610 hE) rfl rfl (by decide +kernel) ⟨Nat.le_of_ble_eq_true rfl, Nat.le_of_ble_eq_true rfl⟩, (wd_1612 hE), (wd_78 hE)⟩ ⟨PR.blind, r_recv hK hP rfl, (r_pre (av := [.ref (b 0), .ref (b 3)]) hK hP hJ hE)⟩ rfl rfl hl.1 rfl (lv_room (Nat.le_of_ble_eq_true rfl)) dX12_aWord_106 ⟨Nat.le_of_ble_eq_true rfl, Nat.le_of_ble_eq_true rfl⟩) (fun u68 H locs hpo68 hP hS => ?_)
          obtain ⟨h68_0, h68_1, h68_2, h68_3, h68_4, h68_5, hq68⟩ := hpo68
          obtain ⟨w69, hA69⟩ : ∃ g, rA u68 1 = g := ⟨_, rfl⟩
          rw [hA69] at h68_0 h68_1 h68_2 h68_3 h68_4 h68_5
          have hA70 := (hq68.1 16 (by decide)).trans hA63
          have hA71 := (hq68.1 3 (by decide)).trans hL62_6
          have hF72x := (hq68.2.1 11 List.not_mem_nil).trans hF64x
          have hF73x := (hq68.2.1 20 List.not_mem_nil).trans hF65x
          have hF74x := (hq68.2.1 16 List.not_mem_nil).trans hL62_7
          have hF75x := (hq68.2.1 17 List.not_mem_nil).trans hL62_8
          have hF76x := (hq68.2.1 18 List.not_mem_nil).trans hL62_9
          have hF77x := (hq68.2.1 13 List.not_mem_nil).trans te13_66
          have hF78x := (hq68.2.1 14 List.not_mem_nil).trans te14_66
          have hF79x := (hq68.2.1 12 List.not_mem_nil).trans te12_66
          have hF80x := (hq68.2.1 15 List.not_mem_nil).trans te15_66
          have hfr := FR.step hfr hq68 (by decide) (fun _ h => absurd h List.not_mem_nil) (fun h => rfl)
          have hB := h68_0
          have hG := bg_g h68_0
          have ha81 := gg_le hG
          have ha81b := bg_w h68_0
          have bgx := h68_0
          have bgo := h68_2
          have gax := ga_keep hp3 h68_4 h68_5 h68_1 h68_3
          refine lv_iconst (v := 1) hx hb dX12_aWord_109 (by decide) ?_
          exact W.zret (v := 1) hx hb hr rfl (fun t ht hW => ⟨⟨1, u68, rfl, ⟨Or.inl ⟨rfl, by rw [pw_s (z := (0, pz_62)) (by omega) K6 (by omega) (hL62_4.symm.trans (by rw [show 25 - rn f1_62 = 24 - rn f1_62 + 1 by omega]; exact pt_z K9))]; dsimp only; rw [if_neg (by intro q; exact q rfl)]; exact ⟨rfl, ⟨hF77x, hF78x, hF79x, by omega, _, by omega, hF80x, tvv66⟩, (by rw [hA69]; exact gax), hF74x, hF75x, hF76x⟩⟩, (by first | (rw [hA69]; done) | (rw [hA69]; first | assumption | exact bgx)), (by first | (rw [hA69]; done) | (rw [hA69]; first | (intro k _; rfl) | exact bgo)), (by first | (rw [hF80x]; done) | (rw [hF80x]; refine ⟨_, ?_, rfl⟩; omega)), hfr⟩, (show va_P (dC, dI) vwCl (rW cs b u68) t.heap by rw [ht]; exact hP)⟩, hS.F ht⟩) hS.2.2 dX12_aWord_110
        · have c67 := (b_eq (nI_toInt (n := tkr (kd tx sz1 pz_62)) (by omega)) (show Int32.toInt 4 = 4 from rfl)).mp c67
          refine lv_aload_n hx hb dX12_aWord_81 rfl (lv_at hl 0 rfl) ?_
          refine lv_aload_n hx hb dX12_aWord_82 rfl (lv_at hl 0 rfl) ?_
          refine r_get (v := .int (nI pz_62)) hx hb (ly_X12 hE) hown hK hP rfl 13 (by decide) (wd_1394 hE) (fun _ h9 => h9) (congrArg (fun z : Int32 => some (Value.int z)) te13_66) dX12_aWord_83 ?_
          refine vp_callSi (va_Run.run (va_runV (As := [.int (nI pz_62)]) (rest := []) ⟨hx, hb, hml, hown, noTs⟩ (r_X12_byteAt l dC dI H.size cs b u62 tx hA63 pz_62 sz1 hF64x (by first | assumption | omega | rfl | (congr 1; omega)) (by first | assumption | omega | rfl | (congr 1; omega))) ⟨cbE 1 (wd_1510 hE) (wd_126 hE) (wd_1507 hE) rfl rfl (by decide +kernel) ⟨Nat.le_of_ble_eq_true rfl, Nat.le_of_ble_eq_true rfl⟩, (wd_1509 hE), (wd_57 hE)⟩ ⟨PR.blind, r_recv hK hP rfl, (r_pre (av := [.ref (b 0), .int (nI pz_62)]) hK hP hJ hE)⟩ rfl rfl hl.1 rfl (lv_room (Nat.le_of_ble_eq_true rfl)) dX12_aWord_86 ⟨Nat.le_of_ble_eq_true rfl, Nat.le_of_ble_eq_true rfl⟩)) (fun r82 hr82 => ?_)
          subst hr82
          have htf82 := bA_f tx sz1 pz_62
          refine lv_bipush (v := 59) hx hb dX12_aWord_89 (by decide) ?_
          refine lv_icmp_eq (tgt := 104) hx hb dX12_aWord_91 (by decide) (fun c83 => ?_) (fun c83 => ?_)
          · have c83 := (b_eq (rfl : Int32.toInt (bA tx sz1 pz_62) = _) (show Int32.toInt 59 = 59 from rfl)).mp c83
            have K9 : kd tx sz1 pz_62 ≠ 7 ∧ kd tx sz1 pz_62 ≠ 8 := by have q := kd_byte (show tkr (kd tx sz1 pz_62) = 4 by omega); omega
            refine lv_aload_n hx hb dX12_aWord_104 rfl (lv_at hl 0 rfl) ?_
            refine lv_aload_n hx hb dX12_aWord_105 rfl (lv_at hl 1 rfl) ?_
            refine rc_v hAL hS hA (va_runV (As := [.ref (b 3)]) (rest := []) ⟨hx, hb, hml, hown, noTs⟩ (r_X12_keeps l dC dI H.size cs b u62 a hL62_5 3 (by decide) f1_62 hL62_6 (by first | assumption | omega | rfl | (congr 1; omega)) (by first | assumption | omega | rfl | (congr 1; omega)) (by first | assumption | omega | rfl | (congr 1; omega)) (by first | assumption | omega | rfl | (congr 1; omega)) (by first | assumption | omega | rfl | (congr 1; omega))) ⟨cbE 1 (wd_1613 hE) (wd_126 hE) (wd_1610 hE) rfl rfl (by decide +kernel) ⟨Nat.le_of_ble_eq_true rfl, Nat.le_of_ble_eq_true rfl⟩, (wd_1612 hE), (wd_78 hE)⟩ ⟨PR.blind, r_recv hK hP rfl, (r_pre (av := [.ref (b 0), .ref (b 3)]) hK hP hJ hE)⟩ rfl rfl hl.1 rfl (lv_room (Nat.le_of_ble_eq_true rfl)) dX12_aWord_106 ⟨Nat.le_of_ble_eq_true rfl, Nat.le_of_ble_eq_true rfl⟩) (fun u84 H locs hpo84 hP hS => ?_)
            obtain ⟨h84_0, h84_1, h84_2, h84_3, h84_4, h84_5, hq84⟩ := hpo84
            obtain ⟨w85, hA85⟩ : ∃ g, rA u84 1 = g := ⟨_, rfl⟩
            rw [hA85] at h84_0 h84_1 h84_2 h84_3 h84_4 h84_5
            have hA86 := (hq84.1 16 (by decide)).trans hA63
            have hA87 := (hq84.1 3 (by decide)).trans hL62_6
            have hF88x := (hq84.2.1 11 List.not_mem_nil).trans hF64x
            have hF89x := (hq84.2.1 20 List.not_mem_nil).trans hF65x
            have hF90x := (hq84.2.1 16 List.not_mem_nil).trans hL62_7
            have hF91x := (hq84.2.1 17 List.not_mem_nil).trans hL62_8
            have hF92x := (hq84.2.1 18 List.not_mem_nil).trans hL62_9
            have hF93x := (hq84.2.1 13 List.not_mem_nil).trans te13_66
            have hF94x := (hq84.2.1 14 List.not_mem_nil).trans te14_66
            have hF95x := (hq84.2.1 12 List.not_mem_nil).trans te12_66
            have hF96x := (hq84.2.1 15 List.not_mem_nil).trans te15_66
            have hfr := FR.step hfr hq84 (by decide) (fun _ h => absurd h List.not_mem_nil) (fun h => rfl)
            have hB := h84_0
            have hG := bg_g h84_0
            have ha97 := gg_le hG
            have ha97b := bg_w h84_0
            have bgx := h84_0
            have bgo := h84_2
            have gax := ga_keep hp3 h84_4 h84_5 h84_1 h84_3
            refine lv_iconst (v := 1) hx hb dX12_aWord_109 (by decide) ?_
            exact W.zret (v := 1) hx hb hr rfl (fun t ht hW => ⟨⟨1, u84, rfl, ⟨Or.inl ⟨rfl, by rw [pw_s (z := (0, pz_62)) (by omega) K6 (by omega) (hL62_4.symm.trans (by rw [show 25 - rn f1_62 = 24 - rn f1_62 + 1 by omega]; exact pt_z K9))]; dsimp only; rw [if_neg (by intro q; exact q rfl)]; exact ⟨rfl, ⟨hF93x, hF94x, hF95x, by omega, _, by omega, hF96x, tvv66⟩, (by rw [hA85]; exact gax), hF90x, hF91x, hF92x⟩⟩, (by first | (rw [hA85]; done) | (rw [hA85]; first | assumption | exact bgx)), (by first | (rw [hA85]; done) | (rw [hA85]; first | (intro k _; rfl) | exact bgo)), (by first | (rw [hF96x]; done) | (rw [hF96x]; refine ⟨_, ?_, rfl⟩; omega)), hfr⟩, (show va_P (dC, dI) vwCl (rW cs b u84) t.heap by rw [ht]; exact hP)⟩, hS.F ht⟩) hS.2.2 dX12_aWord_110
          · have c83 := mt (b_eq (rfl : Int32.toInt (bA tx sz1 pz_62) = _) (show Int32.toInt 59 = 59 from rfl)).mpr c83
            have K78 : kd tx sz1 pz_62 = 7 ∨ kd tx sz1 pz_62 = 8 := by have q := kd_byte (show tkr (kd tx sz1 pz_62) = 4 by omega); omega
            refine lv_aload_n hx hb dX12_aWord_94 rfl (lv_at hl 0 rfl) ?_
            refine lv_aload_n hx hb dX12_aWord_95 rfl (lv_at hl 1 rfl) ?_
            refine rc_i hAL hS hA (va_runV (As := [.ref (b 3)]) (rest := []) ⟨hx, hb, hml, hown, noTs⟩ (x_X12_aStep l dC dI H.size cs b u62 a hL62_5 tx hA63 3 (by decide) f1_62 hL62_6 sz1 pz_62 ln x17 x18 gg hF64x hL62_7 hL62_8 hL62_9 hF65x (by first | assumption | omega | rfl | (congr 1; omega)) ⟨te13_66, te14_66, te12_66, by omega, _, by omega, te15_66, tvv66⟩ (by first | assumption | omega | rfl | (congr 1; omega)) (by first | assumption | omega | rfl | (congr 1; omega)) (by first | assumption | omega | rfl | (congr 1; omega)) (by first | assumption | omega | rfl | (congr 1; omega)) (by first | assumption | omega | rfl | (congr 1; omega)) (by first | assumption | omega | rfl | (congr 1; omega))) ⟨cbE 1 (wd_1583 hE) (wd_126 hE) (wd_1580 hE) rfl rfl (by decide +kernel) ⟨Nat.le_of_ble_eq_true rfl, Nat.le_of_ble_eq_true rfl⟩, (wd_1582 hE), (wd_72 hE)⟩ ⟨PR.blind, r_recv hK hP rfl, (r_pre (av := [.ref (b 0), .ref (b 3)]) hK hP hJ hE)⟩ rfl rfl hl.1 rfl (lv_room (Nat.le_of_ble_eq_true rfl)) dX12_aWord_96 ⟨Nat.le_of_ble_eq_true rfl, Nat.le_of_ble_eq_true rfl⟩) (fun r98 u98 H locs hpo98 hP hS => ?_)
            obtain ⟨hr98, h98_0, h98_1, h98_2, h98_3, hq98⟩ := hpo98
            obtain ⟨w99, hA99⟩ : ∃ g, rA u98 3 = g := ⟨_, rfl⟩
            rw [hA99] at h98_0 h98_1 h98_2 hr98
            obtain ⟨n98_3, hn98_3, hfe98_3⟩ := h98_3
            have hA100 := (hq98.1 16 (by decide)).trans hA63
            have hA101 := (hq98.1 1 (by decide)).trans hL62_5
            have hF102x := (hq98.2.1 11 (by decide)).trans hF64x
            have hF103x := (hq98.2.1 20 (by decide)).trans hF65x
            have hfr := FR.step hfr hq98 (by decide) (by decide) (fun h => rfl)
            have hl98_0 := pg_le h98_0
            rcases hr98 with ⟨rfl, hb98⟩ | ⟨rfl, hb98⟩
            · clear tkf66 tnb66
              have hte104 : TE u98 tx sz1 ((pNum tx sz1 (nxt tx sz1 (nxt tx sz1 pz_62)))) := hb98.2.1
              obtain ⟨te13_104, te14_104, te12_104, tep104, tv104, tvl104, te15_104, tvv104⟩ := hte104
              have tkf104 := kd_f tx sz1 ((pNum tx sz1 (nxt tx sz1 (nxt tx sz1 pz_62))))
              have tna104 := tnd_le (tx := tx) tep104
              have tnb104 := fun h : ((pNum tx sz1 (nxt tx sz1 (nxt tx sz1 pz_62)))) < sz1 => tnd_gt (tx := tx) h
              have ST := hb98.2.2.1
              have RN := hb98.1
              refine lv_if_ne (tgt := 73) hx hb dX12_aWord_99 (by decide) (fun c105 => ?_) (fun c105 => absurd c105 (by decide))
              exact ih62 _ u98 _ _ _ (by omega) ⟨hP, hS, hfr, w99, ((pNum tx sz1 (nxt tx sz1 (nxt tx sz1 pz_62)))), rfl, (by exact ⟨te13_104, te14_104, te12_104, by omega, _, by omega, te15_104, tvv104⟩), (by first | assumption | omega | rfl | (congr 1; omega)), (by first | assumption | omega | rfl | (congr 1; omega)), (by first | assumption | omega | rfl | (congr 1; omega)), (by rw [show 25 - rn w99 = 24 - rn f1_62 by omega, RN, ← ST, show 24 - rn f1_62 + 1 = 25 - rn f1_62 by omega]; exact hL62_4), hA101, hA99, hb98.2.2.2.1, hb98.2.2.2.2.1, hb98.2.2.2.2.2, lv_sub hl [0, 1, 2] rfl⟩
            · obtain ⟨kf, qf, kf1, kf2, kf3⟩ := id hb98
              refine lv_if_ne (tgt := 73) hx hb dX12_aWord_99 (by decide) (fun c106 => absurd c106 (by decide)) (fun c106 => ?_)
              refine lv_iconst (v := 0) hx hb dX12_aWord_102 (by decide) ?_
              exact W.zret (v := 0) hx hb hr rfl (fun t ht hW => ⟨⟨0, u98, rfl, ⟨Or.inr ⟨rfl, by rw [pw_s (z := (kf, qf)) (by omega) K6 (by omega) (hL62_4.symm.trans (by rw [show 25 - rn f1_62 = 24 - rn f1_62 + 1 by omega]; exact kf3 _))]; dsimp only; rw [if_pos kf1]; exact ⟨kf1, kf2⟩⟩, (by first | (rw [hA101]; done) | (rw [hA101]; first | assumption | exact bgx)), (by first | (rw [hA101]; done) | (rw [hA101]; first | (intro k _; rfl) | exact bgo)), (by first | (rw [hfe98_3]; done) | (rw [hfe98_3]; refine ⟨_, ?_, rfl⟩; omega)), hfr⟩, (show va_P (dC, dI) vwCl (rW cs b u98) t.heap by rw [ht]; exact hP)⟩, hS.F ht⟩) hS.2.2 dX12_aWord_103
      · have hvx := nI_toInt (n := tv17) (by omega)
        refine lv_if_ne (tgt := 54) hx hb dX12_aWord_45 (by decide) (fun c107 => absurd c107 (by decide)) (fun c107 => ?_)
        refine lv_aload_n hx hb dX12_aWord_48 rfl (lv_at hl 1 rfl) ?_
        refine lv_iconst (v := 3) hx hb dX12_aWord_49 (by decide) ?_
        refine rc_i hAL hS hA (va_runV (As := [.int (nI 3)]) (rest := []) ⟨hx, hb, hml, hown, noTs⟩ (x_X12_fails l dC dI H.size cs b u18 3 (tkr (kd tx sz1 (nxt tx sz1 p0))) (nxt tx sz1 p0) ln hb18.2.1 hF25x hF23x hF22x (by first | assumption | omega | rfl | (congr 1; omega))) ⟨cbE 1 (wd_1540 hE) (wd_126 hE) (wd_1537 hE) rfl rfl (by decide +kernel) ⟨Nat.le_of_ble_eq_true rfl, Nat.le_of_ble_eq_true rfl⟩, (wd_1539 hE), (wd_62 hE)⟩ ⟨PR.blind, r_recv hK hP rfl, (r_pre (av := [.ref (b 0), .int (nI 3)]) hK hP hJ hE)⟩ rfl rfl hl.1 rfl (lv_room (Nat.le_of_ble_eq_true rfl)) dX12_aWord_50 ⟨Nat.le_of_ble_eq_true rfl, Nat.le_of_ble_eq_true rfl⟩) (fun r108 u108 H locs hpo108 hP hS => ?_)
        obtain ⟨hr108, h108_0, h108_1, h108_2, hq108⟩ := hpo108
        have hA109 := (hq108.1 1 List.not_mem_nil).trans hA19
        have hA110 := (hq108.1 16 List.not_mem_nil).trans hA20
        have hF111x := (hq108.2.1 11 (by decide)).trans hF21x
        have hF112x := (hq108.2.1 20 (by decide)).trans hF22x
        have hF113x := (hq108.2.1 13 (by decide)).trans hF23x
        have hF114x := (hq108.2.1 14 (by decide)).trans hF24x
        have hF115x := (hq108.2.1 12 (by decide)).trans hF25x
        have hF116x := (hq108.2.1 15 (by decide)).trans hF26x
        have hfr := FR.step hfr hq108 (fun _ h => absurd h List.not_mem_nil) (by decide) (fun h => rfl)
        subst hr108
        exact W.zret (v := 0) hx hb hr rfl (fun t ht hW => ⟨⟨0, u108, rfl, ⟨Or.inr ⟨rfl, by rw [pw_3 (by omega) K6 (by omega)]; dsimp only; exact ⟨by decide, ⟨by rw [h108_0, if_neg (by omega)], h108_1, h108_2⟩⟩⟩, (by first | (rw [hA109]; done) | (rw [hA109]; first | assumption | exact bgx)), (by first | (rw [hA109]; done) | (rw [hA109]; first | (intro k _; rfl) | exact bgo)), (by first | (rw [hF116x]; done) | (rw [hF116x]; refine ⟨_, ?_, rfl⟩; omega)), hfr⟩, (show va_P (dC, dI) vwCl (rW cs b u108) t.heap by rw [ht]; exact hP)⟩, hS.F ht⟩) hS.2.2 dX12_aWord_53
    · have NN := id hb18
      refine lv_if_ne (tgt := 37) hx hb dX12_aWord_32 (by decide) (fun c117 => absurd c117 (by decide)) (fun c117 => ?_)
      refine lv_iconst (v := 0) hx hb dX12_aWord_35 (by decide) ?_
      exact W.zret (v := 0) hx hb hr rfl (fun t ht hW => ⟨⟨0, u18, rfl, ⟨Or.inr ⟨rfl, by rw [pw_n (by omega) NN.1]; dsimp only; exact ⟨bad_ne, NN.2⟩⟩, (by first | (rw [hA19]; done) | (rw [hA19]; first | assumption | exact bgx)), (by first | (rw [hA19]; done) | (rw [hA19]; first | (intro k _; rfl) | exact bgo)), (by first | (rw [hF26x]; done) | (rw [hF26x]; refine ⟨_, ?_, rfl⟩; omega)), hfr⟩, (show va_P (dC, dI) vwCl (rW cs b u18) t.heap by rw [ht]; exact hP)⟩, hS.F ht⟩) hS.2.2 dX12_aWord_36
  · have c8 := (b_eq (nI_toInt (n := wN a) (by omega)) (show Int32.toInt 10 = 10 from rfl)).mp c8
    refine lv_aload_n hx hb dX12_aWord_10 rfl (lv_at hl 0 rfl) ?_
    refine lv_bipush (v := 6) hx hb dX12_aWord_11 (by decide) ?_
    refine rc_i hAL hS hA (va_runV (As := [.int (nI 6)]) (rest := []) ⟨hx, hb, hml, hown, noTs⟩ (x_X12_fails l dC dI s.heap.size cs b u 6 (tkr (kd tx sz1 p0)) p0 ln hF16 te12_3 te13_3 hF20 (by first | assumption | omega | rfl | (congr 1; omega))) ⟨cbE 1 (wd_1540 hE) (wd_126 hE) (wd_1537 hE) rfl rfl (by decide +kernel) ⟨Nat.le_of_ble_eq_true rfl, Nat.le_of_ble_eq_true rfl⟩, (wd_1539 hE), (wd_62 hE)⟩ ⟨PR.blind, r_recv hK hP rfl, (r_pre (av := [.ref (b 0), .int (nI 6)]) hK hP hJ hE)⟩ rfl rfl hl.1 rfl (lv_room (Nat.le_of_ble_eq_true rfl)) dX12_aWord_13 ⟨Nat.le_of_ble_eq_true rfl, Nat.le_of_ble_eq_true rfl⟩) (fun r118 u118 H locs hpo118 hP hS => ?_)
    obtain ⟨hr118, h118_0, h118_1, h118_2, hq118⟩ := hpo118
    have hA119 := (hq118.1 1 List.not_mem_nil).trans hA1
    have hA120 := (hq118.1 16 List.not_mem_nil).trans hAc16
    have hF121x := (hq118.2.1 11 (by decide)).trans hF11
    have hF122x := (hq118.2.1 20 (by decide)).trans hF20
    have hF123x := (hq118.2.1 13 (by decide)).trans te13_3
    have hF124x := (hq118.2.1 14 (by decide)).trans te14_3
    have hF125x := (hq118.2.1 12 (by decide)).trans te12_3
    have hF126x := (hq118.2.1 15 (by decide)).trans te15_3
    have hfr := FR.step hfr hq118 (fun _ h => absurd h List.not_mem_nil) (by decide) (fun h => rfl)
    subst hr118
    exact W.zret (v := 0) hx hb hr rfl (fun t ht hW => ⟨⟨0, u118, rfl, ⟨Or.inr ⟨rfl, by rw [pw_6 (by omega)]; dsimp only; exact ⟨by decide, ⟨by rw [h118_0, if_neg (by omega)], h118_1, h118_2⟩⟩⟩, (by first | (rw [hA119]; done) | (rw [hA119]; first | assumption | exact bgx)), (by first | (rw [hA119]; done) | (rw [hA119]; first | (intro k _; rfl) | exact bgo)), (by first | (rw [hF126x]; done) | (rw [hF126x]; refine ⟨_, ?_, rfl⟩; omega)), hfr⟩, (show va_P (dC, dI) vwCl (rW cs b u118) t.heap by rw [ht]; exact hP)⟩, hS.F ht⟩) hS.2.2 dX12_aWord_16

theorem ch_1 : ∀ i, i < 6 → chS 3 (1 + i) = (kW 1).getD i 0 := by decide
theorem ch_8 : ∀ i, i < 4 → chS 3 (8 + i) = (kW 8).getD i 0 := by decide
theorem ch_13 : ∀ i, i < 4 → chS 3 (13 + i) = (kW 13).getD i 0 := by decide
theorem i1_of {x : Int32} (h : x = 0 ∨ x = 1) (h0 : ¬ x.toInt = 0) : x = 1 := h.resolve_left (fun e => h0 (by rw [e]; rfl))
theorem i0_of {x : Int32} (h0 : x.toInt = 0) : x = 0 := Int32.toInt_inj.mp h0
