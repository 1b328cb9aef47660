set_option maxHeartbeats 4000000 in
set_option maxRecDepth 100000 in
theorem r_X12_take (l : Launch) (dC : Nat → ClassId) (dI : Nat → Nat → Nat) (sz : Nat) (cs : Nat → ClassId) (b : Nat → Nat) (u : RS) (a : Nat → Int32) (hA1 : rA u 1 = a) (x : Int32) (y : Int32) (ac : Nat) (hF2 : rF u 2 = nI ac) (hp0 : AB a) (hp1 : ac ≤ 8) : Met l yX12_take [.code yX12_take cX12_take 3 (some .int)] ({ frames := 3, cells := 0, slots := 0, locals := 120 }) (PR [.ref (b 0), .int x, .int y] sz dC dI cs b u) (va_Qi (fun (r : Int32) (u' : RS) => (True) ∧ (AB (rA u' 1)) ∧ (∃ k : Nat, k ≤ 8 ∧ rF u' 2 = nI k) ∧ FR [1, 3, 4, 5, 6, 7, 8, 9, 10, 11, 12, 13, 14, 17, 18, 19, 20] [1, 2, 5, 21, 22] true u u') (BR dC dI cs b) (AR b sz)) 0 0 (AR b sz) := by
  refine Met.ofW (cc := cX12_take) (maxL := 3) (ret := (some .int)) (by decide) rfl ?_
  intro p e s m args below meth c s₁ B hml hv
  obtain ⟨rfl, hsz, hP, hK, hJ, hE⟩ := hv
  have hx := B.exec
  have hb := B.bytes
  have hr := B.returns
  have hown : s.vm.findClass RX12 = some m.cls := findClass_of_methodNamed B.named
  have hlocks := B.notSynchronized
  subst hsz
  have hAL : ∀ i, i < 108 → AR b s.heap.size (b i) := fun i h => Or.inl ⟨i, h, rfl⟩
  have hA : ∀ q : Nat, s.heap.size ≤ q → AR b s.heap.size q := fun q h => Or.inr h
  have hS : va_S (AR b s.heap.size) s.heap s.heap [] := va_S.rf
  have hfr : FR [1, 3, 4, 5, 6, 7, 8, 9, 10, 11, 12, 13, 14, 17, 18, 19, 20] [1, 2, 5, 21, 22] true u u := FR.refl
  have hl := lv_entry ([.ref (b 0), .int x, .int y]) (n := 3) (Nat.le_of_ble_eq_true rfl)
  rw [lg_entry_eq]
  generalize (lg_sl ([.ref (b 0), .int x, .int y]) ++ List.replicate (3 - (lg_sl ([.ref (b 0), .int x, .int y])).length) Slot.unset).toArray = ls at hl ⊢
  have hl : lv_has ls 3 [(0, .ref (b 0)), (1, .int x), (2, .int y)] := hl
  have hB := ab_0 hp0
  have hG := bg_g hB
  have ha2 := gg_le hG
  have ha2b := bg_w hB
  refine lv_iload_n hx hb dX12_take_0 rfl (lv_at hl 2 rfl) ?_
  refine lv_if_ge (tgt := 10) hx hb dX12_take_1 (by decide) (fun c4 => ?_) (fun c4 => ?_)
  · have c4 := (b_le (show Int32.toInt 0 = 0 from rfl) (rfl : Int32.toInt y = _)).mp c4
    refine lv_aload_n hx hb dX12_take_10 rfl (lv_at hl 0 rfl) ?_
    refine lv_iload_n hx hb dX12_take_11 rfl (lv_at hl 1 rfl) ?_
    refine vp_callSi (va_Run.run (va_runV (As := [.int x]) (rest := []) ⟨hx, hb, hml, hown, noTs⟩ (r_X12_isVertex l dC dI s.heap.size cs b u a hA1 x (by first | assumption | omega | rfl | (congr 1; omega))) ⟨cbE 1 (wd_1560 hE) (wd_126 hE) (wd_1557 hE) rfl rfl (by decide +kernel) ⟨Nat.le_of_ble_eq_true rfl, Nat.le_of_ble_eq_true rfl⟩, (wd_1559 hE), (wd_67 hE)⟩ ⟨PR.blind, r_recv hK hP rfl, (r_pre (av := [.ref (b 0), .int x]) hK hP hJ hE)⟩ rfl rfl hl.1 rfl (lv_room (Nat.le_of_ble_eq_true rfl)) dX12_take_12 ⟨Nat.le_of_ble_eq_true rfl, Nat.le_of_ble_eq_true rfl⟩)) (fun r5 hr5 => ?_)
    rcases hr5 with ⟨rfl, hb5⟩ | ⟨rfl, hb5⟩
    · obtain ⟨n5, hbe5_1, hb5⟩ := hb5
      subst hbe5_1
      have hti6 := nI_toInt (n := n5) (by omega)
      refine lv_if_ne (tgt := 24) hx hb dX12_take_15 (by decide) (fun c7 => ?_) (fun c7 => absurd c7 (by decide))
      refine lv_aload_n hx hb dX12_take_24 rfl (lv_at hl 0 rfl) ?_
      refine lv_iconst (v := 2) hx hb dX12_take_25 (by decide) ?_
      refine vp_callSi (va_Run.run (va_runV (As := [.int (nI 2)]) (rest := []) ⟨hx, hb, hml, hown, noTs⟩ (r_X12_of l dC dI s.heap.size cs b u a hA1 2 (by first | assumption | omega | rfl | (congr 1; omega))) ⟨cbE 1 (wd_1536 hE) (wd_126 hE) (wd_1533 hE) rfl rfl (by decide +kernel) ⟨Nat.le_of_ble_eq_true rfl, Nat.le_of_ble_eq_true rfl⟩, (wd_1535 hE), (wd_61 hE)⟩ ⟨PR.blind, r_recv hK hP rfl, (r_pre (av := [.ref (b 0), .int (nI 2)]) hK hP hJ hE)⟩ rfl rfl hl.1 rfl (lv_room (Nat.le_of_ble_eq_true rfl)) dX12_take_26 ⟨Nat.le_of_ble_eq_true rfl, Nat.le_of_ble_eq_true rfl⟩)) (fun r8 hr8 => ?_)
      have hr8 := hr8.trans ((bg_w hB).1)
      subst hr8
      refine lv_bipush (v := 10) hx hb dX12_take_29 (by decide) ?_
      refine lv_icmp_ne (tgt := 40) hx hb dX12_take_31 (by decide) (fun c9 => ?_) (fun c9 => ?_)
      · have c9 := mt (b_eq (nI_toInt (n := wN a) (by omega)) (show Int32.toInt 10 = 10 from rfl)).mpr c9
        have hw9 : wN a ≤ 9 := by omega
        refine lv_aload_n hx hb dX12_take_40 rfl (lv_at hl 0 rfl) ?_
        refine r_get (v := .ref (b 2)) hx hb (ly_X12 hE) hown hK hP rfl 4 (by decide) (wd_1385 hE) (fun _ h9 => h9) rfl dX12_take_41 ?_
        refine lv_iconst (v := 0) hx hb dX12_take_44 (by decide) ?_
        refine r_aald (j := 2) (k := 0) (n := 10) (t0 := 4) (j2 := 3) hx hb hK hP (by decide) rfl rfl (by decide) (by decide) rfl dX12_take_45 ?_
        refine lv_iload_n hx hb dX12_take_46 rfl (lv_at hl 1 rfl) ?_
        refine lv_aload_n hx hb dX12_take_47 rfl (lv_at hl 0 rfl) ?_
        refine lv_iload_n hx hb dX12_take_48 rfl (lv_at hl 1 rfl) ?_
        refine lv_iload_n hx hb dX12_take_49 rfl (lv_at hl 2 rfl) ?_
        refine vp_callSi (va_Run.run (va_runV (As := [.int (nI n5), .int y]) (rest := [.int (nI n5), .ref (b 3)]) ⟨hx, hb, hml, hown, noTs⟩ (r_X12_round l dC dI s.heap.size cs b u a hA1 n5 y (by first | assumption | omega | rfl | (congr 1; omega)) (by first | assumption | omega | rfl | (congr 1; omega))) ⟨cbE 2 (wd_1576 hE) (wd_126 hE) (wd_1573 hE) rfl rfl (by decide +kernel) ⟨Nat.le_of_ble_eq_true rfl, Nat.le_of_ble_eq_true rfl⟩, (wd_1575 hE), (wd_71 hE)⟩ ⟨PR.blind, r_recv hK hP rfl, (r_pre (av := [.ref (b 0), .int (nI n5), .int y]) hK hP hJ hE)⟩ rfl rfl hl.1 rfl (lv_room (Nat.le_of_ble_eq_true rfl)) dX12_take_50 ⟨Nat.le_of_ble_eq_true rfl, Nat.le_of_ble_eq_true rfl⟩)) (fun r10 hr10 => ?_)
        have hau10 := (gg_od (a := a) (v := n5) (by assumption) (by first | assumption | omega)).2
        obtain ⟨n10, rfl, hn10_0⟩ := hr10
        obtain ⟨g11, hg11⟩ : ∃ g, rA u 3 = g := ⟨_, rfl⟩
        refine rc_v hAL hS hA (va_runS (As := [.ref (b 3), .int (nI n5), .int (nI n10)]) (rest := []) ⟨hx, hb, hml, hown, noTs⟩ (r_X12_single l dC dI s.heap.size cs b u a hA1 3 (by decide) g11 hg11 n5 (nI n10) (by first | assumption | omega | rfl | (congr 1; omega)) (by first | assumption | omega | rfl | (congr 1; omega))) ⟨cbE 3 (wd_1579 hE) (wd_126 hE) (wd_1577 hE) rfl rfl (by decide +kernel) ⟨Nat.le_of_ble_eq_true rfl, Nat.le_of_ble_eq_true rfl⟩, (wd_1578 hE)⟩ ⟨PR.blind, (r_pre (av := [.ref (b 3), .int (nI n5), .int (nI n10)]) hK hP hJ hE)⟩ rfl rfl hl.1 rfl (lv_room (Nat.le_of_ble_eq_true rfl)) dX12_take_53 ⟨Nat.le_of_ble_eq_true rfl, Nat.le_of_ble_eq_true rfl⟩) (fun u12 H locs hpo12 hP hS => ?_)
        obtain ⟨h12_0, h12_1, h12_2, h12_3, h12_4, hq12⟩ := hpo12
        obtain ⟨w13, hA13⟩ : ∃ g, rA u12 3 = g := ⟨_, rfl⟩
        rw [hA13] at h12_0 h12_1 h12_2 h12_3 h12_4
        have hA14 := (hq12.1 1 (by decide)).trans hA1
        have hF15x := (hq12.2.1 2 List.not_mem_nil).trans hF2
        have hfr := FR.step hfr hq12 (by decide) (fun _ h => absurd h List.not_mem_nil) (fun h => rfl)
        have hl12_0 := pg_le h12_0
        have q8 : LG a w13 := lg_mk (n := 0) h12_1 h12_3 h12_4 (by omega) (by omega)
        refine lv_aload_n hx hb dX12_take_56 rfl (lv_at hl 0 rfl) ?_
        refine lv_aload_n hx hb dX12_take_57 rfl (lv_at hl 0 rfl) ?_
        refine r_get (v := .ref (b 2)) hx hb (ly_X12 hE) hown hK hP rfl 4 (by decide) (wd_1385 hE) (fun _ h9 => h9) rfl dX12_take_58 ?_
        refine lv_iconst (v := 0) hx hb dX12_take_61 (by decide) ?_
        refine r_aald (j := 2) (k := 0) (n := 10) (t0 := 4) (j2 := 3) hx hb hK hP (by decide) rfl rfl (by decide) (by decide) rfl dX12_take_62 ?_
        refine rc_i hAL hS hA (va_runV (As := [.ref (b 3)]) (rest := []) ⟨hx, hb, hml, hown, noTs⟩ (r_X12_more l dC dI H.size cs b u12 a hA14 3 (by decide) w13 hA13 ac hF15x (by first | assumption | omega | rfl | (congr 1; omega)) (by first | assumption | omega | rfl | (congr 1; omega)) (by first | assumption | omega | rfl | (congr 1; omega)) (by first | assumption | omega | rfl | (congr 1; omega)) (by first | assumption | omega | rfl | (congr 1; omega))) ⟨cbE 1 (wd_1691 hE) (wd_126 hE) (wd_1688 hE) rfl rfl (by decide +kernel) ⟨Nat.le_of_ble_eq_true rfl, Nat.le_of_ble_eq_true rfl⟩, (wd_1690 hE), (wd_88 hE)⟩ ⟨PR.blind, r_recv hK hP rfl, (r_pre (av := [.ref (b 0), .ref (b 3)]) hK hP hJ hE)⟩ rfl rfl hl.1 rfl (lv_room (Nat.le_of_ble_eq_true rfl)) dX12_take_63 ⟨Nat.le_of_ble_eq_true rfl, Nat.le_of_ble_eq_true rfl⟩) (fun r16 u16 H locs hpo16 hP hS => ?_)
        obtain ⟨hr16, h16_0, h16_1, hq16⟩ := hpo16
        obtain ⟨w17, hA17⟩ : ∃ g, rA u16 1 = g := ⟨_, rfl⟩
        rw [hA17] at h16_0
        obtain ⟨n16_1, hn16_1, hfe16_1⟩ := h16_1
        have hA18 := (hq16.1 3 (by decide)).trans hA13
        have hfr := FR.step hfr hq16 (by decide) (by decide) (fun h => rfl)
        have hB := ab_0 h16_0
        have hG := bg_g hB
        have ha19 := gg_le hG
        have ha19b := bg_w hB
        exact W.iret (v := r16) hx hb hr (fun t ht hW => ⟨⟨r16, u16, rfl, ⟨trivial, (by first | (rw [hA17]; done) | (rw [hA17]; first | assumption | omega | rfl | (congr 1; omega))), (by first | (rw [hfe16_1]; done) | (rw [hfe16_1]; refine ⟨_, ?_, rfl⟩; omega)), hfr⟩, (show va_P (dC, dI) vwCl (rW cs b u16) t.heap by rw [ht]; exact hP)⟩, hS.F ht⟩) hS.2.2 dX12_take_66
      · have c9 := (b_eq (nI_toInt (n := wN a) (by omega)) (show Int32.toInt 10 = 10 from rfl)).mp c9
        refine lv_aload_n hx hb dX12_take_34 rfl (lv_at hl 0 rfl) ?_
        refine lv_iconst (v := 3) hx hb dX12_take_35 (by decide) ?_
        refine rc_i hAL hS hA (va_runV (As := [.int 3]) (rest := []) ⟨hx, hb, hml, hown, noTs⟩ (r_X12_refuse l dC dI s.heap.size cs b u a hA1 3) ⟨cbE 1 (wd_1498 hE) (wd_126 hE) (wd_1495 hE) rfl rfl (by decide +kernel) ⟨Nat.le_of_ble_eq_true rfl, Nat.le_of_ble_eq_true rfl⟩, (wd_1497 hE), (wd_54 hE)⟩ ⟨PR.blind, r_recv hK hP rfl, (r_pre (av := [.ref (b 0), .int 3]) hK hP hJ hE)⟩ rfl rfl hl.1 rfl (lv_room (Nat.le_of_ble_eq_true rfl)) dX12_take_36 ⟨Nat.le_of_ble_eq_true rfl, Nat.le_of_ble_eq_true rfl⟩) (fun r20 u20 H locs hpo20 hP hS => ?_)
        obtain ⟨hr20, hq20⟩ := hpo20
        have hA21 := (hq20.1 1 List.not_mem_nil).trans hA1
        have hF22x := (hq20.2.1 2 (by decide)).trans hF2
        have hfr := FR.step hfr hq20 (fun _ h => absurd h List.not_mem_nil) (by decide) (fun h => rfl)
        subst hr20
        exact W.iret (v := -1) hx hb hr (fun t ht hW => ⟨⟨-1, u20, rfl, ⟨trivial, (by first | (rw [hA21]; done) | (rw [hA21]; first | assumption | omega | rfl | (congr 1; omega))), (by first | (rw [hF22x]; done) | (rw [hF22x]; refine ⟨_, ?_, rfl⟩; omega)), hfr⟩, (show va_P (dC, dI) vwCl (rW cs b u20) t.heap by rw [ht]; exact hP)⟩, hS.F ht⟩) hS.2.2 dX12_take_39
    · refine lv_if_ne (tgt := 24) hx hb dX12_take_15 (by decide) (fun c23 => absurd c23 (by decide)) (fun c23 => ?_)
      refine lv_aload_n hx hb dX12_take_18 rfl (lv_at hl 0 rfl) ?_
      refine lv_iconst (v := 2) hx hb dX12_take_19 (by decide) ?_
      refine rc_i hAL hS hA (va_runV (As := [.int 2]) (rest := []) ⟨hx, hb, hml, hown, noTs⟩ (r_X12_refuse l dC dI s.heap.size cs b u a hA1 2) ⟨cbE 1 (wd_1498 hE) (wd_126 hE) (wd_1495 hE) rfl rfl (by decide +kernel) ⟨Nat.le_of_ble_eq_true rfl, Nat.le_of_ble_eq_true rfl⟩, (wd_1497 hE), (wd_54 hE)⟩ ⟨PR.blind, r_recv hK hP rfl, (r_pre (av := [.ref (b 0), .int 2]) hK hP hJ hE)⟩ rfl rfl hl.1 rfl (lv_room (Nat.le_of_ble_eq_true rfl)) dX12_take_20 ⟨Nat.le_of_ble_eq_true rfl, Nat.le_of_ble_eq_true rfl⟩) (fun r24 u24 H locs hpo24 hP hS => ?_)
      obtain ⟨hr24, hq24⟩ := hpo24
      have hA25 := (hq24.1 1 List.not_mem_nil).trans hA1
      have hF26x := (hq24.2.1 2 (by decide)).trans hF2
      have hfr := FR.step hfr hq24 (fun _ h => absurd h List.not_mem_nil) (by decide) (fun h => rfl)
      subst hr24
      exact W.iret (v := -1) hx hb hr (fun t ht hW => ⟨⟨-1, u24, rfl, ⟨trivial, (by first | (rw [hA25]; done) | (rw [hA25]; first | assumption | omega | rfl | (congr 1; omega))), (by first | (rw [hF26x]; done) | (rw [hF26x]; refine ⟨_, ?_, rfl⟩; omega)), hfr⟩, (show va_P (dC, dI) vwCl (rW cs b u24) t.heap by rw [ht]; exact hP)⟩, hS.F ht⟩) hS.2.2 dX12_take_23
  · have c4 := mt (b_le (show Int32.toInt 0 = 0 from rfl) (rfl : Int32.toInt y = _)).mpr c4
    refine lv_aload_n hx hb dX12_take_4 rfl (lv_at hl 0 rfl) ?_
    refine lv_iconst (v := 1) hx hb dX12_take_5 (by decide) ?_
    refine rc_i hAL hS hA (va_runV (As := [.int 1]) (rest := []) ⟨hx, hb, hml, hown, noTs⟩ (r_X12_refuse l dC dI s.heap.size cs b u a hA1 1) ⟨cbE 1 (wd_1498 hE) (wd_126 hE) (wd_1495 hE) rfl rfl (by decide +kernel) ⟨Nat.le_of_ble_eq_true rfl, Nat.le_of_ble_eq_true rfl⟩, (wd_1497 hE), (wd_54 hE)⟩ ⟨PR.blind, r_recv hK hP rfl, (r_pre (av := [.ref (b 0), .int 1]) hK hP hJ hE)⟩ rfl rfl hl.1 rfl (lv_room (Nat.le_of_ble_eq_true rfl)) dX12_take_6 ⟨Nat.le_of_ble_eq_true rfl, Nat.le_of_ble_eq_true rfl⟩) (fun r27 u27 H locs hpo27 hP hS => ?_)
    obtain ⟨hr27, hq27⟩ := hpo27
    have hA28 := (hq27.1 1 List.not_mem_nil).trans hA1
    have hF29x := (hq27.2.1 2 (by decide)).trans hF2
    have hfr := FR.step hfr hq27 (fun _ h => absurd h List.not_mem_nil) (by decide) (fun h => rfl)
    subst hr27
    exact W.iret (v := -1) hx hb hr (fun t ht hW => ⟨⟨-1, u27, rfl, ⟨trivial, (by first | (rw [hA28]; done) | (rw [hA28]; first | assumption | omega | rfl | (congr 1; omega))), (by first | (rw [hF29x]; done) | (rw [hF29x]; refine ⟨_, ?_, rfl⟩; omega)), hfr⟩, (show va_P (dC, dI) vwCl (rW cs b u27) t.heap by rw [ht]; exact hP)⟩, hS.F ht⟩) hS.2.2 dX12_take_9

set_option maxHeartbeats 4000000 in
set_option maxRecDepth 100000 in
theorem r_X12_form (l : Launch) (dC : Nat → ClassId) (dI : Nat → Nat → Nat) (sz : Nat) (cs : Nat → ClassId) (b : Nat → Nat) (u : RS) (a : Nat → Int32) (hA1 : rA u 1 = a) (x : Int32) (ac : Nat) (hF2 : rF u 2 = nI ac) (hp0 : AB a) (hp1 : ac ≤ 8) : Met l yX12_form [.code yX12_form cX12_form 3 (some .int)] ({ frames := 5, cells := 0, slots := 0, locals := 200 }) (PR [.ref (b 0), .int x] sz dC dI cs b u) (va_Qi (fun (r : Int32) (u' : RS) => (True) ∧ (AB (rA u' 1)) ∧ (∃ k : Nat, k ≤ 8 ∧ rF u' 2 = nI k) ∧ FR [1, 3, 4, 5, 6, 7, 8, 9, 10, 11, 12, 13, 14, 17, 18, 19, 20] [1, 2, 5, 21, 22] true u u') (BR dC dI cs b) (AR b sz)) 0 0 (AR b sz) := by
  refine Met.ofW (cc := cX12_form) (maxL := 3) (ret := (some .int)) (by decide) rfl ?_
  intro p e s m args below meth c s₁ B hml hv
  obtain ⟨rfl, hsz, hP, hK, hJ, hE⟩ := hv
  have hx := B.exec
  have hb := B.bytes
  have hr := B.returns
  have hown : s.vm.findClass RX12 = some m.cls := findClass_of_methodNamed B.named
  have hlocks := B.notSynchronized
  subst hsz
  have hAL : ∀ i, i < 108 → AR b s.heap.size (b i) := fun i h => Or.inl ⟨i, h, rfl⟩
  have hA : ∀ q : Nat, s.heap.size ≤ q → AR b s.heap.size q := fun q h => Or.inr h
  have hS : va_S (AR b s.heap.size) s.heap s.heap [] := va_S.rf
  have hfr : FR [1, 3, 4, 5, 6, 7, 8, 9, 10, 11, 12, 13, 14, 17, 18, 19, 20] [1, 2, 5, 21, 22] true u u := FR.refl
  have hl := lv_entry ([.ref (b 0), .int x]) (n := 3) (Nat.le_of_ble_eq_true rfl)
  rw [lg_entry_eq]
  generalize (lg_sl ([.ref (b 0), .int x]) ++ List.replicate (3 - (lg_sl ([.ref (b 0), .int x])).length) Slot.unset).toArray = ls at hl ⊢
  have hl : lv_has ls 3 [(0, .ref (b 0)), (1, .int x)] := hl
  have hB := ab_0 hp0
  have hG := bg_g hB
  have ha2 := gg_le hG
  have ha2b := bg_w hB
  refine lv_aload_n hx hb dX12_form_0 rfl (lv_at hl 0 rfl) ?_
  refine lv_iload_n hx hb dX12_form_1 rfl (lv_at hl 1 rfl) ?_
  refine vp_callSi (va_Run.run (va_runV (As := [.int x]) (rest := []) ⟨hx, hb, hml, hown, noTs⟩ (r_X12_isWord l dC dI s.heap.size cs b u a hA1 x (by first | assumption | omega | rfl | (congr 1; omega))) ⟨cbE 1 (wd_1653 hE) (wd_126 hE) (wd_1650 hE) rfl rfl (by decide +kernel) ⟨Nat.le_of_ble_eq_true rfl, Nat.le_of_ble_eq_true rfl⟩, (wd_1652 hE), (wd_83 hE)⟩ ⟨PR.blind, r_recv hK hP rfl, (r_pre (av := [.ref (b 0), .int x]) hK hP hJ hE)⟩ rfl rfl hl.1 rfl (lv_room (Nat.le_of_ble_eq_true rfl)) dX12_form_2 ⟨Nat.le_of_ble_eq_true rfl, Nat.le_of_ble_eq_true rfl⟩)) (fun r4 hr4 => ?_)
  rcases hr4 with ⟨rfl, hb4⟩ | ⟨rfl, hb4⟩
  · obtain ⟨n4, hbe4_1, hb4⟩ := hb4
    subst hbe4_1
    have hti5 := nI_toInt (n := n4) (by omega)
    refine lv_if_ne (tgt := 14) hx hb dX12_form_5 (by decide) (fun c6 => ?_) (fun c6 => absurd c6 (by decide))
    refine lv_aload_n hx hb dX12_form_14 rfl (lv_at hl 0 rfl) ?_
    refine lv_iconst (v := 0) hx hb dX12_form_15 (by decide) ?_
    refine rc_v hAL hS hA (va_runV (As := [.int (nI 0)]) (rest := []) ⟨hx, hb, hml, hown, noTs⟩ (r_X12_acted l dC dI s.heap.size cs b u a hA1 0 ac hF2 (by first | assumption | omega | rfl | (congr 1; omega)) (by first | assumption | omega | rfl | (congr 1; omega)) (by first | assumption | omega | rfl | (congr 1; omega))) ⟨cbE 1 (wd_1617 hE) (wd_126 hE) (wd_1614 hE) rfl rfl (by decide +kernel) ⟨Nat.le_of_ble_eq_true rfl, Nat.le_of_ble_eq_true rfl⟩, (wd_1616 hE), (wd_79 hE)⟩ ⟨PR.blind, r_recv hK hP rfl, (r_pre (av := [.ref (b 0), .int (nI 0)]) hK hP hJ hE)⟩ rfl rfl hl.1 rfl (lv_room (Nat.le_of_ble_eq_true rfl)) dX12_form_16 ⟨Nat.le_of_ble_eq_true rfl, Nat.le_of_ble_eq_true rfl⟩) (fun u7 H locs hpo7 hP hS => ?_)
    obtain ⟨h7_0, h7_1, h7_2, hq7⟩ := hpo7
    obtain ⟨w8, hA8⟩ : ∃ g, rA u7 1 = g := ⟨_, rfl⟩
    rw [hA8] at h7_0 h7_1
    obtain ⟨n7_2, hn7_2, hfe7_2⟩ := h7_2
    have hfr := FR.step hfr hq7 (by decide) (by decide) (fun h => rfl)
    have hB := ab_0 h7_0
    have hG := bg_g hB
    have ha9 := gg_le hG
    have ha9b := bg_w hB
    have mw : wN w8 = wN a := by unfold wN; rw [h7_1 2 (by omega)]
    have aba := h7_0
    refine lv_aload_n hx hb dX12_form_19 rfl (lv_at hl 0 rfl) ?_
    refine lv_iload_n hx hb dX12_form_20 rfl (lv_at hl 1 rfl) ?_
    refine lv_aload_n hx hb dX12_form_21 rfl (lv_at hl 0 rfl) ?_
    refine r_get (v := .ref (b 2)) hx hb (ly_X12 hE) hown hK hP rfl 4 (by decide) (wd_1385 hE) (fun _ h9 => h9) rfl dX12_form_22 ?_
    refine lv_iconst (v := 0) hx hb dX12_form_25 (by decide) ?_
    refine r_aald (j := 2) (k := 0) (n := 10) (t0 := 4) (j2 := 3) hx hb hK hP (by decide) rfl rfl (by decide) (by decide) rfl dX12_form_26 ?_
    have BG1 := hB
    have PW : n4 < wN w8 := by omega
    obtain ⟨g10, hg10⟩ : ∃ g, rA u7 3 = g := ⟨_, rfl⟩
    refine rc_v hAL hS hA (va_runV (As := [.int (nI n4), .ref (b 3)]) (rest := []) ⟨hx, hb, hml, hown, noTs⟩ (r_X12_takes l dC dI H.size cs b u7 w8 hA8 n4 3 (by decide) g10 hg10 (by first | assumption | omega | rfl | (congr 1; omega)) (by first | assumption | omega | rfl | (congr 1; omega))) ⟨cbE 2 (wd_1657 hE) (wd_126 hE) (wd_1654 hE) rfl rfl (by decide +kernel) ⟨Nat.le_of_ble_eq_true rfl, Nat.le_of_ble_eq_true rfl⟩, (wd_1656 hE), (wd_84 hE)⟩ ⟨PR.blind, r_recv hK hP rfl, (r_pre (av := [.ref (b 0), .int (nI n4), .ref (b 3)]) hK hP hJ hE)⟩ rfl rfl hl.1 rfl (lv_room (Nat.le_of_ble_eq_true rfl)) dX12_form_27 ⟨Nat.le_of_ble_eq_true rfl, Nat.le_of_ble_eq_true rfl⟩) (fun u11 H locs hpo11 hP hS => ?_)
    obtain ⟨h11_0, h11_1, h11_2, h11_3, h11_4, h11_5, hq11⟩ := hpo11
    obtain ⟨w12, hA12⟩ : ∃ g, rA u11 3 = g := ⟨_, rfl⟩
    rw [hA12] at h11_0 h11_1 h11_2 h11_3 h11_4 h11_5
    have hA13 := (hq11.1 1 (by decide)).trans hA8
    have hF14x := (hq11.2.1 2 List.not_mem_nil).trans hfe7_2
    have hfr := FR.step hfr hq11 (by decide) (fun _ h => absurd h List.not_mem_nil) (fun h => rfl)
    have hl11_0 := pg_le h11_0
    refine lv_aload_n hx hb dX12_form_30 rfl (lv_at hl 0 rfl) ?_
    refine lv_aload_n hx hb dX12_form_31 rfl (lv_at hl 0 rfl) ?_
    refine r_get (v := .ref (b 2)) hx hb (ly_X12 hE) hown hK hP rfl 4 (by decide) (wd_1385 hE) (fun _ h9 => h9) rfl dX12_form_32 ?_
    refine lv_iconst (v := 0) hx hb dX12_form_35 (by decide) ?_
    refine r_aald (j := 2) (k := 0) (n := 10) (t0 := 4) (j2 := 3) hx hb hK hP (by decide) rfl rfl (by decide) (by decide) rfl dX12_form_36 ?_
    refine lv_aload_n hx hb dX12_form_37 rfl (lv_at hl 0 rfl) ?_
    refine r_get (v := .ref (b 2)) hx hb (ly_X12 hE) hown hK hP rfl 4 (by decide) (wd_1385 hE) (fun _ h9 => h9) rfl dX12_form_38 ?_
    refine lv_iconst (v := 1) hx hb dX12_form_41 (by decide) ?_
    refine r_aald (j := 2) (k := 1) (n := 10) (t0 := 4) (j2 := 4) hx hb hK hP (by decide) rfl rfl (by decide) (by decide) rfl dX12_form_42 ?_
    obtain ⟨g15, hg15⟩ : ∃ g, rA u11 4 = g := ⟨_, rfl⟩
    refine rc_v hAL hS hA (va_runV (As := [.ref (b 3), .ref (b 4)]) (rest := []) ⟨hx, hb, hml, hown, noTs⟩ (r_X12_forms l dC dI H.size cs b u11 w8 hA13 3 (by decide) w12 hA12 4 (by decide) g15 hg15 (by first | assumption | omega | rfl | (congr 1; omega)) (by first | assumption | omega | rfl | (congr 1; omega)) (by first | assumption | omega | rfl | (congr 1; omega)) (by first | assumption | omega | rfl | (congr 1; omega))) ⟨cbE 2 (wd_1661 hE) (wd_126 hE) (wd_1658 hE) rfl rfl (by decide +kernel) ⟨Nat.le_of_ble_eq_true rfl, Nat.le_of_ble_eq_true rfl⟩, (wd_1660 hE), (wd_85 hE)⟩ ⟨PR.blind, r_recv hK hP rfl, (r_pre (av := [.ref (b 0), .ref (b 3), .ref (b 4)]) hK hP hJ hE)⟩ rfl rfl hl.1 rfl (lv_room (Nat.le_of_ble_eq_true rfl)) dX12_form_43 ⟨Nat.le_of_ble_eq_true rfl, Nat.le_of_ble_eq_true rfl⟩) (fun u16 H locs hpo16 hP hS => ?_)
    obtain ⟨h16_0, h16_1, h16_2, h16_3, h16_4, hq16⟩ := hpo16
    obtain ⟨w17, hA17⟩ : ∃ g, rA u16 4 = g := ⟨_, rfl⟩
    rw [hA17] at h16_0 h16_1 h16_2 h16_3 h16_4
    have hA18 := (hq16.1 1 (by decide)).trans hA13
    have hA19 := (hq16.1 3 (by decide)).trans hA12
    have hF20x := (hq16.2.1 2 (by decide)).trans hF14x
    have hfr := FR.step hfr hq16 (by decide) (by decide) (fun h => rfl)
    have hl16_0 := pg_le h16_0
    have PG4 := h16_0
    have LG4 := h16_1
    refine lv_iconst (v := 0) hx hb dX12_form_46 (by decide) ?_
    refine lv_istore_n (lv' := [(2, .int 0), (0, .ref (b 0)), (1, .int (nI n4))]) hx hb dX12_form_47 rfl hl (by decide) rfl (fun ls hl => ?_)
    refine r_ind (I := fun n u_ H locs ls => va_P (dC, dI) vwCl (rW cs b u_) H ∧ va_S (AR b s.heap.size) s.heap H locs ∧ FR [1, 3, 4, 5, 6, 7, 8, 9, 10, 11, 12, 13, 14, 17, 18, 19, 20] [1, 2, 5, 21, 22] true u u_ ∧ ∃ (k_21 : Nat) (g_21 : Nat → Int32), n = 52 - k_21 ∧ (k_21 ≤ 52) ∧ (∀ q, q < k_21 → g_21 (34 + 52 * n4 + q) = w17 q) ∧ (∀ q, (q < 34 + 52 * n4 ∨ 34 + 52 * n4 + k_21 ≤ q) → g_21 q = w8 q) ∧ (rA u_ 1 = g_21) ∧ (rA u_ 4 = w17) ∧ (rF u_ 2 = nI n7_2) ∧ lv_has ls 3 [(0, .ref (b 0)), (1, .int (nI n4)), (2, .int (nI k_21))]) (fun n u21 H locs ls hI ih21 => ?_) _ u16 _ _ _ ⟨hP, hS, hfr, 0, w8, rfl, (by first | assumption | omega | rfl | (congr 1; omega)), (by intro q hq; omega), (by intro q _; rfl), hA18, hA17, hF20x, lv_sub hl [1, 2, 0] rfl⟩
    obtain ⟨hP, hS, hfr, k_21, g_21, hmu21, hL21_0, hL21_1, hL21_2, hL21_3, hL21_4, hL21_5, hl⟩ := hI
    subst hmu21
    refine lv_iload_n hx hb dX12_form_48 rfl (lv_at hl 2 rfl) ?_
    refine lv_bipush (v := 52) hx hb dX12_form_49 (by decide) ?_
    refine lv_icmp_ge (tgt := 82) hx hb dX12_form_51 (by decide) (fun c22 => ?_) (fun c22 => ?_)
    · have c22 := (b_le (show Int32.toInt 52 = 52 from rfl) (nI_toInt (n := k_21) (by omega))).mp c22
      have bgx := bg_put BG1 PW PG4 LG4 (by omega) (fun k hk => hL21_1 k (by omega)) (fun k hk => hL21_2 k (by omega))
      have abx := ab_now aba bgx (fun k hk => hL21_2 k (by omega))
      refine lv_aload_n hx hb dX12_form_82 rfl (lv_at hl 0 rfl) ?_
      refine lv_aload_n hx hb dX12_form_83 rfl (lv_at hl 0 rfl) ?_
      refine r_get (v := .ref (b 2)) hx hb (ly_X12 hE) hown hK hP rfl 4 (by decide) (wd_1385 hE) (fun _ h9 => h9) rfl dX12_form_84 ?_
      refine lv_iconst (v := 1) hx hb dX12_form_87 (by decide) ?_
      refine r_aald (j := 2) (k := 1) (n := 10) (t0 := 4) (j2 := 4) hx hb hK hP (by decide) rfl rfl (by decide) (by decide) rfl dX12_form_88 ?_
      refine lv_iconst (v := 1) hx hb dX12_form_89 (by decide) ?_
      refine r_iald (j := 4) (k := 1) (n := 200) (x := nI (rn w17)) hx hb hK hP (by decide) rfl (by decide) (by decide) (by rw [hL21_4]; exact pg_n h16_0) dX12_form_90 ?_
      refine rc_i hAL hS hA (va_runV (As := [.int (nI (rn w17))]) (rest := []) ⟨hx, hb, hml, hown, noTs⟩ (r_X12_gives l dC dI H.size cs b u21 g_21 hL21_3 (nI (rn w17))) ⟨cbE 1 (wd_1621 hE) (wd_126 hE) (wd_1618 hE) rfl rfl (by decide +kernel) ⟨Nat.le_of_ble_eq_true rfl, Nat.le_of_ble_eq_true rfl⟩, (wd_1620 hE), (wd_80 hE)⟩ ⟨PR.blind, r_recv hK hP rfl, (r_pre (av := [.ref (b 0), .int (nI (rn w17))]) hK hP hJ hE)⟩ rfl rfl hl.1 rfl (lv_room (Nat.le_of_ble_eq_true rfl)) dX12_form_91 ⟨Nat.le_of_ble_eq_true rfl, Nat.le_of_ble_eq_true rfl⟩) (fun r24 u24 H locs hpo24 hP hS => ?_)
      obtain ⟨hr24, hq24⟩ := hpo24
      have hA25 := (hq24.1 1 List.not_mem_nil).trans hL21_3
      have hA26 := (hq24.1 4 List.not_mem_nil).trans hL21_4
      have hF27x := (hq24.2.1 2 (by decide)).trans hL21_5
      have hfr := FR.step hfr hq24 (fun _ h => absurd h List.not_mem_nil) (by decide) (fun h => rfl)
      refine W.eq (g2 := F0 m 94 ls [.int (nI (rn w17))]) (by rw [hr24]) ?_
      exact W.iret (v := nI (rn w17)) hx hb hr (fun t ht hW => ⟨⟨nI (rn w17), u24, rfl, ⟨trivial, (by first | (rw [hA25]; done) | (rw [hA25]; exact abx)), (by first | (rw [hF27x]; done) | (rw [hF27x]; refine ⟨_, ?_, rfl⟩; omega)), hfr⟩, (show va_P (dC, dI) vwCl (rW cs b u24) t.heap by rw [ht]; exact hP)⟩, hS.F ht⟩) hS.2.2 dX12_form_94
    · have c22 := mt (b_le (show Int32.toInt 52 = 52 from rfl) (nI_toInt (n := k_21) (by omega))).mpr c22
      refine lv_aload_n hx hb dX12_form_54 rfl (lv_at hl 0 rfl) ?_
      refine r_get (v := .ref (b 1)) hx hb (ly_X12 hE) hown hK hP rfl 0 (by decide) (wd_1381 hE) (fun _ h9 => h9) rfl dX12_form_55 ?_
      refine lv_bipush (v := 34) hx hb dX12_form_58 (by decide) ?_
      refine lv_bipush (v := 52) hx hb dX12_form_60 (by decide) ?_
      refine lv_iload_n hx hb dX12_form_62 rfl (lv_at hl 1 rfl) ?_
      refine lv_imul hx hb dX12_form_63 ?_
      refine W.eq (g2 := F0 m 64 ls [.int (nI (52 * n4)), .int 34, .ref (b 1)]) (congrArg (fun z : Int32 => F0 m 64 ls (.int z :: [.int 34, .ref (b 1)])) (pk_mul 52 n4)) ?_
      refine lv_iadd hx hb dX12_form_64 ?_
      refine W.eq (g2 := F0 m 65 ls [.int (nI (34 + (52 * n4))), .ref (b 1)]) (congrArg (fun z : Int32 => F0 m 65 ls (.int z :: [.ref (b 1)])) (nI_add 34 (52 * n4))) ?_
      refine lv_iload_n hx hb dX12_form_65 rfl (lv_at hl 2 rfl) ?_
      refine lv_iadd hx hb dX12_form_66 ?_
      refine W.eq (g2 := F0 m 67 ls [.int (nI ((34 + (52 * n4)) + k_21)), .ref (b 1)]) (congrArg (fun z : Int32 => F0 m 67 ls (.int z :: [.ref (b 1)])) (nI_add (34 + (52 * n4)) k_21)) ?_
      refine lv_aload_n hx hb dX12_form_67 rfl (lv_at hl 0 rfl) ?_
      refine r_get (v := .ref (b 2)) hx hb (ly_X12 hE) hown hK hP rfl 4 (by decide) (wd_1385 hE) (fun _ h9 => h9) rfl dX12_form_68 ?_
      refine lv_iconst (v := 1) hx hb dX12_form_71 (by decide) ?_
      refine r_aald (j := 2) (k := 1) (n := 10) (t0 := 4) (j2 := 4) hx hb hK hP (by decide) rfl rfl (by decide) (by decide) rfl dX12_form_72 ?_
      refine lv_iload_n hx hb dX12_form_73 rfl (lv_at hl 2 rfl) ?_
      refine r_iald (j := 4) (k := k_21) (n := 200) (x := w17 k_21) hx hb hK hP (by decide) rfl (by omega) (by decide) (by rw [hL21_4]) dX12_form_74 ?_
      refine lv_topi (fun x29 ex29 => ?_)
      have hv1 := ex29
      refine r_iast (j := 1) (k := (34 + (52 * n4)) + k_21) (n := 7202) (x := x29) hx hb hK hP hJ hAL hS (by decide) (fun _ => rfl) hL21_3 (by omega) (by decide) dX12_form_75 (fun u30 H locs hs30 hq30 hP hS => ?_)
      obtain ⟨w30, hw30⟩ : ∃ g, g = upd g_21 ((34 + (52 * n4)) + k_21) x29 := ⟨_, rfl⟩
      rw [← hw30] at hs30
      have hA31 := (hq30.1 4 (by decide)).trans hL21_4
      have hF32x := (hq30.2.1 2 List.not_mem_nil).trans hL21_5
      have hfr := FR.step hfr hq30 (by decide) (fun _ h => absurd h List.not_mem_nil) (fun h => rfl)
      have k1 := hw30
      refine lv_iinc (v := nI (k_21 + 1)) (lv' := [(2, .int (nI (k_21 + 1))), (0, .ref (b 0)), (1, .int (nI n4))]) hx hb dX12_form_76 hl (k := 2) rfl (nI_1 k_21) (by decide) rfl (fun ls hl => ?_)
      refine lv_goto (tgt := 48) hx hb dX12_form_79 (by decide) ?_
      exact ih21 _ u30 _ _ _ (by omega) ⟨hP, hS, hfr, (k_21 + 1), w30, rfl, (by first | assumption | omega | rfl | (congr 1; omega)), (by exact upd_at k1 hv1 hL21_1), (by intro q hq; rw [k1, pk_un (by omega)]; exact hL21_2 q (by omega)), hs30, hA31, hF32x, lv_sub hl [1, 2, 0] rfl⟩
  · refine lv_if_ne (tgt := 14) hx hb dX12_form_5 (by decide) (fun c33 => absurd c33 (by decide)) (fun c33 => ?_)
    refine lv_aload_n hx hb dX12_form_8 rfl (lv_at hl 0 rfl) ?_
    refine lv_iconst (v := 2) hx hb dX12_form_9 (by decide) ?_
    refine rc_i hAL hS hA (va_runV (As := [.int 2]) (rest := []) ⟨hx, hb, hml, hown, noTs⟩ (r_X12_refuse l dC dI s.heap.size cs b u a hA1 2) ⟨cbE 1 (wd_1498 hE) (wd_126 hE) (wd_1495 hE) rfl rfl (by decide +kernel) ⟨Nat.le_of_ble_eq_true rfl, Nat.le_of_ble_eq_true rfl⟩, (wd_1497 hE), (wd_54 hE)⟩ ⟨PR.blind, r_recv hK hP rfl, (r_pre (av := [.ref (b 0), .int 2]) hK hP hJ hE)⟩ rfl rfl hl.1 rfl (lv_room (Nat.le_of_ble_eq_true rfl)) dX12_form_10 ⟨Nat.le_of_ble_eq_true rfl, Nat.le_of_ble_eq_true rfl⟩) (fun r34 u34 H locs hpo34 hP hS => ?_)
    obtain ⟨hr34, hq34⟩ := hpo34
    have hA35 := (hq34.1 1 List.not_mem_nil).trans hA1
    have hF36x := (hq34.2.1 2 (by decide)).trans hF2
    have hfr := FR.step hfr hq34 (fun _ h => absurd h List.not_mem_nil) (by decide) (fun h => rfl)
    subst hr34
    exact W.iret (v := -1) hx hb hr (fun t ht hW => ⟨⟨-1, u34, rfl, ⟨trivial, (by first | (rw [hA35]; done) | (rw [hA35]; first | assumption | omega | rfl | (congr 1; omega))), (by first | (rw [hF36x]; done) | (rw [hF36x]; refine ⟨_, ?_, rfl⟩; omega)), hfr⟩, (show va_P (dC, dI) vwCl (rW cs b u34) t.heap by rw [ht]; exact hP)⟩, hS.F ht⟩) hS.2.2 dX12_form_13

set_option maxHeartbeats 4000000 in
set_option maxRecDepth 100000 in
theorem r_X12_times (l : Launch) (dC : Nat → ClassId) (dI : Nat → Nat → Nat) (sz : Nat) (cs : Nat → ClassId) (b : Nat → Nat) (u : RS) (a : Nat → Int32) (hA1 : rA u 1 = a) (x : Int32) (y : Int32) (ac : Nat) (hF2 : rF u 2 = nI ac) (hp0 : AB a) (hp1 : ac ≤ 8) : Met l yX12_times [.code yX12_times cX12_times 3 (some .int)] ({ frames := 6, cells := 0, slots := 0, locals := 240 }) (PR [.ref (b 0), .int x, .int y] sz dC dI cs b u) (va_Qi (fun (r : Int32) (u' : RS) => (True) ∧ (AB (rA u' 1)) ∧ (∃ k : Nat, k ≤ 8 ∧ rF u' 2 = nI k) ∧ FR [1, 3, 4, 5, 6, 7, 8, 9, 10, 11, 12, 13, 14, 17, 18, 19, 20] [1, 2, 5, 21, 22] true u u') (BR dC dI cs b) (AR b sz)) 0 0 (AR b sz) := by
  refine Met.ofW (cc := cX12_times) (maxL := 3) (ret := (some .int)) (by decide) rfl ?_
  intro p e s m args below meth c s₁ B hml hv
  obtain ⟨rfl, hsz, hP, hK, hJ, hE⟩ := hv
  have hx := B.exec
  have hb := B.bytes
  have hr := B.returns
  have hown : s.vm.findClass RX12 = some m.cls := findClass_of_methodNamed B.named
  have hlocks := B.notSynchronized
  subst hsz
  have hAL : ∀ i, i < 108 → AR b s.heap.size (b i) := fun i h => Or.inl ⟨i, h, rfl⟩
  have hA : ∀ q : Nat, s.heap.size ≤ q → AR b s.heap.size q := fun q h => Or.inr h
  have hS : va_S (AR b s.heap.size) s.heap s.heap [] := va_S.rf
  have hfr : FR [1, 3, 4, 5, 6, 7, 8, 9, 10, 11, 12, 13, 14, 17, 18, 19, 20] [1, 2, 5, 21, 22] true u u := FR.refl
  have hl := lv_entry ([.ref (b 0), .int x, .int y]) (n := 3) (Nat.le_of_ble_eq_true rfl)
  rw [lg_entry_eq]
  generalize (lg_sl ([.ref (b 0), .int x, .int y]) ++ List.replicate (3 - (lg_sl ([.ref (b 0), .int x, .int y])).length) Slot.unset).toArray = ls at hl ⊢
  have hl : lv_has ls 3 [(0, .ref (b 0)), (1, .int x), (2, .int y)] := hl
  have hB := ab_0 hp0
  have hG := bg_g hB
  have ha2 := gg_le hG
  have ha2b := bg_w hB
  refine lv_aload_n hx hb dX12_times_0 rfl (lv_at hl 0 rfl) ?_
  refine lv_iload_n hx hb dX12_times_1 rfl (lv_at hl 1 rfl) ?_
  refine vp_callSi (va_Run.run (va_runV (As := [.int x]) (rest := []) ⟨hx, hb, hml, hown, noTs⟩ (r_X12_isWord l dC dI s.heap.size cs b u a hA1 x (by first | assumption | omega | rfl | (congr 1; omega))) ⟨cbE 1 (wd_1653 hE) (wd_126 hE) (wd_1650 hE) rfl rfl (by decide +kernel) ⟨Nat.le_of_ble_eq_true rfl, Nat.le_of_ble_eq_true rfl⟩, (wd_1652 hE), (wd_83 hE)⟩ ⟨PR.blind, r_recv hK hP rfl, (r_pre (av := [.ref (b 0), .int x]) hK hP hJ hE)⟩ rfl rfl hl.1 rfl (lv_room (Nat.le_of_ble_eq_true rfl)) dX12_times_2 ⟨Nat.le_of_ble_eq_true rfl, Nat.le_of_ble_eq_true rfl⟩)) (fun r4 hr4 => ?_)
  rcases hr4 with ⟨rfl, hb4⟩ | ⟨rfl, hb4⟩
  · obtain ⟨n4, hbe4_1, hb4⟩ := hb4
    subst hbe4_1
    have hti5 := nI_toInt (n := n4) (by omega)
    refine lv_if_eq (tgt := 16) hx hb dX12_times_5 (by decide) (fun c6 => absurd c6 (by decide)) (fun c6 => ?_)
    refine lv_aload_n hx hb dX12_times_8 rfl (lv_at hl 0 rfl) ?_
    refine lv_iload_n hx hb dX12_times_9 rfl (lv_at hl 2 rfl) ?_
    refine vp_callSi (va_Run.run (va_runV (As := [.int y]) (rest := []) ⟨hx, hb, hml, hown, noTs⟩ (r_X12_isWord l dC dI s.heap.size cs b u a hA1 y (by first | assumption | omega | rfl | (congr 1; omega))) ⟨cbE 1 (wd_1653 hE) (wd_126 hE) (wd_1650 hE) rfl rfl (by decide +kernel) ⟨Nat.le_of_ble_eq_true rfl, Nat.le_of_ble_eq_true rfl⟩, (wd_1652 hE), (wd_83 hE)⟩ ⟨PR.blind, r_recv hK hP rfl, (r_pre (av := [.ref (b 0), .int y]) hK hP hJ hE)⟩ rfl rfl hl.1 rfl (lv_room (Nat.le_of_ble_eq_true rfl)) dX12_times_10 ⟨Nat.le_of_ble_eq_true rfl, Nat.le_of_ble_eq_true rfl⟩)) (fun r7 hr7 => ?_)
    rcases hr7 with ⟨rfl, hb7⟩ | ⟨rfl, hb7⟩
    · obtain ⟨n7, hbe7_1, hb7⟩ := hb7
      subst hbe7_1
      have hti8 := nI_toInt (n := n7) (by omega)
      refine lv_if_ne (tgt := 22) hx hb dX12_times_13 (by decide) (fun c9 => ?_) (fun c9 => absurd c9 (by decide))
      refine lv_aload_n hx hb dX12_times_22 rfl (lv_at hl 0 rfl) ?_
      refine lv_iconst (v := 2) hx hb dX12_times_23 (by decide) ?_
      refine vp_callSi (va_Run.run (va_runV (As := [.int (nI 2)]) (rest := []) ⟨hx, hb, hml, hown, noTs⟩ (r_X12_of l dC dI s.heap.size cs b u a hA1 2 (by first | assumption | omega | rfl | (congr 1; omega))) ⟨cbE 1 (wd_1536 hE) (wd_126 hE) (wd_1533 hE) rfl rfl (by decide +kernel) ⟨Nat.le_of_ble_eq_true rfl, Nat.le_of_ble_eq_true rfl⟩, (wd_1535 hE), (wd_61 hE)⟩ ⟨PR.blind, r_recv hK hP rfl, (r_pre (av := [.ref (b 0), .int (nI 2)]) hK hP hJ hE)⟩ rfl rfl hl.1 rfl (lv_room (Nat.le_of_ble_eq_true rfl)) dX12_times_24 ⟨Nat.le_of_ble_eq_true rfl, Nat.le_of_ble_eq_true rfl⟩)) (fun r10 hr10 => ?_)
      have hr10 := hr10.trans ((bg_w hB).1)
      subst hr10
      refine lv_bipush (v := 10) hx hb dX12_times_27 (by decide) ?_
      refine lv_icmp_ne (tgt := 38) hx hb dX12_times_29 (by decide) (fun c11 => ?_) (fun c11 => ?_)
      · have c11 := mt (b_eq (nI_toInt (n := wN a) (by omega)) (show Int32.toInt 10 = 10 from rfl)).mpr c11
        have hw9 : wN a ≤ 9 := by omega
        refine lv_aload_n hx hb dX12_times_38 rfl (lv_at hl 0 rfl) ?_
        refine lv_iload_n hx hb dX12_times_39 rfl (lv_at hl 1 rfl) ?_
        refine lv_aload_n hx hb dX12_times_40 rfl (lv_at hl 0 rfl) ?_
        refine r_get (v := .ref (b 2)) hx hb (ly_X12 hE) hown hK hP rfl 4 (by decide) (wd_1385 hE) (fun _ h9 => h9) rfl dX12_times_41 ?_
        refine lv_iconst (v := 0) hx hb dX12_times_44 (by decide) ?_
        refine r_aald (j := 2) (k := 0) (n := 10) (t0 := 4) (j2 := 3) hx hb hK hP (by decide) rfl rfl (by decide) (by decide) rfl dX12_times_45 ?_
        obtain ⟨g12, hg12⟩ : ∃ g, rA u 3 = g := ⟨_, rfl⟩
        refine rc_v hAL hS hA (va_runV (As := [.int (nI n4), .ref (b 3)]) (rest := []) ⟨hx, hb, hml, hown, noTs⟩ (r_X12_takes l dC dI s.heap.size cs b u a hA1 n4 3 (by decide) g12 hg12 (by first | assumption | omega | rfl | (congr 1; omega)) (by first | assumption | omega | rfl | (congr 1; omega))) ⟨cbE 2 (wd_1657 hE) (wd_126 hE) (wd_1654 hE) rfl rfl (by decide +kernel) ⟨Nat.le_of_ble_eq_true rfl, Nat.le_of_ble_eq_true rfl⟩, (wd_1656 hE), (wd_84 hE)⟩ ⟨PR.blind, r_recv hK hP rfl, (r_pre (av := [.ref (b 0), .int (nI n4), .ref (b 3)]) hK hP hJ hE)⟩ rfl rfl hl.1 rfl (lv_room (Nat.le_of_ble_eq_true rfl)) dX12_times_46 ⟨Nat.le_of_ble_eq_true rfl, Nat.le_of_ble_eq_true rfl⟩) (fun u13 H locs hpo13 hP hS => ?_)
        obtain ⟨h13_0, h13_1, h13_2, h13_3, h13_4, h13_5, hq13⟩ := hpo13
        obtain ⟨w14, hA14⟩ : ∃ g, rA u13 3 = g := ⟨_, rfl⟩
        rw [hA14] at h13_0 h13_1 h13_2 h13_3 h13_4 h13_5
        have hA15 := (hq13.1 1 (by decide)).trans hA1
        have hF16x := (hq13.2.1 2 List.not_mem_nil).trans hF2
        have hfr := FR.step hfr hq13 (by decide) (fun _ h => absurd h List.not_mem_nil) (fun h => rfl)
        have hl13_0 := pg_le h13_0
        refine lv_aload_n hx hb dX12_times_49 rfl (lv_at hl 0 rfl) ?_
        refine lv_iload_n hx hb dX12_times_50 rfl (lv_at hl 2 rfl) ?_
        refine lv_aload_n hx hb dX12_times_51 rfl (lv_at hl 0 rfl) ?_
        refine r_get (v := .ref (b 2)) hx hb (ly_X12 hE) hown hK hP rfl 4 (by decide) (wd_1385 hE) (fun _ h9 => h9) rfl dX12_times_52 ?_
        refine lv_iconst (v := 1) hx hb dX12_times_55 (by decide) ?_
        refine r_aald (j := 2) (k := 1) (n := 10) (t0 := 4) (j2 := 4) hx hb hK hP (by decide) rfl rfl (by decide) (by decide) rfl dX12_times_56 ?_
        obtain ⟨g17, hg17⟩ : ∃ g, rA u13 4 = g := ⟨_, rfl⟩
        refine rc_v hAL hS hA (va_runV (As := [.int (nI n7), .ref (b 4)]) (rest := []) ⟨hx, hb, hml, hown, noTs⟩ (r_X12_takes l dC dI H.size cs b u13 a hA15 n7 4 (by decide) g17 hg17 (by first | assumption | omega | rfl | (congr 1; omega)) (by first | assumption | omega | rfl | (congr 1; omega))) ⟨cbE 2 (wd_1657 hE) (wd_126 hE) (wd_1654 hE) rfl rfl (by decide +kernel) ⟨Nat.le_of_ble_eq_true rfl, Nat.le_of_ble_eq_true rfl⟩, (wd_1656 hE), (wd_84 hE)⟩ ⟨PR.blind, r_recv hK hP rfl, (r_pre (av := [.ref (b 0), .int (nI n7), .ref (b 4)]) hK hP hJ hE)⟩ rfl rfl hl.1 rfl (lv_room (Nat.le_of_ble_eq_true rfl)) dX12_times_57 ⟨Nat.le_of_ble_eq_true rfl, Nat.le_of_ble_eq_true rfl⟩) (fun u18 H locs hpo18 hP hS => ?_)
        obtain ⟨h18_0, h18_1, h18_2, h18_3, h18_4, h18_5, hq18⟩ := hpo18
        obtain ⟨w19, hA19⟩ : ∃ g, rA u18 4 = g := ⟨_, rfl⟩
        rw [hA19] at h18_0 h18_1 h18_2 h18_3 h18_4 h18_5
        have hA20 := (hq18.1 1 (by decide)).trans hA15
        have hA21 := (hq18.1 3 (by decide)).trans hA14
        have hF22x := (hq18.2.1 2 List.not_mem_nil).trans hF16x
        have hfr := FR.step hfr hq18 (by decide) (fun _ h => absurd h List.not_mem_nil) (fun h => rfl)
        have hl18_0 := pg_le h18_0
        refine lv_aload_n hx hb dX12_times_60 rfl (lv_at hl 0 rfl) ?_
        refine lv_aload_n hx hb dX12_times_61 rfl (lv_at hl 0 rfl) ?_
        refine r_get (v := .ref (b 2)) hx hb (ly_X12 hE) hown hK hP rfl 4 (by decide) (wd_1385 hE) (fun _ h9 => h9) rfl dX12_times_62 ?_
        refine lv_iconst (v := 0) hx hb dX12_times_65 (by decide) ?_
        refine r_aald (j := 2) (k := 0) (n := 10) (t0 := 4) (j2 := 3) hx hb hK hP (by decide) rfl rfl (by decide) (by decide) rfl dX12_times_66 ?_
        refine vp_callSi (va_Run.run (va_runV (As := [.ref (b 3)]) (rest := []) ⟨hx, hb, hml, hown, noTs⟩ (r_X12_end l dC dI H.size cs b u18 a hA20 3 (by decide) w14 hA21 (by first | assumption | omega | rfl | (congr 1; omega)) (by first | assumption | omega | rfl | (congr 1; omega))) ⟨cbE 1 (wd_1599 hE) (wd_126 hE) (wd_1596 hE) rfl rfl (by decide +kernel) ⟨Nat.le_of_ble_eq_true rfl, Nat.le_of_ble_eq_true rfl⟩, (wd_1598 hE), (wd_76 hE)⟩ ⟨PR.blind, r_recv hK hP rfl, (r_pre (av := [.ref (b 0), .ref (b 3)]) hK hP hJ hE)⟩ rfl rfl hl.1 rfl (lv_room (Nat.le_of_ble_eq_true rfl)) dX12_times_67 ⟨Nat.le_of_ble_eq_true rfl, Nat.le_of_ble_eq_true rfl⟩)) (fun r23 hr23 => ?_)
        have hau23 := pg_end (a := a) (w := w14) (by assumption) (by assumption)
        subst hr23
        refine lv_aload_n hx hb dX12_times_70 rfl (lv_at hl 0 rfl) ?_
        refine r_get (v := .ref (b 2)) hx hb (ly_X12 hE) hown hK hP rfl 4 (by decide) (wd_1385 hE) (fun _ h9 => h9) rfl dX12_times_71 ?_
        refine lv_iconst (v := 1) hx hb dX12_times_74 (by decide) ?_
        refine r_aald (j := 2) (k := 1) (n := 10) (t0 := 4) (j2 := 4) hx hb hK hP (by decide) rfl rfl (by decide) (by decide) rfl dX12_times_75 ?_
        refine lv_iconst (v := 0) hx hb dX12_times_76 (by decide) ?_
        refine r_iald (j := 4) (k := 0) (n := 200) (x := nI (rb w19)) hx hb hK hP (by decide) rfl (by decide) (by decide) (by rw [hA19]; exact pg_b h18_0) dX12_times_77 ?_
        refine lv_icmp_eq (tgt := 87) hx hb dX12_times_78 (by decide) (fun c25 => ?_) (fun c25 => ?_)
        · have c25 := (b_eq (nI_toInt (n := vend a w14) (by omega)) (nI_toInt (n := rb w19) (by omega))).mp c25
          refine lv_aload_n hx hb dX12_times_87 rfl (lv_at hl 0 rfl) ?_
          refine lv_aload_n hx hb dX12_times_88 rfl (lv_at hl 0 rfl) ?_
          refine r_get (v := .ref (b 2)) hx hb (ly_X12 hE) hown hK hP rfl 4 (by decide) (wd_1385 hE) (fun _ h9 => h9) rfl dX12_times_89 ?_
          refine lv_iconst (v := 0) hx hb dX12_times_92 (by decide) ?_
          refine r_aald (j := 2) (k := 0) (n := 10) (t0 := 4) (j2 := 3) hx hb hK hP (by decide) rfl rfl (by decide) (by decide) rfl dX12_times_93 ?_
          refine lv_aload_n hx hb dX12_times_94 rfl (lv_at hl 0 rfl) ?_
          refine r_get (v := .ref (b 2)) hx hb (ly_X12 hE) hown hK hP rfl 4 (by decide) (wd_1385 hE) (fun _ h9 => h9) rfl dX12_times_95 ?_
          refine lv_iconst (v := 1) hx hb dX12_times_98 (by decide) ?_
          refine r_aald (j := 2) (k := 1) (n := 10) (t0 := 4) (j2 := 4) hx hb hK hP (by decide) rfl rfl (by decide) (by decide) rfl dX12_times_99 ?_
          refine lv_aload_n hx hb dX12_times_100 rfl (lv_at hl 0 rfl) ?_
          refine r_get (v := .ref (b 2)) hx hb (ly_X12 hE) hown hK hP rfl 4 (by decide) (wd_1385 hE) (fun _ h9 => h9) rfl dX12_times_101 ?_
          refine lv_iconst (v := 2) hx hb dX12_times_104 (by decide) ?_
          refine r_aald (j := 2) (k := 2) (n := 10) (t0 := 4) (j2 := 5) hx hb hK hP (by decide) rfl rfl (by decide) (by decide) rfl dX12_times_105 ?_
          obtain ⟨g26, hg26⟩ : ∃ g, rA u18 5 = g := ⟨_, rfl⟩
          refine rc_v hAL hS hA (va_runV (As := [.ref (b 3), .ref (b 4), .ref (b 5)]) (rest := []) ⟨hx, hb, hml, hown, noTs⟩ (r_X12_joins l dC dI H.size cs b u18 a hA20 3 (by decide) w14 hA21 4 (by decide) w19 hA19 5 (by decide) g26 hg26 (by first | assumption | omega | rfl | (congr 1; omega)) (by first | assumption | omega | rfl | (congr 1; omega)) (by first | assumption | omega | rfl | (congr 1; omega)) (by first | assumption | omega | rfl | (congr 1; omega)) (by first | assumption | omega | rfl | (congr 1; omega)) (by first | assumption | omega | rfl | (congr 1; omega)) (by first | assumption | omega | rfl | (congr 1; omega)) (by first | assumption | omega | rfl | (congr 1; omega)) (by first | assumption | omega | rfl | (congr 1; omega)) (by first | assumption | omega | rfl | (congr 1; omega)) (by first | assumption | omega | rfl | (congr 1; omega)) (by first | assumption | omega | rfl | (congr 1; omega))) ⟨cbE 3 (wd_1703 hE) (wd_126 hE) (wd_1700 hE) rfl rfl (by decide +kernel) ⟨Nat.le_of_ble_eq_true rfl, Nat.le_of_ble_eq_true rfl⟩, (wd_1702 hE), (wd_89 hE)⟩ ⟨PR.blind, r_recv hK hP rfl, (r_pre (av := [.ref (b 0), .ref (b 3), .ref (b 4), .ref (b 5)]) hK hP hJ hE)⟩ rfl rfl hl.1 rfl (lv_room (Nat.le_of_ble_eq_true rfl)) dX12_times_106 ⟨Nat.le_of_ble_eq_true rfl, Nat.le_of_ble_eq_true rfl⟩) (fun u27 H locs hpo27 hP hS => ?_)
          obtain ⟨h27_0, h27_1, h27_2, h27_3, h27_4, hq27⟩ := hpo27
          obtain ⟨w28, hA28⟩ : ∃ g, rA u27 5 = g := ⟨_, rfl⟩
          rw [hA28] at h27_0 h27_1 h27_2 h27_3 h27_4
          have hA29 := (hq27.1 1 (by decide)).trans hA20
          have hA30 := (hq27.1 3 (by decide)).trans hA21
          have hA31 := (hq27.1 4 (by decide)).trans hA19
          have hF32x := (hq27.2.1 2 (by decide)).trans hF22x
          have hfr := FR.step hfr hq27 (by decide) (by decide) (fun h => rfl)
          have hl27_0 := pg_le h27_0
          refine lv_aload_n hx hb dX12_times_109 rfl (lv_at hl 0 rfl) ?_
          refine lv_aload_n hx hb dX12_times_110 rfl (lv_at hl 0 rfl) ?_
          refine r_get (v := .ref (b 2)) hx hb (ly_X12 hE) hown hK hP rfl 4 (by decide) (wd_1385 hE) (fun _ h9 => h9) rfl dX12_times_111 ?_
          refine lv_iconst (v := 2) hx hb dX12_times_114 (by decide) ?_
          refine r_aald (j := 2) (k := 2) (n := 10) (t0 := 4) (j2 := 5) hx hb hK hP (by decide) rfl rfl (by decide) (by decide) rfl dX12_times_115 ?_
          refine rc_i hAL hS hA (va_runV (As := [.ref (b 5)]) (rest := []) ⟨hx, hb, hml, hown, noTs⟩ (r_X12_more l dC dI H.size cs b u27 a hA29 5 (by decide) w28 hA28 ac hF32x (by first | assumption | omega | rfl | (congr 1; omega)) (by first | assumption | omega | rfl | (congr 1; omega)) (by first | assumption | omega | rfl | (congr 1; omega)) (by first | assumption | omega | rfl | (congr 1; omega)) (by first | assumption | omega | rfl | (congr 1; omega))) ⟨cbE 1 (wd_1691 hE) (wd_126 hE) (wd_1688 hE) rfl rfl (by decide +kernel) ⟨Nat.le_of_ble_eq_true rfl, Nat.le_of_ble_eq_true rfl⟩, (wd_1690 hE), (wd_88 hE)⟩ ⟨PR.blind, r_recv hK hP rfl, (r_pre (av := [.ref (b 0), .ref (b 5)]) hK hP hJ hE)⟩ rfl rfl hl.1 rfl (lv_room (Nat.le_of_ble_eq_true rfl)) dX12_times_116 ⟨Nat.le_of_ble_eq_true rfl, Nat.le_of_ble_eq_true rfl⟩) (fun r33 u33 H locs hpo33 hP hS => ?_)
          obtain ⟨hr33, h33_0, h33_1, hq33⟩ := hpo33
          obtain ⟨w34, hA34⟩ : ∃ g, rA u33 1 = g := ⟨_, rfl⟩
          rw [hA34] at h33_0
          obtain ⟨n33_1, hn33_1, hfe33_1⟩ := h33_1
          have hA35 := (hq33.1 3 (by decide)).trans hA30
          have hA36 := (hq33.1 4 (by decide)).trans hA31
          have hA37 := (hq33.1 5 (by decide)).trans hA28
          have hfr := FR.step hfr hq33 (by decide) (by decide) (fun h => rfl)
          have hB := ab_0 h33_0
          have hG := bg_g hB
          have ha38 := gg_le hG
          have ha38b := bg_w hB
          exact W.iret (v := r33) hx hb hr (fun t ht hW => ⟨⟨r33, u33, rfl, ⟨trivial, (by first | (rw [hA34]; done) | (rw [hA34]; first | assumption | omega | rfl | (congr 1; omega))), (by first | (rw [hfe33_1]; done) | (rw [hfe33_1]; refine ⟨_, ?_, rfl⟩; omega)), hfr⟩, (show va_P (dC, dI) vwCl (rW cs b u33) t.heap by rw [ht]; exact hP)⟩, hS.F ht⟩) hS.2.2 dX12_times_119
        · have c25 := mt (b_eq (nI_toInt (n := vend a w14) (by omega)) (nI_toInt (n := rb w19) (by omega))).mpr c25
          refine lv_aload_n hx hb dX12_times_81 rfl (lv_at hl 0 rfl) ?_
          refine lv_iconst (v := 4) hx hb dX12_times_82 (by decide) ?_
          refine rc_i hAL hS hA (va_runV (As := [.int 4]) (rest := []) ⟨hx, hb, hml, hown, noTs⟩ (r_X12_refuse l dC dI H.size cs b u18 a hA20 4) ⟨cbE 1 (wd_1498 hE) (wd_126 hE) (wd_1495 hE) rfl rfl (by decide +kernel) ⟨Nat.le_of_ble_eq_true rfl, Nat.le_of_ble_eq_true rfl⟩, (wd_1497 hE), (wd_54 hE)⟩ ⟨PR.blind, r_recv hK hP rfl, (r_pre (av := [.ref (b 0), .int 4]) hK hP hJ hE)⟩ rfl rfl hl.1 rfl (lv_room (Nat.le_of_ble_eq_true rfl)) dX12_times_83 ⟨Nat.le_of_ble_eq_true rfl, Nat.le_of_ble_eq_true rfl⟩) (fun r39 u39 H locs hpo39 hP hS => ?_)
          obtain ⟨hr39, hq39⟩ := hpo39
          have hA40 := (hq39.1 1 List.not_mem_nil).trans hA20
          have hA41 := (hq39.1 3 List.not_mem_nil).trans hA21
          have hA42 := (hq39.1 4 List.not_mem_nil).trans hA19
          have hF43x := (hq39.2.1 2 (by decide)).trans hF22x
          have hfr := FR.step hfr hq39 (fun _ h => absurd h List.not_mem_nil) (by decide) (fun h => rfl)
          subst hr39
          exact W.iret (v := -1) hx hb hr (fun t ht hW => ⟨⟨-1, u39, rfl, ⟨trivial, (by first | (rw [hA40]; done) | (rw [hA40]; first | assumption | omega | rfl | (congr 1; omega))), (by first | (rw [hF43x]; done) | (rw [hF43x]; refine ⟨_, ?_, rfl⟩; omega)), hfr⟩, (show va_P (dC, dI) vwCl (rW cs b u39) t.heap by rw [ht]; exact hP)⟩, hS.F ht⟩) hS.2.2 dX12_times_86
      · have c11 := (b_eq (nI_toInt (n := wN a) (by omega)) (show Int32.toInt 10 = 10 from rfl)).mp c11
        refine lv_aload_n hx hb dX12_times_32 rfl (lv_at hl 0 rfl) ?_
        refine lv_iconst (v := 3) hx hb dX12_times_33 (by decide) ?_
        refine rc_i hAL hS hA (va_runV (As := [.int 3]) (rest := []) ⟨hx, hb, hml, hown, noTs⟩ (r_X12_refuse l dC dI s.heap.size cs b u a hA1 3) ⟨cbE 1 (wd_1498 hE) (wd_126 hE) (wd_1495 hE) rfl rfl (by decide +kernel) ⟨Nat.le_of_ble_eq_true rfl, Nat.le_of_ble_eq_true rfl⟩, (wd_1497 hE), (wd_54 hE)⟩ ⟨PR.blind, r_recv hK hP rfl, (r_pre (av := [.ref (b 0), .int 3]) hK hP hJ hE)⟩ rfl rfl hl.1 rfl (lv_room (Nat.le_of_ble_eq_true rfl)) dX12_times_34 ⟨Nat.le_of_ble_eq_true rfl, Nat.le_of_ble_eq_true rfl⟩) (fun r44 u44 H locs hpo44 hP hS => ?_)
        obtain ⟨hr44, hq44⟩ := hpo44
        have hA45 := (hq44.1 1 List.not_mem_nil).trans hA1
        have hF46x := (hq44.2.1 2 (by decide)).trans hF2
        have hfr := FR.step hfr hq44 (fun _ h => absurd h List.not_mem_nil) (by decide) (fun h => rfl)
        subst hr44
        exact W.iret (v := -1) hx hb hr (fun t ht hW => ⟨⟨-1, u44, rfl, ⟨trivial, (by first | (rw [hA45]; done) | (rw [hA45]; first | assumption | omega | rfl | (congr 1; omega))), (by first | (rw [hF46x]; done) | (rw [hF46x]; refine ⟨_, ?_, rfl⟩; omega)), hfr⟩, (show va_P (dC, dI) vwCl (rW cs b u44) t.heap by rw [ht]; exact hP)⟩, hS.F ht⟩) hS.2.2 dX12_times_37
    · refine lv_if_ne (tgt := 22) hx hb dX12_times_13 (by decide) (fun c47 => absurd c47 (by decide)) (fun c47 => ?_)
      refine lv_aload_n hx hb dX12_times_16 rfl (lv_at hl 0 rfl) ?_
      refine lv_iconst (v := 2) hx hb dX12_times_17 (by decide) ?_
      refine rc_i hAL hS hA (va_runV (As := [.int 2]) (rest := []) ⟨hx, hb, hml, hown, noTs⟩ (r_X12_refuse l dC dI s.heap.size cs b u a hA1 2) ⟨cbE 1 (wd_1498 hE) (wd_126 hE) (wd_1495 hE) rfl rfl (by decide +kernel) ⟨Nat.le_of_ble_eq_true rfl, Nat.le_of_ble_eq_true rfl⟩, (wd_1497 hE), (wd_54 hE)⟩ ⟨PR.blind, r_recv hK hP rfl, (r_pre (av := [.ref (b 0), .int 2]) hK hP hJ hE)⟩ rfl rfl hl.1 rfl (lv_room (Nat.le_of_ble_eq_true rfl)) dX12_times_18 ⟨Nat.le_of_ble_eq_true rfl, Nat.le_of_ble_eq_true rfl⟩) (fun r48 u48 H locs hpo48 hP hS => ?_)
      obtain ⟨hr48, hq48⟩ := hpo48
      have hA49 := (hq48.1 1 List.not_mem_nil).trans hA1
      have hF50x := (hq48.2.1 2 (by decide)).trans hF2
      have hfr := FR.step hfr hq48 (fun _ h => absurd h List.not_mem_nil) (by decide) (fun h => rfl)
      subst hr48
      exact W.iret (v := -1) hx hb hr (fun t ht hW => ⟨⟨-1, u48, rfl, ⟨trivial, (by first | (rw [hA49]; done) | (rw [hA49]; first | assumption | omega | rfl | (congr 1; omega))), (by first | (rw [hF50x]; done) | (rw [hF50x]; refine ⟨_, ?_, rfl⟩; omega)), hfr⟩, (show va_P (dC, dI) vwCl (rW cs b u48) t.heap by rw [ht]; exact hP)⟩, hS.F ht⟩) hS.2.2 dX12_times_21
  · refine lv_if_eq (tgt := 16) hx hb dX12_times_5 (by decide) (fun c51 => ?_) (fun c51 => absurd c51 (by decide))
    refine lv_aload_n hx hb dX12_times_16 rfl (lv_at hl 0 rfl) ?_
    refine lv_iconst (v := 2) hx hb dX12_times_17 (by decide) ?_
    refine rc_i hAL hS hA (va_runV (As := [.int 2]) (rest := []) ⟨hx, hb, hml, hown, noTs⟩ (r_X12_refuse l dC dI s.heap.size cs b u a hA1 2) ⟨cbE 1 (wd_1498 hE) (wd_126 hE) (wd_1495 hE) rfl rfl (by decide +kernel) ⟨Nat.le_of_ble_eq_true rfl, Nat.le_of_ble_eq_true rfl⟩, (wd_1497 hE), (wd_54 hE)⟩ ⟨PR.blind, r_recv hK hP rfl, (r_pre (av := [.ref (b 0), .int 2]) hK hP hJ hE)⟩ rfl rfl hl.1 rfl (lv_room (Nat.le_of_ble_eq_true rfl)) dX12_times_18 ⟨Nat.le_of_ble_eq_true rfl, Nat.le_of_ble_eq_true rfl⟩) (fun r52 u52 H locs hpo52 hP hS => ?_)
    obtain ⟨hr52, hq52⟩ := hpo52
    have hA53 := (hq52.1 1 List.not_mem_nil).trans hA1
    have hF54x := (hq52.2.1 2 (by decide)).trans hF2
    have hfr := FR.step hfr hq52 (fun _ h => absurd h List.not_mem_nil) (by decide) (fun h => rfl)
    subst hr52
    exact W.iret (v := -1) hx hb hr (fun t ht hW => ⟨⟨-1, u52, rfl, ⟨trivial, (by first | (rw [hA53]; done) | (rw [hA53]; first | assumption | omega | rfl | (congr 1; omega))), (by first | (rw [hF54x]; done) | (rw [hF54x]; refine ⟨_, ?_, rfl⟩; omega)), hfr⟩, (show va_P (dC, dI) vwCl (rW cs b u52) t.heap by rw [ht]; exact hP)⟩, hS.F ht⟩) hS.2.2 dX12_times_21

set_option maxHeartbeats 4000000 in
set_option maxRecDepth 100000 in
theorem r_X12_turned (l : Launch) (dC : Nat → ClassId) (dI : Nat → Nat → Nat) (sz : Nat) (cs : Nat → ClassId) (b : Nat → Nat) (u : RS) (a : Nat → Int32) (hA1 : rA u 1 = a) (x : Int32) (ac : Nat) (hF2 : rF u 2 = nI ac) (hp0 : AB a) (hp1 : ac ≤ 8) : Met l yX12_turned [.code yX12_turned cX12_turned 2 (some .int)] ({ frames := 6, cells := 0, slots := 0, locals := 240 }) (PR [.ref (b 0), .int x] sz dC dI cs b u) (va_Qi (fun (r : Int32) (u' : RS) => (True) ∧ (AB (rA u' 1)) ∧ (∃ k : Nat, k ≤ 8 ∧ rF u' 2 = nI k) ∧ FR [1, 3, 4, 5, 6, 7, 8, 9, 10, 11, 12, 13, 14, 17, 18, 19, 20] [1, 2, 5, 21, 22] true u u') (BR dC dI cs b) (AR b sz)) 0 0 (AR b sz) := by
  refine Met.ofW (cc := cX12_turned) (maxL := 2) (ret := (some .int)) (by decide) rfl ?_
  intro p e s m args below meth c s₁ B hml hv
  obtain ⟨rfl, hsz, hP, hK, hJ, hE⟩ := hv
  have hx := B.exec
  have hb := B.bytes
  have hr := B.returns
  have hown : s.vm.findClass RX12 = some m.cls := findClass_of_methodNamed B.named
  have hlocks := B.notSynchronized
  subst hsz
  have hAL : ∀ i, i < 108 → AR b s.heap.size (b i) := fun i h => Or.inl ⟨i, h, rfl⟩
  have hA : ∀ q : Nat, s.heap.size ≤ q → AR b s.heap.size q := fun q h => Or.inr h
  have hS : va_S (AR b s.heap.size) s.heap s.heap [] := va_S.rf
  have hfr : FR [1, 3, 4, 5, 6, 7, 8, 9, 10, 11, 12, 13, 14, 17, 18, 19, 20] [1, 2, 5, 21, 22] true u u := FR.refl
  have hl := lv_entry ([.ref (b 0), .int x]) (n := 2) (Nat.le_of_ble_eq_true rfl)
  rw [lg_entry_eq]
  generalize (lg_sl ([.ref (b 0), .int x]) ++ List.replicate (2 - (lg_sl ([.ref (b 0), .int x])).length) Slot.unset).toArray = ls at hl ⊢
  have hl : lv_has ls 2 [(0, .ref (b 0)), (1, .int x)] := hl
  have hB := ab_0 hp0
  have hG := bg_g hB
  have ha2 := gg_le hG
  have ha2b := bg_w hB
  refine lv_aload_n hx hb dX12_turned_0 rfl (lv_at hl 0 rfl) ?_
  refine lv_iload_n hx hb dX12_turned_1 rfl (lv_at hl 1 rfl) ?_
  refine vp_callSi (va_Run.run (va_runV (As := [.int x]) (rest := []) ⟨hx, hb, hml, hown, noTs⟩ (r_X12_isWord l dC dI s.heap.size cs b u a hA1 x (by first | assumption | omega | rfl | (congr 1; omega))) ⟨cbE 1 (wd_1653 hE) (wd_126 hE) (wd_1650 hE) rfl rfl (by decide +kernel) ⟨Nat.le_of_ble_eq_true rfl, Nat.le_of_ble_eq_true rfl⟩, (wd_1652 hE), (wd_83 hE)⟩ ⟨PR.blind, r_recv hK hP rfl, (r_pre (av := [.ref (b 0), .int x]) hK hP hJ hE)⟩ rfl rfl hl.1 rfl (lv_room (Nat.le_of_ble_eq_true rfl)) dX12_turned_2 ⟨Nat.le_of_ble_eq_true rfl, Nat.le_of_ble_eq_true rfl⟩)) (fun r4 hr4 => ?_)
  rcases hr4 with ⟨rfl, hb4⟩ | ⟨rfl, hb4⟩
  · obtain ⟨n4, hbe4_1, hb4⟩ := hb4
    subst hbe4_1
    have hti5 := nI_toInt (n := n4) (by omega)
    refine lv_if_ne (tgt := 14) hx hb dX12_turned_5 (by decide) (fun c6 => ?_) (fun c6 => absurd c6 (by decide))
    refine lv_aload_n hx hb dX12_turned_14 rfl (lv_at hl 0 rfl) ?_
    refine lv_iconst (v := 2) hx hb dX12_turned_15 (by decide) ?_
    refine vp_callSi (va_Run.run (va_runV (As := [.int (nI 2)]) (rest := []) ⟨hx, hb, hml, hown, noTs⟩ (r_X12_of l dC dI s.heap.size cs b u a hA1 2 (by first | assumption | omega | rfl | (congr 1; omega))) ⟨cbE 1 (wd_1536 hE) (wd_126 hE) (wd_1533 hE) rfl rfl (by decide +kernel) ⟨Nat.le_of_ble_eq_true rfl, Nat.le_of_ble_eq_true rfl⟩, (wd_1535 hE), (wd_61 hE)⟩ ⟨PR.blind, r_recv hK hP rfl, (r_pre (av := [.ref (b 0), .int (nI 2)]) hK hP hJ hE)⟩ rfl rfl hl.1 rfl (lv_room (Nat.le_of_ble_eq_true rfl)) dX12_turned_16 ⟨Nat.le_of_ble_eq_true rfl, Nat.le_of_ble_eq_true rfl⟩)) (fun r7 hr7 => ?_)
    have hr7 := hr7.trans ((bg_w hB).1)
    subst hr7
    refine lv_bipush (v := 10) hx hb dX12_turned_19 (by decide) ?_
    refine lv_icmp_ne (tgt := 30) hx hb dX12_turned_21 (by decide) (fun c8 => ?_) (fun c8 => ?_)
    · have c8 := mt (b_eq (nI_toInt (n := wN a) (by omega)) (show Int32.toInt 10 = 10 from rfl)).mpr c8
      have hw9 : wN a ≤ 9 := by omega
      refine lv_aload_n hx hb dX12_turned_30 rfl (lv_at hl 0 rfl) ?_
      refine lv_iload_n hx hb dX12_turned_31 rfl (lv_at hl 1 rfl) ?_
      refine lv_aload_n hx hb dX12_turned_32 rfl (lv_at hl 0 rfl) ?_
      refine r_get (v := .ref (b 2)) hx hb (ly_X12 hE) hown hK hP rfl 4 (by decide) (wd_1385 hE) (fun _ h9 => h9) rfl dX12_turned_33 ?_
      refine lv_iconst (v := 0) hx hb dX12_turned_36 (by decide) ?_
      refine r_aald (j := 2) (k := 0) (n := 10) (t0 := 4) (j2 := 3) hx hb hK hP (by decide) rfl rfl (by decide) (by decide) rfl dX12_turned_37 ?_
      obtain ⟨g9, hg9⟩ : ∃ g, rA u 3 = g := ⟨_, rfl⟩
      refine rc_v hAL hS hA (va_runV (As := [.int (nI n4), .ref (b 3)]) (rest := []) ⟨hx, hb, hml, hown, noTs⟩ (r_X12_takes l dC dI s.heap.size cs b u a hA1 n4 3 (by decide) g9 hg9 (by first | assumption | omega | rfl | (congr 1; omega)) (by first | assumption | omega | rfl | (congr 1; omega))) ⟨cbE 2 (wd_1657 hE) (wd_126 hE) (wd_1654 hE) rfl rfl (by decide +kernel) ⟨Nat.le_of_ble_eq_true rfl, Nat.le_of_ble_eq_true rfl⟩, (wd_1656 hE), (wd_84 hE)⟩ ⟨PR.blind, r_recv hK hP rfl, (r_pre (av := [.ref (b 0), .int (nI n4), .ref (b 3)]) hK hP hJ hE)⟩ rfl rfl hl.1 rfl (lv_room (Nat.le_of_ble_eq_true rfl)) dX12_turned_38 ⟨Nat.le_of_ble_eq_true rfl, Nat.le_of_ble_eq_true rfl⟩) (fun u10 H locs hpo10 hP hS => ?_)
      obtain ⟨h10_0, h10_1, h10_2, h10_3, h10_4, h10_5, hq10⟩ := hpo10
      obtain ⟨w11, hA11⟩ : ∃ g, rA u10 3 = g := ⟨_, rfl⟩
      rw [hA11] at h10_0 h10_1 h10_2 h10_3 h10_4 h10_5
      have hA12 := (hq10.1 1 (by decide)).trans hA1
      have hF13x := (hq10.2.1 2 List.not_mem_nil).trans hF2
      have hfr := FR.step hfr hq10 (by decide) (fun _ h => absurd h List.not_mem_nil) (fun h => rfl)
      have hl10_0 := pg_le h10_0
      refine lv_aload_n hx hb dX12_turned_41 rfl (lv_at hl 0 rfl) ?_
      refine lv_aload_n hx hb dX12_turned_42 rfl (lv_at hl 0 rfl) ?_
      refine r_get (v := .ref (b 2)) hx hb (ly_X12 hE) hown hK hP rfl 4 (by decide) (wd_1385 hE) (fun _ h9 => h9) rfl dX12_turned_43 ?_
      refine lv_iconst (v := 0) hx hb dX12_turned_46 (by decide) ?_
      refine r_aald (j := 2) (k := 0) (n := 10) (t0 := 4) (j2 := 3) hx hb hK hP (by decide) rfl rfl (by decide) (by decide) rfl dX12_turned_47 ?_
      refine lv_aload_n hx hb dX12_turned_48 rfl (lv_at hl 0 rfl) ?_
      refine r_get (v := .ref (b 2)) hx hb (ly_X12 hE) hown hK hP rfl 4 (by decide) (wd_1385 hE) (fun _ h9 => h9) rfl dX12_turned_49 ?_
      refine lv_iconst (v := 1) hx hb dX12_turned_52 (by decide) ?_
      refine r_aald (j := 2) (k := 1) (n := 10) (t0 := 4) (j2 := 4) hx hb hK hP (by decide) rfl rfl (by decide) (by decide) rfl dX12_turned_53 ?_
      obtain ⟨g14, hg14⟩ : ∃ g, rA u10 4 = g := ⟨_, rfl⟩
      refine rc_v hAL hS hA (va_runV (As := [.ref (b 3), .ref (b 4)]) (rest := []) ⟨hx, hb, hml, hown, noTs⟩ (r_X12_turns l dC dI H.size cs b u10 a hA12 3 (by decide) w11 hA11 4 (by decide) g14 hg14 (by first | assumption | omega | rfl | (congr 1; omega)) (by first | assumption | omega | rfl | (congr 1; omega)) (by first | assumption | omega | rfl | (congr 1; omega)) (by first | assumption | omega | rfl | (congr 1; omega)) (by first | assumption | omega | rfl | (congr 1; omega)) (by first | assumption | omega | rfl | (congr 1; omega))) ⟨cbE 2 (wd_1717 hE) (wd_126 hE) (wd_1714 hE) rfl rfl (by decide +kernel) ⟨Nat.le_of_ble_eq_true rfl, Nat.le_of_ble_eq_true rfl⟩, (wd_1716 hE), (wd_90 hE)⟩ ⟨PR.blind, r_recv hK hP rfl, (r_pre (av := [.ref (b 0), .ref (b 3), .ref (b 4)]) hK hP hJ hE)⟩ rfl rfl hl.1 rfl (lv_room (Nat.le_of_ble_eq_true rfl)) dX12_turned_54 ⟨Nat.le_of_ble_eq_true rfl, Nat.le_of_ble_eq_true rfl⟩) (fun u15 H locs hpo15 hP hS => ?_)
      obtain ⟨h15_0, h15_1, h15_2, h15_3, h15_4, hq15⟩ := hpo15
      obtain ⟨w16, hA16⟩ : ∃ g, rA u15 4 = g := ⟨_, rfl⟩
      rw [hA16] at h15_0 h15_1 h15_2 h15_3 h15_4
      have hA17 := (hq15.1 1 (by decide)).trans hA12
      have hA18 := (hq15.1 3 (by decide)).trans hA11
      have hF19x := (hq15.2.1 2 (by decide)).trans hF13x
      have hfr := FR.step hfr hq15 (by decide) (by decide) (fun h => rfl)
      have hl15_0 := pg_le h15_0
      refine lv_aload_n hx hb dX12_turned_57 rfl (lv_at hl 0 rfl) ?_
      refine lv_aload_n hx hb dX12_turned_58 rfl (lv_at hl 0 rfl) ?_
      refine r_get (v := .ref (b 2)) hx hb (ly_X12 hE) hown hK hP rfl 4 (by decide) (wd_1385 hE) (fun _ h9 => h9) rfl dX12_turned_59 ?_
      refine lv_iconst (v := 1) hx hb dX12_turned_62 (by decide) ?_
      refine r_aald (j := 2) (k := 1) (n := 10) (t0 := 4) (j2 := 4) hx hb hK hP (by decide) rfl rfl (by decide) (by decide) rfl dX12_turned_63 ?_
      refine rc_i hAL hS hA (va_runV (As := [.ref (b 4)]) (rest := []) ⟨hx, hb, hml, hown, noTs⟩ (r_X12_more l dC dI H.size cs b u15 a hA17 4 (by decide) w16 hA16 ac hF19x (by first | assumption | omega | rfl | (congr 1; omega)) (by first | assumption | omega | rfl | (congr 1; omega)) (by first | assumption | omega | rfl | (congr 1; omega)) (by first | assumption | omega | rfl | (congr 1; omega)) (by first | assumption | omega | rfl | (congr 1; omega))) ⟨cbE 1 (wd_1691 hE) (wd_126 hE) (wd_1688 hE) rfl rfl (by decide +kernel) ⟨Nat.le_of_ble_eq_true rfl, Nat.le_of_ble_eq_true rfl⟩, (wd_1690 hE), (wd_88 hE)⟩ ⟨PR.blind, r_recv hK hP rfl, (r_pre (av := [.ref (b 0), .ref (b 4)]) hK hP hJ hE)⟩ rfl rfl hl.1 rfl (lv_room (Nat.le_of_ble_eq_true rfl)) dX12_turned_64 ⟨Nat.le_of_ble_eq_true rfl, Nat.le_of_ble_eq_true rfl⟩) (fun r20 u20 H locs hpo20 hP hS => ?_)
      obtain ⟨hr20, h20_0, h20_1, hq20⟩ := hpo20
      obtain ⟨w21, hA21⟩ : ∃ g, rA u20 1 = g := ⟨_, rfl⟩
      rw [hA21] at h20_0
      obtain ⟨n20_1, hn20_1, hfe20_1⟩ := h20_1
      have hA22 := (hq20.1 3 (by decide)).trans hA18
      have hA23 := (hq20.1 4 (by decide)).trans hA16
      have hfr := FR.step hfr hq20 (by decide) (by decide) (fun h => rfl)
      have hB := ab_0 h20_0
      have hG := bg_g hB
      have ha24 := gg_le hG
      have ha24b := bg_w hB
      exact W.iret (v := r20) hx hb hr (fun t ht hW => ⟨⟨r20, u20, rfl, ⟨trivial, (by first | (rw [hA21]; done) | (rw [hA21]; first | assumption | omega | rfl | (congr 1; omega))), (by first | (rw [hfe20_1]; done) | (rw [hfe20_1]; refine ⟨_, ?_, rfl⟩; omega)), hfr⟩, (show va_P (dC, dI) vwCl (rW cs b u20) t.heap by rw [ht]; exact hP)⟩, hS.F ht⟩) hS.2.2 dX12_turned_67
    · have c8 := (b_eq (nI_toInt (n := wN a) (by omega)) (show Int32.toInt 10 = 10 from rfl)).mp c8
      refine lv_aload_n hx hb dX12_turned_24 rfl (lv_at hl 0 rfl) ?_
      refine lv_iconst (v := 3) hx hb dX12_turned_25 (by decide) ?_
      refine rc_i hAL hS hA (va_runV (As := [.int 3]) (rest := []) ⟨hx, hb, hml, hown, noTs⟩ (r_X12_refuse l dC dI s.heap.size cs b u a hA1 3) ⟨cbE 1 (wd_1498 hE) (wd_126 hE) (wd_1495 hE) rfl rfl (by decide +kernel) ⟨Nat.le_of_ble_eq_true rfl, Nat.le_of_ble_eq_true rfl⟩, (wd_1497 hE), (wd_54 hE)⟩ ⟨PR.blind, r_recv hK hP rfl, (r_pre (av := [.ref (b 0), .int 3]) hK hP hJ hE)⟩ rfl rfl hl.1 rfl (lv_room (Nat.le_of_ble_eq_true rfl)) dX12_turned_26 ⟨Nat.le_of_ble_eq_true rfl, Nat.le_of_ble_eq_true rfl⟩) (fun r25 u25 H locs hpo25 hP hS => ?_)
      obtain ⟨hr25, hq25⟩ := hpo25
      have hA26 := (hq25.1 1 List.not_mem_nil).trans hA1
      have hF27x := (hq25.2.1 2 (by decide)).trans hF2
      have hfr := FR.step hfr hq25 (fun _ h => absurd h List.not_mem_nil) (by decide) (fun h => rfl)
      subst hr25
      exact W.iret (v := -1) hx hb hr (fun t ht hW => ⟨⟨-1, u25, rfl, ⟨trivial, (by first | (rw [hA26]; done) | (rw [hA26]; first | assumption | omega | rfl | (congr 1; omega))), (by first | (rw [hF27x]; done) | (rw [hF27x]; refine ⟨_, ?_, rfl⟩; omega)), hfr⟩, (show va_P (dC, dI) vwCl (rW cs b u25) t.heap by rw [ht]; exact hP)⟩, hS.F ht⟩) hS.2.2 dX12_turned_29
  · refine lv_if_ne (tgt := 14) hx hb dX12_turned_5 (by decide) (fun c28 => absurd c28 (by decide)) (fun c28 => ?_)
    refine lv_aload_n hx hb dX12_turned_8 rfl (lv_at hl 0 rfl) ?_
    refine lv_iconst (v := 2) hx hb dX12_turned_9 (by decide) ?_
    refine rc_i hAL hS hA (va_runV (As := [.int 2]) (rest := []) ⟨hx, hb, hml, hown, noTs⟩ (r_X12_refuse l dC dI s.heap.size cs b u a hA1 2) ⟨cbE 1 (wd_1498 hE) (wd_126 hE) (wd_1495 hE) rfl rfl (by decide +kernel) ⟨Nat.le_of_ble_eq_true rfl, Nat.le_of_ble_eq_true rfl⟩, (wd_1497 hE), (wd_54 hE)⟩ ⟨PR.blind, r_recv hK hP rfl, (r_pre (av := [.ref (b 0), .int 2]) hK hP hJ hE)⟩ rfl rfl hl.1 rfl (lv_room (Nat.le_of_ble_eq_true rfl)) dX12_turned_10 ⟨Nat.le_of_ble_eq_true rfl, Nat.le_of_ble_eq_true rfl⟩) (fun r29 u29 H locs hpo29 hP hS => ?_)
    obtain ⟨hr29, hq29⟩ := hpo29
    have hA30 := (hq29.1 1 List.not_mem_nil).trans hA1
    have hF31x := (hq29.2.1 2 (by decide)).trans hF2
    have hfr := FR.step hfr hq29 (fun _ h => absurd h List.not_mem_nil) (by decide) (fun h => rfl)
    subst hr29
    exact W.iret (v := -1) hx hb hr (fun t ht hW => ⟨⟨-1, u29, rfl, ⟨trivial, (by first | (rw [hA30]; done) | (rw [hA30]; first | assumption | omega | rfl | (congr 1; omega))), (by first | (rw [hF31x]; done) | (rw [hF31x]; refine ⟨_, ?_, rfl⟩; omega)), hfr⟩, (show va_P (dC, dI) vwCl (rW cs b u29) t.heap by rw [ht]; exact hP)⟩, hS.F ht⟩) hS.2.2 dX12_turned_13

set_option maxHeartbeats 4000000 in
set_option maxRecDepth 100000 in
theorem r_X12_wrongLoop (l : Launch) (dC : Nat → ClassId) (dI : Nat → Nat → Nat) (sz : Nat) (cs : Nat → ClassId) (b : Nat → Nat) (u : RS) (a : Nat → Int32) (hA1 : rA u 1 = a) (x : Int32) (hp0 : BG a) : Met l yX12_wrongLoop [.code yX12_wrongLoop cX12_wrongLoop 2 (some .int)] ({ frames := 6, cells := 0, slots := 0, locals := 240 }) (PR [.ref (b 0), .int x] sz dC dI cs b u) (va_Qi (fun (r : Int32) (u' : RS) => ((r = 0 ∧ (∃ n : Nat, x = nI n ∧ n < wN a ∧ vend a (row a n) = rb (row a n))) ∨ (r = 2 ∧ (True)) ∨ (r = 4 ∧ (True))) ∧ FR [12] [] false u u') (BR dC dI cs b) (AR b sz)) 0 0 (AR b sz) := by
  refine Met.ofW (cc := cX12_wrongLoop) (maxL := 2) (ret := (some .int)) (by decide) rfl ?_
  intro p e s m args below meth c s₁ B hml hv
  obtain ⟨rfl, hsz, hP, hK, hJ, hE⟩ := hv
  have hx := B.exec
  have hb := B.bytes
  have hr := B.returns
  have hown : s.vm.findClass RX12 = some m.cls := findClass_of_methodNamed B.named
  have hlocks := B.notSynchronized
  subst hsz
  have hAL : ∀ i, i < 108 → AR b s.heap.size (b i) := fun i h => Or.inl ⟨i, h, rfl⟩
  have hA : ∀ q : Nat, s.heap.size ≤ q → AR b s.heap.size q := fun q h => Or.inr h
  have hS : va_S (AR b s.heap.size) s.heap s.heap [] := va_S.rf
  have hfr : FR [12] [] false u u := FR.refl
  have hl := lv_entry ([.ref (b 0), .int x]) (n := 2) (Nat.le_of_ble_eq_true rfl)
  rw [lg_entry_eq]
  generalize (lg_sl ([.ref (b 0), .int x]) ++ List.replicate (2 - (lg_sl ([.ref (b 0), .int x])).length) Slot.unset).toArray = ls at hl ⊢
  have hl : lv_has ls 2 [(0, .ref (b 0)), (1, .int x)] := hl
  have hB := hp0
  have hG := bg_g hp0
  have ha1 := gg_le hG
  have ha1b := bg_w hp0
  refine lv_aload_n hx hb dX12_wrongLoop_0 rfl (lv_at hl 0 rfl) ?_
  refine lv_iload_n hx hb dX12_wrongLoop_1 rfl (lv_at hl 1 rfl) ?_
  refine vp_callSi (va_Run.run (va_runV (As := [.int x]) (rest := []) ⟨hx, hb, hml, hown, noTs⟩ (r_X12_isWord l dC dI s.heap.size cs b u a hA1 x (by first | assumption | omega | rfl | (congr 1; omega))) ⟨cbE 1 (wd_1653 hE) (wd_126 hE) (wd_1650 hE) rfl rfl (by decide +kernel) ⟨Nat.le_of_ble_eq_true rfl, Nat.le_of_ble_eq_true rfl⟩, (wd_1652 hE), (wd_83 hE)⟩ ⟨PR.blind, r_recv hK hP rfl, (r_pre (av := [.ref (b 0), .int x]) hK hP hJ hE)⟩ rfl rfl hl.1 rfl (lv_room (Nat.le_of_ble_eq_true rfl)) dX12_wrongLoop_2 ⟨Nat.le_of_ble_eq_true rfl, Nat.le_of_ble_eq_true rfl⟩)) (fun r2 hr2 => ?_)
  rcases hr2 with ⟨rfl, hb2⟩ | ⟨rfl, hb2⟩
  · obtain ⟨n2, hbe2_1, hb2⟩ := hb2
    subst hbe2_1
    have hti3 := nI_toInt (n := n2) (by omega)
    refine lv_if_ne (tgt := 12) hx hb dX12_wrongLoop_5 (by decide) (fun c4 => ?_) (fun c4 => absurd c4 (by decide))
    refine lv_aload_n hx hb dX12_wrongLoop_12 rfl (lv_at hl 0 rfl) ?_
    refine lv_iload_n hx hb dX12_wrongLoop_13 rfl (lv_at hl 1 rfl) ?_
    refine rc_i hAL hS hA (va_runV (As := [.int (nI n2)]) (rest := []) ⟨hx, hb, hml, hown, noTs⟩ (r_X12_isLoop l dC dI s.heap.size cs b u a hA1 n2 (by first | assumption | omega | rfl | (congr 1; omega)) (by first | assumption | omega | rfl | (congr 1; omega))) ⟨cbE 1 (wd_1725 hE) (wd_126 hE) (wd_1722 hE) rfl rfl (by decide +kernel) ⟨Nat.le_of_ble_eq_true rfl, Nat.le_of_ble_eq_true rfl⟩, (wd_1724 hE), (wd_91 hE)⟩ ⟨PR.blind, r_recv hK hP rfl, (r_pre (av := [.ref (b 0), .int (nI n2)]) hK hP hJ hE)⟩ rfl rfl hl.1 rfl (lv_room (Nat.le_of_ble_eq_true rfl)) dX12_wrongLoop_14 ⟨Nat.le_of_ble_eq_true rfl, Nat.le_of_ble_eq_true rfl⟩) (fun r5 u5 H locs hpo5 hP hS => ?_)
    obtain ⟨hr5, hq5⟩ := hpo5
    have hA6 := (hq5.1 1 (by decide)).trans hA1
    have hfr := FR.step hfr hq5 (by decide) (fun _ h => absurd h List.not_mem_nil) (fun h => rfl)
    rcases hr5 with ⟨rfl, hb5⟩ | ⟨rfl, hb5⟩
    · refine lv_if_eq (tgt := 24) hx hb dX12_wrongLoop_17 (by decide) (fun c7 => absurd c7 (by decide)) (fun c7 => ?_)
      refine lv_iconst (v := 0) hx hb dX12_wrongLoop_20 (by decide) ?_
      refine lv_goto (tgt := 25) hx hb dX12_wrongLoop_21 (by decide) ?_
      exact W.iret (v := 0) hx hb hr (fun t ht hW => ⟨⟨0, u5, rfl, ⟨Or.inl ⟨rfl, by exact ⟨_, rfl, by assumption, by assumption⟩⟩, hfr⟩, (show va_P (dC, dI) vwCl (rW cs b u5) t.heap by rw [ht]; exact hP)⟩, hS.F ht⟩) hS.2.2 dX12_wrongLoop_25
    · refine lv_if_eq (tgt := 24) hx hb dX12_wrongLoop_17 (by decide) (fun c8 => ?_) (fun c8 => absurd c8 (by decide))
      refine lv_iconst (v := 4) hx hb dX12_wrongLoop_24 (by decide) ?_
      exact W.iret (v := 4) hx hb hr (fun t ht hW => ⟨⟨4, u5, rfl, ⟨Or.inr (Or.inr (⟨rfl, by trivial⟩)), hfr⟩, (show va_P (dC, dI) vwCl (rW cs b u5) t.heap by rw [ht]; exact hP)⟩, hS.F ht⟩) hS.2.2 dX12_wrongLoop_25
  · refine lv_if_ne (tgt := 12) hx hb dX12_wrongLoop_5 (by decide) (fun c9 => absurd c9 (by decide)) (fun c9 => ?_)
    refine lv_iconst (v := 2) hx hb dX12_wrongLoop_8 (by decide) ?_
    refine lv_goto (tgt := 25) hx hb dX12_wrongLoop_9 (by decide) ?_
    exact W.iret (v := 2) hx hb hr (fun t ht hW => ⟨⟨2, u, rfl, ⟨Or.inr (Or.inl ⟨rfl, by trivial⟩), hfr⟩, (show va_P (dC, dI) vwCl (rW cs b u) t.heap by rw [ht]; exact hP)⟩, hS.F ht⟩) hS.2.2 dX12_wrongLoop_25

set_option maxHeartbeats 4000000 in
set_option maxRecDepth 100000 in
theorem r_X12_core (l : Launch) (dC : Nat → ClassId) (dI : Nat → Nat → Nat) (sz : Nat) (cs : Nat → ClassId) (b : Nat → Nat) (u : RS) (a : Nat → Int32) (hA1 : rA u 1 = a) (x : Int32) (ac : Nat) (hF2 : rF u 2 = nI ac) (hp0 : AB a) (hp1 : ac ≤ 8) : Met l yX12_core [.code yX12_core cX12_core 2 (some .int)] ({ frames := 7, cells := 0, slots := 0, locals := 280 }) (PR [.ref (b 0), .int x] sz dC dI cs b u) (va_Qi (fun (r : Int32) (u' : RS) => (True) ∧ (AB (rA u' 1)) ∧ (∃ k : Nat, k ≤ 8 ∧ rF u' 2 = nI k) ∧ FR [1, 3, 4, 5, 6, 7, 8, 9, 10, 11, 12, 13, 14, 17, 18, 19, 20] [1, 2, 5, 21, 22] true u u') (BR dC dI cs b) (AR b sz)) 0 0 (AR b sz) := by
  refine Met.ofW (cc := cX12_core) (maxL := 2) (ret := (some .int)) (by decide) rfl ?_
  intro p e s m args below meth c s₁ B hml hv
  obtain ⟨rfl, hsz, hP, hK, hJ, hE⟩ := hv
  have hx := B.exec
  have hb := B.bytes
  have hr := B.returns
  have hown : s.vm.findClass RX12 = some m.cls := findClass_of_methodNamed B.named
  have hlocks := B.notSynchronized
  subst hsz
  have hAL : ∀ i, i < 108 → AR b s.heap.size (b i) := fun i h => Or.inl ⟨i, h, rfl⟩
  have hA : ∀ q : Nat, s.heap.size ≤ q → AR b s.heap.size q := fun q h => Or.inr h
  have hS : va_S (AR b s.heap.size) s.heap s.heap [] := va_S.rf
  have hfr : FR [1, 3, 4, 5, 6, 7, 8, 9, 10, 11, 12, 13, 14, 17, 18, 19, 20] [1, 2, 5, 21, 22] true u u := FR.refl
  have hl := lv_entry ([.ref (b 0), .int x]) (n := 2) (Nat.le_of_ble_eq_true rfl)
  rw [lg_entry_eq]
  generalize (lg_sl ([.ref (b 0), .int x]) ++ List.replicate (2 - (lg_sl ([.ref (b 0), .int x])).length) Slot.unset).toArray = ls at hl ⊢
  have hl : lv_has ls 2 [(0, .ref (b 0)), (1, .int x)] := hl
  have hB := ab_0 hp0
  have hG := bg_g hB
  have ha2 := gg_le hG
  have ha2b := bg_w hB
  refine lv_aload_n hx hb dX12_core_0 rfl (lv_at hl 0 rfl) ?_
  refine lv_iload_n hx hb dX12_core_1 rfl (lv_at hl 1 rfl) ?_
  refine vp_callSi (va_Run.run (va_runV (As := [.int x]) (rest := []) ⟨hx, hb, hml, hown, noTs⟩ (r_X12_isWord l dC dI s.heap.size cs b u a hA1 x (by first | assumption | omega | rfl | (congr 1; omega))) ⟨cbE 1 (wd_1653 hE) (wd_126 hE) (wd_1650 hE) rfl rfl (by decide +kernel) ⟨Nat.le_of_ble_eq_true rfl, Nat.le_of_ble_eq_true rfl⟩, (wd_1652 hE), (wd_83 hE)⟩ ⟨PR.blind, r_recv hK hP rfl, (r_pre (av := [.ref (b 0), .int x]) hK hP hJ hE)⟩ rfl rfl hl.1 rfl (lv_room (Nat.le_of_ble_eq_true rfl)) dX12_core_2 ⟨Nat.le_of_ble_eq_true rfl, Nat.le_of_ble_eq_true rfl⟩)) (fun r4 hr4 => ?_)
  rcases hr4 with ⟨rfl, hb4⟩ | ⟨rfl, hb4⟩
  · obtain ⟨n4, hbe4_1, hb4⟩ := hb4
    subst hbe4_1
    have hti5 := nI_toInt (n := n4) (by omega)
    refine lv_if_ne (tgt := 14) hx hb dX12_core_5 (by decide) (fun c6 => ?_) (fun c6 => absurd c6 (by decide))
    refine lv_aload_n hx hb dX12_core_14 rfl (lv_at hl 0 rfl) ?_
    refine lv_iconst (v := 2) hx hb dX12_core_15 (by decide) ?_
    refine vp_callSi (va_Run.run (va_runV (As := [.int (nI 2)]) (rest := []) ⟨hx, hb, hml, hown, noTs⟩ (r_X12_of l dC dI s.heap.size cs b u a hA1 2 (by first | assumption | omega | rfl | (congr 1; omega))) ⟨cbE 1 (wd_1536 hE) (wd_126 hE) (wd_1533 hE) rfl rfl (by decide +kernel) ⟨Nat.le_of_ble_eq_true rfl, Nat.le_of_ble_eq_true rfl⟩, (wd_1535 hE), (wd_61 hE)⟩ ⟨PR.blind, r_recv hK hP rfl, (r_pre (av := [.ref (b 0), .int (nI 2)]) hK hP hJ hE)⟩ rfl rfl hl.1 rfl (lv_room (Nat.le_of_ble_eq_true rfl)) dX12_core_16 ⟨Nat.le_of_ble_eq_true rfl, Nat.le_of_ble_eq_true rfl⟩)) (fun r7 hr7 => ?_)
    have hr7 := hr7.trans ((bg_w hB).1)
    subst hr7
    refine lv_bipush (v := 10) hx hb dX12_core_19 (by decide) ?_
    refine lv_icmp_ne (tgt := 30) hx hb dX12_core_21 (by decide) (fun c8 => ?_) (fun c8 => ?_)
    · have c8 := mt (b_eq (nI_toInt (n := wN a) (by omega)) (show Int32.toInt 10 = 10 from rfl)).mpr c8
      have hw9 : wN a ≤ 9 := by omega
      refine lv_aload_n hx hb dX12_core_30 rfl (lv_at hl 0 rfl) ?_
      refine lv_iload_n hx hb dX12_core_31 rfl (lv_at hl 1 rfl) ?_
      refine rc_i hAL hS hA (va_runV (As := [.int (nI n4)]) (rest := []) ⟨hx, hb, hml, hown, noTs⟩ (r_X12_isLoop l dC dI s.heap.size cs b u a hA1 n4 (by first | assumption | omega | rfl | (congr 1; omega)) (by first | assumption | omega | rfl | (congr 1; omega))) ⟨cbE 1 (wd_1725 hE) (wd_126 hE) (wd_1722 hE) rfl rfl (by decide +kernel) ⟨Nat.le_of_ble_eq_true rfl, Nat.le_of_ble_eq_true rfl⟩, (wd_1724 hE), (wd_91 hE)⟩ ⟨PR.blind, r_recv hK hP rfl, (r_pre (av := [.ref (b 0), .int (nI n4)]) hK hP hJ hE)⟩ rfl rfl hl.1 rfl (lv_room (Nat.le_of_ble_eq_true rfl)) dX12_core_32 ⟨Nat.le_of_ble_eq_true rfl, Nat.le_of_ble_eq_true rfl⟩) (fun r9 u9 H locs hpo9 hP hS => ?_)
      obtain ⟨hr9, hq9⟩ := hpo9
      have hA10 := (hq9.1 1 (by decide)).trans hA1
      have hF11x := (hq9.2.1 2 List.not_mem_nil).trans hF2
      have hfr := FR.step hfr hq9 (by decide) (fun _ h => absurd h List.not_mem_nil) (fun h => rfl)
      rcases hr9 with ⟨rfl, hb9⟩ | ⟨rfl, hb9⟩
      · refine lv_if_ne (tgt := 44) hx hb dX12_core_35 (by decide) (fun c12 => ?_) (fun c12 => absurd c12 (by decide))
        refine lv_aload_n hx hb dX12_core_44 rfl (lv_at hl 0 rfl) ?_
        refine lv_iload_n hx hb dX12_core_45 rfl (lv_at hl 1 rfl) ?_
        refine lv_aload_n hx hb dX12_core_46 rfl (lv_at hl 0 rfl) ?_
        refine r_get (v := .ref (b 2)) hx hb (ly_X12 hE) hown hK hP rfl 4 (by decide) (wd_1385 hE) (fun _ h9 => h9) rfl dX12_core_47 ?_
        refine lv_iconst (v := 0) hx hb dX12_core_50 (by decide) ?_
        refine r_aald (j := 2) (k := 0) (n := 10) (t0 := 4) (j2 := 3) hx hb hK hP (by decide) rfl rfl (by decide) (by decide) rfl dX12_core_51 ?_
        obtain ⟨g13, hg13⟩ : ∃ g, rA u9 3 = g := ⟨_, rfl⟩
        refine rc_v hAL hS hA (va_runV (As := [.int (nI n4), .ref (b 3)]) (rest := []) ⟨hx, hb, hml, hown, noTs⟩ (r_X12_coreOf l dC dI H.size cs b u9 a hA10 n4 3 (by decide) g13 hg13 (by first | assumption | omega | rfl | (congr 1; omega)) (by first | assumption | omega | rfl | (congr 1; omega)) (by first | assumption | omega | rfl | (congr 1; omega)) (by first | assumption | omega | rfl | (congr 1; omega))) ⟨cbE 2 (wd_1733 hE) (wd_126 hE) (wd_1730 hE) rfl rfl (by decide +kernel) ⟨Nat.le_of_ble_eq_true rfl, Nat.le_of_ble_eq_true rfl⟩, (wd_1732 hE), (wd_92 hE)⟩ ⟨PR.blind, r_recv hK hP rfl, (r_pre (av := [.ref (b 0), .int (nI n4), .ref (b 3)]) hK hP hJ hE)⟩ rfl rfl hl.1 rfl (lv_room (Nat.le_of_ble_eq_true rfl)) dX12_core_52 ⟨Nat.le_of_ble_eq_true rfl, Nat.le_of_ble_eq_true rfl⟩) (fun u14 H locs hpo14 hP hS => ?_)
        obtain ⟨h14_0, h14_1, h14_2, h14_3, hq14⟩ := hpo14
        obtain ⟨w15, hA15⟩ : ∃ g, rA u14 3 = g := ⟨_, rfl⟩
        rw [hA15] at h14_0 h14_1 h14_2 h14_3
        have hA16 := (hq14.1 1 (by decide)).trans hA10
        have hF17x := (hq14.2.1 2 (by decide)).trans hF11x
        have hfr := FR.step hfr hq14 (by decide) (by decide) (fun h => rfl)
        have hl14_0 := pg_le h14_0
        refine lv_aload_n hx hb dX12_core_55 rfl (lv_at hl 0 rfl) ?_
        refine lv_aload_n hx hb dX12_core_56 rfl (lv_at hl 0 rfl) ?_
        refine r_get (v := .ref (b 2)) hx hb (ly_X12 hE) hown hK hP rfl 4 (by decide) (wd_1385 hE) (fun _ h9 => h9) rfl dX12_core_57 ?_
        refine lv_iconst (v := 0) hx hb dX12_core_60 (by decide) ?_
        refine r_aald (j := 2) (k := 0) (n := 10) (t0 := 4) (j2 := 3) hx hb hK hP (by decide) rfl rfl (by decide) (by decide) rfl dX12_core_61 ?_
        refine rc_i hAL hS hA (va_runV (As := [.ref (b 3)]) (rest := []) ⟨hx, hb, hml, hown, noTs⟩ (r_X12_more l dC dI H.size cs b u14 a hA16 3 (by decide) w15 hA15 ac hF17x (by first | assumption | omega | rfl | (congr 1; omega)) (by first | assumption | omega | rfl | (congr 1; omega)) (by first | assumption | omega | rfl | (congr 1; omega)) (by first | assumption | omega | rfl | (congr 1; omega)) (by first | assumption | omega | rfl | (congr 1; omega))) ⟨cbE 1 (wd_1691 hE) (wd_126 hE) (wd_1688 hE) rfl rfl (by decide +kernel) ⟨Nat.le_of_ble_eq_true rfl, Nat.le_of_ble_eq_true rfl⟩, (wd_1690 hE), (wd_88 hE)⟩ ⟨PR.blind, r_recv hK hP rfl, (r_pre (av := [.ref (b 0), .ref (b 3)]) hK hP hJ hE)⟩ rfl rfl hl.1 rfl (lv_room (Nat.le_of_ble_eq_true rfl)) dX12_core_62 ⟨Nat.le_of_ble_eq_true rfl, Nat.le_of_ble_eq_true rfl⟩) (fun r18 u18 H locs hpo18 hP hS => ?_)
        obtain ⟨hr18, h18_0, h18_1, hq18⟩ := hpo18
        obtain ⟨w19, hA19⟩ : ∃ g, rA u18 1 = g := ⟨_, rfl⟩
        rw [hA19] at h18_0
        obtain ⟨n18_1, hn18_1, hfe18_1⟩ := h18_1
        have hA20 := (hq18.1 3 (by decide)).trans hA15
        have hfr := FR.step hfr hq18 (by decide) (by decide) (fun h => rfl)
        have hB := ab_0 h18_0
        have hG := bg_g hB
        have ha21 := gg_le hG
        have ha21b := bg_w hB
        exact W.iret (v := r18) hx hb hr (fun t ht hW => ⟨⟨r18, u18, rfl, ⟨trivial, (by first | (rw [hA19]; done) | (rw [hA19]; first | assumption | omega | rfl | (congr 1; omega))), (by first | (rw [hfe18_1]; done) | (rw [hfe18_1]; refine ⟨_, ?_, rfl⟩; omega)), hfr⟩, (show va_P (dC, dI) vwCl (rW cs b u18) t.heap by rw [ht]; exact hP)⟩, hS.F ht⟩) hS.2.2 dX12_core_65
      · refine lv_if_ne (tgt := 44) hx hb dX12_core_35 (by decide) (fun c22 => absurd c22 (by decide)) (fun c22 => ?_)
        refine lv_aload_n hx hb dX12_core_38 rfl (lv_at hl 0 rfl) ?_
        refine lv_iconst (v := 4) hx hb dX12_core_39 (by decide) ?_
        refine rc_i hAL hS hA (va_runV (As := [.int 4]) (rest := []) ⟨hx, hb, hml, hown, noTs⟩ (r_X12_refuse l dC dI H.size cs b u9 a hA10 4) ⟨cbE 1 (wd_1498 hE) (wd_126 hE) (wd_1495 hE) rfl rfl (by decide +kernel) ⟨Nat.le_of_ble_eq_true rfl, Nat.le_of_ble_eq_true rfl⟩, (wd_1497 hE), (wd_54 hE)⟩ ⟨PR.blind, r_recv hK hP rfl, (r_pre (av := [.ref (b 0), .int 4]) hK hP hJ hE)⟩ rfl rfl hl.1 rfl (lv_room (Nat.le_of_ble_eq_true rfl)) dX12_core_40 ⟨Nat.le_of_ble_eq_true rfl, Nat.le_of_ble_eq_true rfl⟩) (fun r23 u23 H locs hpo23 hP hS => ?_)
        obtain ⟨hr23, hq23⟩ := hpo23
        have hA24 := (hq23.1 1 List.not_mem_nil).trans hA10
        have hF25x := (hq23.2.1 2 (by decide)).trans hF11x
        have hfr := FR.step hfr hq23 (fun _ h => absurd h List.not_mem_nil) (by decide) (fun h => rfl)
        subst hr23
        exact W.iret (v := -1) hx hb hr (fun t ht hW => ⟨⟨-1, u23, rfl, ⟨trivial, (by first | (rw [hA24]; done) | (rw [hA24]; first | assumption | omega | rfl | (congr 1; omega))), (by first | (rw [hF25x]; done) | (rw [hF25x]; refine ⟨_, ?_, rfl⟩; omega)), hfr⟩, (show va_P (dC, dI) vwCl (rW cs b u23) t.heap by rw [ht]; exact hP)⟩, hS.F ht⟩) hS.2.2 dX12_core_43
    · have c8 := (b_eq (nI_toInt (n := wN a) (by omega)) (show Int32.toInt 10 = 10 from rfl)).mp c8
      refine lv_aload_n hx hb dX12_core_24 rfl (lv_at hl 0 rfl) ?_
      refine lv_iconst (v := 3) hx hb dX12_core_25 (by decide) ?_
      refine rc_i hAL hS hA (va_runV (As := [.int 3]) (rest := []) ⟨hx, hb, hml, hown, noTs⟩ (r_X12_refuse l dC dI s.heap.size cs b u a hA1 3) ⟨cbE 1 (wd_1498 hE) (wd_126 hE) (wd_1495 hE) rfl rfl (by decide +kernel) ⟨Nat.le_of_ble_eq_true rfl, Nat.le_of_ble_eq_true rfl⟩, (wd_1497 hE), (wd_54 hE)⟩ ⟨PR.blind, r_recv hK hP rfl, (r_pre (av := [.ref (b 0), .int 3]) hK hP hJ hE)⟩ rfl rfl hl.1 rfl (lv_room (Nat.le_of_ble_eq_true rfl)) dX12_core_26 ⟨Nat.le_of_ble_eq_true rfl, Nat.le_of_ble_eq_true rfl⟩) (fun r26 u26 H locs hpo26 hP hS => ?_)
      obtain ⟨hr26, hq26⟩ := hpo26
      have hA27 := (hq26.1 1 List.not_mem_nil).trans hA1
      have hF28x := (hq26.2.1 2 (by decide)).trans hF2
      have hfr := FR.step hfr hq26 (fun _ h => absurd h List.not_mem_nil) (by decide) (fun h => rfl)
      subst hr26
      exact W.iret (v := -1) hx hb hr (fun t ht hW => ⟨⟨-1, u26, rfl, ⟨trivial, (by first | (rw [hA27]; done) | (rw [hA27]; first | assumption | omega | rfl | (congr 1; omega))), (by first | (rw [hF28x]; done) | (rw [hF28x]; refine ⟨_, ?_, rfl⟩; omega)), hfr⟩, (show va_P (dC, dI) vwCl (rW cs b u26) t.heap by rw [ht]; exact hP)⟩, hS.F ht⟩) hS.2.2 dX12_core_29
  · refine lv_if_ne (tgt := 14) hx hb dX12_core_5 (by decide) (fun c29 => absurd c29 (by decide)) (fun c29 => ?_)
    refine lv_aload_n hx hb dX12_core_8 rfl (lv_at hl 0 rfl) ?_
    refine lv_iconst (v := 2) hx hb dX12_core_9 (by decide) ?_
    refine rc_i hAL hS hA (va_runV (As := [.int 2]) (rest := []) ⟨hx, hb, hml, hown, noTs⟩ (r_X12_refuse l dC dI s.heap.size cs b u a hA1 2) ⟨cbE 1 (wd_1498 hE) (wd_126 hE) (wd_1495 hE) rfl rfl (by decide +kernel) ⟨Nat.le_of_ble_eq_true rfl, Nat.le_of_ble_eq_true rfl⟩, (wd_1497 hE), (wd_54 hE)⟩ ⟨PR.blind, r_recv hK hP rfl, (r_pre (av := [.ref (b 0), .int 2]) hK hP hJ hE)⟩ rfl rfl hl.1 rfl (lv_room (Nat.le_of_ble_eq_true rfl)) dX12_core_10 ⟨Nat.le_of_ble_eq_true rfl, Nat.le_of_ble_eq_true rfl⟩) (fun r30 u30 H locs hpo30 hP hS => ?_)
    obtain ⟨hr30, hq30⟩ := hpo30
    have hA31 := (hq30.1 1 List.not_mem_nil).trans hA1
    have hF32x := (hq30.2.1 2 (by decide)).trans hF2
    have hfr := FR.step hfr hq30 (fun _ h => absurd h List.not_mem_nil) (by decide) (fun h => rfl)
    subst hr30
    exact W.iret (v := -1) hx hb hr (fun t ht hW => ⟨⟨-1, u30, rfl, ⟨trivial, (by first | (rw [hA31]; done) | (rw [hA31]; first | assumption | omega | rfl | (congr 1; omega))), (by first | (rw [hF32x]; done) | (rw [hF32x]; refine ⟨_, ?_, rfl⟩; omega)), hfr⟩, (show va_P (dC, dI) vwCl (rW cs b u30) t.heap by rw [ht]; exact hP)⟩, hS.F ht⟩) hS.2.2 dX12_core_13

set_option maxHeartbeats 4000000 in
set_option maxRecDepth 100000 in
theorem r_X12_drop (l : Launch) (dC : Nat → ClassId) (dI : Nat → Nat → Nat) (sz : Nat) (cs : Nat → ClassId) (b : Nat → Nat) (u : RS) (a : Nat → Int32) (hA1 : rA u 1 = a) (x : Int32) (ac : Nat) (hF2 : rF u 2 = nI ac) (hp0 : AB a) (hp1 : ac ≤ 8) : Met l yX12_drop [.code yX12_drop cX12_drop 3 (some .int)] ({ frames := 2, cells := 0, slots := 0, locals := 80 }) (PR [.ref (b 0), .int x] sz dC dI cs b u) (va_Qi (fun (r : Int32) (u' : RS) => (True) ∧ (AB (rA u' 1)) ∧ (∃ k : Nat, k ≤ 8 ∧ rF u' 2 = nI k) ∧ FR [1, 3, 4, 5, 6, 7, 8, 9, 10, 11, 12, 13, 14, 17, 18, 19, 20] [1, 2, 5, 21, 22] true u u') (BR dC dI cs b) (AR b sz)) 0 0 (AR b sz) := by
  refine Met.ofW (cc := cX12_drop) (maxL := 3) (ret := (some .int)) (by decide) rfl ?_
  intro p e s m args below meth c s₁ B hml hv
  obtain ⟨rfl, hsz, hP, hK, hJ, hE⟩ := hv
  have hx := B.exec
  have hb := B.bytes
  have hr := B.returns
  have hown : s.vm.findClass RX12 = some m.cls := findClass_of_methodNamed B.named
  have hlocks := B.notSynchronized
  subst hsz
  have hAL : ∀ i, i < 108 → AR b s.heap.size (b i) := fun i h => Or.inl ⟨i, h, rfl⟩
  have hA : ∀ q : Nat, s.heap.size ≤ q → AR b s.heap.size q := fun q h => Or.inr h
  have hS : va_S (AR b s.heap.size) s.heap s.heap [] := va_S.rf
  have hfr : FR [1, 3, 4, 5, 6, 7, 8, 9, 10, 11, 12, 13, 14, 17, 18, 19, 20] [1, 2, 5, 21, 22] true u u := FR.refl
  have hl := lv_entry ([.ref (b 0), .int x]) (n := 3) (Nat.le_of_ble_eq_true rfl)
  rw [lg_entry_eq]
  generalize (lg_sl ([.ref (b 0), .int x]) ++ List.replicate (3 - (lg_sl ([.ref (b 0), .int x])).length) Slot.unset).toArray = ls at hl ⊢
  have hl : lv_has ls 3 [(0, .ref (b 0)), (1, .int x)] := hl
  have hB := ab_0 hp0
  have hG := bg_g hB
  have ha2 := gg_le hG
  have ha2b := bg_w hB
  refine lv_aload_n hx hb dX12_drop_0 rfl (lv_at hl 0 rfl) ?_
  refine lv_iload_n hx hb dX12_drop_1 rfl (lv_at hl 1 rfl) ?_
  refine vp_callSi (va_Run.run (va_runV (As := [.int x]) (rest := []) ⟨hx, hb, hml, hown, noTs⟩ (r_X12_isWord l dC dI s.heap.size cs b u a hA1 x (by first | assumption | omega | rfl | (congr 1; omega))) ⟨cbE 1 (wd_1653 hE) (wd_126 hE) (wd_1650 hE) rfl rfl (by decide +kernel) ⟨Nat.le_of_ble_eq_true rfl, Nat.le_of_ble_eq_true rfl⟩, (wd_1652 hE), (wd_83 hE)⟩ ⟨PR.blind, r_recv hK hP rfl, (r_pre (av := [.ref (b 0), .int x]) hK hP hJ hE)⟩ rfl rfl hl.1 rfl (lv_room (Nat.le_of_ble_eq_true rfl)) dX12_drop_2 ⟨Nat.le_of_ble_eq_true rfl, Nat.le_of_ble_eq_true rfl⟩)) (fun r4 hr4 => ?_)
  rcases hr4 with ⟨rfl, hb4⟩ | ⟨rfl, hb4⟩
  · obtain ⟨n4, hbe4_1, hb4⟩ := hb4
    subst hbe4_1
    have hti5 := nI_toInt (n := n4) (by omega)
    refine lv_if_ne (tgt := 14) hx hb dX12_drop_5 (by decide) (fun c6 => ?_) (fun c6 => absurd c6 (by decide))
    refine lv_aload_n hx hb dX12_drop_14 rfl (lv_at hl 0 rfl) ?_
    refine lv_iconst (v := 0) hx hb dX12_drop_15 (by decide) ?_
    refine rc_v hAL hS hA (va_runV (As := [.int (nI 0)]) (rest := []) ⟨hx, hb, hml, hown, noTs⟩ (r_X12_acted l dC dI s.heap.size cs b u a hA1 0 ac hF2 (by first | assumption | omega | rfl | (congr 1; omega)) (by first | assumption | omega | rfl | (congr 1; omega)) (by first | assumption | omega | rfl | (congr 1; omega))) ⟨cbE 1 (wd_1617 hE) (wd_126 hE) (wd_1614 hE) rfl rfl (by decide +kernel) ⟨Nat.le_of_ble_eq_true rfl, Nat.le_of_ble_eq_true rfl⟩, (wd_1616 hE), (wd_79 hE)⟩ ⟨PR.blind, r_recv hK hP rfl, (r_pre (av := [.ref (b 0), .int (nI 0)]) hK hP hJ hE)⟩ rfl rfl hl.1 rfl (lv_room (Nat.le_of_ble_eq_true rfl)) dX12_drop_16 ⟨Nat.le_of_ble_eq_true rfl, Nat.le_of_ble_eq_true rfl⟩) (fun u7 H locs hpo7 hP hS => ?_)
    obtain ⟨h7_0, h7_1, h7_2, hq7⟩ := hpo7
    obtain ⟨w8, hA8⟩ : ∃ g, rA u7 1 = g := ⟨_, rfl⟩
    rw [hA8] at h7_0 h7_1
    obtain ⟨n7_2, hn7_2, hfe7_2⟩ := h7_2
    have hfr := FR.step hfr hq7 (by decide) (by decide) (fun h => rfl)
    have hB := ab_0 h7_0
    have hG := bg_g hB
    have ha9 := gg_le hG
    have ha9b := bg_w hB
    have mw : wN w8 = wN a := by unfold wN; rw [h7_1 2 (by omega)]
    have aba := h7_0
    have BG1 := hB
    have PW : n4 < wN w8 := by omega
    refine lv_aload_n hx hb dX12_drop_19 rfl (lv_at hl 0 rfl) ?_
    refine r_get (v := .ref (b 1)) hx hb (ly_X12 hE) hown hK hP rfl 0 (by decide) (wd_1381 hE) (fun _ h9 => h9) rfl dX12_drop_20 ?_
    refine lv_iconst (v := 2) hx hb dX12_drop_23 (by decide) ?_
    refine lv_dup2_11 hx hb dX12_drop_24 rfl rfl ?_
    refine r_iald (j := 1) (k := 2) (n := 7202) (x := nI (wN w8)) hx hb hK hP (by decide) rfl (by decide) (by decide) (by rw [hA8]; exact (bg_w hB).1) dX12_drop_25 ?_
    refine lv_iconst (v := 1) hx hb dX12_drop_26 (by decide) ?_
    refine lv_isub hx hb dX12_drop_27 ?_
    refine W.eq (g2 := F0 m 28 ls [.int (nI ((wN w8) - 1)), .int 2, .ref (b 1)]) (congrArg (fun z : Int32 => F0 m 28 ls (.int z :: [.int 2, .ref (b 1)])) (pk_sub (a := wN w8) (b := 1) (by omega))) ?_
    refine r_iast (j := 1) (k := 2) (n := 7202) (x := nI ((wN w8) - 1)) hx hb hK hP hJ hAL hS (by decide) (fun _ => rfl) hA8 (by decide) (by decide) dX12_drop_28 (fun u11 H locs hs11 hq11 hP hS => ?_)
    obtain ⟨w11, hw11⟩ : ∃ g, g = upd w8 2 (nI ((wN w8) - 1)) := ⟨_, rfl⟩
    rw [← hw11] at hs11
    have hF12x := (hq11.2.1 2 List.not_mem_nil).trans hfe7_2
    have hfr := FR.step hfr hq11 (by decide) (fun _ h => absurd h List.not_mem_nil) (fun h => rfl)
    have e2 := hw11
    refine lv_bipush (v := 34) hx hb dX12_drop_29 (by decide) ?_
    refine lv_bipush (v := 52) hx hb dX12_drop_31 (by decide) ?_
    refine lv_iload_n hx hb dX12_drop_33 rfl (lv_at hl 1 rfl) ?_
    refine lv_imul hx hb dX12_drop_34 ?_
    refine W.eq (g2 := F0 m 35 ls [.int (nI (52 * n4)), .int 34]) (congrArg (fun z : Int32 => F0 m 35 ls (.int z :: [.int 34])) (pk_mul 52 n4)) ?_
    refine lv_iadd hx hb dX12_drop_35 ?_
    refine W.eq (g2 := F0 m 36 ls [.int (nI (34 + (52 * n4)))]) (congrArg (fun z : Int32 => F0 m 36 ls (.int z :: [])) (nI_add 34 (52 * n4))) ?_
    refine lv_istore_n (lv' := [(2, .int (nI (34 + (52 * n4)))), (0, .ref (b 0)), (1, .int (nI n4))]) hx hb dX12_drop_36 rfl hl (by decide) rfl (fun ls hl => ?_)
    refine r_ind (I := fun n u_ H locs ls => va_P (dC, dI) vwCl (rW cs b u_) H ∧ va_S (AR b s.heap.size) s.heap H locs ∧ FR [1, 3, 4, 5, 6, 7, 8, 9, 10, 11, 12, 13, 14, 17, 18, 19, 20] [1, 2, 5, 21, 22] true u u_ ∧ ∃ (k_13 : Nat) (g_13 : Nat → Int32), n = 600 - k_13 ∧ (34 + 52 * n4 ≤ k_13) ∧ (k_13 ≤ 34 + 52 * (wN w8 - 1)) ∧ (g_13 2 = nI (wN w8 - 1)) ∧ (∀ q, q ≠ 2 → q < 34 + 52 * n4 → g_13 q = w8 q) ∧ (∀ q, 34 + 52 * n4 ≤ q → q < k_13 → g_13 q = w8 (q + 52)) ∧ (∀ q, k_13 ≤ q → q ≠ 2 → g_13 q = w8 q) ∧ (rA u_ 1 = g_13) ∧ (rF u_ 2 = nI n7_2) ∧ lv_has ls 3 [(0, .ref (b 0)), (1, .int (nI n4)), (2, .int (nI k_13))]) (fun n u13 H locs ls hI ih13 => ?_) _ u11 _ _ _ ⟨hP, hS, hfr, 34 + 52 * n4, w11, rfl, (by first | assumption | omega | rfl | (congr 1; omega)), (by first | assumption | omega | rfl | (congr 1; omega)), (by rw [e2]; exact pk_us), (by intro q hq _; rw [e2, pk_un hq]), (by intro q _ _; omega), (by intro q _ hq; rw [e2, pk_un hq]), hs11, hF12x, lv_sub hl [1, 2, 0] rfl⟩
    obtain ⟨hP, hS, hfr, k_13, g_13, hmu13, hL13_0, hL13_1, hL13_2, hL13_3, hL13_4, hL13_5, hL13_6, hL13_7, hl⟩ := hI
    subst hmu13
    refine lv_iload_n hx hb dX12_drop_37 rfl (lv_at hl 2 rfl) ?_
    refine lv_bipush (v := 34) hx hb dX12_drop_38 (by decide) ?_
    refine lv_bipush (v := 52) hx hb dX12_drop_40 (by decide) ?_
    refine lv_aload_n hx hb dX12_drop_42 rfl (lv_at hl 0 rfl) ?_
    refine lv_iconst (v := 2) hx hb dX12_drop_43 (by decide) ?_
    refine vp_callSi (va_Run.run (va_runV (As := [.int (nI 2)]) (rest := [.int 52, .int 34, .int (nI k_13)]) ⟨hx, hb, hml, hown, noTs⟩ (r_X12_of l dC dI H.size cs b u13 g_13 hL13_6 2 (by first | assumption | omega | rfl | (congr 1; omega))) ⟨cbE 1 (wd_1536 hE) (wd_126 hE) (wd_1533 hE) rfl rfl (by decide +kernel) ⟨Nat.le_of_ble_eq_true rfl, Nat.le_of_ble_eq_true rfl⟩, (wd_1535 hE), (wd_61 hE)⟩ ⟨PR.blind, r_recv hK hP rfl, (r_pre (av := [.ref (b 0), .int (nI 2)]) hK hP hJ hE)⟩ rfl rfl hl.1 rfl (lv_room (Nat.le_of_ble_eq_true rfl)) dX12_drop_44 ⟨Nat.le_of_ble_eq_true rfl, Nat.le_of_ble_eq_true rfl⟩)) (fun r14 hr14 => ?_)
    have hr14 := hr14.trans (hL13_2)
    subst hr14
    refine lv_imul hx hb dX12_drop_47 ?_
    refine W.eq (g2 := F0 m 48 ls [.int (nI (52 * (wN w8 - 1))), .int 34, .int (nI k_13)]) (congrArg (fun z : Int32 => F0 m 48 ls (.int z :: [.int 34, .int (nI k_13)])) (pk_mul 52 (wN w8 - 1))) ?_
    refine lv_iadd hx hb dX12_drop_48 ?_
    refine W.eq (g2 := F0 m 49 ls [.int (nI (34 + (52 * (wN w8 - 1)))), .int (nI k_13)]) (congrArg (fun z : Int32 => F0 m 49 ls (.int z :: [.int (nI k_13)])) (nI_add 34 (52 * (wN w8 - 1)))) ?_
    refine lv_icmp_ge (tgt := 73) hx hb dX12_drop_49 (by decide) (fun c15 => ?_) (fun c15 => ?_)
    · have c15 := (b_le (nI_toInt (n := 34 + (52 * (wN w8 - 1))) (by omega)) (nI_toInt (n := k_13) (by omega))).mp c15
      have bgx := bg_drop BG1 PW hL13_2 hL13_3 (fun k hk hk2 => hL13_4 k hk (by omega))
      have abx := ab_now aba bgx (fun k hk => hL13_5 k (by omega) (by omega))
      refine lv_aload_n hx hb dX12_drop_73 rfl (lv_at hl 0 rfl) ?_
      refine lv_aload_n hx hb dX12_drop_74 rfl (lv_at hl 0 rfl) ?_
      refine lv_iconst (v := 2) hx hb dX12_drop_75 (by decide) ?_
      refine vp_callSi (va_Run.run (va_runV (As := [.int (nI 2)]) (rest := [.ref (b 0)]) ⟨hx, hb, hml, hown, noTs⟩ (r_X12_of l dC dI H.size cs b u13 g_13 hL13_6 2 (by first | assumption | omega | rfl | (congr 1; omega))) ⟨cbE 1 (wd_1536 hE) (wd_126 hE) (wd_1533 hE) rfl rfl (by decide +kernel) ⟨Nat.le_of_ble_eq_true rfl, Nat.le_of_ble_eq_true rfl⟩, (wd_1535 hE), (wd_61 hE)⟩ ⟨PR.blind, r_recv hK hP rfl, (r_pre (av := [.ref (b 0), .int (nI 2)]) hK hP hJ hE)⟩ rfl rfl hl.1 rfl (lv_room (Nat.le_of_ble_eq_true rfl)) dX12_drop_76 ⟨Nat.le_of_ble_eq_true rfl, Nat.le_of_ble_eq_true rfl⟩)) (fun r16 hr16 => ?_)
      have hr16 := hr16.trans (hL13_2)
      subst hr16
      refine rc_i hAL hS hA (va_runV (As := [.int (nI (wN w8 - 1))]) (rest := []) ⟨hx, hb, hml, hown, noTs⟩ (r_X12_gives l dC dI H.size cs b u13 g_13 hL13_6 (nI (wN w8 - 1))) ⟨cbE 1 (wd_1621 hE) (wd_126 hE) (wd_1618 hE) rfl rfl (by decide +kernel) ⟨Nat.le_of_ble_eq_true rfl, Nat.le_of_ble_eq_true rfl⟩, (wd_1620 hE), (wd_80 hE)⟩ ⟨PR.blind, r_recv hK hP rfl, (r_pre (av := [.ref (b 0), .int (nI (wN w8 - 1))]) hK hP hJ hE)⟩ rfl rfl hl.1 rfl (lv_room (Nat.le_of_ble_eq_true rfl)) dX12_drop_79 ⟨Nat.le_of_ble_eq_true rfl, Nat.le_of_ble_eq_true rfl⟩) (fun r17 u17 H locs hpo17 hP hS => ?_)
      obtain ⟨hr17, hq17⟩ := hpo17
      have hA18 := (hq17.1 1 List.not_mem_nil).trans hL13_6
      have hF19x := (hq17.2.1 2 (by decide)).trans hL13_7
      have hfr := FR.step hfr hq17 (fun _ h => absurd h List.not_mem_nil) (by decide) (fun h => rfl)
      refine W.eq (g2 := F0 m 82 ls [.int (nI (wN w8 - 1))]) (by rw [hr17]) ?_
      exact W.iret (v := nI (wN w8 - 1)) hx hb hr (fun t ht hW => ⟨⟨nI (wN w8 - 1), u17, rfl, ⟨trivial, (by first | (rw [hA18]; done) | (rw [hA18]; exact abx)), (by first | (rw [hF19x]; done) | (rw [hF19x]; refine ⟨_, ?_, rfl⟩; omega)), hfr⟩, (show va_P (dC, dI) vwCl (rW cs b u17) t.heap by rw [ht]; exact hP)⟩, hS.F ht⟩) hS.2.2 dX12_drop_82
    · have c15 := mt (b_le (nI_toInt (n := 34 + (52 * (wN w8 - 1))) (by omega)) (nI_toInt (n := k_13) (by omega))).mpr c15
      refine lv_aload_n hx hb dX12_drop_52 rfl (lv_at hl 0 rfl) ?_
      refine r_get (v := .ref (b 1)) hx hb (ly_X12 hE) hown hK hP rfl 0 (by decide) (wd_1381 hE) (fun _ h9 => h9) rfl dX12_drop_53 ?_
      refine lv_iload_n hx hb dX12_drop_56 rfl (lv_at hl 2 rfl) ?_
      refine lv_aload_n hx hb dX12_drop_57 rfl (lv_at hl 0 rfl) ?_
      refine r_get (v := .ref (b 1)) hx hb (ly_X12 hE) hown hK hP rfl 0 (by decide) (wd_1381 hE) (fun _ h9 => h9) rfl dX12_drop_58 ?_
      refine lv_iload_n hx hb dX12_drop_61 rfl (lv_at hl 2 rfl) ?_
      refine lv_bipush (v := 52) hx hb dX12_drop_62 (by decide) ?_
      refine lv_iadd hx hb dX12_drop_64 ?_
      refine W.eq (g2 := F0 m 65 ls [.int (nI (k_13 + 52)), .ref (b 1), .int (nI k_13), .ref (b 1)]) (congrArg (fun z : Int32 => F0 m 65 ls (.int z :: [.ref (b 1), .int (nI k_13), .ref (b 1)])) (nI_add k_13 52)) ?_
      refine r_iald (j := 1) (k := k_13 + 52) (n := 7202) (x := g_13 (k_13 + 52)) hx hb hK hP (by decide) rfl (by omega) (by decide) (by rw [hL13_6]) dX12_drop_65 ?_
      refine lv_topi (fun x21 ex21 => ?_)
      have hv1 := ex21
      refine r_iast (j := 1) (k := k_13) (n := 7202) (x := x21) hx hb hK hP hJ hAL hS (by decide) (fun _ => rfl) hL13_6 (by omega) (by decide) dX12_drop_66 (fun u22 H locs hs22 hq22 hP hS => ?_)
      obtain ⟨w22, hw22⟩ : ∃ g, g = upd g_13 k_13 x21 := ⟨_, rfl⟩
      rw [← hw22] at hs22
      have hF23x := (hq22.2.1 2 List.not_mem_nil).trans hL13_7
      have hfr := FR.step hfr hq22 (by decide) (fun _ h => absurd h List.not_mem_nil) (fun h => rfl)
      have k1 := hw22
      refine lv_iinc (v := nI (k_13 + 1)) (lv' := [(2, .int (nI (k_13 + 1))), (0, .ref (b 0)), (1, .int (nI n4))]) hx hb dX12_drop_67 hl (k := 2) rfl (nI_1 k_13) (by decide) rfl (fun ls hl => ?_)
      refine lv_goto (tgt := 37) hx hb dX12_drop_70 (by decide) ?_
      exact ih13 _ u22 _ _ _ (by omega) ⟨hP, hS, hfr, (k_13 + 1), w22, rfl, (by first | assumption | omega | rfl | (congr 1; omega)), (by first | assumption | omega | rfl | (congr 1; omega)), (by rw [k1, pk_un (by omega)]; exact hL13_2), (by intro q hq hq2; rw [k1, pk_un (by omega)]; exact hL13_3 q hq hq2), (by intro q hq hq2; rcases Nat.lt_or_ge q k_13 with z | z; (rw [k1, pk_un (by omega)]; exact hL13_4 q hq z); (rw [show q = k_13 by omega, k1, pk_us, hv1]; exact hL13_5 _ (by omega) (by omega))), (by intro q hq hq2; rw [k1, pk_un (by omega)]; exact hL13_5 q (by omega) hq2), hs22, hF23x, lv_sub hl [1, 2, 0] rfl⟩
  · refine lv_if_ne (tgt := 14) hx hb dX12_drop_5 (by decide) (fun c24 => absurd c24 (by decide)) (fun c24 => ?_)
    refine lv_aload_n hx hb dX12_drop_8 rfl (lv_at hl 0 rfl) ?_
    refine lv_iconst (v := 2) hx hb dX12_drop_9 (by decide) ?_
    refine rc_i hAL hS hA (va_runV (As := [.int 2]) (rest := []) ⟨hx, hb, hml, hown, noTs⟩ (r_X12_refuse l dC dI s.heap.size cs b u a hA1 2) ⟨cbE 1 (wd_1498 hE) (wd_126 hE) (wd_1495 hE) rfl rfl (by decide +kernel) ⟨Nat.le_of_ble_eq_true rfl, Nat.le_of_ble_eq_true rfl⟩, (wd_1497 hE), (wd_54 hE)⟩ ⟨PR.blind, r_recv hK hP rfl, (r_pre (av := [.ref (b 0), .int 2]) hK hP hJ hE)⟩ rfl rfl hl.1 rfl (lv_room (Nat.le_of_ble_eq_true rfl)) dX12_drop_10 ⟨Nat.le_of_ble_eq_true rfl, Nat.le_of_ble_eq_true rfl⟩) (fun r25 u25 H locs hpo25 hP hS => ?_)
    obtain ⟨hr25, hq25⟩ := hpo25
    have hA26 := (hq25.1 1 List.not_mem_nil).trans hA1
    have hF27x := (hq25.2.1 2 (by decide)).trans hF2
    have hfr := FR.step hfr hq25 (fun _ h => absurd h List.not_mem_nil) (by decide) (fun h => rfl)
    subst hr25
    exact W.iret (v := -1) hx hb hr (fun t ht hW => ⟨⟨-1, u25, rfl, ⟨trivial, (by first | (rw [hA26]; done) | (rw [hA26]; first | assumption | omega | rfl | (congr 1; omega))), (by first | (rw [hF27x]; done) | (rw [hF27x]; refine ⟨_, ?_, rfl⟩; omega)), hfr⟩, (show va_P (dC, dI) vwCl (rW cs b u25) t.heap by rw [ht]; exact hP)⟩, hS.F ht⟩) hS.2.2 dX12_drop_13

set_option maxHeartbeats 4000000 in
set_option maxRecDepth 100000 in
theorem r_X12_undo (l : Launch) (dC : Nat → ClassId) (dI : Nat → Nat → Nat) (sz : Nat) (cs : Nat → ClassId) (b : Nat → Nat) (u : RS) (a : Nat → Int32) (hA1 : rA u 1 = a) (ac : Nat) (hF2 : rF u 2 = nI ac) (hp0 : AB a) (hp1 : ac ≤ 8) : Met l yX12_undo [.code yX12_undo cX12_undo 1 (some .int)] ({ frames := 1, cells := 0, slots := 0, locals := 40 }) (PR [.ref (b 0)] sz dC dI cs b u) (va_Qi (fun (r : Int32) (u' : RS) => (True) ∧ (AB (rA u' 1)) ∧ (∃ k : Nat, k ≤ 8 ∧ rF u' 2 = nI k) ∧ FR [1] [1, 2] false u u') (BR dC dI cs b) (AR b sz)) 0 0 (AR b sz) := by
  refine Met.ofW (cc := cX12_undo) (maxL := 1) (ret := (some .int)) (by decide) rfl ?_
  intro p e s m args below meth c s₁ B hml hv
  obtain ⟨rfl, hsz, hP, hK, hJ, hE⟩ := hv
  have hx := B.exec
  have hb := B.bytes
  have hr := B.returns
  have hown : s.vm.findClass RX12 = some m.cls := findClass_of_methodNamed B.named
  have hlocks := B.notSynchronized
  subst hsz
  have hAL : ∀ i, i < 108 → AR b s.heap.size (b i) := fun i h => Or.inl ⟨i, h, rfl⟩
  have hA : ∀ q : Nat, s.heap.size ≤ q → AR b s.heap.size q := fun q h => Or.inr h
  have hS : va_S (AR b s.heap.size) s.heap s.heap [] := va_S.rf
  have hfr : FR [1] [1, 2] false u u := FR.refl
  have hl := lv_entry ([.ref (b 0)]) (n := 1) (Nat.le_of_ble_eq_true rfl)
  rw [lg_entry_eq]
  generalize (lg_sl ([.ref (b 0)]) ++ List.replicate (1 - (lg_sl ([.ref (b 0)])).length) Slot.unset).toArray = ls at hl ⊢
  have hl : lv_has ls 1 [(0, .ref (b 0))] := hl
  have hB := ab_0 hp0
  have hG := bg_g hB
  have ha2 := gg_le hG
  have ha2b := bg_w hB
  refine lv_aload_n hx hb dX12_undo_0 rfl (lv_at hl 0 rfl) ?_
  refine r_get (v := .int (nI ac)) hx hb (ly_X12 hE) hown hK hP rfl 2 (by decide) (wd_1383 hE) (fun _ h9 => h9) (congrArg (fun z : Int32 => some (Value.int z)) hF2) dX12_undo_1 ?_
  refine lv_if_ne (tgt := 13) hx hb dX12_undo_4 (by decide) (fun c4 => ?_) (fun c4 => ?_)
  · have c4 := mt (b_eq (nI_toInt (n := ac) (by omega)) (show Int32.toInt 0 = 0 from rfl)).mpr c4
    refine lv_aload_n hx hb dX12_undo_13 rfl (lv_at hl 0 rfl) ?_
    refine lv_dup hx hb dX12_undo_14 rfl ?_
    refine r_get (v := .int (nI ac)) hx hb (ly_X12 hE) hown hK hP rfl 2 (by decide) (wd_1383 hE) (fun _ h9 => h9) (congrArg (fun z : Int32 => some (Value.int z)) hF2) dX12_undo_15 ?_
    refine lv_iconst (v := 1) hx hb dX12_undo_18 (by decide) ?_
    refine lv_isub hx hb dX12_undo_19 ?_
    refine W.eq (g2 := F0 m 20 ls [.int (nI (ac - 1)), .ref (b 0)]) (congrArg (fun z : Int32 => F0 m 20 ls (.int z :: [.ref (b 0)])) (pk_sub (a := ac) (b := 1) (by omega))) ?_
    refine r_put (v := nI (ac - 1)) hx hb (ly_X12 hE) tyX12 tyX12_ok nmX12 hown hK hP hJ hAL hS rfl 2 (by decide) (wd_1383 hE) (fun _ h9 => h9) rfl (by decide +kernel) rfl (by decide) dX12_undo_20 (fun u5 H locs hf5 hq5 hP hS => ?_)
    have hA6 := (hq5.1 1 List.not_mem_nil).trans hA1
    have hfr := FR.step hfr hq5 (fun _ h => absurd h List.not_mem_nil) (by decide) (fun h => rfl)
    refine lv_aload_n hx hb dX12_undo_23 rfl (lv_at hl 0 rfl) ?_
    refine lv_sipush (v := 1108) hx hb dX12_undo_24 (by decide) ?_
    refine lv_sipush (v := 554) hx hb dX12_undo_27 (by decide) ?_
    refine lv_aload_n hx hb dX12_undo_30 rfl (lv_at hl 0 rfl) ?_
    refine r_get (v := .int (nI (ac - 1))) hx hb (ly_X12 hE) hown hK hP rfl 2 (by decide) (wd_1383 hE) (fun _ h9 => h9) (congrArg (fun z : Int32 => some (Value.int z)) hf5) dX12_undo_31 ?_
    refine lv_imul hx hb dX12_undo_34 ?_
    refine W.eq (g2 := F0 m 35 ls [.int (nI (554 * (ac - 1))), .int 1108, .ref (b 0)]) (congrArg (fun z : Int32 => F0 m 35 ls (.int z :: [.int 1108, .ref (b 0)])) (pk_mul 554 (ac - 1))) ?_
    refine lv_iadd hx hb dX12_undo_35 ?_
    refine W.eq (g2 := F0 m 36 ls [.int (nI (1108 + (554 * (ac - 1)))), .ref (b 0)]) (congrArg (fun z : Int32 => F0 m 36 ls (.int z :: [.ref (b 0)])) (nI_add 1108 (554 * (ac - 1)))) ?_
    refine lv_iconst (v := 0) hx hb dX12_undo_36 (by decide) ?_
    refine rc_v hAL hS hA (va_runV (As := [.int (nI (1108 + (554 * (ac - 1)))), .int (nI 0)]) (rest := []) ⟨hx, hb, hml, hown, noTs⟩ (r_X12_copies l dC dI H.size cs b u5 a hA6 (1108 + (554 * (ac - 1))) 0 (by first | assumption | omega | rfl | (congr 1; omega)) (by first | assumption | omega | rfl | (congr 1; omega)) (by first | assumption | omega | rfl | (congr 1; omega))) ⟨cbE 2 (wd_1502 hE) (wd_126 hE) (wd_1499 hE) rfl rfl (by decide +kernel) ⟨Nat.le_of_ble_eq_true rfl, Nat.le_of_ble_eq_true rfl⟩, (wd_1501 hE), (wd_55 hE)⟩ ⟨PR.blind, r_recv hK hP rfl, (r_pre (av := [.ref (b 0), .int (nI (1108 + (554 * (ac - 1)))), .int (nI 0)]) hK hP hJ hE)⟩ rfl rfl hl.1 rfl (lv_room (Nat.le_of_ble_eq_true rfl)) dX12_undo_37 ⟨Nat.le_of_ble_eq_true rfl, Nat.le_of_ble_eq_true rfl⟩) (fun u7 H locs hpo7 hP hS => ?_)
    obtain ⟨h7_0, h7_1, hq7⟩ := hpo7
    obtain ⟨w8, hA8⟩ : ∃ g, rA u7 1 = g := ⟨_, rfl⟩
    rw [hA8] at h7_0 h7_1
    have hF9x := (hq7.2.1 2 List.not_mem_nil).trans hf5
    have hfr := FR.step hfr hq7 (by decide) (fun _ h => absurd h List.not_mem_nil) (fun h => rfl)
    have abx := ab_copy (i := 2 + (ac - 1)) (j := 0) (by omega) hp0 (fun q hq => (congrArg w8 (show 554 * 0 + q = 0 + q by omega)).trans ((h7_0 q hq).trans (congrArg _ (by omega)))) (fun q hq => h7_1 q (by omega))
    refine lv_aload_n hx hb dX12_undo_40 rfl (lv_at hl 0 rfl) ?_
    refine lv_aload_n hx hb dX12_undo_41 rfl (lv_at hl 0 rfl) ?_
    refine r_get (v := .int (nI (ac - 1))) hx hb (ly_X12 hE) hown hK hP rfl 2 (by decide) (wd_1383 hE) (fun _ h9 => h9) (congrArg (fun z : Int32 => some (Value.int z)) hF9x) dX12_undo_42 ?_
    refine rc_i hAL hS hA (va_runV (As := [.int (nI (ac - 1))]) (rest := []) ⟨hx, hb, hml, hown, noTs⟩ (r_X12_gives l dC dI H.size cs b u7 w8 hA8 (nI (ac - 1))) ⟨cbE 1 (wd_1621 hE) (wd_126 hE) (wd_1618 hE) rfl rfl (by decide +kernel) ⟨Nat.le_of_ble_eq_true rfl, Nat.le_of_ble_eq_true rfl⟩, (wd_1620 hE), (wd_80 hE)⟩ ⟨PR.blind, r_recv hK hP rfl, (r_pre (av := [.ref (b 0), .int (nI (ac - 1))]) hK hP hJ hE)⟩ rfl rfl hl.1 rfl (lv_room (Nat.le_of_ble_eq_true rfl)) dX12_undo_45 ⟨Nat.le_of_ble_eq_true rfl, Nat.le_of_ble_eq_true rfl⟩) (fun r10 u10 H locs hpo10 hP hS => ?_)
    obtain ⟨hr10, hq10⟩ := hpo10
    have hA11 := (hq10.1 1 List.not_mem_nil).trans hA8
    have hF12x := (hq10.2.1 2 (by decide)).trans hF9x
    have hfr := FR.step hfr hq10 (fun _ h => absurd h List.not_mem_nil) (by decide) (fun h => rfl)
    refine W.eq (g2 := F0 m 48 ls [.int (nI (ac - 1))]) (by rw [hr10]) ?_
    exact W.iret (v := nI (ac - 1)) hx hb hr (fun t ht hW => ⟨⟨nI (ac - 1), u10, rfl, ⟨trivial, (by first | (rw [hA11]; done) | (rw [hA11]; exact abx)), (by first | (rw [hF12x]; done) | (rw [hF12x]; refine ⟨_, ?_, rfl⟩; omega)), hfr⟩, (show va_P (dC, dI) vwCl (rW cs b u10) t.heap by rw [ht]; exact hP)⟩, hS.F ht⟩) hS.2.2 dX12_undo_48
  · have c4 := (b_eq (nI_toInt (n := ac) (by omega)) (show Int32.toInt 0 = 0 from rfl)).mp c4
    refine lv_aload_n hx hb dX12_undo_7 rfl (lv_at hl 0 rfl) ?_
    refine lv_iconst (v := 5) hx hb dX12_undo_8 (by decide) ?_
    refine rc_i hAL hS hA (va_runV (As := [.int 5]) (rest := []) ⟨hx, hb, hml, hown, noTs⟩ (r_X12_refuse l dC dI s.heap.size cs b u a hA1 5) ⟨cbE 1 (wd_1498 hE) (wd_126 hE) (wd_1495 hE) rfl rfl (by decide +kernel) ⟨Nat.le_of_ble_eq_true rfl, Nat.le_of_ble_eq_true rfl⟩, (wd_1497 hE), (wd_54 hE)⟩ ⟨PR.blind, r_recv hK hP rfl, (r_pre (av := [.ref (b 0), .int 5]) hK hP hJ hE)⟩ rfl rfl hl.1 rfl (lv_room (Nat.le_of_ble_eq_true rfl)) dX12_undo_9 ⟨Nat.le_of_ble_eq_true rfl, Nat.le_of_ble_eq_true rfl⟩) (fun r13 u13 H locs hpo13 hP hS => ?_)
    obtain ⟨hr13, hq13⟩ := hpo13
    have hA14 := (hq13.1 1 List.not_mem_nil).trans hA1
    have hF15x := (hq13.2.1 2 (by decide)).trans hF2
    have hfr := FR.step hfr hq13 (fun _ h => absurd h List.not_mem_nil) (by decide) (fun h => rfl)
    subst hr13
    exact W.iret (v := -1) hx hb hr (fun t ht hW => ⟨⟨-1, u13, rfl, ⟨trivial, (by first | (rw [hA14]; done) | (rw [hA14]; first | assumption | omega | rfl | (congr 1; omega))), (by first | (rw [hF15x]; done) | (rw [hF15x]; refine ⟨_, ?_, rfl⟩; omega)), hfr⟩, (show va_P (dC, dI) vwCl (rW cs b u13) t.heap by rw [ht]; exact hP)⟩, hS.F ht⟩) hS.2.2 dX12_undo_12

set_option maxHeartbeats 4000000 in
set_option maxRecDepth 100000 in
theorem r_X12_mark (l : Launch) (dC : Nat → ClassId) (dI : Nat → Nat → Nat) (sz : Nat) (cs : Nat → ClassId) (b : Nat → Nat) (u : RS) (a : Nat → Int32) (hA1 : rA u 1 = a) (mm : Nat) (hF3 : rF u 3 = nI mm) (hp0 : AB a) (hp1 : mm < 3) : Met l yX12_mark [.code yX12_mark cX12_mark 1 (some .int)] ({ frames := 1, cells := 0, slots := 0, locals := 40 }) (PR [.ref (b 0)] sz dC dI cs b u) (va_Qi (fun (r : Int32) (u' : RS) => (r = nI (mm + 1)) ∧ (AB (rA u' 1)) ∧ (rF u' 3 = nI (mm + 1)) ∧ FR [1] [1, 3] false u u') (BR dC dI cs b) (AR b sz)) 0 0 (AR b sz) := by
  refine Met.ofW (cc := cX12_mark) (maxL := 1) (ret := (some .int)) (by decide) rfl ?_
  intro p e s m args below meth c s₁ B hml hv
  obtain ⟨rfl, hsz, hP, hK, hJ, hE⟩ := hv
  have hx := B.exec
  have hb := B.bytes
  have hr := B.returns
  have hown : s.vm.findClass RX12 = some m.cls := findClass_of_methodNamed B.named
  have hlocks := B.notSynchronized
  subst hsz
  have hAL : ∀ i, i < 108 → AR b s.heap.size (b i) := fun i h => Or.inl ⟨i, h, rfl⟩
  have hA : ∀ q : Nat, s.heap.size ≤ q → AR b s.heap.size q := fun q h => Or.inr h
  have hS : va_S (AR b s.heap.size) s.heap s.heap [] := va_S.rf
  have hfr : FR [1] [1, 3] false u u := FR.refl
  have hl := lv_entry ([.ref (b 0)]) (n := 1) (Nat.le_of_ble_eq_true rfl)
  rw [lg_entry_eq]
  generalize (lg_sl ([.ref (b 0)]) ++ List.replicate (1 - (lg_sl ([.ref (b 0)])).length) Slot.unset).toArray = ls at hl ⊢
  have hl : lv_has ls 1 [(0, .ref (b 0))] := hl
  have hB := ab_0 hp0
  have hG := bg_g hB
  have ha2 := gg_le hG
  have ha2b := bg_w hB
  refine lv_aload_n hx hb dX12_mark_0 rfl (lv_at hl 0 rfl) ?_
  refine r_get (v := .int (nI mm)) hx hb (ly_X12 hE) hown hK hP rfl 3 (by decide) (wd_1384 hE) (fun _ h9 => h9) (congrArg (fun z : Int32 => some (Value.int z)) hF3) dX12_mark_1 ?_
  refine lv_iconst (v := 3) hx hb dX12_mark_4 (by decide) ?_
  refine lv_icmp_ne (tgt := 14) hx hb dX12_mark_5 (by decide) (fun c4 => ?_) (fun c4 => False.elim (by have c4 := (b_eq (nI_toInt (n := mm) (by omega)) (show Int32.toInt 3 = 3 from rfl)).mp c4; omega))
  have c4 := mt (b_eq (nI_toInt (n := mm) (by omega)) (show Int32.toInt 3 = 3 from rfl)).mpr c4
  refine lv_aload_n hx hb dX12_mark_14 rfl (lv_at hl 0 rfl) ?_
  refine lv_iconst (v := 0) hx hb dX12_mark_15 (by decide) ?_
  refine lv_sipush (v := 5540) hx hb dX12_mark_16 (by decide) ?_
  refine lv_sipush (v := 554) hx hb dX12_mark_19 (by decide) ?_
  refine lv_aload_n hx hb dX12_mark_22 rfl (lv_at hl 0 rfl) ?_
  refine r_get (v := .int (nI mm)) hx hb (ly_X12 hE) hown hK hP rfl 3 (by decide) (wd_1384 hE) (fun _ h9 => h9) (congrArg (fun z : Int32 => some (Value.int z)) hF3) dX12_mark_23 ?_
  refine lv_imul hx hb dX12_mark_26 ?_
  refine W.eq (g2 := F0 m 27 ls [.int (nI (554 * mm)), .int 5540, .int 0, .ref (b 0)]) (congrArg (fun z : Int32 => F0 m 27 ls (.int z :: [.int 5540, .int 0, .ref (b 0)])) (pk_mul 554 mm)) ?_
  refine lv_iadd hx hb dX12_mark_27 ?_
  refine W.eq (g2 := F0 m 28 ls [.int (nI (5540 + (554 * mm))), .int 0, .ref (b 0)]) (congrArg (fun z : Int32 => F0 m 28 ls (.int z :: [.int 0, .ref (b 0)])) (nI_add 5540 (554 * mm))) ?_
  refine rc_v hAL hS hA (va_runV (As := [.int (nI 0), .int (nI (5540 + (554 * mm)))]) (rest := []) ⟨hx, hb, hml, hown, noTs⟩ (r_X12_copies l dC dI s.heap.size cs b u a hA1 0 (5540 + (554 * mm)) (by first | assumption | omega | rfl | (congr 1; omega)) (by first | assumption | omega | rfl | (congr 1; omega)) (by first | assumption | omega | rfl | (congr 1; omega))) ⟨cbE 2 (wd_1502 hE) (wd_126 hE) (wd_1499 hE) rfl rfl (by decide +kernel) ⟨Nat.le_of_ble_eq_true rfl, Nat.le_of_ble_eq_true rfl⟩, (wd_1501 hE), (wd_55 hE)⟩ ⟨PR.blind, r_recv hK hP rfl, (r_pre (av := [.ref (b 0), .int (nI 0), .int (nI (5540 + (554 * mm)))]) hK hP hJ hE)⟩ rfl rfl hl.1 rfl (lv_room (Nat.le_of_ble_eq_true rfl)) dX12_mark_28 ⟨Nat.le_of_ble_eq_true rfl, Nat.le_of_ble_eq_true rfl⟩) (fun u5 H locs hpo5 hP hS => ?_)
  obtain ⟨h5_0, h5_1, hq5⟩ := hpo5
  obtain ⟨w6, hA6⟩ : ∃ g, rA u5 1 = g := ⟨_, rfl⟩
  rw [hA6] at h5_0 h5_1
  have hF7x := (hq5.2.1 3 List.not_mem_nil).trans hF3
  have hfr := FR.step hfr hq5 (by decide) (fun _ h => absurd h List.not_mem_nil) (fun h => rfl)
  have abx := ab_copy (i := 0) (j := 10 + mm) (by omega) hp0 (fun q hq => (congrArg w6 (show 554 * (10 + mm) + q = 5540 + 554 * mm + q by omega)).trans ((h5_0 q hq).trans (congrArg _ (by omega)))) (fun q hq => h5_1 q (by omega))
  refine lv_aload_n hx hb dX12_mark_31 rfl (lv_at hl 0 rfl) ?_
  refine lv_dup hx hb dX12_mark_32 rfl ?_
  refine r_get (v := .int (nI mm)) hx hb (ly_X12 hE) hown hK hP rfl 3 (by decide) (wd_1384 hE) (fun _ h9 => h9) (congrArg (fun z : Int32 => some (Value.int z)) hF7x) dX12_mark_33 ?_
  refine lv_iconst (v := 1) hx hb dX12_mark_36 (by decide) ?_
  refine lv_iadd hx hb dX12_mark_37 ?_
  refine W.eq (g2 := F0 m 38 ls [.int (nI (mm + 1)), .ref (b 0)]) (congrArg (fun z : Int32 => F0 m 38 ls (.int z :: [.ref (b 0)])) (nI_add mm 1)) ?_
  refine r_put (v := nI (mm + 1)) hx hb (ly_X12 hE) tyX12 tyX12_ok nmX12 hown hK hP hJ hAL hS rfl 3 (by decide) (wd_1384 hE) (fun _ h9 => h9) rfl (by decide +kernel) rfl (by decide) dX12_mark_38 (fun u8 H locs hf8 hq8 hP hS => ?_)
  have hA9 := (hq8.1 1 List.not_mem_nil).trans hA6
  have hfr := FR.step hfr hq8 (fun _ h => absurd h List.not_mem_nil) (by decide) (fun h => rfl)
  refine lv_aload_n hx hb dX12_mark_41 rfl (lv_at hl 0 rfl) ?_
  refine lv_aload_n hx hb dX12_mark_42 rfl (lv_at hl 0 rfl) ?_
  refine r_get (v := .int (nI (mm + 1))) hx hb (ly_X12 hE) hown hK hP rfl 3 (by decide) (wd_1384 hE) (fun _ h9 => h9) (congrArg (fun z : Int32 => some (Value.int z)) hf8) dX12_mark_43 ?_
  refine rc_i hAL hS hA (va_runV (As := [.int (nI (mm + 1))]) (rest := []) ⟨hx, hb, hml, hown, noTs⟩ (r_X12_gives l dC dI H.size cs b u8 w6 hA9 (nI (mm + 1))) ⟨cbE 1 (wd_1621 hE) (wd_126 hE) (wd_1618 hE) rfl rfl (by decide +kernel) ⟨Nat.le_of_ble_eq_true rfl, Nat.le_of_ble_eq_true rfl⟩, (wd_1620 hE), (wd_80 hE)⟩ ⟨PR.blind, r_recv hK hP rfl, (r_pre (av := [.ref (b 0), .int (nI (mm + 1))]) hK hP hJ hE)⟩ rfl rfl hl.1 rfl (lv_room (Nat.le_of_ble_eq_true rfl)) dX12_mark_46 ⟨Nat.le_of_ble_eq_true rfl, Nat.le_of_ble_eq_true rfl⟩) (fun r10 u10 H locs hpo10 hP hS => ?_)
  obtain ⟨hr10, hq10⟩ := hpo10
  have hA11 := (hq10.1 1 List.not_mem_nil).trans hA9
  have hF12x := (hq10.2.1 3 (by decide)).trans hf8
  have hfr := FR.step hfr hq10 (fun _ h => absurd h List.not_mem_nil) (by decide) (fun h => rfl)
  refine W.eq (g2 := F0 m 49 ls [.int (nI (mm + 1))]) (by rw [hr10]) ?_
  exact W.iret (v := nI (mm + 1)) hx hb hr (fun t ht hW => ⟨⟨nI (mm + 1), u10, rfl, ⟨(by first | rfl | omega | (congr 1; omega) | assumption), (by first | (rw [hA11]; done) | (rw [hA11]; exact abx)), (by first | (rw [hF12x]; done) | (rw [hF12x]; first | assumption | omega | rfl | (congr 1; omega))), hfr⟩, (show va_P (dC, dI) vwCl (rW cs b u10) t.heap by rw [ht]; exact hP)⟩, hS.F ht⟩) hS.2.2 dX12_mark_49
