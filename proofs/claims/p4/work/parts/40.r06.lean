set_option maxHeartbeats 4000000 in
set_option maxRecDepth 100000 in
theorem r_X12_power (l : Launch) (dC : Nat → ClassId) (dI : Nat → Nat → Nat) (sz : Nat) (cs : Nat → ClassId) (b : Nat → Nat) (u : RS) (a : Nat → Int32) (hA1 : rA u 1 = a) (x : Int32) (y : Int32) (ac : Nat) (hF2 : rF u 2 = nI ac) (hp0 : AB a) (hp1 : ac ≤ 8) : Met l yX12_power [.code yX12_power cX12_power 4 (some .int)] ({ frames := 6, cells := 0, slots := 0, locals := 240 }) (PR [.ref (b 0), .int x, .int y] sz dC dI cs b u) (va_Qi (fun (r : Int32) (u' : RS) => (True) ∧ (AB (rA u' 1)) ∧ (∃ k : Nat, k ≤ 8 ∧ rF u' 2 = nI k) ∧ FR [1, 3, 4, 5, 6, 7, 8, 9, 10, 11, 12, 13, 14, 17, 18, 19, 20] [1, 2, 5, 21, 22] true u u') (BR dC dI cs b) (AR b sz)) 0 0 (AR b sz) := by
  refine Met.ofW (cc := cX12_power) (maxL := 4) (ret := (some .int)) (by decide) rfl ?_
  intro p e s m args below meth c s₁ B hml hv
  obtain ⟨rfl, hsz, hP, hK, hJ, hE⟩ := hv
  have hx := B.exec
  have hb := B.bytes
  have hr := B.returns
  have hown : s.vm.findClass RX12 = some m.cls := findClass_of_methodNamed B.named
  have hlocks := B.notSynchronized
  subst hsz
  have hAL : ∀ i, i < 108 → AR b s.heap.size (b i) := fun i h => Or.inl ⟨i, h, rfl⟩
  have hA : ∀ q : Nat, s.heap.size ≤ q → AR b s.heap.size q := fun q h => Or.inr h
  have hS : va_S (AR b s.heap.size) s.heap s.heap [] := va_S.rf
  have hfr : FR [1, 3, 4, 5, 6, 7, 8, 9, 10, 11, 12, 13, 14, 17, 18, 19, 20] [1, 2, 5, 21, 22] true u u := FR.refl
  have hl := lv_entry ([.ref (b 0), .int x, .int y]) (n := 4) (Nat.le_of_ble_eq_true rfl)
  rw [lg_entry_eq]
  generalize (lg_sl ([.ref (b 0), .int x, .int y]) ++ List.replicate (4 - (lg_sl ([.ref (b 0), .int x, .int y])).length) Slot.unset).toArray = ls at hl ⊢
  have hl : lv_has ls 4 [(0, .ref (b 0)), (1, .int x), (2, .int y)] := hl
  have hB := ab_0 hp0
  have hG := bg_g hB
  have ha2 := gg_le hG
  have ha2b := bg_w hB
  refine lv_iload_n hx hb dX12_power_0 rfl (lv_at hl 2 rfl) ?_
  refine lv_bipush (v := -9) hx hb dX12_power_1 (by decide) ?_
  refine lv_bipush (v := 9) hx hb dX12_power_3 (by decide) ?_
  refine vp_callSi (va_Run.run (va_runS (As := [.int y, .int (-9), .int 9]) (rest := []) ⟨hx, hb, hml, hown, noTs⟩ (r_X12_isFrom l dC dI s.heap.size cs b u a hA1 y (-9) 9 ((-9 : Int)) ((9 : Int)) (show Int32.toInt (-9) = -9 from rfl) (show Int32.toInt 9 = 9 from rfl)) ⟨cbE 3 (wd_1494 hE) (wd_126 hE) (wd_1492 hE) rfl rfl (by decide +kernel) ⟨Nat.le_of_ble_eq_true rfl, Nat.le_of_ble_eq_true rfl⟩, (wd_1493 hE)⟩ ⟨PR.blind, (r_pre (av := [.int y, .int (-9), .int 9]) hK hP hJ hE)⟩ rfl rfl hl.1 rfl (lv_room (Nat.le_of_ble_eq_true rfl)) dX12_power_5 ⟨Nat.le_of_ble_eq_true rfl, Nat.le_of_ble_eq_true rfl⟩)) (fun r4 hr4 => ?_)
  rcases hr4 with ⟨rfl, hb4⟩ | ⟨rfl, hb4⟩
  · refine lv_if_ne (tgt := 17) hx hb dX12_power_8 (by decide) (fun c5 => ?_) (fun c5 => absurd c5 (by decide))
    refine lv_aload_n hx hb dX12_power_17 rfl (lv_at hl 0 rfl) ?_
    refine lv_iload_n hx hb dX12_power_18 rfl (lv_at hl 1 rfl) ?_
    refine vp_callSi (va_Run.run (va_runV (As := [.int x]) (rest := []) ⟨hx, hb, hml, hown, noTs⟩ (r_X12_isWord l dC dI s.heap.size cs b u a hA1 x (by first | assumption | omega | rfl | (congr 1; omega))) ⟨cbE 1 (wd_1653 hE) (wd_126 hE) (wd_1650 hE) rfl rfl (by decide +kernel) ⟨Nat.le_of_ble_eq_true rfl, Nat.le_of_ble_eq_true rfl⟩, (wd_1652 hE), (wd_83 hE)⟩ ⟨PR.blind, r_recv hK hP rfl, (r_pre (av := [.ref (b 0), .int x]) hK hP hJ hE)⟩ rfl rfl hl.1 rfl (lv_room (Nat.le_of_ble_eq_true rfl)) dX12_power_19 ⟨Nat.le_of_ble_eq_true rfl, Nat.le_of_ble_eq_true rfl⟩)) (fun r6 hr6 => ?_)
    rcases hr6 with ⟨rfl, hb6⟩ | ⟨rfl, hb6⟩
    · obtain ⟨n6, hbe6_1, hb6⟩ := hb6
      subst hbe6_1
      have hti7 := nI_toInt (n := n6) (by omega)
      refine lv_if_ne (tgt := 31) hx hb dX12_power_22 (by decide) (fun c8 => ?_) (fun c8 => absurd c8 (by decide))
      refine lv_aload_n hx hb dX12_power_31 rfl (lv_at hl 0 rfl) ?_
      refine lv_iconst (v := 2) hx hb dX12_power_32 (by decide) ?_
      refine vp_callSi (va_Run.run (va_runV (As := [.int (nI 2)]) (rest := []) ⟨hx, hb, hml, hown, noTs⟩ (r_X12_of l dC dI s.heap.size cs b u a hA1 2 (by first | assumption | omega | rfl | (congr 1; omega))) ⟨cbE 1 (wd_1536 hE) (wd_126 hE) (wd_1533 hE) rfl rfl (by decide +kernel) ⟨Nat.le_of_ble_eq_true rfl, Nat.le_of_ble_eq_true rfl⟩, (wd_1535 hE), (wd_61 hE)⟩ ⟨PR.blind, r_recv hK hP rfl, (r_pre (av := [.ref (b 0), .int (nI 2)]) hK hP hJ hE)⟩ rfl rfl hl.1 rfl (lv_room (Nat.le_of_ble_eq_true rfl)) dX12_power_33 ⟨Nat.le_of_ble_eq_true rfl, Nat.le_of_ble_eq_true rfl⟩)) (fun r9 hr9 => ?_)
      have hr9 := hr9.trans ((bg_w hB).1)
      subst hr9
      refine lv_bipush (v := 10) hx hb dX12_power_36 (by decide) ?_
      refine lv_icmp_ne (tgt := 47) hx hb dX12_power_38 (by decide) (fun c10 => ?_) (fun c10 => ?_)
      · have c10 := mt (b_eq (nI_toInt (n := wN a) (by omega)) (show Int32.toInt 10 = 10 from rfl)).mpr c10
        have hw9 : wN a ≤ 9 := by omega
        refine lv_aload_n hx hb dX12_power_47 rfl (lv_at hl 0 rfl) ?_
        refine lv_iload_n hx hb dX12_power_48 rfl (lv_at hl 1 rfl) ?_
        refine rc_i hAL hS hA (va_runV (As := [.int (nI n6)]) (rest := []) ⟨hx, hb, hml, hown, noTs⟩ (r_X12_isLoop l dC dI s.heap.size cs b u a hA1 n6 (by first | assumption | omega | rfl | (congr 1; omega)) (by first | assumption | omega | rfl | (congr 1; omega))) ⟨cbE 1 (wd_1725 hE) (wd_126 hE) (wd_1722 hE) rfl rfl (by decide +kernel) ⟨Nat.le_of_ble_eq_true rfl, Nat.le_of_ble_eq_true rfl⟩, (wd_1724 hE), (wd_91 hE)⟩ ⟨PR.blind, r_recv hK hP rfl, (r_pre (av := [.ref (b 0), .int (nI n6)]) hK hP hJ hE)⟩ rfl rfl hl.1 rfl (lv_room (Nat.le_of_ble_eq_true rfl)) dX12_power_49 ⟨Nat.le_of_ble_eq_true rfl, Nat.le_of_ble_eq_true rfl⟩) (fun r11 u11 H locs hpo11 hP hS => ?_)
        obtain ⟨hr11, hq11⟩ := hpo11
        have hA12 := (hq11.1 1 (by decide)).trans hA1
        have hF13x := (hq11.2.1 2 List.not_mem_nil).trans hF2
        have hfr := FR.step hfr hq11 (by decide) (fun _ h => absurd h List.not_mem_nil) (fun h => rfl)
        rcases hr11 with ⟨rfl, hb11⟩ | ⟨rfl, hb11⟩
        · refine lv_if_ne (tgt := 61) hx hb dX12_power_52 (by decide) (fun c14 => ?_) (fun c14 => absurd c14 (by decide))
          refine lv_aload_n hx hb dX12_power_61 rfl (lv_at hl 0 rfl) ?_
          refine lv_iload_n hx hb dX12_power_62 rfl (lv_at hl 1 rfl) ?_
          refine lv_aload_n hx hb dX12_power_63 rfl (lv_at hl 0 rfl) ?_
          refine r_get (v := .ref (b 2)) hx hb (ly_X12 hE) hown hK hP rfl 4 (by decide) (wd_1385 hE) (fun _ h9 => h9) rfl dX12_power_64 ?_
          refine lv_iconst (v := 0) hx hb dX12_power_67 (by decide) ?_
          refine r_aald (j := 2) (k := 0) (n := 10) (t0 := 4) (j2 := 3) hx hb hK hP (by decide) rfl rfl (by decide) (by decide) rfl dX12_power_68 ?_
          obtain ⟨g15, hg15⟩ : ∃ g, rA u11 3 = g := ⟨_, rfl⟩
          refine rc_v hAL hS hA (va_runV (As := [.int (nI n6), .ref (b 3)]) (rest := []) ⟨hx, hb, hml, hown, noTs⟩ (r_X12_takes l dC dI H.size cs b u11 a hA12 n6 3 (by decide) g15 hg15 (by first | assumption | omega | rfl | (congr 1; omega)) (by first | assumption | omega | rfl | (congr 1; omega))) ⟨cbE 2 (wd_1657 hE) (wd_126 hE) (wd_1654 hE) rfl rfl (by decide +kernel) ⟨Nat.le_of_ble_eq_true rfl, Nat.le_of_ble_eq_true rfl⟩, (wd_1656 hE), (wd_84 hE)⟩ ⟨PR.blind, r_recv hK hP rfl, (r_pre (av := [.ref (b 0), .int (nI n6), .ref (b 3)]) hK hP hJ hE)⟩ rfl rfl hl.1 rfl (lv_room (Nat.le_of_ble_eq_true rfl)) dX12_power_69 ⟨Nat.le_of_ble_eq_true rfl, Nat.le_of_ble_eq_true rfl⟩) (fun u16 H locs hpo16 hP hS => ?_)
          obtain ⟨h16_0, h16_1, h16_2, h16_3, h16_4, h16_5, hq16⟩ := hpo16
          obtain ⟨w17, hA17⟩ : ∃ g, rA u16 3 = g := ⟨_, rfl⟩
          rw [hA17] at h16_0 h16_1 h16_2 h16_3 h16_4 h16_5
          have hA18 := (hq16.1 1 (by decide)).trans hA12
          have hF19x := (hq16.2.1 2 List.not_mem_nil).trans hF13x
          have hfr := FR.step hfr hq16 (by decide) (fun _ h => absurd h List.not_mem_nil) (fun h => rfl)
          have hl16_0 := pg_le h16_0
          have PA := h16_0
          have LA := h16_1
          have VA : vend a w17 = rb w17 := by omega
          refine lv_iload_n hx hb dX12_power_72 rfl (lv_at hl 2 rfl) ?_
          refine lv_if_ge (tgt := 107) hx hb dX12_power_73 (by decide) (fun c20 => ?_) (fun c20 => ?_)
          · have c20 := (b_le (show Int32.toInt 0 = 0 from rfl) (rfl : Int32.toInt y = _)).mp c20
            refine lv_aload_n hx hb dX12_power_107 rfl (lv_at hl 0 rfl) ?_
            refine r_get (v := .ref (b 2)) hx hb (ly_X12 hE) hown hK hP rfl 4 (by decide) (wd_1385 hE) (fun _ h9 => h9) rfl dX12_power_108 ?_
            refine lv_iconst (v := 2) hx hb dX12_power_111 (by decide) ?_
            refine r_aald (j := 2) (k := 2) (n := 10) (t0 := 4) (j2 := 5) hx hb hK hP (by decide) rfl rfl (by decide) (by decide) rfl dX12_power_112 ?_
            refine lv_aload_n hx hb dX12_power_113 rfl (lv_at hl 0 rfl) ?_
            refine r_get (v := .ref (b 2)) hx hb (ly_X12 hE) hown hK hP rfl 4 (by decide) (wd_1385 hE) (fun _ h9 => h9) rfl dX12_power_114 ?_
            refine lv_iconst (v := 0) hx hb dX12_power_117 (by decide) ?_
            refine r_aald (j := 2) (k := 0) (n := 10) (t0 := 4) (j2 := 3) hx hb hK hP (by decide) rfl rfl (by decide) (by decide) rfl dX12_power_118 ?_
            refine lv_iconst (v := 0) hx hb dX12_power_119 (by decide) ?_
            refine r_iald (j := 3) (k := 0) (n := 200) (x := nI (rb w17)) hx hb hK hP (by decide) rfl (by decide) (by decide) (by rw [hA17]; exact pg_b h16_0) dX12_power_120 ?_
            refine lv_iconst (v := 0) hx hb dX12_power_121 (by decide) ?_
            obtain ⟨g22, hg22⟩ : ∃ g, rA u16 5 = g := ⟨_, rfl⟩
            refine rc_v hAL hS hA (va_runS (As := [.ref (b 5), .int (nI (rb w17)), .int 0]) (rest := []) ⟨hx, hb, hml, hown, noTs⟩ (r_X12_single l dC dI H.size cs b u16 a hA18 5 (by decide) g22 hg22 (rb w17) 0 (by first | assumption | omega | rfl | (congr 1; omega)) (by first | assumption | omega | rfl | (congr 1; omega))) ⟨cbE 3 (wd_1579 hE) (wd_126 hE) (wd_1577 hE) rfl rfl (by decide +kernel) ⟨Nat.le_of_ble_eq_true rfl, Nat.le_of_ble_eq_true rfl⟩, (wd_1578 hE)⟩ ⟨PR.blind, (r_pre (av := [.ref (b 5), .int (nI (rb w17)), .int 0]) hK hP hJ hE)⟩ rfl rfl hl.1 rfl (lv_room (Nat.le_of_ble_eq_true rfl)) dX12_power_122 ⟨Nat.le_of_ble_eq_true rfl, Nat.le_of_ble_eq_true rfl⟩) (fun u23 H locs hpo23 hP hS => ?_)
            obtain ⟨h23_0, h23_1, h23_2, h23_3, h23_4, hq23⟩ := hpo23
            obtain ⟨w24, hA24⟩ : ∃ g, rA u23 5 = g := ⟨_, rfl⟩
            rw [hA24] at h23_0 h23_1 h23_2 h23_3 h23_4
            have hA25 := (hq23.1 1 (by decide)).trans hA18
            have hA26 := (hq23.1 3 (by decide)).trans hA17
            have hF27x := (hq23.2.1 2 List.not_mem_nil).trans hF19x
            have hfr := FR.step hfr hq23 (by decide) (fun _ h => absurd h List.not_mem_nil) (fun h => rfl)
            have hl23_0 := pg_le h23_0
            have hbo := gg_od hG (pg_le PA).1
            have q8 : LG a w24 := lg_mk (n := 0) h23_1 h23_3 (show w24 (2 + 2 * 0) = nI 0 from h23_4) (by omega) (by omega)
            refine lv_iconst (v := 0) hx hb dX12_power_125 (by decide) ?_
            refine lv_istore_n (lv' := [(3, .int 0), (0, .ref (b 0)), (1, .int (nI n6)), (2, .int y)]) hx hb dX12_power_126 rfl hl (by decide) rfl (fun ls hl => ?_)
            refine r_ind (I := fun n u_ H locs ls => va_P (dC, dI) vwCl (rW cs b u_) H ∧ va_S (AR b s.heap.size) s.heap H locs ∧ FR [1, 3, 4, 5, 6, 7, 8, 9, 10, 11, 12, 13, 14, 17, 18, 19, 20] [1, 2, 5, 21, 22] true u u_ ∧ ∃ (k_28 : Nat) (c1_28 : Nat → Int32), n = 10 - k_28 ∧ (PG a c1_28) ∧ (LG a c1_28) ∧ (k_28 ≤ 9) ∧ (rn c1_28 ≤ 24) ∧ (vend a c1_28 = rb w17) ∧ (rA u_ 1 = a) ∧ (rA u_ 3 = w17) ∧ (rA u_ 5 = c1_28) ∧ (rF u_ 2 = nI ac) ∧ lv_has ls 4 [(0, .ref (b 0)), (1, .int (nI n6)), (2, .int y), (3, .int (nI k_28))]) (fun n u28 H locs ls hI ih28 => ?_) _ u23 _ _ _ ⟨hP, hS, hfr, 0, w24, rfl, (by first | assumption | omega | rfl | (congr 1; omega)), (by first | assumption | omega | rfl | (congr 1; omega)), (by first | assumption | omega | rfl | (congr 1; omega)), (by first | assumption | omega | rfl | (congr 1; omega)), (by first | assumption | omega | rfl | (congr 1; omega)), hA25, hA26, hA24, hF27x, lv_sub hl [1, 2, 3, 0] rfl⟩
            obtain ⟨hP, hS, hfr, k_28, c1_28, hmu28, hL28_0, hL28_1, hL28_2, hL28_3, hL28_4, hL28_5, hL28_6, hL28_7, hL28_8, hl⟩ := hI
            subst hmu28
            have hl28_0 := pg_le hL28_0
            refine lv_iload_n hx hb dX12_power_127 rfl (lv_at hl 3 rfl) ?_
            refine lv_iload_n hx hb dX12_power_128 rfl (lv_at hl 2 rfl) ?_
            refine lv_if_ge (tgt := 137) hx hb dX12_power_129 (by decide) (fun c29 => ?_) (fun c29 => ?_)
            · have c29 := (b_le (show Int32.toInt 0 = 0 from rfl) (rfl : Int32.toInt y = _)).mp c29
              refine lv_iload_n hx hb dX12_power_137 rfl (lv_at hl 2 rfl) ?_
              refine lv_icmp_ge (tgt := 204) hx hb dX12_power_138 (by decide) (fun c30 => ?_) (fun c30 => ?_)
              · have c30 := (b_le (rfl : Int32.toInt y = _) (nI_toInt (n := k_28) (by omega))).mp c30
                refine lv_aload_n hx hb dX12_power_204 rfl (lv_at hl 0 rfl) ?_
                refine lv_aload_n hx hb dX12_power_205 rfl (lv_at hl 0 rfl) ?_
                refine r_get (v := .ref (b 2)) hx hb (ly_X12 hE) hown hK hP rfl 4 (by decide) (wd_1385 hE) (fun _ h9 => h9) rfl dX12_power_206 ?_
                refine lv_iconst (v := 2) hx hb dX12_power_209 (by decide) ?_
                refine r_aald (j := 2) (k := 2) (n := 10) (t0 := 4) (j2 := 5) hx hb hK hP (by decide) rfl rfl (by decide) (by decide) rfl dX12_power_210 ?_
                refine rc_i hAL hS hA (va_runV (As := [.ref (b 5)]) (rest := []) ⟨hx, hb, hml, hown, noTs⟩ (r_X12_more l dC dI H.size cs b u28 a hL28_5 5 (by decide) c1_28 hL28_7 ac hL28_8 (by first | assumption | omega | rfl | (congr 1; omega)) (by first | assumption | omega | rfl | (congr 1; omega)) (by first | assumption | omega | rfl | (congr 1; omega)) (by first | assumption | omega | rfl | (congr 1; omega)) (by first | assumption | omega | rfl | (congr 1; omega))) ⟨cbE 1 (wd_1691 hE) (wd_126 hE) (wd_1688 hE) rfl rfl (by decide +kernel) ⟨Nat.le_of_ble_eq_true rfl, Nat.le_of_ble_eq_true rfl⟩, (wd_1690 hE), (wd_88 hE)⟩ ⟨PR.blind, r_recv hK hP rfl, (r_pre (av := [.ref (b 0), .ref (b 5)]) hK hP hJ hE)⟩ rfl rfl hl.1 rfl (lv_room (Nat.le_of_ble_eq_true rfl)) dX12_power_211 ⟨Nat.le_of_ble_eq_true rfl, Nat.le_of_ble_eq_true rfl⟩) (fun r31 u31 H locs hpo31 hP hS => ?_)
                obtain ⟨hr31, h31_0, h31_1, hq31⟩ := hpo31
                obtain ⟨w32, hA32⟩ : ∃ g, rA u31 1 = g := ⟨_, rfl⟩
                rw [hA32] at h31_0
                obtain ⟨n31_1, hn31_1, hfe31_1⟩ := h31_1
                have hA33 := (hq31.1 3 (by decide)).trans hL28_6
                have hA34 := (hq31.1 5 (by decide)).trans hL28_7
                have hfr := FR.step hfr hq31 (by decide) (by decide) (fun h => rfl)
                have hB := ab_0 h31_0
                have hG := bg_g hB
                have ha35 := gg_le hG
                have ha35b := bg_w hB
                exact W.iret (v := r31) hx hb hr (fun t ht hW => ⟨⟨r31, u31, rfl, ⟨trivial, (by first | (rw [hA32]; done) | (rw [hA32]; first | assumption | omega | rfl | (congr 1; omega))), (by first | (rw [hfe31_1]; done) | (rw [hfe31_1]; refine ⟨_, ?_, rfl⟩; omega)), hfr⟩, (show va_P (dC, dI) vwCl (rW cs b u31) t.heap by rw [ht]; exact hP)⟩, hS.F ht⟩) hS.2.2 dX12_power_214
              · have c30 := mt (b_le (rfl : Int32.toInt y = _) (nI_toInt (n := k_28) (by omega))).mpr c30
                refine lv_aload_n hx hb dX12_power_141 rfl (lv_at hl 0 rfl) ?_
                refine lv_aload_n hx hb dX12_power_142 rfl (lv_at hl 0 rfl) ?_
                refine r_get (v := .ref (b 2)) hx hb (ly_X12 hE) hown hK hP rfl 4 (by decide) (wd_1385 hE) (fun _ h9 => h9) rfl dX12_power_143 ?_
                refine lv_iconst (v := 2) hx hb dX12_power_146 (by decide) ?_
                refine r_aald (j := 2) (k := 2) (n := 10) (t0 := 4) (j2 := 5) hx hb hK hP (by decide) rfl rfl (by decide) (by decide) rfl dX12_power_147 ?_
                refine lv_aload_n hx hb dX12_power_148 rfl (lv_at hl 0 rfl) ?_
                refine r_get (v := .ref (b 2)) hx hb (ly_X12 hE) hown hK hP rfl 4 (by decide) (wd_1385 hE) (fun _ h9 => h9) rfl dX12_power_149 ?_
                refine lv_iconst (v := 0) hx hb dX12_power_152 (by decide) ?_
                refine r_aald (j := 2) (k := 0) (n := 10) (t0 := 4) (j2 := 3) hx hb hK hP (by decide) rfl rfl (by decide) (by decide) rfl dX12_power_153 ?_
                refine lv_aload_n hx hb dX12_power_154 rfl (lv_at hl 0 rfl) ?_
                refine r_get (v := .ref (b 2)) hx hb (ly_X12 hE) hown hK hP rfl 4 (by decide) (wd_1385 hE) (fun _ h9 => h9) rfl dX12_power_155 ?_
                refine lv_iconst (v := 3) hx hb dX12_power_158 (by decide) ?_
                refine r_aald (j := 2) (k := 3) (n := 10) (t0 := 4) (j2 := 6) hx hb hK hP (by decide) rfl rfl (by decide) (by decide) rfl dX12_power_159 ?_
                obtain ⟨g36, hg36⟩ : ∃ g, rA u28 6 = g := ⟨_, rfl⟩
                refine rc_v hAL hS hA (va_runV (As := [.ref (b 5), .ref (b 3), .ref (b 6)]) (rest := []) ⟨hx, hb, hml, hown, noTs⟩ (r_X12_joins l dC dI H.size cs b u28 a hL28_5 5 (by decide) c1_28 hL28_7 3 (by decide) w17 hL28_6 6 (by decide) g36 hg36 (by first | assumption | omega | rfl | (congr 1; omega)) (by first | assumption | omega | rfl | (congr 1; omega)) (by first | assumption | omega | rfl | (congr 1; omega)) (by first | assumption | omega | rfl | (congr 1; omega)) (by first | assumption | omega | rfl | (congr 1; omega)) (by first | assumption | omega | rfl | (congr 1; omega)) (by first | assumption | omega | rfl | (congr 1; omega)) (by first | assumption | omega | rfl | (congr 1; omega)) (by first | assumption | omega | rfl | (congr 1; omega)) (by first | assumption | omega | rfl | (congr 1; omega)) (by first | assumption | omega | rfl | (congr 1; omega)) (by first | assumption | omega | rfl | (congr 1; omega))) ⟨cbE 3 (wd_1703 hE) (wd_126 hE) (wd_1700 hE) rfl rfl (by decide +kernel) ⟨Nat.le_of_ble_eq_true rfl, Nat.le_of_ble_eq_true rfl⟩, (wd_1702 hE), (wd_89 hE)⟩ ⟨PR.blind, r_recv hK hP rfl, (r_pre (av := [.ref (b 0), .ref (b 5), .ref (b 3), .ref (b 6)]) hK hP hJ hE)⟩ rfl rfl hl.1 rfl (lv_room (Nat.le_of_ble_eq_true rfl)) dX12_power_160 ⟨Nat.le_of_ble_eq_true rfl, Nat.le_of_ble_eq_true rfl⟩) (fun u37 H locs hpo37 hP hS => ?_)
                obtain ⟨h37_0, h37_1, h37_2, h37_3, h37_4, hq37⟩ := hpo37
                obtain ⟨w38, hA38⟩ : ∃ g, rA u37 6 = g := ⟨_, rfl⟩
                rw [hA38] at h37_0 h37_1 h37_2 h37_3 h37_4
                have hA39 := (hq37.1 1 (by decide)).trans hL28_5
                have hA40 := (hq37.1 3 (by decide)).trans hL28_6
                have hA41 := (hq37.1 5 (by decide)).trans hL28_7
                have hF42x := (hq37.2.1 2 (by decide)).trans hL28_8
                have hfr := FR.step hfr hq37 (by decide) (by decide) (fun h => rfl)
                have hl37_0 := pg_le h37_0
                refine lv_aload_n hx hb dX12_power_163 rfl (lv_at hl 0 rfl) ?_
                refine r_get (v := .ref (b 2)) hx hb (ly_X12 hE) hown hK hP rfl 4 (by decide) (wd_1385 hE) (fun _ h9 => h9) rfl dX12_power_164 ?_
                refine lv_iconst (v := 3) hx hb dX12_power_167 (by decide) ?_
                refine r_aald (j := 2) (k := 3) (n := 10) (t0 := 4) (j2 := 6) hx hb hK hP (by decide) rfl rfl (by decide) (by decide) rfl dX12_power_168 ?_
                refine lv_iconst (v := 1) hx hb dX12_power_169 (by decide) ?_
                refine r_iald (j := 6) (k := 1) (n := 200) (x := nI (rn w38)) hx hb hK hP (by decide) rfl (by decide) (by decide) (by rw [hA38]; exact pg_n h37_0) dX12_power_170 ?_
                refine lv_bipush (v := 24) hx hb dX12_power_171 (by decide) ?_
                refine lv_icmp_le (tgt := 183) hx hb dX12_power_173 (by decide) (fun c44 => ?_) (fun c44 => ?_)
                · have c44 := (b_le (nI_toInt (n := rn w38) (by omega)) (show Int32.toInt 24 = 24 from rfl)).mp c44
                  refine lv_aload_n hx hb dX12_power_183 rfl (lv_at hl 0 rfl) ?_
                  refine r_get (v := .ref (b 2)) hx hb (ly_X12 hE) hown hK hP rfl 4 (by decide) (wd_1385 hE) (fun _ h9 => h9) rfl dX12_power_184 ?_
                  refine lv_iconst (v := 3) hx hb dX12_power_187 (by decide) ?_
                  refine r_aald (j := 2) (k := 3) (n := 10) (t0 := 4) (j2 := 6) hx hb hK hP (by decide) rfl rfl (by decide) (by decide) rfl dX12_power_188 ?_
                  refine lv_aload_n hx hb dX12_power_189 rfl (lv_at hl 0 rfl) ?_
                  refine r_get (v := .ref (b 2)) hx hb (ly_X12 hE) hown hK hP rfl 4 (by decide) (wd_1385 hE) (fun _ h9 => h9) rfl dX12_power_190 ?_
                  refine lv_iconst (v := 2) hx hb dX12_power_193 (by decide) ?_
                  refine r_aald (j := 2) (k := 2) (n := 10) (t0 := 4) (j2 := 5) hx hb hK hP (by decide) rfl rfl (by decide) (by decide) rfl dX12_power_194 ?_
                  refine rc_v hAL hS hA (va_runS (As := [.ref (b 6), .ref (b 5)]) (rest := []) ⟨hx, hb, hml, hown, noTs⟩ (r_X12_lays l dC dI H.size cs b u37 a hA39 6 (by decide) w38 hA38 5 (by decide) c1_28 hA41 (by first | assumption | omega | rfl | (congr 1; omega)) (by first | assumption | omega | rfl | (congr 1; omega)) (by first | assumption | omega | rfl | (congr 1; omega))) ⟨cbE 2 (wd_1706 hE) (wd_126 hE) (wd_1704 hE) rfl rfl (by decide +kernel) ⟨Nat.le_of_ble_eq_true rfl, Nat.le_of_ble_eq_true rfl⟩, (wd_1705 hE)⟩ ⟨PR.blind, (r_pre (av := [.ref (b 6), .ref (b 5)]) hK hP hJ hE)⟩ rfl rfl hl.1 rfl (lv_room (Nat.le_of_ble_eq_true rfl)) dX12_power_195 ⟨Nat.le_of_ble_eq_true rfl, Nat.le_of_ble_eq_true rfl⟩) (fun u45 H locs hpo45 hP hS => ?_)
                  obtain ⟨h45_0, h45_1, h45_2, h45_3, h45_4, h45_5, hq45⟩ := hpo45
                  obtain ⟨w46, hA46⟩ : ∃ g, rA u45 5 = g := ⟨_, rfl⟩
                  rw [hA46] at h45_0 h45_1 h45_2 h45_3 h45_4 h45_5
                  have hA47 := (hq45.1 1 (by decide)).trans hA39
                  have hA48 := (hq45.1 3 (by decide)).trans hA40
                  have hA49 := (hq45.1 6 (by decide)).trans hA38
                  have hF50x := (hq45.2.1 2 List.not_mem_nil).trans hF42x
                  have hfr := FR.step hfr hq45 (by decide) (fun _ h => absurd h List.not_mem_nil) (fun h => rfl)
                  have hl45_0 := pg_le h45_0
                  refine lv_iinc (v := nI (k_28 + 1)) (lv' := [(3, .int (nI (k_28 + 1))), (0, .ref (b 0)), (1, .int (nI n6)), (2, .int y)]) hx hb dX12_power_198 hl (k := 3) rfl (nI_1 k_28) (by decide) rfl (fun ls hl => ?_)
                  refine lv_goto (tgt := 127) hx hb dX12_power_201 (by decide) ?_
                  exact ih28 _ u45 _ _ _ (by omega) ⟨hP, hS, hfr, (k_28 + 1), w46, rfl, (by first | assumption | omega | rfl | (congr 1; omega)), (by first | assumption | omega | rfl | (congr 1; omega)), (by first | assumption | omega | rfl | (congr 1; omega)), (by first | assumption | omega | rfl | (congr 1; omega)), (by first | assumption | omega | rfl | (congr 1; omega)), hA47, hA48, hA46, hF50x, lv_sub hl [1, 2, 3, 0] rfl⟩
                · have c44 := mt (b_le (nI_toInt (n := rn w38) (by omega)) (show Int32.toInt 24 = 24 from rfl)).mpr c44
                  refine lv_aload_n hx hb dX12_power_176 rfl (lv_at hl 0 rfl) ?_
                  refine lv_bipush (v := 6) hx hb dX12_power_177 (by decide) ?_
                  refine rc_i hAL hS hA (va_runV (As := [.int 6]) (rest := []) ⟨hx, hb, hml, hown, noTs⟩ (r_X12_refuse l dC dI H.size cs b u37 a hA39 6) ⟨cbE 1 (wd_1498 hE) (wd_126 hE) (wd_1495 hE) rfl rfl (by decide +kernel) ⟨Nat.le_of_ble_eq_true rfl, Nat.le_of_ble_eq_true rfl⟩, (wd_1497 hE), (wd_54 hE)⟩ ⟨PR.blind, r_recv hK hP rfl, (r_pre (av := [.ref (b 0), .int 6]) hK hP hJ hE)⟩ rfl rfl hl.1 rfl (lv_room (Nat.le_of_ble_eq_true rfl)) dX12_power_179 ⟨Nat.le_of_ble_eq_true rfl, Nat.le_of_ble_eq_true rfl⟩) (fun r51 u51 H locs hpo51 hP hS => ?_)
                  obtain ⟨hr51, hq51⟩ := hpo51
                  have hA52 := (hq51.1 1 List.not_mem_nil).trans hA39
                  have hA53 := (hq51.1 3 List.not_mem_nil).trans hA40
                  have hA54 := (hq51.1 5 List.not_mem_nil).trans hA41
                  have hA55 := (hq51.1 6 List.not_mem_nil).trans hA38
                  have hF56x := (hq51.2.1 2 (by decide)).trans hF42x
                  have hfr := FR.step hfr hq51 (fun _ h => absurd h List.not_mem_nil) (by decide) (fun h => rfl)
                  subst hr51
                  exact W.iret (v := -1) hx hb hr (fun t ht hW => ⟨⟨-1, u51, rfl, ⟨trivial, (by first | (rw [hA52]; done) | (rw [hA52]; first | assumption | omega | rfl | (congr 1; omega))), (by first | (rw [hF56x]; done) | (rw [hF56x]; refine ⟨_, ?_, rfl⟩; omega)), hfr⟩, (show va_P (dC, dI) vwCl (rW cs b u51) t.heap by rw [ht]; exact hP)⟩, hS.F ht⟩) hS.2.2 dX12_power_182
            · have c29 := mt (b_le (show Int32.toInt 0 = 0 from rfl) (rfl : Int32.toInt y = _)).mpr c29
              refine lv_iload_n hx hb dX12_power_132 rfl (lv_at hl 2 rfl) ?_
              refine lv_ineg hx hb dX12_power_133 ?_
              refine lv_topi (fun x57 ex57 => ?_)
              have hz58 : x57.toInt = -(y.toInt) := by rw [ex57]; exact z_neg (rfl : Int32.toInt y = _) (by omega)
              refine lv_goto (tgt := 138) hx hb dX12_power_134 (by decide) ?_
              refine lv_icmp_ge (tgt := 204) hx hb dX12_power_138 (by decide) (fun c59 => ?_) (fun c59 => ?_)
              · have c59 := (b_le hz58 (nI_toInt (n := k_28) (by omega))).mp c59
                refine lv_aload_n hx hb dX12_power_204 rfl (lv_at hl 0 rfl) ?_
                refine lv_aload_n hx hb dX12_power_205 rfl (lv_at hl 0 rfl) ?_
                refine r_get (v := .ref (b 2)) hx hb (ly_X12 hE) hown hK hP rfl 4 (by decide) (wd_1385 hE) (fun _ h9 => h9) rfl dX12_power_206 ?_
                refine lv_iconst (v := 2) hx hb dX12_power_209 (by decide) ?_
                refine r_aald (j := 2) (k := 2) (n := 10) (t0 := 4) (j2 := 5) hx hb hK hP (by decide) rfl rfl (by decide) (by decide) rfl dX12_power_210 ?_
                refine rc_i hAL hS hA (va_runV (As := [.ref (b 5)]) (rest := []) ⟨hx, hb, hml, hown, noTs⟩ (r_X12_more l dC dI H.size cs b u28 a hL28_5 5 (by decide) c1_28 hL28_7 ac hL28_8 (by first | assumption | omega | rfl | (congr 1; omega)) (by first | assumption | omega | rfl | (congr 1; omega)) (by first | assumption | omega | rfl | (congr 1; omega)) (by first | assumption | omega | rfl | (congr 1; omega)) (by first | assumption | omega | rfl | (congr 1; omega))) ⟨cbE 1 (wd_1691 hE) (wd_126 hE) (wd_1688 hE) rfl rfl (by decide +kernel) ⟨Nat.le_of_ble_eq_true rfl, Nat.le_of_ble_eq_true rfl⟩, (wd_1690 hE), (wd_88 hE)⟩ ⟨PR.blind, r_recv hK hP rfl, (r_pre (av := [.ref (b 0), .ref (b 5)]) hK hP hJ hE)⟩ rfl rfl hl.1 rfl (lv_room (Nat.le_of_ble_eq_true rfl)) dX12_power_211 ⟨Nat.le_of_ble_eq_true rfl, Nat.le_of_ble_eq_true rfl⟩) (fun r60 u60 H locs hpo60 hP hS => ?_)
                obtain ⟨hr60, h60_0, h60_1, hq60⟩ := hpo60
                obtain ⟨w61, hA61⟩ : ∃ g, rA u60 1 = g := ⟨_, rfl⟩
                rw [hA61] at h60_0
                obtain ⟨n60_1, hn60_1, hfe60_1⟩ := h60_1
                have hA62 := (hq60.1 3 (by decide)).trans hL28_6
                have hA63 := (hq60.1 5 (by decide)).trans hL28_7
                have hfr := FR.step hfr hq60 (by decide) (by decide) (fun h => rfl)
                have hB := ab_0 h60_0
                have hG := bg_g hB
                have ha64 := gg_le hG
                have ha64b := bg_w hB
                exact W.iret (v := r60) hx hb hr (fun t ht hW => ⟨⟨r60, u60, rfl, ⟨trivial, (by first | (rw [hA61]; done) | (rw [hA61]; first | assumption | omega | rfl | (congr 1; omega))), (by first | (rw [hfe60_1]; done) | (rw [hfe60_1]; refine ⟨_, ?_, rfl⟩; omega)), hfr⟩, (show va_P (dC, dI) vwCl (rW cs b u60) t.heap by rw [ht]; exact hP)⟩, hS.F ht⟩) hS.2.2 dX12_power_214
              · have c59 := mt (b_le hz58 (nI_toInt (n := k_28) (by omega))).mpr c59
                refine lv_aload_n hx hb dX12_power_141 rfl (lv_at hl 0 rfl) ?_
                refine lv_aload_n hx hb dX12_power_142 rfl (lv_at hl 0 rfl) ?_
                refine r_get (v := .ref (b 2)) hx hb (ly_X12 hE) hown hK hP rfl 4 (by decide) (wd_1385 hE) (fun _ h9 => h9) rfl dX12_power_143 ?_
                refine lv_iconst (v := 2) hx hb dX12_power_146 (by decide) ?_
                refine r_aald (j := 2) (k := 2) (n := 10) (t0 := 4) (j2 := 5) hx hb hK hP (by decide) rfl rfl (by decide) (by decide) rfl dX12_power_147 ?_
                refine lv_aload_n hx hb dX12_power_148 rfl (lv_at hl 0 rfl) ?_
                refine r_get (v := .ref (b 2)) hx hb (ly_X12 hE) hown hK hP rfl 4 (by decide) (wd_1385 hE) (fun _ h9 => h9) rfl dX12_power_149 ?_
                refine lv_iconst (v := 0) hx hb dX12_power_152 (by decide) ?_
                refine r_aald (j := 2) (k := 0) (n := 10) (t0 := 4) (j2 := 3) hx hb hK hP (by decide) rfl rfl (by decide) (by decide) rfl dX12_power_153 ?_
                refine lv_aload_n hx hb dX12_power_154 rfl (lv_at hl 0 rfl) ?_
                refine r_get (v := .ref (b 2)) hx hb (ly_X12 hE) hown hK hP rfl 4 (by decide) (wd_1385 hE) (fun _ h9 => h9) rfl dX12_power_155 ?_
                refine lv_iconst (v := 3) hx hb dX12_power_158 (by decide) ?_
                refine r_aald (j := 2) (k := 3) (n := 10) (t0 := 4) (j2 := 6) hx hb hK hP (by decide) rfl rfl (by decide) (by decide) rfl dX12_power_159 ?_
                obtain ⟨g65, hg65⟩ : ∃ g, rA u28 6 = g := ⟨_, rfl⟩
                refine rc_v hAL hS hA (va_runV (As := [.ref (b 5), .ref (b 3), .ref (b 6)]) (rest := []) ⟨hx, hb, hml, hown, noTs⟩ (r_X12_joins l dC dI H.size cs b u28 a hL28_5 5 (by decide) c1_28 hL28_7 3 (by decide) w17 hL28_6 6 (by decide) g65 hg65 (by first | assumption | omega | rfl | (congr 1; omega)) (by first | assumption | omega | rfl | (congr 1; omega)) (by first | assumption | omega | rfl | (congr 1; omega)) (by first | assumption | omega | rfl | (congr 1; omega)) (by first | assumption | omega | rfl | (congr 1; omega)) (by first | assumption | omega | rfl | (congr 1; omega)) (by first | assumption | omega | rfl | (congr 1; omega)) (by first | assumption | omega | rfl | (congr 1; omega)) (by first | assumption | omega | rfl | (congr 1; omega)) (by first | assumption | omega | rfl | (congr 1; omega)) (by first | assumption | omega | rfl | (congr 1; omega)) (by first | assumption | omega | rfl | (congr 1; omega))) ⟨cbE 3 (wd_1703 hE) (wd_126 hE) (wd_1700 hE) rfl rfl (by decide +kernel) ⟨Nat.le_of_ble_eq_true rfl, Nat.le_of_ble_eq_true rfl⟩, (wd_1702 hE), (wd_89 hE)⟩ ⟨PR.blind, r_recv hK hP rfl, (r_pre (av := [.ref (b 0), .ref (b 5), .ref (b 3), .ref (b 6)]) hK hP hJ hE)⟩ rfl rfl hl.1 rfl (lv_room (Nat.le_of_ble_eq_true rfl)) dX12_power_160 ⟨Nat.le_of_ble_eq_true rfl, Nat.le_of_ble_eq_true rfl⟩) (fun u66 H locs hpo66 hP hS => ?_)
                obtain ⟨h66_0, h66_1, h66_2, h66_3, h66_4, hq66⟩ := hpo66
                obtain ⟨w67, hA67⟩ : ∃ g, rA u66 6 = g := ⟨_, rfl⟩
                rw [hA67] at h66_0 h66_1 h66_2 h66_3 h66_4
                have hA68 := (hq66.1 1 (by decide)).trans hL28_5
                have hA69 := (hq66.1 3 (by decide)).trans hL28_6
                have hA70 := (hq66.1 5 (by decide)).trans hL28_7
                have hF71x := (hq66.2.1 2 (by decide)).trans hL28_8
                have hfr := FR.step hfr hq66 (by decide) (by decide) (fun h => rfl)
                have hl66_0 := pg_le h66_0
                refine lv_aload_n hx hb dX12_power_163 rfl (lv_at hl 0 rfl) ?_
                refine r_get (v := .ref (b 2)) hx hb (ly_X12 hE) hown hK hP rfl 4 (by decide) (wd_1385 hE) (fun _ h9 => h9) rfl dX12_power_164 ?_
                refine lv_iconst (v := 3) hx hb dX12_power_167 (by decide) ?_
                refine r_aald (j := 2) (k := 3) (n := 10) (t0 := 4) (j2 := 6) hx hb hK hP (by decide) rfl rfl (by decide) (by decide) rfl dX12_power_168 ?_
                refine lv_iconst (v := 1) hx hb dX12_power_169 (by decide) ?_
                refine r_iald (j := 6) (k := 1) (n := 200) (x := nI (rn w67)) hx hb hK hP (by decide) rfl (by decide) (by decide) (by rw [hA67]; exact pg_n h66_0) dX12_power_170 ?_
                refine lv_bipush (v := 24) hx hb dX12_power_171 (by decide) ?_
                refine lv_icmp_le (tgt := 183) hx hb dX12_power_173 (by decide) (fun c73 => ?_) (fun c73 => ?_)
                · have c73 := (b_le (nI_toInt (n := rn w67) (by omega)) (show Int32.toInt 24 = 24 from rfl)).mp c73
                  refine lv_aload_n hx hb dX12_power_183 rfl (lv_at hl 0 rfl) ?_
                  refine r_get (v := .ref (b 2)) hx hb (ly_X12 hE) hown hK hP rfl 4 (by decide) (wd_1385 hE) (fun _ h9 => h9) rfl dX12_power_184 ?_
                  refine lv_iconst (v := 3) hx hb dX12_power_187 (by decide) ?_
                  refine r_aald (j := 2) (k := 3) (n := 10) (t0 := 4) (j2 := 6) hx hb hK hP (by decide) rfl rfl (by decide) (by decide) rfl dX12_power_188 ?_
                  refine lv_aload_n hx hb dX12_power_189 rfl (lv_at hl 0 rfl) ?_
                  refine r_get (v := .ref (b 2)) hx hb (ly_X12 hE) hown hK hP rfl 4 (by decide) (wd_1385 hE) (fun _ h9 => h9) rfl dX12_power_190 ?_
                  refine lv_iconst (v := 2) hx hb dX12_power_193 (by decide) ?_
                  refine r_aald (j := 2) (k := 2) (n := 10) (t0 := 4) (j2 := 5) hx hb hK hP (by decide) rfl rfl (by decide) (by decide) rfl dX12_power_194 ?_
                  refine rc_v hAL hS hA (va_runS (As := [.ref (b 6), .ref (b 5)]) (rest := []) ⟨hx, hb, hml, hown, noTs⟩ (r_X12_lays l dC dI H.size cs b u66 a hA68 6 (by decide) w67 hA67 5 (by decide) c1_28 hA70 (by first | assumption | omega | rfl | (congr 1; omega)) (by first | assumption | omega | rfl | (congr 1; omega)) (by first | assumption | omega | rfl | (congr 1; omega))) ⟨cbE 2 (wd_1706 hE) (wd_126 hE) (wd_1704 hE) rfl rfl (by decide +kernel) ⟨Nat.le_of_ble_eq_true rfl, Nat.le_of_ble_eq_true rfl⟩, (wd_1705 hE)⟩ ⟨PR.blind, (r_pre (av := [.ref (b 6), .ref (b 5)]) hK hP hJ hE)⟩ rfl rfl hl.1 rfl (lv_room (Nat.le_of_ble_eq_true rfl)) dX12_power_195 ⟨Nat.le_of_ble_eq_true rfl, Nat.le_of_ble_eq_true rfl⟩) (fun u74 H locs hpo74 hP hS => ?_)
                  obtain ⟨h74_0, h74_1, h74_2, h74_3, h74_4, h74_5, hq74⟩ := hpo74
                  obtain ⟨w75, hA75⟩ : ∃ g, rA u74 5 = g := ⟨_, rfl⟩
                  rw [hA75] at h74_0 h74_1 h74_2 h74_3 h74_4 h74_5
                  have hA76 := (hq74.1 1 (by decide)).trans hA68
                  have hA77 := (hq74.1 3 (by decide)).trans hA69
                  have hA78 := (hq74.1 6 (by decide)).trans hA67
                  have hF79x := (hq74.2.1 2 List.not_mem_nil).trans hF71x
                  have hfr := FR.step hfr hq74 (by decide) (fun _ h => absurd h List.not_mem_nil) (fun h => rfl)
                  have hl74_0 := pg_le h74_0
                  refine lv_iinc (v := nI (k_28 + 1)) (lv' := [(3, .int (nI (k_28 + 1))), (0, .ref (b 0)), (1, .int (nI n6)), (2, .int y)]) hx hb dX12_power_198 hl (k := 3) rfl (nI_1 k_28) (by decide) rfl (fun ls hl => ?_)
                  refine lv_goto (tgt := 127) hx hb dX12_power_201 (by decide) ?_
                  exact ih28 _ u74 _ _ _ (by omega) ⟨hP, hS, hfr, (k_28 + 1), w75, rfl, (by first | assumption | omega | rfl | (congr 1; omega)), (by first | assumption | omega | rfl | (congr 1; omega)), (by first | assumption | omega | rfl | (congr 1; omega)), (by first | assumption | omega | rfl | (congr 1; omega)), (by first | assumption | omega | rfl | (congr 1; omega)), hA76, hA77, hA75, hF79x, lv_sub hl [1, 2, 3, 0] rfl⟩
                · have c73 := mt (b_le (nI_toInt (n := rn w67) (by omega)) (show Int32.toInt 24 = 24 from rfl)).mpr c73
                  refine lv_aload_n hx hb dX12_power_176 rfl (lv_at hl 0 rfl) ?_
                  refine lv_bipush (v := 6) hx hb dX12_power_177 (by decide) ?_
                  refine rc_i hAL hS hA (va_runV (As := [.int 6]) (rest := []) ⟨hx, hb, hml, hown, noTs⟩ (r_X12_refuse l dC dI H.size cs b u66 a hA68 6) ⟨cbE 1 (wd_1498 hE) (wd_126 hE) (wd_1495 hE) rfl rfl (by decide +kernel) ⟨Nat.le_of_ble_eq_true rfl, Nat.le_of_ble_eq_true rfl⟩, (wd_1497 hE), (wd_54 hE)⟩ ⟨PR.blind, r_recv hK hP rfl, (r_pre (av := [.ref (b 0), .int 6]) hK hP hJ hE)⟩ rfl rfl hl.1 rfl (lv_room (Nat.le_of_ble_eq_true rfl)) dX12_power_179 ⟨Nat.le_of_ble_eq_true rfl, Nat.le_of_ble_eq_true rfl⟩) (fun r80 u80 H locs hpo80 hP hS => ?_)
                  obtain ⟨hr80, hq80⟩ := hpo80
                  have hA81 := (hq80.1 1 List.not_mem_nil).trans hA68
                  have hA82 := (hq80.1 3 List.not_mem_nil).trans hA69
                  have hA83 := (hq80.1 5 List.not_mem_nil).trans hA70
                  have hA84 := (hq80.1 6 List.not_mem_nil).trans hA67
                  have hF85x := (hq80.2.1 2 (by decide)).trans hF71x
                  have hfr := FR.step hfr hq80 (fun _ h => absurd h List.not_mem_nil) (by decide) (fun h => rfl)
                  subst hr80
                  exact W.iret (v := -1) hx hb hr (fun t ht hW => ⟨⟨-1, u80, rfl, ⟨trivial, (by first | (rw [hA81]; done) | (rw [hA81]; first | assumption | omega | rfl | (congr 1; omega))), (by first | (rw [hF85x]; done) | (rw [hF85x]; refine ⟨_, ?_, rfl⟩; omega)), hfr⟩, (show va_P (dC, dI) vwCl (rW cs b u80) t.heap by rw [ht]; exact hP)⟩, hS.F ht⟩) hS.2.2 dX12_power_182
          · have c20 := mt (b_le (show Int32.toInt 0 = 0 from rfl) (rfl : Int32.toInt y = _)).mpr c20
            refine lv_aload_n hx hb dX12_power_76 rfl (lv_at hl 0 rfl) ?_
            refine lv_aload_n hx hb dX12_power_77 rfl (lv_at hl 0 rfl) ?_
            refine r_get (v := .ref (b 2)) hx hb (ly_X12 hE) hown hK hP rfl 4 (by decide) (wd_1385 hE) (fun _ h9 => h9) rfl dX12_power_78 ?_
            refine lv_iconst (v := 0) hx hb dX12_power_81 (by decide) ?_
            refine r_aald (j := 2) (k := 0) (n := 10) (t0 := 4) (j2 := 3) hx hb hK hP (by decide) rfl rfl (by decide) (by decide) rfl dX12_power_82 ?_
            refine lv_aload_n hx hb dX12_power_83 rfl (lv_at hl 0 rfl) ?_
            refine r_get (v := .ref (b 2)) hx hb (ly_X12 hE) hown hK hP rfl 4 (by decide) (wd_1385 hE) (fun _ h9 => h9) rfl dX12_power_84 ?_
            refine lv_iconst (v := 1) hx hb dX12_power_87 (by decide) ?_
            refine r_aald (j := 2) (k := 1) (n := 10) (t0 := 4) (j2 := 4) hx hb hK hP (by decide) rfl rfl (by decide) (by decide) rfl dX12_power_88 ?_
            obtain ⟨g86, hg86⟩ : ∃ g, rA u16 4 = g := ⟨_, rfl⟩
            refine rc_v hAL hS hA (va_runV (As := [.ref (b 3), .ref (b 4)]) (rest := []) ⟨hx, hb, hml, hown, noTs⟩ (r_X12_turns l dC dI H.size cs b u16 a hA18 3 (by decide) w17 hA17 4 (by decide) g86 hg86 (by first | assumption | omega | rfl | (congr 1; omega)) (by first | assumption | omega | rfl | (congr 1; omega)) (by first | assumption | omega | rfl | (congr 1; omega)) (by first | assumption | omega | rfl | (congr 1; omega)) (by first | assumption | omega | rfl | (congr 1; omega)) (by first | assumption | omega | rfl | (congr 1; omega))) ⟨cbE 2 (wd_1717 hE) (wd_126 hE) (wd_1714 hE) rfl rfl (by decide +kernel) ⟨Nat.le_of_ble_eq_true rfl, Nat.le_of_ble_eq_true rfl⟩, (wd_1716 hE), (wd_90 hE)⟩ ⟨PR.blind, r_recv hK hP rfl, (r_pre (av := [.ref (b 0), .ref (b 3), .ref (b 4)]) hK hP hJ hE)⟩ rfl rfl hl.1 rfl (lv_room (Nat.le_of_ble_eq_true rfl)) dX12_power_89 ⟨Nat.le_of_ble_eq_true rfl, Nat.le_of_ble_eq_true rfl⟩) (fun u87 H locs hpo87 hP hS => ?_)
            obtain ⟨h87_0, h87_1, h87_2, h87_3, h87_4, hq87⟩ := hpo87
            obtain ⟨w88, hA88⟩ : ∃ g, rA u87 4 = g := ⟨_, rfl⟩
            rw [hA88] at h87_0 h87_1 h87_2 h87_3 h87_4
            have hA89 := (hq87.1 1 (by decide)).trans hA18
            have hA90 := (hq87.1 3 (by decide)).trans hA17
            have hF91x := (hq87.2.1 2 (by decide)).trans hF19x
            have hfr := FR.step hfr hq87 (by decide) (by decide) (fun h => rfl)
            have hl87_0 := pg_le h87_0
            refine lv_aload_n hx hb dX12_power_92 rfl (lv_at hl 0 rfl) ?_
            refine r_get (v := .ref (b 2)) hx hb (ly_X12 hE) hown hK hP rfl 4 (by decide) (wd_1385 hE) (fun _ h9 => h9) rfl dX12_power_93 ?_
            refine lv_iconst (v := 1) hx hb dX12_power_96 (by decide) ?_
            refine r_aald (j := 2) (k := 1) (n := 10) (t0 := 4) (j2 := 4) hx hb hK hP (by decide) rfl rfl (by decide) (by decide) rfl dX12_power_97 ?_
            refine lv_aload_n hx hb dX12_power_98 rfl (lv_at hl 0 rfl) ?_
            refine r_get (v := .ref (b 2)) hx hb (ly_X12 hE) hown hK hP rfl 4 (by decide) (wd_1385 hE) (fun _ h9 => h9) rfl dX12_power_99 ?_
            refine lv_iconst (v := 0) hx hb dX12_power_102 (by decide) ?_
            refine r_aald (j := 2) (k := 0) (n := 10) (t0 := 4) (j2 := 3) hx hb hK hP (by decide) rfl rfl (by decide) (by decide) rfl dX12_power_103 ?_
            refine rc_v hAL hS hA (va_runS (As := [.ref (b 4), .ref (b 3)]) (rest := []) ⟨hx, hb, hml, hown, noTs⟩ (r_X12_lays l dC dI H.size cs b u87 a hA89 4 (by decide) w88 hA88 3 (by decide) w17 hA90 (by first | assumption | omega | rfl | (congr 1; omega)) (by first | assumption | omega | rfl | (congr 1; omega)) (by first | assumption | omega | rfl | (congr 1; omega))) ⟨cbE 2 (wd_1706 hE) (wd_126 hE) (wd_1704 hE) rfl rfl (by decide +kernel) ⟨Nat.le_of_ble_eq_true rfl, Nat.le_of_ble_eq_true rfl⟩, (wd_1705 hE)⟩ ⟨PR.blind, (r_pre (av := [.ref (b 4), .ref (b 3)]) hK hP hJ hE)⟩ rfl rfl hl.1 rfl (lv_room (Nat.le_of_ble_eq_true rfl)) dX12_power_104 ⟨Nat.le_of_ble_eq_true rfl, Nat.le_of_ble_eq_true rfl⟩) (fun u92 H locs hpo92 hP hS => ?_)
            obtain ⟨h92_0, h92_1, h92_2, h92_3, h92_4, h92_5, hq92⟩ := hpo92
            obtain ⟨w93, hA93⟩ : ∃ g, rA u92 3 = g := ⟨_, rfl⟩
            rw [hA93] at h92_0 h92_1 h92_2 h92_3 h92_4 h92_5
            have hA94 := (hq92.1 1 (by decide)).trans hA89
            have hA95 := (hq92.1 4 (by decide)).trans hA88
            have hF96x := (hq92.2.1 2 List.not_mem_nil).trans hF91x
            have hfr := FR.step hfr hq92 (by decide) (fun _ h => absurd h List.not_mem_nil) (fun h => rfl)
            have hl92_0 := pg_le h92_0
            have PA := h92_0
            have LA := h92_1
            have VA : vend a w93 = rb w93 := by omega
            refine lv_aload_n hx hb dX12_power_107 rfl (lv_at hl 0 rfl) ?_
            refine r_get (v := .ref (b 2)) hx hb (ly_X12 hE) hown hK hP rfl 4 (by decide) (wd_1385 hE) (fun _ h9 => h9) rfl dX12_power_108 ?_
            refine lv_iconst (v := 2) hx hb dX12_power_111 (by decide) ?_
            refine r_aald (j := 2) (k := 2) (n := 10) (t0 := 4) (j2 := 5) hx hb hK hP (by decide) rfl rfl (by decide) (by decide) rfl dX12_power_112 ?_
            refine lv_aload_n hx hb dX12_power_113 rfl (lv_at hl 0 rfl) ?_
            refine r_get (v := .ref (b 2)) hx hb (ly_X12 hE) hown hK hP rfl 4 (by decide) (wd_1385 hE) (fun _ h9 => h9) rfl dX12_power_114 ?_
            refine lv_iconst (v := 0) hx hb dX12_power_117 (by decide) ?_
            refine r_aald (j := 2) (k := 0) (n := 10) (t0 := 4) (j2 := 3) hx hb hK hP (by decide) rfl rfl (by decide) (by decide) rfl dX12_power_118 ?_
            refine lv_iconst (v := 0) hx hb dX12_power_119 (by decide) ?_
            refine r_iald (j := 3) (k := 0) (n := 200) (x := nI (rb w93)) hx hb hK hP (by decide) rfl (by decide) (by decide) (by rw [hA93]; exact pg_b h92_0) dX12_power_120 ?_
            refine lv_iconst (v := 0) hx hb dX12_power_121 (by decide) ?_
            obtain ⟨g98, hg98⟩ : ∃ g, rA u92 5 = g := ⟨_, rfl⟩
            refine rc_v hAL hS hA (va_runS (As := [.ref (b 5), .int (nI (rb w93)), .int 0]) (rest := []) ⟨hx, hb, hml, hown, noTs⟩ (r_X12_single l dC dI H.size cs b u92 a hA94 5 (by decide) g98 hg98 (rb w93) 0 (by first | assumption | omega | rfl | (congr 1; omega)) (by first | assumption | omega | rfl | (congr 1; omega))) ⟨cbE 3 (wd_1579 hE) (wd_126 hE) (wd_1577 hE) rfl rfl (by decide +kernel) ⟨Nat.le_of_ble_eq_true rfl, Nat.le_of_ble_eq_true rfl⟩, (wd_1578 hE)⟩ ⟨PR.blind, (r_pre (av := [.ref (b 5), .int (nI (rb w93)), .int 0]) hK hP hJ hE)⟩ rfl rfl hl.1 rfl (lv_room (Nat.le_of_ble_eq_true rfl)) dX12_power_122 ⟨Nat.le_of_ble_eq_true rfl, Nat.le_of_ble_eq_true rfl⟩) (fun u99 H locs hpo99 hP hS => ?_)
            obtain ⟨h99_0, h99_1, h99_2, h99_3, h99_4, hq99⟩ := hpo99
            obtain ⟨w100, hA100⟩ : ∃ g, rA u99 5 = g := ⟨_, rfl⟩
            rw [hA100] at h99_0 h99_1 h99_2 h99_3 h99_4
            have hA101 := (hq99.1 1 (by decide)).trans hA94
            have hA102 := (hq99.1 4 (by decide)).trans hA95
            have hA103 := (hq99.1 3 (by decide)).trans hA93
            have hF104x := (hq99.2.1 2 List.not_mem_nil).trans hF96x
            have hfr := FR.step hfr hq99 (by decide) (fun _ h => absurd h List.not_mem_nil) (fun h => rfl)
            have hl99_0 := pg_le h99_0
            have hbo := gg_od hG (pg_le PA).1
            have q8 : LG a w100 := lg_mk (n := 0) h99_1 h99_3 (show w100 (2 + 2 * 0) = nI 0 from h99_4) (by omega) (by omega)
            refine lv_iconst (v := 0) hx hb dX12_power_125 (by decide) ?_
            refine lv_istore_n (lv' := [(3, .int 0), (0, .ref (b 0)), (1, .int (nI n6)), (2, .int y)]) hx hb dX12_power_126 rfl hl (by decide) rfl (fun ls hl => ?_)
            refine r_ind (I := fun n u_ H locs ls => va_P (dC, dI) vwCl (rW cs b u_) H ∧ va_S (AR b s.heap.size) s.heap H locs ∧ FR [1, 3, 4, 5, 6, 7, 8, 9, 10, 11, 12, 13, 14, 17, 18, 19, 20] [1, 2, 5, 21, 22] true u u_ ∧ ∃ (k_105 : Nat) (c1_105 : Nat → Int32), n = 10 - k_105 ∧ (PG a c1_105) ∧ (LG a c1_105) ∧ (k_105 ≤ 9) ∧ (rn c1_105 ≤ 24) ∧ (vend a c1_105 = rb w93) ∧ (rA u_ 1 = a) ∧ (rA u_ 3 = w93) ∧ (rA u_ 5 = c1_105) ∧ (rF u_ 2 = nI ac) ∧ lv_has ls 4 [(0, .ref (b 0)), (1, .int (nI n6)), (2, .int y), (3, .int (nI k_105))]) (fun n u105 H locs ls hI ih105 => ?_) _ u99 _ _ _ ⟨hP, hS, hfr, 0, w100, rfl, (by first | assumption | omega | rfl | (congr 1; omega)), (by first | assumption | omega | rfl | (congr 1; omega)), (by first | assumption | omega | rfl | (congr 1; omega)), (by first | assumption | omega | rfl | (congr 1; omega)), (by first | assumption | omega | rfl | (congr 1; omega)), hA101, hA103, hA100, hF104x, lv_sub hl [1, 2, 3, 0] rfl⟩
            obtain ⟨hP, hS, hfr, k_105, c1_105, hmu105, hL105_0, hL105_1, hL105_2, hL105_3, hL105_4, hL105_5, hL105_6, hL105_7, hL105_8, hl⟩ := hI
            subst hmu105
            have hl105_0 := pg_le hL105_0
            refine lv_iload_n hx hb dX12_power_127 rfl (lv_at hl 3 rfl) ?_
            refine lv_iload_n hx hb dX12_power_128 rfl (lv_at hl 2 rfl) ?_
            refine lv_if_ge (tgt := 137) hx hb dX12_power_129 (by decide) (fun c106 => ?_) (fun c106 => ?_)
            · have c106 := (b_le (show Int32.toInt 0 = 0 from rfl) (rfl : Int32.toInt y = _)).mp c106
              refine lv_iload_n hx hb dX12_power_137 rfl (lv_at hl 2 rfl) ?_
              refine lv_icmp_ge (tgt := 204) hx hb dX12_power_138 (by decide) (fun c107 => ?_) (fun c107 => ?_)
              · have c107 := (b_le (rfl : Int32.toInt y = _) (nI_toInt (n := k_105) (by omega))).mp c107
                refine lv_aload_n hx hb dX12_power_204 rfl (lv_at hl 0 rfl) ?_
                refine lv_aload_n hx hb dX12_power_205 rfl (lv_at hl 0 rfl) ?_
                refine r_get (v := .ref (b 2)) hx hb (ly_X12 hE) hown hK hP rfl 4 (by decide) (wd_1385 hE) (fun _ h9 => h9) rfl dX12_power_206 ?_
                refine lv_iconst (v := 2) hx hb dX12_power_209 (by decide) ?_
                refine r_aald (j := 2) (k := 2) (n := 10) (t0 := 4) (j2 := 5) hx hb hK hP (by decide) rfl rfl (by decide) (by decide) rfl dX12_power_210 ?_
                refine rc_i hAL hS hA (va_runV (As := [.ref (b 5)]) (rest := []) ⟨hx, hb, hml, hown, noTs⟩ (r_X12_more l dC dI H.size cs b u105 a hL105_5 5 (by decide) c1_105 hL105_7 ac hL105_8 (by first | assumption | omega | rfl | (congr 1; omega)) (by first | assumption | omega | rfl | (congr 1; omega)) (by first | assumption | omega | rfl | (congr 1; omega)) (by first | assumption | omega | rfl | (congr 1; omega)) (by first | assumption | omega | rfl | (congr 1; omega))) ⟨cbE 1 (wd_1691 hE) (wd_126 hE) (wd_1688 hE) rfl rfl (by decide +kernel) ⟨Nat.le_of_ble_eq_true rfl, Nat.le_of_ble_eq_true rfl⟩, (wd_1690 hE), (wd_88 hE)⟩ ⟨PR.blind, r_recv hK hP rfl, (r_pre (av := [.ref (b 0), .ref (b 5)]) hK hP hJ hE)⟩ rfl rfl hl.1 rfl (lv_room (Nat.le_of_ble_eq_true rfl)) dX12_power_211 ⟨Nat.le_of_ble_eq_true rfl, Nat.le_of_ble_eq_true rfl⟩) (fun r108 u108 H locs hpo108 hP hS => ?_)
                obtain ⟨hr108, h108_0, h108_1, hq108⟩ := hpo108
                obtain ⟨w109, hA109⟩ : ∃ g, rA u108 1 = g := ⟨_, rfl⟩
                rw [hA109] at h108_0
                obtain ⟨n108_1, hn108_1, hfe108_1⟩ := h108_1
                have hA110 := (hq108.1 3 (by decide)).trans hL105_6
                have hA111 := (hq108.1 5 (by decide)).trans hL105_7
                have hfr := FR.step hfr hq108 (by decide) (by decide) (fun h => rfl)
                have hB := ab_0 h108_0
                have hG := bg_g hB
                have ha112 := gg_le hG
                have ha112b := bg_w hB
                exact W.iret (v := r108) hx hb hr (fun t ht hW => ⟨⟨r108, u108, rfl, ⟨trivial, (by first | (rw [hA109]; done) | (rw [hA109]; first | assumption | omega | rfl | (congr 1; omega))), (by first | (rw [hfe108_1]; done) | (rw [hfe108_1]; refine ⟨_, ?_, rfl⟩; omega)), hfr⟩, (show va_P (dC, dI) vwCl (rW cs b u108) t.heap by rw [ht]; exact hP)⟩, hS.F ht⟩) hS.2.2 dX12_power_214
              · have c107 := mt (b_le (rfl : Int32.toInt y = _) (nI_toInt (n := k_105) (by omega))).mpr c107
                refine lv_aload_n hx hb dX12_power_141 rfl (lv_at hl 0 rfl) ?_
                refine lv_aload_n hx hb dX12_power_142 rfl (lv_at hl 0 rfl) ?_
                refine r_get (v := .ref (b 2)) hx hb (ly_X12 hE) hown hK hP rfl 4 (by decide) (wd_1385 hE) (fun _ h9 => h9) rfl dX12_power_143 ?_
                refine lv_iconst (v := 2) hx hb dX12_power_146 (by decide) ?_
                refine r_aald (j := 2) (k := 2) (n := 10) (t0 := 4) (j2 := 5) hx hb hK hP (by decide) rfl rfl (by decide) (by decide) rfl dX12_power_147 ?_
                refine lv_aload_n hx hb dX12_power_148 rfl (lv_at hl 0 rfl) ?_
                refine r_get (v := .ref (b 2)) hx hb (ly_X12 hE) hown hK hP rfl 4 (by decide) (wd_1385 hE) (fun _ h9 => h9) rfl dX12_power_149 ?_
                refine lv_iconst (v := 0) hx hb dX12_power_152 (by decide) ?_
                refine r_aald (j := 2) (k := 0) (n := 10) (t0 := 4) (j2 := 3) hx hb hK hP (by decide) rfl rfl (by decide) (by decide) rfl dX12_power_153 ?_
                refine lv_aload_n hx hb dX12_power_154 rfl (lv_at hl 0 rfl) ?_
                refine r_get (v := .ref (b 2)) hx hb (ly_X12 hE) hown hK hP rfl 4 (by decide) (wd_1385 hE) (fun _ h9 => h9) rfl dX12_power_155 ?_
                refine lv_iconst (v := 3) hx hb dX12_power_158 (by decide) ?_
                refine r_aald (j := 2) (k := 3) (n := 10) (t0 := 4) (j2 := 6) hx hb hK hP (by decide) rfl rfl (by decide) (by decide) rfl dX12_power_159 ?_
                obtain ⟨g113, hg113⟩ : ∃ g, rA u105 6 = g := ⟨_, rfl⟩
                refine rc_v hAL hS hA (va_runV (As := [.ref (b 5), .ref (b 3), .ref (b 6)]) (rest := []) ⟨hx, hb, hml, hown, noTs⟩ (r_X12_joins l dC dI H.size cs b u105 a hL105_5 5 (by decide) c1_105 hL105_7 3 (by decide) w93 hL105_6 6 (by decide) g113 hg113 (by first | assumption | omega | rfl | (congr 1; omega)) (by first | assumption | omega | rfl | (congr 1; omega)) (by first | assumption | omega | rfl | (congr 1; omega)) (by first | assumption | omega | rfl | (congr 1; omega)) (by first | assumption | omega | rfl | (congr 1; omega)) (by first | assumption | omega | rfl | (congr 1; omega)) (by first | assumption | omega | rfl | (congr 1; omega)) (by first | assumption | omega | rfl | (congr 1; omega)) (by first | assumption | omega | rfl | (congr 1; omega)) (by first | assumption | omega | rfl | (congr 1; omega)) (by first | assumption | omega | rfl | (congr 1; omega)) (by first | assumption | omega | rfl | (congr 1; omega))) ⟨cbE 3 (wd_1703 hE) (wd_126 hE) (wd_1700 hE) rfl rfl (by decide +kernel) ⟨Nat.le_of_ble_eq_true rfl, Nat.le_of_ble_eq_true rfl⟩, (wd_1702 hE), (wd_89 hE)⟩ ⟨PR.blind, r_recv hK hP rfl, (r_pre (av := [.ref (b 0), .ref (b 5), .ref (b 3), .ref (b 6)]) hK hP hJ hE)⟩ rfl rfl hl.1 rfl (lv_room (Nat.le_of_ble_eq_true rfl)) dX12_power_160 ⟨Nat.le_of_ble_eq_true rfl, Nat.le_of_ble_eq_true rfl⟩) (fun u114 H locs hpo114 hP hS => ?_)
                obtain ⟨h114_0, h114_1, h114_2, h114_3, h114_4, hq114⟩ := hpo114
                obtain ⟨w115, hA115⟩ : ∃ g, rA u114 6 = g := ⟨_, rfl⟩
                rw [hA115] at h114_0 h114_1 h114_2 h114_3 h114_4
                have hA116 := (hq114.1 1 (by decide)).trans hL105_5
                have hA117 := (hq114.1 3 (by decide)).trans hL105_6
                have hA118 := (hq114.1 5 (by decide)).trans hL105_7
                have hF119x := (hq114.2.1 2 (by decide)).trans hL105_8
                have hfr := FR.step hfr hq114 (by decide) (by decide) (fun h => rfl)
                have hl114_0 := pg_le h114_0
                refine lv_aload_n hx hb dX12_power_163 rfl (lv_at hl 0 rfl) ?_
                refine r_get (v := .ref (b 2)) hx hb (ly_X12 hE) hown hK hP rfl 4 (by decide) (wd_1385 hE) (fun _ h9 => h9) rfl dX12_power_164 ?_
                refine lv_iconst (v := 3) hx hb dX12_power_167 (by decide) ?_
                refine r_aald (j := 2) (k := 3) (n := 10) (t0 := 4) (j2 := 6) hx hb hK hP (by decide) rfl rfl (by decide) (by decide) rfl dX12_power_168 ?_
                refine lv_iconst (v := 1) hx hb dX12_power_169 (by decide) ?_
                refine r_iald (j := 6) (k := 1) (n := 200) (x := nI (rn w115)) hx hb hK hP (by decide) rfl (by decide) (by decide) (by rw [hA115]; exact pg_n h114_0) dX12_power_170 ?_
                refine lv_bipush (v := 24) hx hb dX12_power_171 (by decide) ?_
                refine lv_icmp_le (tgt := 183) hx hb dX12_power_173 (by decide) (fun c121 => ?_) (fun c121 => ?_)
                · have c121 := (b_le (nI_toInt (n := rn w115) (by omega)) (show Int32.toInt 24 = 24 from rfl)).mp c121
                  refine lv_aload_n hx hb dX12_power_183 rfl (lv_at hl 0 rfl) ?_
                  refine r_get (v := .ref (b 2)) hx hb (ly_X12 hE) hown hK hP rfl 4 (by decide) (wd_1385 hE) (fun _ h9 => h9) rfl dX12_power_184 ?_
                  refine lv_iconst (v := 3) hx hb dX12_power_187 (by decide) ?_
                  refine r_aald (j := 2) (k := 3) (n := 10) (t0 := 4) (j2 := 6) hx hb hK hP (by decide) rfl rfl (by decide) (by decide) rfl dX12_power_188 ?_
                  refine lv_aload_n hx hb dX12_power_189 rfl (lv_at hl 0 rfl) ?_
                  refine r_get (v := .ref (b 2)) hx hb (ly_X12 hE) hown hK hP rfl 4 (by decide) (wd_1385 hE) (fun _ h9 => h9) rfl dX12_power_190 ?_
                  refine lv_iconst (v := 2) hx hb dX12_power_193 (by decide) ?_
                  refine r_aald (j := 2) (k := 2) (n := 10) (t0 := 4) (j2 := 5) hx hb hK hP (by decide) rfl rfl (by decide) (by decide) rfl dX12_power_194 ?_
                  refine rc_v hAL hS hA (va_runS (As := [.ref (b 6), .ref (b 5)]) (rest := []) ⟨hx, hb, hml, hown, noTs⟩ (r_X12_lays l dC dI H.size cs b u114 a hA116 6 (by decide) w115 hA115 5 (by decide) c1_105 hA118 (by first | assumption | omega | rfl | (congr 1; omega)) (by first | assumption | omega | rfl | (congr 1; omega)) (by first | assumption | omega | rfl | (congr 1; omega))) ⟨cbE 2 (wd_1706 hE) (wd_126 hE) (wd_1704 hE) rfl rfl (by decide +kernel) ⟨Nat.le_of_ble_eq_true rfl, Nat.le_of_ble_eq_true rfl⟩, (wd_1705 hE)⟩ ⟨PR.blind, (r_pre (av := [.ref (b 6), .ref (b 5)]) hK hP hJ hE)⟩ rfl rfl hl.1 rfl (lv_room (Nat.le_of_ble_eq_true rfl)) dX12_power_195 ⟨Nat.le_of_ble_eq_true rfl, Nat.le_of_ble_eq_true rfl⟩) (fun u122 H locs hpo122 hP hS => ?_)
                  obtain ⟨h122_0, h122_1, h122_2, h122_3, h122_4, h122_5, hq122⟩ := hpo122
                  obtain ⟨w123, hA123⟩ : ∃ g, rA u122 5 = g := ⟨_, rfl⟩
                  rw [hA123] at h122_0 h122_1 h122_2 h122_3 h122_4 h122_5
                  have hA124 := (hq122.1 1 (by decide)).trans hA116
                  have hA125 := (hq122.1 3 (by decide)).trans hA117
                  have hA126 := (hq122.1 6 (by decide)).trans hA115
                  have hF127x := (hq122.2.1 2 List.not_mem_nil).trans hF119x
                  have hfr := FR.step hfr hq122 (by decide) (fun _ h => absurd h List.not_mem_nil) (fun h => rfl)
                  have hl122_0 := pg_le h122_0
                  refine lv_iinc (v := nI (k_105 + 1)) (lv' := [(3, .int (nI (k_105 + 1))), (0, .ref (b 0)), (1, .int (nI n6)), (2, .int y)]) hx hb dX12_power_198 hl (k := 3) rfl (nI_1 k_105) (by decide) rfl (fun ls hl => ?_)
                  refine lv_goto (tgt := 127) hx hb dX12_power_201 (by decide) ?_
                  exact ih105 _ u122 _ _ _ (by omega) ⟨hP, hS, hfr, (k_105 + 1), w123, rfl, (by first | assumption | omega | rfl | (congr 1; omega)), (by first | assumption | omega | rfl | (congr 1; omega)), (by first | assumption | omega | rfl | (congr 1; omega)), (by first | assumption | omega | rfl | (congr 1; omega)), (by first | assumption | omega | rfl | (congr 1; omega)), hA124, hA125, hA123, hF127x, lv_sub hl [1, 2, 3, 0] rfl⟩
                · have c121 := mt (b_le (nI_toInt (n := rn w115) (by omega)) (show Int32.toInt 24 = 24 from rfl)).mpr c121
                  refine lv_aload_n hx hb dX12_power_176 rfl (lv_at hl 0 rfl) ?_
                  refine lv_bipush (v := 6) hx hb dX12_power_177 (by decide) ?_
                  refine rc_i hAL hS hA (va_runV (As := [.int 6]) (rest := []) ⟨hx, hb, hml, hown, noTs⟩ (r_X12_refuse l dC dI H.size cs b u114 a hA116 6) ⟨cbE 1 (wd_1498 hE) (wd_126 hE) (wd_1495 hE) rfl rfl (by decide +kernel) ⟨Nat.le_of_ble_eq_true rfl, Nat.le_of_ble_eq_true rfl⟩, (wd_1497 hE), (wd_54 hE)⟩ ⟨PR.blind, r_recv hK hP rfl, (r_pre (av := [.ref (b 0), .int 6]) hK hP hJ hE)⟩ rfl rfl hl.1 rfl (lv_room (Nat.le_of_ble_eq_true rfl)) dX12_power_179 ⟨Nat.le_of_ble_eq_true rfl, Nat.le_of_ble_eq_true rfl⟩) (fun r128 u128 H locs hpo128 hP hS => ?_)
                  obtain ⟨hr128, hq128⟩ := hpo128
                  have hA129 := (hq128.1 1 List.not_mem_nil).trans hA116
                  have hA130 := (hq128.1 3 List.not_mem_nil).trans hA117
                  have hA131 := (hq128.1 5 List.not_mem_nil).trans hA118
                  have hA132 := (hq128.1 6 List.not_mem_nil).trans hA115
                  have hF133x := (hq128.2.1 2 (by decide)).trans hF119x
                  have hfr := FR.step hfr hq128 (fun _ h => absurd h List.not_mem_nil) (by decide) (fun h => rfl)
                  subst hr128
                  exact W.iret (v := -1) hx hb hr (fun t ht hW => ⟨⟨-1, u128, rfl, ⟨trivial, (by first | (rw [hA129]; done) | (rw [hA129]; first | assumption | omega | rfl | (congr 1; omega))), (by first | (rw [hF133x]; done) | (rw [hF133x]; refine ⟨_, ?_, rfl⟩; omega)), hfr⟩, (show va_P (dC, dI) vwCl (rW cs b u128) t.heap by rw [ht]; exact hP)⟩, hS.F ht⟩) hS.2.2 dX12_power_182
            · have c106 := mt (b_le (show Int32.toInt 0 = 0 from rfl) (rfl : Int32.toInt y = _)).mpr c106
              refine lv_iload_n hx hb dX12_power_132 rfl (lv_at hl 2 rfl) ?_
              refine lv_ineg hx hb dX12_power_133 ?_
              refine lv_topi (fun x134 ex134 => ?_)
              have hz135 : x134.toInt = -(y.toInt) := by rw [ex134]; exact z_neg (rfl : Int32.toInt y = _) (by omega)
              refine lv_goto (tgt := 138) hx hb dX12_power_134 (by decide) ?_
              refine lv_icmp_ge (tgt := 204) hx hb dX12_power_138 (by decide) (fun c136 => ?_) (fun c136 => ?_)
              · have c136 := (b_le hz135 (nI_toInt (n := k_105) (by omega))).mp c136
                refine lv_aload_n hx hb dX12_power_204 rfl (lv_at hl 0 rfl) ?_
                refine lv_aload_n hx hb dX12_power_205 rfl (lv_at hl 0 rfl) ?_
                refine r_get (v := .ref (b 2)) hx hb (ly_X12 hE) hown hK hP rfl 4 (by decide) (wd_1385 hE) (fun _ h9 => h9) rfl dX12_power_206 ?_
                refine lv_iconst (v := 2) hx hb dX12_power_209 (by decide) ?_
                refine r_aald (j := 2) (k := 2) (n := 10) (t0 := 4) (j2 := 5) hx hb hK hP (by decide) rfl rfl (by decide) (by decide) rfl dX12_power_210 ?_
                refine rc_i hAL hS hA (va_runV (As := [.ref (b 5)]) (rest := []) ⟨hx, hb, hml, hown, noTs⟩ (r_X12_more l dC dI H.size cs b u105 a hL105_5 5 (by decide) c1_105 hL105_7 ac hL105_8 (by first | assumption | omega | rfl | (congr 1; omega)) (by first | assumption | omega | rfl | (congr 1; omega)) (by first | assumption | omega | rfl | (congr 1; omega)) (by first | assumption | omega | rfl | (congr 1; omega)) (by first | assumption | omega | rfl | (congr 1; omega))) ⟨cbE 1 (wd_1691 hE) (wd_126 hE) (wd_1688 hE) rfl rfl (by decide +kernel) ⟨Nat.le_of_ble_eq_true rfl, Nat.le_of_ble_eq_true rfl⟩, (wd_1690 hE), (wd_88 hE)⟩ ⟨PR.blind, r_recv hK hP rfl, (r_pre (av := [.ref (b 0), .ref (b 5)]) hK hP hJ hE)⟩ rfl rfl hl.1 rfl (lv_room (Nat.le_of_ble_eq_true rfl)) dX12_power_211 ⟨Nat.le_of_ble_eq_true rfl, Nat.le_of_ble_eq_true rfl⟩) (fun r137 u137 H locs hpo137 hP hS => ?_)
                obtain ⟨hr137, h137_0, h137_1, hq137⟩ := hpo137
                obtain ⟨w138, hA138⟩ : ∃ g, rA u137 1 = g := ⟨_, rfl⟩
                rw [hA138] at h137_0
                obtain ⟨n137_1, hn137_1, hfe137_1⟩ := h137_1
                have hA139 := (hq137.1 3 (by decide)).trans hL105_6
                have hA140 := (hq137.1 5 (by decide)).trans hL105_7
                have hfr := FR.step hfr hq137 (by decide) (by decide) (fun h => rfl)
                have hB := ab_0 h137_0
                have hG := bg_g hB
                have ha141 := gg_le hG
                have ha141b := bg_w hB
                exact W.iret (v := r137) hx hb hr (fun t ht hW => ⟨⟨r137, u137, rfl, ⟨trivial, (by first | (rw [hA138]; done) | (rw [hA138]; first | assumption | omega | rfl | (congr 1; omega))), (by first | (rw [hfe137_1]; done) | (rw [hfe137_1]; refine ⟨_, ?_, rfl⟩; omega)), hfr⟩, (show va_P (dC, dI) vwCl (rW cs b u137) t.heap by rw [ht]; exact hP)⟩, hS.F ht⟩) hS.2.2 dX12_power_214
              · have c136 := mt (b_le hz135 (nI_toInt (n := k_105) (by omega))).mpr c136
                refine lv_aload_n hx hb dX12_power_141 rfl (lv_at hl 0 rfl) ?_
                refine lv_aload_n hx hb dX12_power_142 rfl (lv_at hl 0 rfl) ?_
                refine r_get (v := .ref (b 2)) hx hb (ly_X12 hE) hown hK hP rfl 4 (by decide) (wd_1385 hE) (fun _ h9 => h9) rfl dX12_power_143 ?_
                refine lv_iconst (v := 2) hx hb dX12_power_146 (by decide) ?_
                refine r_aald (j := 2) (k := 2) (n := 10) (t0 := 4) (j2 := 5) hx hb hK hP (by decide) rfl rfl (by decide) (by decide) rfl dX12_power_147 ?_
                refine lv_aload_n hx hb dX12_power_148 rfl (lv_at hl 0 rfl) ?_
                refine r_get (v := .ref (b 2)) hx hb (ly_X12 hE) hown hK hP rfl 4 (by decide) (wd_1385 hE) (fun _ h9 => h9) rfl dX12_power_149 ?_
                refine lv_iconst (v := 0) hx hb dX12_power_152 (by decide) ?_
                refine r_aald (j := 2) (k := 0) (n := 10) (t0 := 4) (j2 := 3) hx hb hK hP (by decide) rfl rfl (by decide) (by decide) rfl dX12_power_153 ?_
                refine lv_aload_n hx hb dX12_power_154 rfl (lv_at hl 0 rfl) ?_
                refine r_get (v := .ref (b 2)) hx hb (ly_X12 hE) hown hK hP rfl 4 (by decide) (wd_1385 hE) (fun _ h9 => h9) rfl dX12_power_155 ?_
                refine lv_iconst (v := 3) hx hb dX12_power_158 (by decide) ?_
                refine r_aald (j := 2) (k := 3) (n := 10) (t0 := 4) (j2 := 6) hx hb hK hP (by decide) rfl rfl (by decide) (by decide) rfl dX12_power_159 ?_
                obtain ⟨g142, hg142⟩ : ∃ g, rA u105 6 = g := ⟨_, rfl⟩
                refine rc_v hAL hS hA (va_runV (As := [.ref (b 5), .ref (b 3), .ref (b 6)]) (rest := []) ⟨hx, hb, hml, hown, noTs⟩ (r_X12_joins l dC dI H.size cs b u105 a hL105_5 5 (by decide) c1_105 hL105_7 3 (by decide) w93 hL105_6 6 (by decide) g142 hg142 (by first | assumption | omega | rfl | (congr 1; omega)) (by first | assumption | omega | rfl | (congr 1; omega)) (by first | assumption | omega | rfl | (congr 1; omega)) (by first | assumption | omega | rfl | (congr 1; omega)) (by first | assumption | omega | rfl | (congr 1; omega)) (by first | assumption | omega | rfl | (congr 1; omega)) (by first | assumption | omega | rfl | (congr 1; omega)) (by first | assumption | omega | rfl | (congr 1; omega)) (by first | assumption | omega | rfl | (congr 1; omega)) (by first | assumption | omega | rfl | (congr 1; omega)) (by first | assumption | omega | rfl | (congr 1; omega)) (by first | assumption | omega | rfl | (congr 1; omega))) ⟨cbE 3 (wd_1703 hE) (wd_126 hE) (wd_1700 hE) rfl rfl (by decide +kernel) ⟨Nat.le_of_ble_eq_true rfl, Nat.le_of_ble_eq_true rfl⟩, (wd_1702 hE), (wd_89 hE)⟩ ⟨PR.blind, r_recv hK hP rfl, (r_pre (av := [.ref (b 0), .ref (b 5), .ref (b 3), .ref (b 6)]) hK hP hJ hE)⟩ rfl rfl hl.1 rfl (lv_room (Nat.le_of_ble_eq_true rfl)) dX12_power_160 ⟨Nat.le_of_ble_eq_true rfl, Nat.le_of_ble_eq_true rfl⟩) (fun u143 H locs hpo143 hP hS => ?_)
                obtain ⟨h143_0, h143_1, h143_2, h143_3, h143_4, hq143⟩ := hpo143
                obtain ⟨w144, hA144⟩ : ∃ g, rA u143 6 = g := ⟨_, rfl⟩
                rw [hA144] at h143_0 h143_1 h143_2 h143_3 h143_4
                have hA145 := (hq143.1 1 (by decide)).trans hL105_5
                have hA146 := (hq143.1 3 (by decide)).trans hL105_6
                have hA147 := (hq143.1 5 (by decide)).trans hL105_7
                have hF148x := (hq143.2.1 2 (by decide)).trans hL105_8
                have hfr := FR.step hfr hq143 (by decide) (by decide) (fun h => rfl)
                have hl143_0 := pg_le h143_0
                refine lv_aload_n hx hb dX12_power_163 rfl (lv_at hl 0 rfl) ?_
                refine r_get (v := .ref (b 2)) hx hb (ly_X12 hE) hown hK hP rfl 4 (by decide) (wd_1385 hE) (fun _ h9 => h9) rfl dX12_power_164 ?_
                refine lv_iconst (v := 3) hx hb dX12_power_167 (by decide) ?_
                refine r_aald (j := 2) (k := 3) (n := 10) (t0 := 4) (j2 := 6) hx hb hK hP (by decide) rfl rfl (by decide) (by decide) rfl dX12_power_168 ?_
                refine lv_iconst (v := 1) hx hb dX12_power_169 (by decide) ?_
                refine r_iald (j := 6) (k := 1) (n := 200) (x := nI (rn w144)) hx hb hK hP (by decide) rfl (by decide) (by decide) (by rw [hA144]; exact pg_n h143_0) dX12_power_170 ?_
                refine lv_bipush (v := 24) hx hb dX12_power_171 (by decide) ?_
                refine lv_icmp_le (tgt := 183) hx hb dX12_power_173 (by decide) (fun c150 => ?_) (fun c150 => ?_)
                · have c150 := (b_le (nI_toInt (n := rn w144) (by omega)) (show Int32.toInt 24 = 24 from rfl)).mp c150
                  refine lv_aload_n hx hb dX12_power_183 rfl (lv_at hl 0 rfl) ?_
                  refine r_get (v := .ref (b 2)) hx hb (ly_X12 hE) hown hK hP rfl 4 (by decide) (wd_1385 hE) (fun _ h9 => h9) rfl dX12_power_184 ?_
                  refine lv_iconst (v := 3) hx hb dX12_power_187 (by decide) ?_
                  refine r_aald (j := 2) (k := 3) (n := 10) (t0 := 4) (j2 := 6) hx hb hK hP (by decide) rfl rfl (by decide) (by decide) rfl dX12_power_188 ?_
                  refine lv_aload_n hx hb dX12_power_189 rfl (lv_at hl 0 rfl) ?_
                  refine r_get (v := .ref (b 2)) hx hb (ly_X12 hE) hown hK hP rfl 4 (by decide) (wd_1385 hE) (fun _ h9 => h9) rfl dX12_power_190 ?_
                  refine lv_iconst (v := 2) hx hb dX12_power_193 (by decide) ?_
                  refine r_aald (j := 2) (k := 2) (n := 10) (t0 := 4) (j2 := 5) hx hb hK hP (by decide) rfl rfl (by decide) (by decide) rfl dX12_power_194 ?_
                  refine rc_v hAL hS hA (va_runS (As := [.ref (b 6), .ref (b 5)]) (rest := []) ⟨hx, hb, hml, hown, noTs⟩ (r_X12_lays l dC dI H.size cs b u143 a hA145 6 (by decide) w144 hA144 5 (by decide) c1_105 hA147 (by first | assumption | omega | rfl | (congr 1; omega)) (by first | assumption | omega | rfl | (congr 1; omega)) (by first | assumption | omega | rfl | (congr 1; omega))) ⟨cbE 2 (wd_1706 hE) (wd_126 hE) (wd_1704 hE) rfl rfl (by decide +kernel) ⟨Nat.le_of_ble_eq_true rfl, Nat.le_of_ble_eq_true rfl⟩, (wd_1705 hE)⟩ ⟨PR.blind, (r_pre (av := [.ref (b 6), .ref (b 5)]) hK hP hJ hE)⟩ rfl rfl hl.1 rfl (lv_room (Nat.le_of_ble_eq_true rfl)) dX12_power_195 ⟨Nat.le_of_ble_eq_true rfl, Nat.le_of_ble_eq_true rfl⟩) (fun u151 H locs hpo151 hP hS => ?_)
                  obtain ⟨h151_0, h151_1, h151_2, h151_3, h151_4, h151_5, hq151⟩ := hpo151
                  obtain ⟨w152, hA152⟩ : ∃ g, rA u151 5 = g := ⟨_, rfl⟩
                  rw [hA152] at h151_0 h151_1 h151_2 h151_3 h151_4 h151_5
                  have hA153 := (hq151.1 1 (by decide)).trans hA145
                  have hA154 := (hq151.1 3 (by decide)).trans hA146
                  have hA155 := (hq151.1 6 (by decide)).trans hA144
                  have hF156x := (hq151.2.1 2 List.not_mem_nil).trans hF148x
                  have hfr := FR.step hfr hq151 (by decide) (fun _ h => absurd h List.not_mem_nil) (fun h => rfl)
                  have hl151_0 := pg_le h151_0
                  refine lv_iinc (v := nI (k_105 + 1)) (lv' := [(3, .int (nI (k_105 + 1))), (0, .ref (b 0)), (1, .int (nI n6)), (2, .int y)]) hx hb dX12_power_198 hl (k := 3) rfl (nI_1 k_105) (by decide) rfl (fun ls hl => ?_)
                  refine lv_goto (tgt := 127) hx hb dX12_power_201 (by decide) ?_
                  exact ih105 _ u151 _ _ _ (by omega) ⟨hP, hS, hfr, (k_105 + 1), w152, rfl, (by first | assumption | omega | rfl | (congr 1; omega)), (by first | assumption | omega | rfl | (congr 1; omega)), (by first | assumption | omega | rfl | (congr 1; omega)), (by first | assumption | omega | rfl | (congr 1; omega)), (by first | assumption | omega | rfl | (congr 1; omega)), hA153, hA154, hA152, hF156x, lv_sub hl [1, 2, 3, 0] rfl⟩
                · have c150 := mt (b_le (nI_toInt (n := rn w144) (by omega)) (show Int32.toInt 24 = 24 from rfl)).mpr c150
                  refine lv_aload_n hx hb dX12_power_176 rfl (lv_at hl 0 rfl) ?_
                  refine lv_bipush (v := 6) hx hb dX12_power_177 (by decide) ?_
                  refine rc_i hAL hS hA (va_runV (As := [.int 6]) (rest := []) ⟨hx, hb, hml, hown, noTs⟩ (r_X12_refuse l dC dI H.size cs b u143 a hA145 6) ⟨cbE 1 (wd_1498 hE) (wd_126 hE) (wd_1495 hE) rfl rfl (by decide +kernel) ⟨Nat.le_of_ble_eq_true rfl, Nat.le_of_ble_eq_true rfl⟩, (wd_1497 hE), (wd_54 hE)⟩ ⟨PR.blind, r_recv hK hP rfl, (r_pre (av := [.ref (b 0), .int 6]) hK hP hJ hE)⟩ rfl rfl hl.1 rfl (lv_room (Nat.le_of_ble_eq_true rfl)) dX12_power_179 ⟨Nat.le_of_ble_eq_true rfl, Nat.le_of_ble_eq_true rfl⟩) (fun r157 u157 H locs hpo157 hP hS => ?_)
                  obtain ⟨hr157, hq157⟩ := hpo157
                  have hA158 := (hq157.1 1 List.not_mem_nil).trans hA145
                  have hA159 := (hq157.1 3 List.not_mem_nil).trans hA146
                  have hA160 := (hq157.1 5 List.not_mem_nil).trans hA147
                  have hA161 := (hq157.1 6 List.not_mem_nil).trans hA144
                  have hF162x := (hq157.2.1 2 (by decide)).trans hF148x
                  have hfr := FR.step hfr hq157 (fun _ h => absurd h List.not_mem_nil) (by decide) (fun h => rfl)
                  subst hr157
                  exact W.iret (v := -1) hx hb hr (fun t ht hW => ⟨⟨-1, u157, rfl, ⟨trivial, (by first | (rw [hA158]; done) | (rw [hA158]; first | assumption | omega | rfl | (congr 1; omega))), (by first | (rw [hF162x]; done) | (rw [hF162x]; refine ⟨_, ?_, rfl⟩; omega)), hfr⟩, (show va_P (dC, dI) vwCl (rW cs b u157) t.heap by rw [ht]; exact hP)⟩, hS.F ht⟩) hS.2.2 dX12_power_182
        · refine lv_if_ne (tgt := 61) hx hb dX12_power_52 (by decide) (fun c163 => absurd c163 (by decide)) (fun c163 => ?_)
          refine lv_aload_n hx hb dX12_power_55 rfl (lv_at hl 0 rfl) ?_
          refine lv_iconst (v := 4) hx hb dX12_power_56 (by decide) ?_
          refine rc_i hAL hS hA (va_runV (As := [.int 4]) (rest := []) ⟨hx, hb, hml, hown, noTs⟩ (r_X12_refuse l dC dI H.size cs b u11 a hA12 4) ⟨cbE 1 (wd_1498 hE) (wd_126 hE) (wd_1495 hE) rfl rfl (by decide +kernel) ⟨Nat.le_of_ble_eq_true rfl, Nat.le_of_ble_eq_true rfl⟩, (wd_1497 hE), (wd_54 hE)⟩ ⟨PR.blind, r_recv hK hP rfl, (r_pre (av := [.ref (b 0), .int 4]) hK hP hJ hE)⟩ rfl rfl hl.1 rfl (lv_room (Nat.le_of_ble_eq_true rfl)) dX12_power_57 ⟨Nat.le_of_ble_eq_true rfl, Nat.le_of_ble_eq_true rfl⟩) (fun r164 u164 H locs hpo164 hP hS => ?_)
          obtain ⟨hr164, hq164⟩ := hpo164
          have hA165 := (hq164.1 1 List.not_mem_nil).trans hA12
          have hF166x := (hq164.2.1 2 (by decide)).trans hF13x
          have hfr := FR.step hfr hq164 (fun _ h => absurd h List.not_mem_nil) (by decide) (fun h => rfl)
          subst hr164
          exact W.iret (v := -1) hx hb hr (fun t ht hW => ⟨⟨-1, u164, rfl, ⟨trivial, (by first | (rw [hA165]; done) | (rw [hA165]; first | assumption | omega | rfl | (congr 1; omega))), (by first | (rw [hF166x]; done) | (rw [hF166x]; refine ⟨_, ?_, rfl⟩; omega)), hfr⟩, (show va_P (dC, dI) vwCl (rW cs b u164) t.heap by rw [ht]; exact hP)⟩, hS.F ht⟩) hS.2.2 dX12_power_60
      · have c10 := (b_eq (nI_toInt (n := wN a) (by omega)) (show Int32.toInt 10 = 10 from rfl)).mp c10
        refine lv_aload_n hx hb dX12_power_41 rfl (lv_at hl 0 rfl) ?_
        refine lv_iconst (v := 3) hx hb dX12_power_42 (by decide) ?_
        refine rc_i hAL hS hA (va_runV (As := [.int 3]) (rest := []) ⟨hx, hb, hml, hown, noTs⟩ (r_X12_refuse l dC dI s.heap.size cs b u a hA1 3) ⟨cbE 1 (wd_1498 hE) (wd_126 hE) (wd_1495 hE) rfl rfl (by decide +kernel) ⟨Nat.le_of_ble_eq_true rfl, Nat.le_of_ble_eq_true rfl⟩, (wd_1497 hE), (wd_54 hE)⟩ ⟨PR.blind, r_recv hK hP rfl, (r_pre (av := [.ref (b 0), .int 3]) hK hP hJ hE)⟩ rfl rfl hl.1 rfl (lv_room (Nat.le_of_ble_eq_true rfl)) dX12_power_43 ⟨Nat.le_of_ble_eq_true rfl, Nat.le_of_ble_eq_true rfl⟩) (fun r167 u167 H locs hpo167 hP hS => ?_)
        obtain ⟨hr167, hq167⟩ := hpo167
        have hA168 := (hq167.1 1 List.not_mem_nil).trans hA1
        have hF169x := (hq167.2.1 2 (by decide)).trans hF2
        have hfr := FR.step hfr hq167 (fun _ h => absurd h List.not_mem_nil) (by decide) (fun h => rfl)
        subst hr167
        exact W.iret (v := -1) hx hb hr (fun t ht hW => ⟨⟨-1, u167, rfl, ⟨trivial, (by first | (rw [hA168]; done) | (rw [hA168]; first | assumption | omega | rfl | (congr 1; omega))), (by first | (rw [hF169x]; done) | (rw [hF169x]; refine ⟨_, ?_, rfl⟩; omega)), hfr⟩, (show va_P (dC, dI) vwCl (rW cs b u167) t.heap by rw [ht]; exact hP)⟩, hS.F ht⟩) hS.2.2 dX12_power_46
    · refine lv_if_ne (tgt := 31) hx hb dX12_power_22 (by decide) (fun c170 => absurd c170 (by decide)) (fun c170 => ?_)
      refine lv_aload_n hx hb dX12_power_25 rfl (lv_at hl 0 rfl) ?_
      refine lv_iconst (v := 2) hx hb dX12_power_26 (by decide) ?_
      refine rc_i hAL hS hA (va_runV (As := [.int 2]) (rest := []) ⟨hx, hb, hml, hown, noTs⟩ (r_X12_refuse l dC dI s.heap.size cs b u a hA1 2) ⟨cbE 1 (wd_1498 hE) (wd_126 hE) (wd_1495 hE) rfl rfl (by decide +kernel) ⟨Nat.le_of_ble_eq_true rfl, Nat.le_of_ble_eq_true rfl⟩, (wd_1497 hE), (wd_54 hE)⟩ ⟨PR.blind, r_recv hK hP rfl, (r_pre (av := [.ref (b 0), .int 2]) hK hP hJ hE)⟩ rfl rfl hl.1 rfl (lv_room (Nat.le_of_ble_eq_true rfl)) dX12_power_27 ⟨Nat.le_of_ble_eq_true rfl, Nat.le_of_ble_eq_true rfl⟩) (fun r171 u171 H locs hpo171 hP hS => ?_)
      obtain ⟨hr171, hq171⟩ := hpo171
      have hA172 := (hq171.1 1 List.not_mem_nil).trans hA1
      have hF173x := (hq171.2.1 2 (by decide)).trans hF2
      have hfr := FR.step hfr hq171 (fun _ h => absurd h List.not_mem_nil) (by decide) (fun h => rfl)
      subst hr171
      exact W.iret (v := -1) hx hb hr (fun t ht hW => ⟨⟨-1, u171, rfl, ⟨trivial, (by first | (rw [hA172]; done) | (rw [hA172]; first | assumption | omega | rfl | (congr 1; omega))), (by first | (rw [hF173x]; done) | (rw [hF173x]; refine ⟨_, ?_, rfl⟩; omega)), hfr⟩, (show va_P (dC, dI) vwCl (rW cs b u171) t.heap by rw [ht]; exact hP)⟩, hS.F ht⟩) hS.2.2 dX12_power_30
  · refine lv_if_ne (tgt := 17) hx hb dX12_power_8 (by decide) (fun c174 => absurd c174 (by decide)) (fun c174 => ?_)
    refine lv_aload_n hx hb dX12_power_11 rfl (lv_at hl 0 rfl) ?_
    refine lv_iconst (v := 1) hx hb dX12_power_12 (by decide) ?_
    refine rc_i hAL hS hA (va_runV (As := [.int 1]) (rest := []) ⟨hx, hb, hml, hown, noTs⟩ (r_X12_refuse l dC dI s.heap.size cs b u a hA1 1) ⟨cbE 1 (wd_1498 hE) (wd_126 hE) (wd_1495 hE) rfl rfl (by decide +kernel) ⟨Nat.le_of_ble_eq_true rfl, Nat.le_of_ble_eq_true rfl⟩, (wd_1497 hE), (wd_54 hE)⟩ ⟨PR.blind, r_recv hK hP rfl, (r_pre (av := [.ref (b 0), .int 1]) hK hP hJ hE)⟩ rfl rfl hl.1 rfl (lv_room (Nat.le_of_ble_eq_true rfl)) dX12_power_13 ⟨Nat.le_of_ble_eq_true rfl, Nat.le_of_ble_eq_true rfl⟩) (fun r175 u175 H locs hpo175 hP hS => ?_)
    obtain ⟨hr175, hq175⟩ := hpo175
    have hA176 := (hq175.1 1 List.not_mem_nil).trans hA1
    have hF177x := (hq175.2.1 2 (by decide)).trans hF2
    have hfr := FR.step hfr hq175 (fun _ h => absurd h List.not_mem_nil) (by decide) (fun h => rfl)
    subst hr175
    exact W.iret (v := -1) hx hb hr (fun t ht hW => ⟨⟨-1, u175, rfl, ⟨trivial, (by first | (rw [hA176]; done) | (rw [hA176]; first | assumption | omega | rfl | (congr 1; omega))), (by first | (rw [hF177x]; done) | (rw [hF177x]; refine ⟨_, ?_, rfl⟩; omega)), hfr⟩, (show va_P (dC, dI) vwCl (rW cs b u175) t.heap by rw [ht]; exact hP)⟩, hS.F ht⟩) hS.2.2 dX12_power_16

set_option maxHeartbeats 4000000 in
set_option maxRecDepth 100000 in
theorem r_X12_number_ (l : Launch) (dC : Nat → ClassId) (dI : Nat → Nat → Nat) (sz : Nat) (cs : Nat → ClassId) (b : Nat → Nat) (u : RS) (a : Nat → Int32) (hA1 : rA u 1 = a) (x : Int32) (y : Int32) (hp0 : BG a) : Met l yX12_number_ [.code yX12_number_ cX12_number_ 3 (some .int)] ({ frames := 2, cells := 0, slots := 0, locals := 80 }) (PR [.ref (b 0), .int x, .int y] sz dC dI cs b u) (va_Qi (fun (r : Int32) (u' : RS) => (True) ∧ FR [3, 4, 5, 6, 7, 8, 9, 10, 11, 12, 13, 14, 17, 18, 19, 20] [1, 5, 21, 22] true u u') (BR dC dI cs b) (AR b sz)) 0 0 (AR b sz) := by
  refine Met.ofW (cc := cX12_number_) (maxL := 3) (ret := (some .int)) (by decide) rfl ?_
  intro p e s m args below meth c s₁ B hml hv
  obtain ⟨rfl, hsz, hP, hK, hJ, hE⟩ := hv
  have hx := B.exec
  have hb := B.bytes
  have hr := B.returns
  have hown : s.vm.findClass RX12 = some m.cls := findClass_of_methodNamed B.named
  have hlocks := B.notSynchronized
  subst hsz
  have hAL : ∀ i, i < 108 → AR b s.heap.size (b i) := fun i h => Or.inl ⟨i, h, rfl⟩
  have hA : ∀ q : Nat, s.heap.size ≤ q → AR b s.heap.size q := fun q h => Or.inr h
  have hS : va_S (AR b s.heap.size) s.heap s.heap [] := va_S.rf
  have hfr : FR [3, 4, 5, 6, 7, 8, 9, 10, 11, 12, 13, 14, 17, 18, 19, 20] [1, 5, 21, 22] true u u := FR.refl
  have hl := lv_entry ([.ref (b 0), .int x, .int y]) (n := 3) (Nat.le_of_ble_eq_true rfl)
  rw [lg_entry_eq]
  generalize (lg_sl ([.ref (b 0), .int x, .int y]) ++ List.replicate (3 - (lg_sl ([.ref (b 0), .int x, .int y])).length) Slot.unset).toArray = ls at hl ⊢
  have hl : lv_has ls 3 [(0, .ref (b 0)), (1, .int x), (2, .int y)] := hl
  have hB := hp0
  have hG := bg_g hp0
  have ha1 := gg_le hG
  have ha1b := bg_w hp0
  refine lv_iload_n hx hb dX12_number__0 rfl (lv_at hl 2 rfl) ?_
  refine lv_if_ge (tgt := 10) hx hb dX12_number__1 (by decide) (fun c2 => ?_) (fun c2 => ?_)
  · have c2 := (b_le (show Int32.toInt 0 = 0 from rfl) (rfl : Int32.toInt y = _)).mp c2
    refine lv_aload_n hx hb dX12_number__10 rfl (lv_at hl 0 rfl) ?_
    refine lv_iload_n hx hb dX12_number__11 rfl (lv_at hl 1 rfl) ?_
    refine vp_callSi (va_Run.run (va_runV (As := [.int x]) (rest := []) ⟨hx, hb, hml, hown, noTs⟩ (r_X12_isWord l dC dI s.heap.size cs b u a hA1 x (by first | assumption | omega | rfl | (congr 1; omega))) ⟨cbE 1 (wd_1653 hE) (wd_126 hE) (wd_1650 hE) rfl rfl (by decide +kernel) ⟨Nat.le_of_ble_eq_true rfl, Nat.le_of_ble_eq_true rfl⟩, (wd_1652 hE), (wd_83 hE)⟩ ⟨PR.blind, r_recv hK hP rfl, (r_pre (av := [.ref (b 0), .int x]) hK hP hJ hE)⟩ rfl rfl hl.1 rfl (lv_room (Nat.le_of_ble_eq_true rfl)) dX12_number__12 ⟨Nat.le_of_ble_eq_true rfl, Nat.le_of_ble_eq_true rfl⟩)) (fun r3 hr3 => ?_)
    rcases hr3 with ⟨rfl, hb3⟩ | ⟨rfl, hb3⟩
    · obtain ⟨n3, hbe3_1, hb3⟩ := hb3
      subst hbe3_1
      have hti4 := nI_toInt (n := n3) (by omega)
      refine lv_if_ne (tgt := 24) hx hb dX12_number__15 (by decide) (fun c5 => ?_) (fun c5 => absurd c5 (by decide))
      refine lv_aload_n hx hb dX12_number__24 rfl (lv_at hl 0 rfl) ?_
      refine lv_iload_n hx hb dX12_number__25 rfl (lv_at hl 1 rfl) ?_
      refine lv_aload_n hx hb dX12_number__26 rfl (lv_at hl 0 rfl) ?_
      refine r_get (v := .ref (b 2)) hx hb (ly_X12 hE) hown hK hP rfl 4 (by decide) (wd_1385 hE) (fun _ h9 => h9) rfl dX12_number__27 ?_
      refine lv_iconst (v := 0) hx hb dX12_number__30 (by decide) ?_
      refine r_aald (j := 2) (k := 0) (n := 10) (t0 := 4) (j2 := 3) hx hb hK hP (by decide) rfl rfl (by decide) (by decide) rfl dX12_number__31 ?_
      obtain ⟨g6, hg6⟩ : ∃ g, rA u 3 = g := ⟨_, rfl⟩
      refine rc_v hAL hS hA (va_runV (As := [.int (nI n3), .ref (b 3)]) (rest := []) ⟨hx, hb, hml, hown, noTs⟩ (r_X12_takes l dC dI s.heap.size cs b u a hA1 n3 3 (by decide) g6 hg6 (by first | assumption | omega | rfl | (congr 1; omega)) (by first | assumption | omega | rfl | (congr 1; omega))) ⟨cbE 2 (wd_1657 hE) (wd_126 hE) (wd_1654 hE) rfl rfl (by decide +kernel) ⟨Nat.le_of_ble_eq_true rfl, Nat.le_of_ble_eq_true rfl⟩, (wd_1656 hE), (wd_84 hE)⟩ ⟨PR.blind, r_recv hK hP rfl, (r_pre (av := [.ref (b 0), .int (nI n3), .ref (b 3)]) hK hP hJ hE)⟩ rfl rfl hl.1 rfl (lv_room (Nat.le_of_ble_eq_true rfl)) dX12_number__32 ⟨Nat.le_of_ble_eq_true rfl, Nat.le_of_ble_eq_true rfl⟩) (fun u7 H locs hpo7 hP hS => ?_)
      obtain ⟨h7_0, h7_1, h7_2, h7_3, h7_4, h7_5, hq7⟩ := hpo7
      obtain ⟨w8, hA8⟩ : ∃ g, rA u7 3 = g := ⟨_, rfl⟩
      rw [hA8] at h7_0 h7_1 h7_2 h7_3 h7_4 h7_5
      have hA9 := (hq7.1 1 (by decide)).trans hA1
      have hfr := FR.step hfr hq7 (by decide) (fun _ h => absurd h List.not_mem_nil) (fun h => rfl)
      have hl7_0 := pg_le h7_0
      refine lv_iload_n hx hb dX12_number__35 rfl (lv_at hl 2 rfl) ?_
      refine lv_aload_n hx hb dX12_number__36 rfl (lv_at hl 0 rfl) ?_
      refine r_get (v := .ref (b 2)) hx hb (ly_X12 hE) hown hK hP rfl 4 (by decide) (wd_1385 hE) (fun _ h9 => h9) rfl dX12_number__37 ?_
      refine lv_iconst (v := 0) hx hb dX12_number__40 (by decide) ?_
      refine r_aald (j := 2) (k := 0) (n := 10) (t0 := 4) (j2 := 3) hx hb hK hP (by decide) rfl rfl (by decide) (by decide) rfl dX12_number__41 ?_
      refine lv_iconst (v := 1) hx hb dX12_number__42 (by decide) ?_
      refine r_iald (j := 3) (k := 1) (n := 200) (x := nI (rn w8)) hx hb hK hP (by decide) rfl (by decide) (by decide) (by rw [hA8]; exact pg_n h7_0) dX12_number__43 ?_
      refine lv_icmp_gt (tgt := 64) hx hb dX12_number__44 (by decide) (fun c11 => ?_) (fun c11 => ?_)
      · have c11 := (b_lt (nI_toInt (n := rn w8) (by omega)) (rfl : Int32.toInt y = _)).mp c11
        refine lv_aload_n hx hb dX12_number__64 rfl (lv_at hl 0 rfl) ?_
        refine lv_iconst (v := 5) hx hb dX12_number__65 (by decide) ?_
        refine rc_i hAL hS hA (va_runV (As := [.int 5]) (rest := []) ⟨hx, hb, hml, hown, noTs⟩ (r_X12_refuse l dC dI H.size cs b u7 a hA9 5) ⟨cbE 1 (wd_1498 hE) (wd_126 hE) (wd_1495 hE) rfl rfl (by decide +kernel) ⟨Nat.le_of_ble_eq_true rfl, Nat.le_of_ble_eq_true rfl⟩, (wd_1497 hE), (wd_54 hE)⟩ ⟨PR.blind, r_recv hK hP rfl, (r_pre (av := [.ref (b 0), .int 5]) hK hP hJ hE)⟩ rfl rfl hl.1 rfl (lv_room (Nat.le_of_ble_eq_true rfl)) dX12_number__66 ⟨Nat.le_of_ble_eq_true rfl, Nat.le_of_ble_eq_true rfl⟩) (fun r12 u12 H locs hpo12 hP hS => ?_)
        obtain ⟨hr12, hq12⟩ := hpo12
        have hA13 := (hq12.1 1 List.not_mem_nil).trans hA9
        have hA14 := (hq12.1 3 List.not_mem_nil).trans hA8
        have hfr := FR.step hfr hq12 (fun _ h => absurd h List.not_mem_nil) (by decide) (fun h => rfl)
        subst hr12
        exact W.iret (v := -1) hx hb hr (fun t ht hW => ⟨⟨-1, u12, rfl, ⟨trivial, hfr⟩, (show va_P (dC, dI) vwCl (rW cs b u12) t.heap by rw [ht]; exact hP)⟩, hS.F ht⟩) hS.2.2 dX12_number__69
      · have c11 := mt (b_lt (nI_toInt (n := rn w8) (by omega)) (rfl : Int32.toInt y = _)).mpr c11
        obtain ⟨nx15, hi15, hj15⟩ := z_ex (x := y) (n := rn w8 + 1) (by omega) (by omega)
        subst hi15
        have hti16 := nI_toInt (n := nx15) (by omega)
        refine lv_aload_n hx hb dX12_number__47 rfl (lv_at hl 0 rfl) ?_
        refine lv_aload_n hx hb dX12_number__48 rfl (lv_at hl 0 rfl) ?_
        refine r_get (v := .ref (b 2)) hx hb (ly_X12 hE) hown hK hP rfl 4 (by decide) (wd_1385 hE) (fun _ h9 => h9) rfl dX12_number__49 ?_
        refine lv_iconst (v := 0) hx hb dX12_number__52 (by decide) ?_
        refine r_aald (j := 2) (k := 0) (n := 10) (t0 := 4) (j2 := 3) hx hb hK hP (by decide) rfl rfl (by decide) (by decide) rfl dX12_number__53 ?_
        refine lv_iload_n hx hb dX12_number__54 rfl (lv_at hl 2 rfl) ?_
        refine vp_callSi (va_Run.run (va_runS (As := [.ref (b 3), .int (nI nx15)]) (rest := [.ref (b 0)]) ⟨hx, hb, hml, hown, noTs⟩ (r_X12_number l dC dI H.size cs b u7 a hA9 3 (by decide) w8 hA8 nx15 (by first | assumption | omega | rfl | (congr 1; omega))) ⟨cbE 2 (wd_1664 hE) (wd_126 hE) (wd_1662 hE) rfl rfl (by decide +kernel) ⟨Nat.le_of_ble_eq_true rfl, Nat.le_of_ble_eq_true rfl⟩, (wd_1663 hE)⟩ ⟨PR.blind, (r_pre (av := [.ref (b 3), .int (nI nx15)]) hK hP hJ hE)⟩ rfl rfl hl.1 rfl (lv_room (Nat.le_of_ble_eq_true rfl)) dX12_number__55 ⟨Nat.le_of_ble_eq_true rfl, Nat.le_of_ble_eq_true rfl⟩)) (fun r17 hr17 => ?_)
        refine rc_i hAL hS hA (va_runV (As := [.int r17]) (rest := []) ⟨hx, hb, hml, hown, noTs⟩ (r_X12_gives l dC dI H.size cs b u7 a hA9 r17) ⟨cbE 1 (wd_1621 hE) (wd_126 hE) (wd_1618 hE) rfl rfl (by decide +kernel) ⟨Nat.le_of_ble_eq_true rfl, Nat.le_of_ble_eq_true rfl⟩, (wd_1620 hE), (wd_80 hE)⟩ ⟨PR.blind, r_recv hK hP rfl, (r_pre (av := [.ref (b 0), .int r17]) hK hP hJ hE)⟩ rfl rfl hl.1 rfl (lv_room (Nat.le_of_ble_eq_true rfl)) dX12_number__58 ⟨Nat.le_of_ble_eq_true rfl, Nat.le_of_ble_eq_true rfl⟩) (fun r18 u18 H locs hpo18 hP hS => ?_)
        obtain ⟨hr18, hq18⟩ := hpo18
        have hA19 := (hq18.1 1 List.not_mem_nil).trans hA9
        have hA20 := (hq18.1 3 List.not_mem_nil).trans hA8
        have hfr := FR.step hfr hq18 (fun _ h => absurd h List.not_mem_nil) (by decide) (fun h => rfl)
        refine W.eq (g2 := F0 m 61 ls [.int r17]) (by rw [hr18]) ?_
        refine lv_goto (tgt := 69) hx hb dX12_number__61 (by decide) ?_
        exact W.iret (v := r17) hx hb hr (fun t ht hW => ⟨⟨r17, u18, rfl, ⟨trivial, hfr⟩, (show va_P (dC, dI) vwCl (rW cs b u18) t.heap by rw [ht]; exact hP)⟩, hS.F ht⟩) hS.2.2 dX12_number__69
    · refine lv_if_ne (tgt := 24) hx hb dX12_number__15 (by decide) (fun c21 => absurd c21 (by decide)) (fun c21 => ?_)
      refine lv_aload_n hx hb dX12_number__18 rfl (lv_at hl 0 rfl) ?_
      refine lv_iconst (v := 2) hx hb dX12_number__19 (by decide) ?_
      refine rc_i hAL hS hA (va_runV (As := [.int 2]) (rest := []) ⟨hx, hb, hml, hown, noTs⟩ (r_X12_refuse l dC dI s.heap.size cs b u a hA1 2) ⟨cbE 1 (wd_1498 hE) (wd_126 hE) (wd_1495 hE) rfl rfl (by decide +kernel) ⟨Nat.le_of_ble_eq_true rfl, Nat.le_of_ble_eq_true rfl⟩, (wd_1497 hE), (wd_54 hE)⟩ ⟨PR.blind, r_recv hK hP rfl, (r_pre (av := [.ref (b 0), .int 2]) hK hP hJ hE)⟩ rfl rfl hl.1 rfl (lv_room (Nat.le_of_ble_eq_true rfl)) dX12_number__20 ⟨Nat.le_of_ble_eq_true rfl, Nat.le_of_ble_eq_true rfl⟩) (fun r22 u22 H locs hpo22 hP hS => ?_)
      obtain ⟨hr22, hq22⟩ := hpo22
      have hA23 := (hq22.1 1 List.not_mem_nil).trans hA1
      have hfr := FR.step hfr hq22 (fun _ h => absurd h List.not_mem_nil) (by decide) (fun h => rfl)
      subst hr22
      exact W.iret (v := -1) hx hb hr (fun t ht hW => ⟨⟨-1, u22, rfl, ⟨trivial, hfr⟩, (show va_P (dC, dI) vwCl (rW cs b u22) t.heap by rw [ht]; exact hP)⟩, hS.F ht⟩) hS.2.2 dX12_number__23
  · have c2 := mt (b_le (show Int32.toInt 0 = 0 from rfl) (rfl : Int32.toInt y = _)).mpr c2
    refine lv_aload_n hx hb dX12_number__4 rfl (lv_at hl 0 rfl) ?_
    refine lv_iconst (v := 1) hx hb dX12_number__5 (by decide) ?_
    refine rc_i hAL hS hA (va_runV (As := [.int 1]) (rest := []) ⟨hx, hb, hml, hown, noTs⟩ (r_X12_refuse l dC dI s.heap.size cs b u a hA1 1) ⟨cbE 1 (wd_1498 hE) (wd_126 hE) (wd_1495 hE) rfl rfl (by decide +kernel) ⟨Nat.le_of_ble_eq_true rfl, Nat.le_of_ble_eq_true rfl⟩, (wd_1497 hE), (wd_54 hE)⟩ ⟨PR.blind, r_recv hK hP rfl, (r_pre (av := [.ref (b 0), .int 1]) hK hP hJ hE)⟩ rfl rfl hl.1 rfl (lv_room (Nat.le_of_ble_eq_true rfl)) dX12_number__6 ⟨Nat.le_of_ble_eq_true rfl, Nat.le_of_ble_eq_true rfl⟩) (fun r24 u24 H locs hpo24 hP hS => ?_)
    obtain ⟨hr24, hq24⟩ := hpo24
    have hA25 := (hq24.1 1 List.not_mem_nil).trans hA1
    have hfr := FR.step hfr hq24 (fun _ h => absurd h List.not_mem_nil) (by decide) (fun h => rfl)
    subst hr24
    exact W.iret (v := -1) hx hb hr (fun t ht hW => ⟨⟨-1, u24, rfl, ⟨trivial, hfr⟩, (show va_P (dC, dI) vwCl (rW cs b u24) t.heap by rw [ht]; exact hP)⟩, hS.F ht⟩) hS.2.2 dX12_number__9

set_option maxHeartbeats 4000000 in
set_option maxRecDepth 100000 in
theorem r_X12_step_ (l : Launch) (dC : Nat → ClassId) (dI : Nat → Nat → Nat) (sz : Nat) (cs : Nat → ClassId) (b : Nat → Nat) (u : RS) (a : Nat → Int32) (hA1 : rA u 1 = a) (x : Int32) (y : Int32) (hp0 : BG a) : Met l yX12_step_ [.code yX12_step_ cX12_step_ 3 (some .int)] ({ frames := 2, cells := 0, slots := 0, locals := 80 }) (PR [.ref (b 0), .int x, .int y] sz dC dI cs b u) (va_Qi (fun (r : Int32) (u' : RS) => (True) ∧ FR [3, 4, 5, 6, 7, 8, 9, 10, 11, 12, 13, 14, 17, 18, 19, 20] [1, 5, 21, 22] true u u') (BR dC dI cs b) (AR b sz)) 0 0 (AR b sz) := by
  refine Met.ofW (cc := cX12_step_) (maxL := 3) (ret := (some .int)) (by decide) rfl ?_
  intro p e s m args below meth c s₁ B hml hv
  obtain ⟨rfl, hsz, hP, hK, hJ, hE⟩ := hv
  have hx := B.exec
  have hb := B.bytes
  have hr := B.returns
  have hown : s.vm.findClass RX12 = some m.cls := findClass_of_methodNamed B.named
  have hlocks := B.notSynchronized
  subst hsz
  have hAL : ∀ i, i < 108 → AR b s.heap.size (b i) := fun i h => Or.inl ⟨i, h, rfl⟩
  have hA : ∀ q : Nat, s.heap.size ≤ q → AR b s.heap.size q := fun q h => Or.inr h
  have hS : va_S (AR b s.heap.size) s.heap s.heap [] := va_S.rf
  have hfr : FR [3, 4, 5, 6, 7, 8, 9, 10, 11, 12, 13, 14, 17, 18, 19, 20] [1, 5, 21, 22] true u u := FR.refl
  have hl := lv_entry ([.ref (b 0), .int x, .int y]) (n := 3) (Nat.le_of_ble_eq_true rfl)
  rw [lg_entry_eq]
  generalize (lg_sl ([.ref (b 0), .int x, .int y]) ++ List.replicate (3 - (lg_sl ([.ref (b 0), .int x, .int y])).length) Slot.unset).toArray = ls at hl ⊢
  have hl : lv_has ls 3 [(0, .ref (b 0)), (1, .int x), (2, .int y)] := hl
  have hB := hp0
  have hG := bg_g hp0
  have ha1 := gg_le hG
  have ha1b := bg_w hp0
  refine lv_iload_n hx hb dX12_step__0 rfl (lv_at hl 2 rfl) ?_
  refine lv_if_ge (tgt := 10) hx hb dX12_step__1 (by decide) (fun c2 => ?_) (fun c2 => ?_)
  · have c2 := (b_le (show Int32.toInt 0 = 0 from rfl) (rfl : Int32.toInt y = _)).mp c2
    refine lv_aload_n hx hb dX12_step__10 rfl (lv_at hl 0 rfl) ?_
    refine lv_iload_n hx hb dX12_step__11 rfl (lv_at hl 1 rfl) ?_
    refine vp_callSi (va_Run.run (va_runV (As := [.int x]) (rest := []) ⟨hx, hb, hml, hown, noTs⟩ (r_X12_isWord l dC dI s.heap.size cs b u a hA1 x (by first | assumption | omega | rfl | (congr 1; omega))) ⟨cbE 1 (wd_1653 hE) (wd_126 hE) (wd_1650 hE) rfl rfl (by decide +kernel) ⟨Nat.le_of_ble_eq_true rfl, Nat.le_of_ble_eq_true rfl⟩, (wd_1652 hE), (wd_83 hE)⟩ ⟨PR.blind, r_recv hK hP rfl, (r_pre (av := [.ref (b 0), .int x]) hK hP hJ hE)⟩ rfl rfl hl.1 rfl (lv_room (Nat.le_of_ble_eq_true rfl)) dX12_step__12 ⟨Nat.le_of_ble_eq_true rfl, Nat.le_of_ble_eq_true rfl⟩)) (fun r3 hr3 => ?_)
    rcases hr3 with ⟨rfl, hb3⟩ | ⟨rfl, hb3⟩
    · obtain ⟨n3, hbe3_1, hb3⟩ := hb3
      subst hbe3_1
      have hti4 := nI_toInt (n := n3) (by omega)
      refine lv_if_ne (tgt := 24) hx hb dX12_step__15 (by decide) (fun c5 => ?_) (fun c5 => absurd c5 (by decide))
      refine lv_aload_n hx hb dX12_step__24 rfl (lv_at hl 0 rfl) ?_
      refine lv_iload_n hx hb dX12_step__25 rfl (lv_at hl 1 rfl) ?_
      refine lv_aload_n hx hb dX12_step__26 rfl (lv_at hl 0 rfl) ?_
      refine r_get (v := .ref (b 2)) hx hb (ly_X12 hE) hown hK hP rfl 4 (by decide) (wd_1385 hE) (fun _ h9 => h9) rfl dX12_step__27 ?_
      refine lv_iconst (v := 0) hx hb dX12_step__30 (by decide) ?_
      refine r_aald (j := 2) (k := 0) (n := 10) (t0 := 4) (j2 := 3) hx hb hK hP (by decide) rfl rfl (by decide) (by decide) rfl dX12_step__31 ?_
      obtain ⟨g6, hg6⟩ : ∃ g, rA u 3 = g := ⟨_, rfl⟩
      refine rc_v hAL hS hA (va_runV (As := [.int (nI n3), .ref (b 3)]) (rest := []) ⟨hx, hb, hml, hown, noTs⟩ (r_X12_takes l dC dI s.heap.size cs b u a hA1 n3 3 (by decide) g6 hg6 (by first | assumption | omega | rfl | (congr 1; omega)) (by first | assumption | omega | rfl | (congr 1; omega))) ⟨cbE 2 (wd_1657 hE) (wd_126 hE) (wd_1654 hE) rfl rfl (by decide +kernel) ⟨Nat.le_of_ble_eq_true rfl, Nat.le_of_ble_eq_true rfl⟩, (wd_1656 hE), (wd_84 hE)⟩ ⟨PR.blind, r_recv hK hP rfl, (r_pre (av := [.ref (b 0), .int (nI n3), .ref (b 3)]) hK hP hJ hE)⟩ rfl rfl hl.1 rfl (lv_room (Nat.le_of_ble_eq_true rfl)) dX12_step__32 ⟨Nat.le_of_ble_eq_true rfl, Nat.le_of_ble_eq_true rfl⟩) (fun u7 H locs hpo7 hP hS => ?_)
      obtain ⟨h7_0, h7_1, h7_2, h7_3, h7_4, h7_5, hq7⟩ := hpo7
      obtain ⟨w8, hA8⟩ : ∃ g, rA u7 3 = g := ⟨_, rfl⟩
      rw [hA8] at h7_0 h7_1 h7_2 h7_3 h7_4 h7_5
      have hA9 := (hq7.1 1 (by decide)).trans hA1
      have hfr := FR.step hfr hq7 (by decide) (fun _ h => absurd h List.not_mem_nil) (fun h => rfl)
      have hl7_0 := pg_le h7_0
      refine lv_iload_n hx hb dX12_step__35 rfl (lv_at hl 2 rfl) ?_
      refine lv_aload_n hx hb dX12_step__36 rfl (lv_at hl 0 rfl) ?_
      refine r_get (v := .ref (b 2)) hx hb (ly_X12 hE) hown hK hP rfl 4 (by decide) (wd_1385 hE) (fun _ h9 => h9) rfl dX12_step__37 ?_
      refine lv_iconst (v := 0) hx hb dX12_step__40 (by decide) ?_
      refine r_aald (j := 2) (k := 0) (n := 10) (t0 := 4) (j2 := 3) hx hb hK hP (by decide) rfl rfl (by decide) (by decide) rfl dX12_step__41 ?_
      refine lv_iconst (v := 1) hx hb dX12_step__42 (by decide) ?_
      refine r_iald (j := 3) (k := 1) (n := 200) (x := nI (rn w8)) hx hb hK hP (by decide) rfl (by decide) (by decide) (by rw [hA8]; exact pg_n h7_0) dX12_step__43 ?_
      refine lv_icmp_ge (tgt := 64) hx hb dX12_step__44 (by decide) (fun c11 => ?_) (fun c11 => ?_)
      · have c11 := (b_le (nI_toInt (n := rn w8) (by omega)) (rfl : Int32.toInt y = _)).mp c11
        refine lv_aload_n hx hb dX12_step__64 rfl (lv_at hl 0 rfl) ?_
        refine lv_iconst (v := 5) hx hb dX12_step__65 (by decide) ?_
        refine rc_i hAL hS hA (va_runV (As := [.int 5]) (rest := []) ⟨hx, hb, hml, hown, noTs⟩ (r_X12_refuse l dC dI H.size cs b u7 a hA9 5) ⟨cbE 1 (wd_1498 hE) (wd_126 hE) (wd_1495 hE) rfl rfl (by decide +kernel) ⟨Nat.le_of_ble_eq_true rfl, Nat.le_of_ble_eq_true rfl⟩, (wd_1497 hE), (wd_54 hE)⟩ ⟨PR.blind, r_recv hK hP rfl, (r_pre (av := [.ref (b 0), .int 5]) hK hP hJ hE)⟩ rfl rfl hl.1 rfl (lv_room (Nat.le_of_ble_eq_true rfl)) dX12_step__66 ⟨Nat.le_of_ble_eq_true rfl, Nat.le_of_ble_eq_true rfl⟩) (fun r12 u12 H locs hpo12 hP hS => ?_)
        obtain ⟨hr12, hq12⟩ := hpo12
        have hA13 := (hq12.1 1 List.not_mem_nil).trans hA9
        have hA14 := (hq12.1 3 List.not_mem_nil).trans hA8
        have hfr := FR.step hfr hq12 (fun _ h => absurd h List.not_mem_nil) (by decide) (fun h => rfl)
        subst hr12
        exact W.iret (v := -1) hx hb hr (fun t ht hW => ⟨⟨-1, u12, rfl, ⟨trivial, hfr⟩, (show va_P (dC, dI) vwCl (rW cs b u12) t.heap by rw [ht]; exact hP)⟩, hS.F ht⟩) hS.2.2 dX12_step__69
      · have c11 := mt (b_le (nI_toInt (n := rn w8) (by omega)) (rfl : Int32.toInt y = _)).mpr c11
        obtain ⟨nx15, hi15, hj15⟩ := z_ex (x := y) (n := rn w8) (by omega) (by omega)
        subst hi15
        have hti16 := nI_toInt (n := nx15) (by omega)
        refine lv_aload_n hx hb dX12_step__47 rfl (lv_at hl 0 rfl) ?_
        refine lv_aload_n hx hb dX12_step__48 rfl (lv_at hl 0 rfl) ?_
        refine r_get (v := .ref (b 2)) hx hb (ly_X12 hE) hown hK hP rfl 4 (by decide) (wd_1385 hE) (fun _ h9 => h9) rfl dX12_step__49 ?_
        refine lv_iconst (v := 0) hx hb dX12_step__52 (by decide) ?_
        refine r_aald (j := 2) (k := 0) (n := 10) (t0 := 4) (j2 := 3) hx hb hK hP (by decide) rfl rfl (by decide) (by decide) rfl dX12_step__53 ?_
        refine lv_iload_n hx hb dX12_step__54 rfl (lv_at hl 2 rfl) ?_
        refine vp_callSi (va_Run.run (va_runS (As := [.ref (b 3), .int (nI nx15)]) (rest := [.ref (b 0)]) ⟨hx, hb, hml, hown, noTs⟩ (r_X12_step l dC dI H.size cs b u7 a hA9 3 (by decide) w8 hA8 nx15 (by first | assumption | omega | rfl | (congr 1; omega)) (by first | assumption | omega | rfl | (congr 1; omega))) ⟨cbE 2 (wd_1602 hE) (wd_126 hE) (wd_1600 hE) rfl rfl (by decide +kernel) ⟨Nat.le_of_ble_eq_true rfl, Nat.le_of_ble_eq_true rfl⟩, (wd_1601 hE)⟩ ⟨PR.blind, (r_pre (av := [.ref (b 3), .int (nI nx15)]) hK hP hJ hE)⟩ rfl rfl hl.1 rfl (lv_room (Nat.le_of_ble_eq_true rfl)) dX12_step__55 ⟨Nat.le_of_ble_eq_true rfl, Nat.le_of_ble_eq_true rfl⟩)) (fun r17 hr17 => ?_)
        have hau17 := pg_sl (a := a) (w := w8) (i := nx15) (by assumption) (by first | assumption | omega)
        subst hr17
        refine rc_i hAL hS hA (va_runV (As := [.int (nI (rs w8 nx15))]) (rest := []) ⟨hx, hb, hml, hown, noTs⟩ (r_X12_gives l dC dI H.size cs b u7 a hA9 (nI (rs w8 nx15))) ⟨cbE 1 (wd_1621 hE) (wd_126 hE) (wd_1618 hE) rfl rfl (by decide +kernel) ⟨Nat.le_of_ble_eq_true rfl, Nat.le_of_ble_eq_true rfl⟩, (wd_1620 hE), (wd_80 hE)⟩ ⟨PR.blind, r_recv hK hP rfl, (r_pre (av := [.ref (b 0), .int (nI (rs w8 nx15))]) hK hP hJ hE)⟩ rfl rfl hl.1 rfl (lv_room (Nat.le_of_ble_eq_true rfl)) dX12_step__58 ⟨Nat.le_of_ble_eq_true rfl, Nat.le_of_ble_eq_true rfl⟩) (fun r18 u18 H locs hpo18 hP hS => ?_)
        obtain ⟨hr18, hq18⟩ := hpo18
        have hA19 := (hq18.1 1 List.not_mem_nil).trans hA9
        have hA20 := (hq18.1 3 List.not_mem_nil).trans hA8
        have hfr := FR.step hfr hq18 (fun _ h => absurd h List.not_mem_nil) (by decide) (fun h => rfl)
        refine W.eq (g2 := F0 m 61 ls [.int (nI (rs w8 nx15))]) (by rw [hr18]) ?_
        refine lv_goto (tgt := 69) hx hb dX12_step__61 (by decide) ?_
        exact W.iret (v := nI (rs w8 nx15)) hx hb hr (fun t ht hW => ⟨⟨nI (rs w8 nx15), u18, rfl, ⟨trivial, hfr⟩, (show va_P (dC, dI) vwCl (rW cs b u18) t.heap by rw [ht]; exact hP)⟩, hS.F ht⟩) hS.2.2 dX12_step__69
    · refine lv_if_ne (tgt := 24) hx hb dX12_step__15 (by decide) (fun c21 => absurd c21 (by decide)) (fun c21 => ?_)
      refine lv_aload_n hx hb dX12_step__18 rfl (lv_at hl 0 rfl) ?_
      refine lv_iconst (v := 2) hx hb dX12_step__19 (by decide) ?_
      refine rc_i hAL hS hA (va_runV (As := [.int 2]) (rest := []) ⟨hx, hb, hml, hown, noTs⟩ (r_X12_refuse l dC dI s.heap.size cs b u a hA1 2) ⟨cbE 1 (wd_1498 hE) (wd_126 hE) (wd_1495 hE) rfl rfl (by decide +kernel) ⟨Nat.le_of_ble_eq_true rfl, Nat.le_of_ble_eq_true rfl⟩, (wd_1497 hE), (wd_54 hE)⟩ ⟨PR.blind, r_recv hK hP rfl, (r_pre (av := [.ref (b 0), .int 2]) hK hP hJ hE)⟩ rfl rfl hl.1 rfl (lv_room (Nat.le_of_ble_eq_true rfl)) dX12_step__20 ⟨Nat.le_of_ble_eq_true rfl, Nat.le_of_ble_eq_true rfl⟩) (fun r22 u22 H locs hpo22 hP hS => ?_)
      obtain ⟨hr22, hq22⟩ := hpo22
      have hA23 := (hq22.1 1 List.not_mem_nil).trans hA1
      have hfr := FR.step hfr hq22 (fun _ h => absurd h List.not_mem_nil) (by decide) (fun h => rfl)
      subst hr22
      exact W.iret (v := -1) hx hb hr (fun t ht hW => ⟨⟨-1, u22, rfl, ⟨trivial, hfr⟩, (show va_P (dC, dI) vwCl (rW cs b u22) t.heap by rw [ht]; exact hP)⟩, hS.F ht⟩) hS.2.2 dX12_step__23
  · have c2 := mt (b_le (show Int32.toInt 0 = 0 from rfl) (rfl : Int32.toInt y = _)).mpr c2
    refine lv_aload_n hx hb dX12_step__4 rfl (lv_at hl 0 rfl) ?_
    refine lv_iconst (v := 1) hx hb dX12_step__5 (by decide) ?_
    refine rc_i hAL hS hA (va_runV (As := [.int 1]) (rest := []) ⟨hx, hb, hml, hown, noTs⟩ (r_X12_refuse l dC dI s.heap.size cs b u a hA1 1) ⟨cbE 1 (wd_1498 hE) (wd_126 hE) (wd_1495 hE) rfl rfl (by decide +kernel) ⟨Nat.le_of_ble_eq_true rfl, Nat.le_of_ble_eq_true rfl⟩, (wd_1497 hE), (wd_54 hE)⟩ ⟨PR.blind, r_recv hK hP rfl, (r_pre (av := [.ref (b 0), .int 1]) hK hP hJ hE)⟩ rfl rfl hl.1 rfl (lv_room (Nat.le_of_ble_eq_true rfl)) dX12_step__6 ⟨Nat.le_of_ble_eq_true rfl, Nat.le_of_ble_eq_true rfl⟩) (fun r24 u24 H locs hpo24 hP hS => ?_)
    obtain ⟨hr24, hq24⟩ := hpo24
    have hA25 := (hq24.1 1 List.not_mem_nil).trans hA1
    have hfr := FR.step hfr hq24 (fun _ h => absurd h List.not_mem_nil) (by decide) (fun h => rfl)
    subst hr24
    exact W.iret (v := -1) hx hb hr (fun t ht hW => ⟨⟨-1, u24, rfl, ⟨trivial, hfr⟩, (show va_P (dC, dI) vwCl (rW cs b u24) t.heap by rw [ht]; exact hP)⟩, hS.F ht⟩) hS.2.2 dX12_step__9

set_option maxHeartbeats 4000000 in
set_option maxRecDepth 100000 in
theorem r_X12_areAlike (l : Launch) (dC : Nat → ClassId) (dI : Nat → Nat → Nat) (sz : Nat) (cs : Nat → ClassId) (b : Nat → Nat) (u : RS) (a : Nat → Int32) (hA1 : rA u 1 = a) (wd : Nat) (we : Nat) (hp0 : BG a) (hp1 : wd < wN a) (hp2 : we < wN a) : Met l yX12_areAlike [.code yX12_areAlike cX12_areAlike 3 (some .boolean)] ({ frames := 5, cells := 0, slots := 0, locals := 200 }) (PR [.ref (b 0), .int (nI wd), .int (nI we)] sz dC dI cs b u) (va_Qi (fun (r : Int32) (u' : RS) => ((r = 1 ∧ (True)) ∨ (r = 0 ∧ (True))) ∧ FR [3, 4, 5, 6] [5] false u u') (BR dC dI cs b) (AR b sz)) 0 0 (AR b sz) := by
  refine Met.ofW (cc := cX12_areAlike) (maxL := 3) (ret := (some .boolean)) (by decide) rfl ?_
  intro p e s m args below meth c s₁ B hml hv
  obtain ⟨rfl, hsz, hP, hK, hJ, hE⟩ := hv
  have hx := B.exec
  have hb := B.bytes
  have hr := B.returns
  have hown : s.vm.findClass RX12 = some m.cls := findClass_of_methodNamed B.named
  have hlocks := B.notSynchronized
  subst hsz
  have hAL : ∀ i, i < 108 → AR b s.heap.size (b i) := fun i h => Or.inl ⟨i, h, rfl⟩
  have hA : ∀ q : Nat, s.heap.size ≤ q → AR b s.heap.size q := fun q h => Or.inr h
  have hS : va_S (AR b s.heap.size) s.heap s.heap [] := va_S.rf
  have hfr : FR [3, 4, 5, 6] [5] false u u := FR.refl
  have hl := lv_entry ([.ref (b 0), .int (nI wd), .int (nI we)]) (n := 3) (Nat.le_of_ble_eq_true rfl)
  rw [lg_entry_eq]
  generalize (lg_sl ([.ref (b 0), .int (nI wd), .int (nI we)]) ++ List.replicate (3 - (lg_sl ([.ref (b 0), .int (nI wd), .int (nI we)])).length) Slot.unset).toArray = ls at hl ⊢
  have hl : lv_has ls 3 [(0, .ref (b 0)), (1, .int (nI wd)), (2, .int (nI we))] := hl
  have hB := hp0
  have hG := bg_g hp0
  have ha1 := gg_le hG
  have ha1b := bg_w hp0
  refine lv_aload_n hx hb dX12_areAlike_0 rfl (lv_at hl 0 rfl) ?_
  refine lv_iload_n hx hb dX12_areAlike_1 rfl (lv_at hl 1 rfl) ?_
  refine lv_aload_n hx hb dX12_areAlike_2 rfl (lv_at hl 0 rfl) ?_
  refine r_get (v := .ref (b 2)) hx hb (ly_X12 hE) hown hK hP rfl 4 (by decide) (wd_1385 hE) (fun _ h9 => h9) rfl dX12_areAlike_3 ?_
  refine lv_iconst (v := 0) hx hb dX12_areAlike_6 (by decide) ?_
  refine r_aald (j := 2) (k := 0) (n := 10) (t0 := 4) (j2 := 3) hx hb hK hP (by decide) rfl rfl (by decide) (by decide) rfl dX12_areAlike_7 ?_
  obtain ⟨g4, hg4⟩ : ∃ g, rA u 3 = g := ⟨_, rfl⟩
  refine rc_v hAL hS hA (va_runV (As := [.int (nI wd), .ref (b 3)]) (rest := []) ⟨hx, hb, hml, hown, noTs⟩ (r_X12_takes l dC dI s.heap.size cs b u a hA1 wd 3 (by decide) g4 hg4 (by first | assumption | omega | rfl | (congr 1; omega)) (by first | assumption | omega | rfl | (congr 1; omega))) ⟨cbE 2 (wd_1657 hE) (wd_126 hE) (wd_1654 hE) rfl rfl (by decide +kernel) ⟨Nat.le_of_ble_eq_true rfl, Nat.le_of_ble_eq_true rfl⟩, (wd_1656 hE), (wd_84 hE)⟩ ⟨PR.blind, r_recv hK hP rfl, (r_pre (av := [.ref (b 0), .int (nI wd), .ref (b 3)]) hK hP hJ hE)⟩ rfl rfl hl.1 rfl (lv_room (Nat.le_of_ble_eq_true rfl)) dX12_areAlike_8 ⟨Nat.le_of_ble_eq_true rfl, Nat.le_of_ble_eq_true rfl⟩) (fun u5 H locs hpo5 hP hS => ?_)
  obtain ⟨h5_0, h5_1, h5_2, h5_3, h5_4, h5_5, hq5⟩ := hpo5
  obtain ⟨w6, hA6⟩ : ∃ g, rA u5 3 = g := ⟨_, rfl⟩
  rw [hA6] at h5_0 h5_1 h5_2 h5_3 h5_4 h5_5
  have hA7 := (hq5.1 1 (by decide)).trans hA1
  have hfr := FR.step hfr hq5 (by decide) (fun _ h => absurd h List.not_mem_nil) (fun h => rfl)
  have hl5_0 := pg_le h5_0
  refine lv_aload_n hx hb dX12_areAlike_11 rfl (lv_at hl 0 rfl) ?_
  refine lv_iload_n hx hb dX12_areAlike_12 rfl (lv_at hl 2 rfl) ?_
  refine lv_aload_n hx hb dX12_areAlike_13 rfl (lv_at hl 0 rfl) ?_
  refine r_get (v := .ref (b 2)) hx hb (ly_X12 hE) hown hK hP rfl 4 (by decide) (wd_1385 hE) (fun _ h9 => h9) rfl dX12_areAlike_14 ?_
  refine lv_iconst (v := 1) hx hb dX12_areAlike_17 (by decide) ?_
  refine r_aald (j := 2) (k := 1) (n := 10) (t0 := 4) (j2 := 4) hx hb hK hP (by decide) rfl rfl (by decide) (by decide) rfl dX12_areAlike_18 ?_
  obtain ⟨g8, hg8⟩ : ∃ g, rA u5 4 = g := ⟨_, rfl⟩
  refine rc_v hAL hS hA (va_runV (As := [.int (nI we), .ref (b 4)]) (rest := []) ⟨hx, hb, hml, hown, noTs⟩ (r_X12_takes l dC dI H.size cs b u5 a hA7 we 4 (by decide) g8 hg8 (by first | assumption | omega | rfl | (congr 1; omega)) (by first | assumption | omega | rfl | (congr 1; omega))) ⟨cbE 2 (wd_1657 hE) (wd_126 hE) (wd_1654 hE) rfl rfl (by decide +kernel) ⟨Nat.le_of_ble_eq_true rfl, Nat.le_of_ble_eq_true rfl⟩, (wd_1656 hE), (wd_84 hE)⟩ ⟨PR.blind, r_recv hK hP rfl, (r_pre (av := [.ref (b 0), .int (nI we), .ref (b 4)]) hK hP hJ hE)⟩ rfl rfl hl.1 rfl (lv_room (Nat.le_of_ble_eq_true rfl)) dX12_areAlike_19 ⟨Nat.le_of_ble_eq_true rfl, Nat.le_of_ble_eq_true rfl⟩) (fun u9 H locs hpo9 hP hS => ?_)
  obtain ⟨h9_0, h9_1, h9_2, h9_3, h9_4, h9_5, hq9⟩ := hpo9
  obtain ⟨w10, hA10⟩ : ∃ g, rA u9 4 = g := ⟨_, rfl⟩
  rw [hA10] at h9_0 h9_1 h9_2 h9_3 h9_4 h9_5
  have hA11 := (hq9.1 1 (by decide)).trans hA7
  have hA12 := (hq9.1 3 (by decide)).trans hA6
  have hfr := FR.step hfr hq9 (by decide) (fun _ h => absurd h List.not_mem_nil) (fun h => rfl)
  have hl9_0 := pg_le h9_0
  refine lv_aload_n hx hb dX12_areAlike_22 rfl (lv_at hl 0 rfl) ?_
  refine lv_aload_n hx hb dX12_areAlike_23 rfl (lv_at hl 0 rfl) ?_
  refine r_get (v := .ref (b 2)) hx hb (ly_X12 hE) hown hK hP rfl 4 (by decide) (wd_1385 hE) (fun _ h9 => h9) rfl dX12_areAlike_24 ?_
  refine lv_iconst (v := 0) hx hb dX12_areAlike_27 (by decide) ?_
  refine r_aald (j := 2) (k := 0) (n := 10) (t0 := 4) (j2 := 3) hx hb hK hP (by decide) rfl rfl (by decide) (by decide) rfl dX12_areAlike_28 ?_
  refine lv_aload_n hx hb dX12_areAlike_29 rfl (lv_at hl 0 rfl) ?_
  refine r_get (v := .ref (b 2)) hx hb (ly_X12 hE) hown hK hP rfl 4 (by decide) (wd_1385 hE) (fun _ h9 => h9) rfl dX12_areAlike_30 ?_
  refine lv_iconst (v := 2) hx hb dX12_areAlike_33 (by decide) ?_
  refine r_aald (j := 2) (k := 2) (n := 10) (t0 := 4) (j2 := 5) hx hb hK hP (by decide) rfl rfl (by decide) (by decide) rfl dX12_areAlike_34 ?_
  obtain ⟨g13, hg13⟩ : ∃ g, rA u9 5 = g := ⟨_, rfl⟩
  refine rc_v hAL hS hA (va_runV (As := [.ref (b 3), .ref (b 5)]) (rest := []) ⟨hx, hb, hml, hown, noTs⟩ (r_X12_forms l dC dI H.size cs b u9 a hA11 3 (by decide) w6 hA12 5 (by decide) g13 hg13 (by first | assumption | omega | rfl | (congr 1; omega)) (by first | assumption | omega | rfl | (congr 1; omega)) (by first | assumption | omega | rfl | (congr 1; omega)) (by first | assumption | omega | rfl | (congr 1; omega))) ⟨cbE 2 (wd_1661 hE) (wd_126 hE) (wd_1658 hE) rfl rfl (by decide +kernel) ⟨Nat.le_of_ble_eq_true rfl, Nat.le_of_ble_eq_true rfl⟩, (wd_1660 hE), (wd_85 hE)⟩ ⟨PR.blind, r_recv hK hP rfl, (r_pre (av := [.ref (b 0), .ref (b 3), .ref (b 5)]) hK hP hJ hE)⟩ rfl rfl hl.1 rfl (lv_room (Nat.le_of_ble_eq_true rfl)) dX12_areAlike_35 ⟨Nat.le_of_ble_eq_true rfl, Nat.le_of_ble_eq_true rfl⟩) (fun u14 H locs hpo14 hP hS => ?_)
  obtain ⟨h14_0, h14_1, h14_2, h14_3, h14_4, hq14⟩ := hpo14
  obtain ⟨w15, hA15⟩ : ∃ g, rA u14 5 = g := ⟨_, rfl⟩
  rw [hA15] at h14_0 h14_1 h14_2 h14_3 h14_4
  have hA16 := (hq14.1 1 (by decide)).trans hA11
  have hA17 := (hq14.1 3 (by decide)).trans hA12
  have hA18 := (hq14.1 4 (by decide)).trans hA10
  have hfr := FR.step hfr hq14 (by decide) (by decide) (fun h => rfl)
  have hl14_0 := pg_le h14_0
  refine lv_aload_n hx hb dX12_areAlike_38 rfl (lv_at hl 0 rfl) ?_
  refine lv_aload_n hx hb dX12_areAlike_39 rfl (lv_at hl 0 rfl) ?_
  refine r_get (v := .ref (b 2)) hx hb (ly_X12 hE) hown hK hP rfl 4 (by decide) (wd_1385 hE) (fun _ h9 => h9) rfl dX12_areAlike_40 ?_
  refine lv_iconst (v := 1) hx hb dX12_areAlike_43 (by decide) ?_
  refine r_aald (j := 2) (k := 1) (n := 10) (t0 := 4) (j2 := 4) hx hb hK hP (by decide) rfl rfl (by decide) (by decide) rfl dX12_areAlike_44 ?_
  refine lv_aload_n hx hb dX12_areAlike_45 rfl (lv_at hl 0 rfl) ?_
  refine r_get (v := .ref (b 2)) hx hb (ly_X12 hE) hown hK hP rfl 4 (by decide) (wd_1385 hE) (fun _ h9 => h9) rfl dX12_areAlike_46 ?_
  refine lv_iconst (v := 3) hx hb dX12_areAlike_49 (by decide) ?_
  refine r_aald (j := 2) (k := 3) (n := 10) (t0 := 4) (j2 := 6) hx hb hK hP (by decide) rfl rfl (by decide) (by decide) rfl dX12_areAlike_50 ?_
  obtain ⟨g19, hg19⟩ : ∃ g, rA u14 6 = g := ⟨_, rfl⟩
  refine rc_v hAL hS hA (va_runV (As := [.ref (b 4), .ref (b 6)]) (rest := []) ⟨hx, hb, hml, hown, noTs⟩ (r_X12_forms l dC dI H.size cs b u14 a hA16 4 (by decide) w10 hA18 6 (by decide) g19 hg19 (by first | assumption | omega | rfl | (congr 1; omega)) (by first | assumption | omega | rfl | (congr 1; omega)) (by first | assumption | omega | rfl | (congr 1; omega)) (by first | assumption | omega | rfl | (congr 1; omega))) ⟨cbE 2 (wd_1661 hE) (wd_126 hE) (wd_1658 hE) rfl rfl (by decide +kernel) ⟨Nat.le_of_ble_eq_true rfl, Nat.le_of_ble_eq_true rfl⟩, (wd_1660 hE), (wd_85 hE)⟩ ⟨PR.blind, r_recv hK hP rfl, (r_pre (av := [.ref (b 0), .ref (b 4), .ref (b 6)]) hK hP hJ hE)⟩ rfl rfl hl.1 rfl (lv_room (Nat.le_of_ble_eq_true rfl)) dX12_areAlike_51 ⟨Nat.le_of_ble_eq_true rfl, Nat.le_of_ble_eq_true rfl⟩) (fun u20 H locs hpo20 hP hS => ?_)
  obtain ⟨h20_0, h20_1, h20_2, h20_3, h20_4, hq20⟩ := hpo20
  obtain ⟨w21, hA21⟩ : ∃ g, rA u20 6 = g := ⟨_, rfl⟩
  rw [hA21] at h20_0 h20_1 h20_2 h20_3 h20_4
  have hA22 := (hq20.1 1 (by decide)).trans hA16
  have hA23 := (hq20.1 3 (by decide)).trans hA17
  have hA24 := (hq20.1 4 (by decide)).trans hA18
  have hA25 := (hq20.1 5 (by decide)).trans hA15
  have hfr := FR.step hfr hq20 (by decide) (by decide) (fun h => rfl)
  have hl20_0 := pg_le h20_0
  refine lv_aload_n hx hb dX12_areAlike_54 rfl (lv_at hl 0 rfl) ?_
  refine r_get (v := .ref (b 2)) hx hb (ly_X12 hE) hown hK hP rfl 4 (by decide) (wd_1385 hE) (fun _ h9 => h9) rfl dX12_areAlike_55 ?_
  refine lv_iconst (v := 2) hx hb dX12_areAlike_58 (by decide) ?_
  refine r_aald (j := 2) (k := 2) (n := 10) (t0 := 4) (j2 := 5) hx hb hK hP (by decide) rfl rfl (by decide) (by decide) rfl dX12_areAlike_59 ?_
  refine lv_aload_n hx hb dX12_areAlike_60 rfl (lv_at hl 0 rfl) ?_
  refine r_get (v := .ref (b 2)) hx hb (ly_X12 hE) hown hK hP rfl 4 (by decide) (wd_1385 hE) (fun _ h9 => h9) rfl dX12_areAlike_61 ?_
  refine lv_iconst (v := 3) hx hb dX12_areAlike_64 (by decide) ?_
  refine r_aald (j := 2) (k := 3) (n := 10) (t0 := 4) (j2 := 6) hx hb hK hP (by decide) rfl rfl (by decide) (by decide) rfl dX12_areAlike_65 ?_
  refine vp_callSi (va_Run.run (va_runS (As := [.ref (b 5), .ref (b 6)]) (rest := []) ⟨hx, hb, hml, hown, noTs⟩ (r_X12_isLike l dC dI H.size cs b u20 a hA22 5 (by decide) w15 hA25 6 (by decide) w21 hA21 (by first | assumption | omega | rfl | (congr 1; omega)) (by first | assumption | omega | rfl | (congr 1; omega))) ⟨cbE 2 (wd_1675 hE) (wd_126 hE) (wd_1673 hE) rfl rfl (by decide +kernel) ⟨Nat.le_of_ble_eq_true rfl, Nat.le_of_ble_eq_true rfl⟩, (wd_1674 hE)⟩ ⟨PR.blind, (r_pre (av := [.ref (b 5), .ref (b 6)]) hK hP hJ hE)⟩ rfl rfl hl.1 rfl (lv_room (Nat.le_of_ble_eq_true rfl)) dX12_areAlike_66 ⟨Nat.le_of_ble_eq_true rfl, Nat.le_of_ble_eq_true rfl⟩)) (fun r26 hr26 => ?_)
  rcases hr26 with ⟨rfl, hb26⟩ | ⟨rfl, hb26⟩
  · exact W.zret (v := 1) hx hb hr rfl (fun t ht hW => ⟨⟨1, u20, rfl, ⟨Or.inl ⟨rfl, by trivial⟩, hfr⟩, (show va_P (dC, dI) vwCl (rW cs b u20) t.heap by rw [ht]; exact hP)⟩, hS.F ht⟩) hS.2.2 dX12_areAlike_69
  · exact W.zret (v := 0) hx hb hr rfl (fun t ht hW => ⟨⟨0, u20, rfl, ⟨Or.inr ⟨rfl, by trivial⟩, hfr⟩, (show va_P (dC, dI) vwCl (rW cs b u20) t.heap by rw [ht]; exact hP)⟩, hS.F ht⟩) hS.2.2 dX12_areAlike_69
