set_option maxHeartbeats 4000000 in
set_option maxRecDepth 100000 in
theorem r_X12_power (l : Launch) (dC : Nat → ClassId) (dI : Nat → Nat → Nat) (sz : Nat) (cs : Nat → ClassId) (b : Nat → Nat) (u : RS) (a : Nat → Int32) (hA1 : rA u 1 = a) (x : Int32) (y : Int32) (ac : Nat) (hF2 : rF u 2 = nI ac) (hp0 : AB a) (hp1 : ac ≤ 8) : Met l yX12_power [.code yX12_power cX12_power 4 (some .int)] ({ frames := 6, cells := 0, slots := 0, locals := 240 }) (PR [.ref (b 0), .int x, .int y] sz dC dI cs b u) (va_Qi (fun (r : Int32) (u' : RS) => (True) ∧ (AB (rA u' 1)) ∧ (∃ k : Nat, k ≤ 8 ∧ rF u' 2 = nI k) ∧ FR [1, 3, 4, 5, 6, 7, 8, 9, 10, 11, 12, 13, 14, 17, 18, 19, 20] [1, 2, 5, 21, 22] true u u') (BR dC dI cs b) (AR b sz)) 0 0 (AR b sz) := by
  refine Met.ofW (cc := cX12_power) (maxL := 4) (ret := (some .int)) (by decide) rfl ?_
  intro p e s m args below meth c s₁ B hml hv
  obtain ⟨rfl, hsz, hP, hK, hJ, hE⟩ := hv
  have hx := B.exec
  have hb := B.bytes
  have hr := B.returns
  have hown : s.vm.findClass RX12 = some m.cls := findClass_of_methodNamed B.named
  have hlocks := B.notSynchronized
  subst hsz
  have hAL : ∀ i, i < 108 → AR b s.heap.size (b i) := fun i h => Or.inl ⟨i, h, rfl⟩
  have hA : ∀ q : Nat, s.heap.size ≤ q → AR b s.heap.size q := fun q h => Or.inr h
  have hS : va_S (AR b s.heap.size) s.heap s.heap [] := va_S.rf
  have hfr : FR [1, 3, 4, 5, 6, 7, 8, 9, 10, 11, 12, 13, 14, 17, 18, 19, 20] [1, 2, 5, 21, 22] true u u := FR.refl
  have hl := lv_entry ([.ref (b 0), .int x, .int y]) (n := 4) (Nat.le_of_ble_eq_true rfl)
  rw [lg_entry_eq]
  generalize (lg_sl ([.ref (b 0), .int x, .int y]) ++ List.replicate (4 - (lg_sl ([.ref (b 0), .int x, .int y])).length) Slot.unset).toArray = ls at hl ⊢
  have hl : lv_has ls 4 [(0, .ref (b 0)), (1, .int x), (2, .int y)] := hl
  have hB := ab_0 hp0
  have hG := bg_g hB
  have ha2 := gg_le hG
  have ha2b := bg_w hB
  refine lv_iload_n hx hb dX12_power_0 rfl (lv_at hl 2 rfl) ?_
  refine lv_bipush (v := -9) hx hb dX12_power_1 (by decide) ?_
  refine lv_bipush (v := 9) hx hb dX12_power_3 (by decide) ?_
  refine vp_callSi (va_Run.run (va_runS (As := [.int y, .int (-9), .int 9]) (rest := []) ⟨hx, hb, hml, hown, noTs⟩ (r_X12_isFrom l dC dI s.heap.size cs b u a hA1 y (-9) 9 ((-9 : Int)) ((9 : Int)) (show Int32.toInt (-9) = -9 from rfl) (show Int32.toInt 9 = 9 from rfl)) ⟨cbE 3 (wd_1494 hE) (wd_126 hE) (wd_1492 hE) rfl rfl (by decide +kernel) ⟨Nat.le_of_ble_eq_true rfl, Nat.le_of_ble_eq_true rfl⟩, (wd_1493 hE)⟩ ⟨PR.blind, (r_pre (av := [.int y, .int (-9), .int 9]) hK hP hJ hE)⟩ rfl rfl hl.1 rfl (lv_room (Nat.le_of_ble_eq_true rfl)) dX12_power_5 ⟨Nat.le_of_ble_eq_true rfl, Nat.le_of_ble_eq_true rfl⟩)) (fun r4 hr4 => ?_)
  rcases hr4 with ⟨rfl, hb4⟩ | ⟨rfl, hb4⟩
  · refine lv_if_ne (tgt := 17) hx hb dX12_power_8 (by decide) (fun c5 => ?_) (fun c5 => absurd c5 (by decide))
    refine lv_aload_n hx hb dX12_power_17 rfl (lv_at hl 0 rfl) ?_
    refine lv_iload_n hx hb dX12_power_18 rfl (lv_at hl 1 rfl) ?_
    refine vp_callSi (va_Run.run (va_runV (As := [.int x]) (rest := []) ⟨hx, hb, hml, hown, noTs⟩ (r_X12_isWord l dC dI s.heap.size cs b u a hA1 x (by first | assumption | omega | rfl | (congr 1; omega))) ⟨cbE 1 (wd_1653 hE) (wd_126 hE) (wd_1650 hE) rfl rfl (by decide +kernel) ⟨Nat.le_of_ble_eq_true rfl, Nat.le_of_ble_eq_true rfl⟩, (wd_1652 hE), (wd_83 hE)⟩ ⟨PR.blind, r_recv hK hP rfl, (r_pre (av := [.ref (b 0), .int x]) hK hP hJ hE)⟩ rfl rfl hl.1 rfl (lv_room (Nat.le_of_ble_eq_true rfl)) dX12_power_19 ⟨Nat.le_of_ble_eq_true rfl, Nat.le_of_ble_eq_true rfl⟩)) (fun r6 hr6 => ?_)
    rcases hr6 with ⟨rfl, hb6⟩ | ⟨rfl, hb6⟩
    · obtain ⟨n6, hbe6_1, hb6⟩ := hb6
      subst hbe6_1
      refine lv_if_ne (tgt := 31) hx hb dX12_power_22 (by decide) (fun c7 => ?_) (fun c7 => absurd c7 (by decide))
      refine lv_aload_n hx hb dX12_power_31 rfl (lv_at hl 0 rfl) ?_
      refine lv_iconst (v := 2) hx hb dX12_power_32 (by decide) ?_
      refine vp_callSi (va_Run.run (va_runV (As := [.int (nI 2)]) (rest := []) ⟨hx, hb, hml, hown, noTs⟩ (r_X12_of l dC dI s.heap.size cs b u a hA1 2 (by first | assumption | omega | rfl | (congr 1; omega))) ⟨cbE 1 (wd_1536 hE) (wd_126 hE) (wd_1533 hE) rfl rfl (by decide +kernel) ⟨Nat.le_of_ble_eq_true rfl, Nat.le_of_ble_eq_true rfl⟩, (wd_1535 hE), (wd_61 hE)⟩ ⟨PR.blind, r_recv hK hP rfl, (r_pre (av := [.ref (b 0), .int (nI 2)]) hK hP hJ hE)⟩ rfl rfl hl.1 rfl (lv_room (Nat.le_of_ble_eq_true rfl)) dX12_power_33 ⟨Nat.le_of_ble_eq_true rfl, Nat.le_of_ble_eq_true rfl⟩)) (fun r8 hr8 => ?_)
      have hr8 := hr8.trans ((bg_w hB).1)
      subst hr8
      refine lv_bipush (v := 10) hx hb dX12_power_36 (by decide) ?_
      refine lv_icmp_ne (tgt := 47) hx hb dX12_power_38 (by decide) (fun c9 => ?_) (fun c9 => ?_)
      · have c9 := mt (b_eq (nI_toInt (n := wN a) (by omega)) (show Int32.toInt 10 = 10 from rfl)).mpr c9
        have hw9 : wN a ≤ 9 := by omega
        refine lv_aload_n hx hb dX12_power_47 rfl (lv_at hl 0 rfl) ?_
        refine lv_iload_n hx hb dX12_power_48 rfl (lv_at hl 1 rfl) ?_
        refine rc_i hAL hS hA (va_runV (As := [.int (nI n6)]) (rest := []) ⟨hx, hb, hml, hown, noTs⟩ (r_X12_isLoop l dC dI s.heap.size cs b u a hA1 n6 (by first | assumption | omega | rfl | (congr 1; omega)) (by first | assumption | omega | rfl | (congr 1; omega))) ⟨cbE 1 (wd_1725 hE) (wd_126 hE) (wd_1722 hE) rfl rfl (by decide +kernel) ⟨Nat.le_of_ble_eq_true rfl, Nat.le_of_ble_eq_true rfl⟩, (wd_1724 hE), (wd_91 hE)⟩ ⟨PR.blind, r_recv hK hP rfl, (r_pre (av := [.ref (b 0), .int (nI n6)]) hK hP hJ hE)⟩ rfl rfl hl.1 rfl (lv_room (Nat.le_of_ble_eq_true rfl)) dX12_power_49 ⟨Nat.le_of_ble_eq_true rfl, Nat.le_of_ble_eq_true rfl⟩) (fun r10 u10 H locs hpo10 hP hS => ?_)
        obtain ⟨hr10, hq10⟩ := hpo10
        have hA11 := (hq10.1 1 (by decide)).trans hA1
        have hF12x := (hq10.2.1 2 List.not_mem_nil).trans hF2
        have hfr := FR.step hfr hq10 (by decide) (fun _ h => absurd h List.not_mem_nil) (fun h => rfl)
        rcases hr10 with ⟨rfl, hb10⟩ | ⟨rfl, hb10⟩
        · refine lv_if_ne (tgt := 61) hx hb dX12_power_52 (by decide) (fun c13 => ?_) (fun c13 => absurd c13 (by decide))
          refine lv_aload_n hx hb dX12_power_61 rfl (lv_at hl 0 rfl) ?_
          refine lv_iload_n hx hb dX12_power_62 rfl (lv_at hl 1 rfl) ?_
          refine lv_aload_n hx hb dX12_power_63 rfl (lv_at hl 0 rfl) ?_
          refine r_get (v := .ref (b 2)) hx hb (ly_X12 hE) hown hK hP rfl 4 (by decide) (wd_1385 hE) (fun _ h9 => h9) rfl dX12_power_64 ?_
          refine lv_iconst (v := 0) hx hb dX12_power_67 (by decide) ?_
          refine r_aald (j := 2) (k := 0) (n := 10) (t0 := 4) (j2 := 3) hx hb hK hP (by decide) rfl rfl (by decide) (by decide) rfl dX12_power_68 ?_
          obtain ⟨g14, hg14⟩ : ∃ g, rA u10 3 = g := ⟨_, rfl⟩
          refine rc_v hAL hS hA (va_runV (As := [.int (nI n6), .ref (b 3)]) (rest := []) ⟨hx, hb, hml, hown, noTs⟩ (r_X12_takes l dC dI H.size cs b u10 a hA11 n6 3 (by decide) g14 hg14 (by first | assumption | omega | rfl | (congr 1; omega)) (by first | assumption | omega | rfl | (congr 1; omega))) ⟨cbE 2 (wd_1657 hE) (wd_126 hE) (wd_1654 hE) rfl rfl (by decide +kernel) ⟨Nat.le_of_ble_eq_true rfl, Nat.le_of_ble_eq_true rfl⟩, (wd_1656 hE), (wd_84 hE)⟩ ⟨PR.blind, r_recv hK hP rfl, (r_pre (av := [.ref (b 0), .int (nI n6), .ref (b 3)]) hK hP hJ hE)⟩ rfl rfl hl.1 rfl (lv_room (Nat.le_of_ble_eq_true rfl)) dX12_power_69 ⟨Nat.le_of_ble_eq_true rfl, Nat.le_of_ble_eq_true rfl⟩) (fun u15 H locs hpo15 hP hS => ?_)
          obtain ⟨h15_0, h15_1, h15_2, h15_3, h15_4, h15_5, hq15⟩ := hpo15
          obtain ⟨w16, hA16⟩ : ∃ g, rA u15 3 = g := ⟨_, rfl⟩
          rw [hA16] at h15_0 h15_1 h15_2 h15_3 h15_4 h15_5
          have hA17 := (hq15.1 1 (by decide)).trans hA11
          have hF18x := (hq15.2.1 2 List.not_mem_nil).trans hF12x
          have hfr := FR.step hfr hq15 (by decide) (fun _ h => absurd h List.not_mem_nil) (fun h => rfl)
          have hl15_0 := pg_le h15_0
          have PA := h15_0
          have LA := h15_1
          have VA : vend a w16 = rb w16 := by omega
          refine lv_iload_n hx hb dX12_power_72 rfl (lv_at hl 2 rfl) ?_
          refine lv_if_ge (tgt := 107) hx hb dX12_power_73 (by decide) (fun c19 => ?_) (fun c19 => ?_)
          · have c19 := (b_le (show Int32.toInt 0 = 0 from rfl) (rfl : Int32.toInt y = _)).mp c19
            refine lv_aload_n hx hb dX12_power_107 rfl (lv_at hl 0 rfl) ?_
            refine r_get (v := .ref (b 2)) hx hb (ly_X12 hE) hown hK hP rfl 4 (by decide) (wd_1385 hE) (fun _ h9 => h9) rfl dX12_power_108 ?_
            refine lv_iconst (v := 2) hx hb dX12_power_111 (by decide) ?_
            refine r_aald (j := 2) (k := 2) (n := 10) (t0 := 4) (j2 := 5) hx hb hK hP (by decide) rfl rfl (by decide) (by decide) rfl dX12_power_112 ?_
            refine lv_aload_n hx hb dX12_power_113 rfl (lv_at hl 0 rfl) ?_
            refine r_get (v := .ref (b 2)) hx hb (ly_X12 hE) hown hK hP rfl 4 (by decide) (wd_1385 hE) (fun _ h9 => h9) rfl dX12_power_114 ?_
            refine lv_iconst (v := 0) hx hb dX12_power_117 (by decide) ?_
            refine r_aald (j := 2) (k := 0) (n := 10) (t0 := 4) (j2 := 3) hx hb hK hP (by decide) rfl rfl (by decide) (by decide) rfl dX12_power_118 ?_
            refine lv_iconst (v := 0) hx hb dX12_power_119 (by decide) ?_
            refine r_iald (j := 3) (k := 0) (n := 200) (x := nI (rb w16)) hx hb hK hP (by decide) rfl (by decide) (by decide) (by rw [hA16]; exact pg_b h15_0) dX12_power_120 ?_
            refine lv_iconst (v := 0) hx hb dX12_power_121 (by decide) ?_
            obtain ⟨g21, hg21⟩ : ∃ g, rA u15 5 = g := ⟨_, rfl⟩
            refine rc_v hAL hS hA (va_runS (As := [.ref (b 5), .int (nI (rb w16)), .int 0]) (rest := []) ⟨hx, hb, hml, hown, noTs⟩ (r_X12_single l dC dI H.size cs b u15 a hA17 5 (by decide) g21 hg21 (rb w16) 0 (by first | assumption | omega | rfl | (congr 1; omega)) (by first | assumption | omega | rfl | (congr 1; omega))) ⟨cbE 3 (wd_1579 hE) (wd_126 hE) (wd_1577 hE) rfl rfl (by decide +kernel) ⟨Nat.le_of_ble_eq_true rfl, Nat.le_of_ble_eq_true rfl⟩, (wd_1578 hE)⟩ ⟨PR.blind, (r_pre (av := [.ref (b 5), .int (nI (rb w16)), .int 0]) hK hP hJ hE)⟩ rfl rfl hl.1 rfl (lv_room (Nat.le_of_ble_eq_true rfl)) dX12_power_122 ⟨Nat.le_of_ble_eq_true rfl, Nat.le_of_ble_eq_true rfl⟩) (fun u22 H locs hpo22 hP hS => ?_)
            obtain ⟨h22_0, h22_1, h22_2, h22_3, h22_4, hq22⟩ := hpo22
            obtain ⟨w23, hA23⟩ : ∃ g, rA u22 5 = g := ⟨_, rfl⟩
            rw [hA23] at h22_0 h22_1 h22_2 h22_3 h22_4
            have hA24 := (hq22.1 1 (by decide)).trans hA17
            have hA25 := (hq22.1 3 (by decide)).trans hA16
            have hF26x := (hq22.2.1 2 List.not_mem_nil).trans hF18x
            have hfr := FR.step hfr hq22 (by decide) (fun _ h => absurd h List.not_mem_nil) (fun h => rfl)
            have hl22_0 := pg_le h22_0
            have hbo := gg_od hG (pg_le PA).1
            have q8 : LG a w23 := lg_mk (n := 0) h22_1 h22_3 (show w23 (2 + 2 * 0) = nI 0 from h22_4) (by omega) (by omega)
            refine lv_iconst (v := 0) hx hb dX12_power_125 (by decide) ?_
            refine lv_istore_n (lv' := [(3, .int 0), (0, .ref (b 0)), (1, .int (nI n6)), (2, .int y)]) hx hb dX12_power_126 rfl hl (by decide) rfl (fun ls hl => ?_)
            refine r_ind (I := fun n u_ H locs ls => va_P (dC, dI) vwCl (rW cs b u_) H ∧ va_S (AR b s.heap.size) s.heap H locs ∧ FR [1, 3, 4, 5, 6, 7, 8, 9, 10, 11, 12, 13, 14, 17, 18, 19, 20] [1, 2, 5, 21, 22] true u u_ ∧ ∃ (k_27 : Nat) (c1_27 : Nat → Int32), n = 10 - k_27 ∧ (PG a c1_27) ∧ (LG a c1_27) ∧ (k_27 ≤ 9) ∧ (rn c1_27 ≤ 24) ∧ (vend a c1_27 = rb w16) ∧ (rA u_ 1 = a) ∧ (rA u_ 3 = w16) ∧ (rA u_ 5 = c1_27) ∧ (rF u_ 2 = nI ac) ∧ lv_has ls 4 [(0, .ref (b 0)), (1, .int (nI n6)), (2, .int y), (3, .int (nI k_27))]) (fun n u27 H locs ls hI ih27 => ?_) _ u22 _ _ _ ⟨hP, hS, hfr, 0, w23, rfl, (by first | assumption | omega | rfl | (congr 1; omega)), (by first | assumption | omega | rfl | (congr 1; omega)), (by first | assumption | omega | rfl | (congr 1; omega)), (by first | assumption | omega | rfl | (congr 1; omega)), (by first | assumption | omega | rfl | (congr 1; omega)), hA24, hA25, hA23, hF26x, lv_sub hl [1, 2, 3, 0] rfl⟩
            obtain ⟨hP, hS, hfr, k_27, c1_27, hmu27, hL27_0, hL27_1, hL27_2, hL27_3, hL27_4, hL27_5, hL27_6, hL27_7, hL27_8, hl⟩ := hI
            subst hmu27
            have hl27_0 := pg_le hL27_0
            refine lv_iload_n hx hb dX12_power_127 rfl (lv_at hl 3 rfl) ?_
            refine lv_iload_n hx hb dX12_power_128 rfl (lv_at hl 2 rfl) ?_
            refine lv_if_ge (tgt := 137) hx hb dX12_power_129 (by decide) (fun c28 => ?_) (fun c28 => ?_)
            · have c28 := (b_le (show Int32.toInt 0 = 0 from rfl) (rfl : Int32.toInt y = _)).mp c28
              refine lv_iload_n hx hb dX12_power_137 rfl (lv_at hl 2 rfl) ?_
              refine lv_icmp_ge (tgt := 204) hx hb dX12_power_138 (by decide) (fun c29 => ?_) (fun c29 => ?_)
              · have c29 := (b_le (rfl : Int32.toInt y = _) (nI_toInt (n := k_27) (by omega))).mp c29
                refine lv_aload_n hx hb dX12_power_204 rfl (lv_at hl 0 rfl) ?_
                refine lv_aload_n hx hb dX12_power_205 rfl (lv_at hl 0 rfl) ?_
                refine r_get (v := .ref (b 2)) hx hb (ly_X12 hE) hown hK hP rfl 4 (by decide) (wd_1385 hE) (fun _ h9 => h9) rfl dX12_power_206 ?_
                refine lv_iconst (v := 2) hx hb dX12_power_209 (by decide) ?_
                refine r_aald (j := 2) (k := 2) (n := 10) (t0 := 4) (j2 := 5) hx hb hK hP (by decide) rfl rfl (by decide) (by decide) rfl dX12_power_210 ?_
                refine rc_i hAL hS hA (va_runV (As := [.ref (b 5)]) (rest := []) ⟨hx, hb, hml, hown, noTs⟩ (r_X12_more l dC dI H.size cs b u27 a hL27_5 5 (by decide) c1_27 hL27_7 _ hL27_8 (by first | assumption | omega | rfl | (congr 1; omega)) (by first | assumption | omega | rfl | (congr 1; omega)) (by first | assumption | omega | rfl | (congr 1; omega)) (by first | assumption | omega | rfl | (congr 1; omega)) (by first | assumption | omega | rfl | (congr 1; omega))) ⟨cbE 1 (wd_1691 hE) (wd_126 hE) (wd_1688 hE) rfl rfl (by decide +kernel) ⟨Nat.le_of_ble_eq_true rfl, Nat.le_of_ble_eq_true rfl⟩, (wd_1690 hE), (wd_88 hE)⟩ ⟨PR.blind, r_recv hK hP rfl, (r_pre (av := [.ref (b 0), .ref (b 5)]) hK hP hJ hE)⟩ rfl rfl hl.1 rfl (lv_room (Nat.le_of_ble_eq_true rfl)) dX12_power_211 ⟨Nat.le_of_ble_eq_true rfl, Nat.le_of_ble_eq_true rfl⟩) (fun r30 u30 H locs hpo30 hP hS => ?_)
                obtain ⟨hr30, h30_0, h30_1, hq30⟩ := hpo30
                obtain ⟨w31, hA31⟩ : ∃ g, rA u30 1 = g := ⟨_, rfl⟩
                rw [hA31] at h30_0
                obtain ⟨n30_1, hn30_1, hfe30_1⟩ := h30_1
                have hA32 := (hq30.1 3 (by decide)).trans hL27_6
                have hA33 := (hq30.1 5 (by decide)).trans hL27_7
                have hfr := FR.step hfr hq30 (by decide) (by decide) (fun h => rfl)
                have hB := ab_0 h30_0
                have hG := bg_g hB
                have ha34 := gg_le hG
                have ha34b := bg_w hB
                exact W.iret (v := r30) hx hb hr (fun t ht hW => ⟨⟨r30, u30, rfl, ⟨trivial, (by first | (rw [hA31]; done) | (rw [hA31]; first | assumption | omega | rfl | (congr 1; omega))), (by first | (rw [hfe30_1]; done) | (rw [hfe30_1]; refine ⟨_, ?_, rfl⟩; omega)), hfr⟩, (show va_P (dC, dI) vwCl (rW cs b u30) t.heap by rw [ht]; exact hP)⟩, hS.F ht⟩) hS.2.2 dX12_power_214
              · have c29 := mt (b_le (rfl : Int32.toInt y = _) (nI_toInt (n := k_27) (by omega))).mpr c29
                refine lv_aload_n hx hb dX12_power_141 rfl (lv_at hl 0 rfl) ?_
                refine lv_aload_n hx hb dX12_power_142 rfl (lv_at hl 0 rfl) ?_
                refine r_get (v := .ref (b 2)) hx hb (ly_X12 hE) hown hK hP rfl 4 (by decide) (wd_1385 hE) (fun _ h9 => h9) rfl dX12_power_143 ?_
                refine lv_iconst (v := 2) hx hb dX12_power_146 (by decide) ?_
                refine r_aald (j := 2) (k := 2) (n := 10) (t0 := 4) (j2 := 5) hx hb hK hP (by decide) rfl rfl (by decide) (by decide) rfl dX12_power_147 ?_
                refine lv_aload_n hx hb dX12_power_148 rfl (lv_at hl 0 rfl) ?_
                refine r_get (v := .ref (b 2)) hx hb (ly_X12 hE) hown hK hP rfl 4 (by decide) (wd_1385 hE) (fun _ h9 => h9) rfl dX12_power_149 ?_
                refine lv_iconst (v := 0) hx hb dX12_power_152 (by decide) ?_
                refine r_aald (j := 2) (k := 0) (n := 10) (t0 := 4) (j2 := 3) hx hb hK hP (by decide) rfl rfl (by decide) (by decide) rfl dX12_power_153 ?_
                refine lv_aload_n hx hb dX12_power_154 rfl (lv_at hl 0 rfl) ?_
                refine r_get (v := .ref (b 2)) hx hb (ly_X12 hE) hown hK hP rfl 4 (by decide) (wd_1385 hE) (fun _ h9 => h9) rfl dX12_power_155 ?_
                refine lv_iconst (v := 3) hx hb dX12_power_158 (by decide) ?_
                refine r_aald (j := 2) (k := 3) (n := 10) (t0 := 4) (j2 := 6) hx hb hK hP (by decide) rfl rfl (by decide) (by decide) rfl dX12_power_159 ?_
                obtain ⟨g35, hg35⟩ : ∃ g, rA u27 6 = g := ⟨_, rfl⟩
                refine rc_v hAL hS hA (va_runV (As := [.ref (b 5), .ref (b 3), .ref (b 6)]) (rest := []) ⟨hx, hb, hml, hown, noTs⟩ (r_X12_joins l dC dI H.size cs b u27 a hL27_5 5 (by decide) c1_27 hL27_7 3 (by decide) w16 hL27_6 6 (by decide) g35 hg35 (by first | assumption | omega | rfl | (congr 1; omega)) (by first | assumption | omega | rfl | (congr 1; omega)) (by first | assumption | omega | rfl | (congr 1; omega)) (by first | assumption | omega | rfl | (congr 1; omega)) (by first | assumption | omega | rfl | (congr 1; omega)) (by first | assumption | omega | rfl | (congr 1; omega)) (by first | assumption | omega | rfl | (congr 1; omega)) (by first | assumption | omega | rfl | (congr 1; omega)) (by first | assumption | omega | rfl | (congr 1; omega)) (by first | assumption | omega | rfl | (congr 1; omega)) (by first | assumption | omega | rfl | (congr 1; omega)) (by first | assumption | omega | rfl | (congr 1; omega))) ⟨cbE 3 (wd_1703 hE) (wd_126 hE) (wd_1700 hE) rfl rfl (by decide +kernel) ⟨Nat.le_of_ble_eq_true rfl, Nat.le_of_ble_eq_true rfl⟩, (wd_1702 hE), (wd_89 hE)⟩ ⟨PR.blind, r_recv hK hP rfl, (r_pre (av := [.ref (b 0), .ref (b 5), .ref (b 3), .ref (b 6)]) hK hP hJ hE)⟩ rfl rfl hl.1 rfl (lv_room (Nat.le_of_ble_eq_true rfl)) dX12_power_160 ⟨Nat.le_of_ble_eq_true rfl, Nat.le_of_ble_eq_true rfl⟩) (fun u36 H locs hpo36 hP hS => ?_)
                obtain ⟨h36_0, h36_1, h36_2, h36_3, h36_4, hq36⟩ := hpo36
                obtain ⟨w37, hA37⟩ : ∃ g, rA u36 6 = g := ⟨_, rfl⟩
                rw [hA37] at h36_0 h36_1 h36_2 h36_3 h36_4
                have hA38 := (hq36.1 1 (by decide)).trans hL27_5
                have hA39 := (hq36.1 3 (by decide)).trans hL27_6
                have hA40 := (hq36.1 5 (by decide)).trans hL27_7
                have hF41x := (hq36.2.1 2 (by decide)).trans hL27_8
                have hfr := FR.step hfr hq36 (by decide) (by decide) (fun h => rfl)
                have hl36_0 := pg_le h36_0
                refine lv_aload_n hx hb dX12_power_163 rfl (lv_at hl 0 rfl) ?_
                refine r_get (v := .ref (b 2)) hx hb (ly_X12 hE) hown hK hP rfl 4 (by decide) (wd_1385 hE) (fun _ h9 => h9) rfl dX12_power_164 ?_
                refine lv_iconst (v := 3) hx hb dX12_power_167 (by decide) ?_
                refine r_aald (j := 2) (k := 3) (n := 10) (t0 := 4) (j2 := 6) hx hb hK hP (by decide) rfl rfl (by decide) (by decide) rfl dX12_power_168 ?_
                refine lv_iconst (v := 1) hx hb dX12_power_169 (by decide) ?_
                refine r_iald (j := 6) (k := 1) (n := 200) (x := nI (rn w37)) hx hb hK hP (by decide) rfl (by decide) (by decide) (by rw [hA37]; exact pg_n h36_0) dX12_power_170 ?_
                refine lv_bipush (v := 24) hx hb dX12_power_171 (by decide) ?_
                refine lv_icmp_le (tgt := 183) hx hb dX12_power_173 (by decide) (fun c43 => ?_) (fun c43 => ?_)
                · have c43 := (b_le (nI_toInt (n := rn w37) (by omega)) (show Int32.toInt 24 = 24 from rfl)).mp c43
                  refine lv_aload_n hx hb dX12_power_183 rfl (lv_at hl 0 rfl) ?_
                  refine r_get (v := .ref (b 2)) hx hb (ly_X12 hE) hown hK hP rfl 4 (by decide) (wd_1385 hE) (fun _ h9 => h9) rfl dX12_power_184 ?_
                  refine lv_iconst (v := 3) hx hb dX12_power_187 (by decide) ?_
                  refine r_aald (j := 2) (k := 3) (n := 10) (t0 := 4) (j2 := 6) hx hb hK hP (by decide) rfl rfl (by decide) (by decide) rfl dX12_power_188 ?_
                  refine lv_aload_n hx hb dX12_power_189 rfl (lv_at hl 0 rfl) ?_
                  refine r_get (v := .ref (b 2)) hx hb (ly_X12 hE) hown hK hP rfl 4 (by decide) (wd_1385 hE) (fun _ h9 => h9) rfl dX12_power_190 ?_
                  refine lv_iconst (v := 2) hx hb dX12_power_193 (by decide) ?_
                  refine r_aald (j := 2) (k := 2) (n := 10) (t0 := 4) (j2 := 5) hx hb hK hP (by decide) rfl rfl (by decide) (by decide) rfl dX12_power_194 ?_
                  refine rc_v hAL hS hA (va_runS (As := [.ref (b 6), .ref (b 5)]) (rest := []) ⟨hx, hb, hml, hown, noTs⟩ (r_X12_lays l dC dI H.size cs b u36 a hA38 6 (by decide) w37 hA37 5 (by decide) c1_27 hA40 (by first | assumption | omega | rfl | (congr 1; omega)) (by first | assumption | omega | rfl | (congr 1; omega)) (by first | assumption | omega | rfl | (congr 1; omega))) ⟨cbE 2 (wd_1706 hE) (wd_126 hE) (wd_1704 hE) rfl rfl (by decide +kernel) ⟨Nat.le_of_ble_eq_true rfl, Nat.le_of_ble_eq_true rfl⟩, (wd_1705 hE)⟩ ⟨PR.blind, (r_pre (av := [.ref (b 6), .ref (b 5)]) hK hP hJ hE)⟩ rfl rfl hl.1 rfl (lv_room (Nat.le_of_ble_eq_true rfl)) dX12_power_195 ⟨Nat.le_of_ble_eq_true rfl, Nat.le_of_ble_eq_true rfl⟩) (fun u44 H locs hpo44 hP hS => ?_)
                  obtain ⟨h44_0, h44_1, h44_2, h44_3, h44_4, h44_5, hq44⟩ := hpo44
                  obtain ⟨w45, hA45⟩ : ∃ g, rA u44 5 = g := ⟨_, rfl⟩
                  rw [hA45] at h44_0 h44_1 h44_2 h44_3 h44_4 h44_5
                  have hA46 := (hq44.1 1 (by decide)).trans hA38
                  have hA47 := (hq44.1 3 (by decide)).trans hA39
                  have hA48 := (hq44.1 6 (by decide)).trans hA37
                  have hF49x := (hq44.2.1 2 List.not_mem_nil).trans hF41x
                  have hfr := FR.step hfr hq44 (by decide) (fun _ h => absurd h List.not_mem_nil) (fun h => rfl)
                  have hl44_0 := pg_le h44_0
                  refine lv_iinc (v := nI (k_27 + 1)) (lv' := [(3, .int (nI (k_27 + 1))), (0, .ref (b 0)), (1, .int (nI n6)), (2, .int y)]) hx hb dX12_power_198 hl (k := 3) rfl (nI_1 k_27) (by decide) rfl (fun ls hl => ?_)
                  refine lv_goto (tgt := 127) hx hb dX12_power_201 (by decide) ?_
                  exact ih27 _ u44 _ _ _ (by omega) ⟨hP, hS, hfr, (k_27 + 1), w45, rfl, (by first | assumption | omega | rfl | (congr 1; omega)), (by first | assumption | omega | rfl | (congr 1; omega)), (by first | assumption | omega | rfl | (congr 1; omega)), (by first | assumption | omega | rfl | (congr 1; omega)), (by first | assumption | omega | rfl | (congr 1; omega)), hA46, hA47, hA45, hF49x, lv_sub hl [1, 2, 3, 0] rfl⟩
                · have c43 := mt (b_le (nI_toInt (n := rn w37) (by omega)) (show Int32.toInt 24 = 24 from rfl)).mpr c43
                  refine lv_aload_n hx hb dX12_power_176 rfl (lv_at hl 0 rfl) ?_
                  refine lv_bipush (v := 6) hx hb dX12_power_177 (by decide) ?_
                  refine rc_i hAL hS hA (va_runV (As := [.int 6]) (rest := []) ⟨hx, hb, hml, hown, noTs⟩ (r_X12_refuse l dC dI H.size cs b u36 a hA38 6) ⟨cbE 1 (wd_1498 hE) (wd_126 hE) (wd_1495 hE) rfl rfl (by decide +kernel) ⟨Nat.le_of_ble_eq_true rfl, Nat.le_of_ble_eq_true rfl⟩, (wd_1497 hE), (wd_54 hE)⟩ ⟨PR.blind, r_recv hK hP rfl, (r_pre (av := [.ref (b 0), .int 6]) hK hP hJ hE)⟩ rfl rfl hl.1 rfl (lv_room (Nat.le_of_ble_eq_true rfl)) dX12_power_179 ⟨Nat.le_of_ble_eq_true rfl, Nat.le_of_ble_eq_true rfl⟩) (fun r50 u50 H locs hpo50 hP hS => ?_)
                  obtain ⟨hr50, hq50⟩ := hpo50
                  have hA51 := (hq50.1 1 List.not_mem_nil).trans hA38
                  have hA52 := (hq50.1 3 List.not_mem_nil).trans hA39
                  have hA53 := (hq50.1 5 List.not_mem_nil).trans hA40
                  have hA54 := (hq50.1 6 List.not_mem_nil).trans hA37
                  have hF55x := (hq50.2.1 2 (by decide)).trans hF41x
                  have hfr := FR.step hfr hq50 (fun _ h => absurd h List.not_mem_nil) (by decide) (fun h => rfl)
                  subst hr50
                  exact W.iret (v := -1) hx hb hr (fun t ht hW => ⟨⟨-1, u50, rfl, ⟨trivial, (by first | (rw [hA51]; done) | (rw [hA51]; first | assumption | omega | rfl | (congr 1; omega))), (by first | (rw [hF55x]; done) | (rw [hF55x]; refine ⟨_, ?_, rfl⟩; omega)), hfr⟩, (show va_P (dC, dI) vwCl (rW cs b u50) t.heap by rw [ht]; exact hP)⟩, hS.F ht⟩) hS.2.2 dX12_power_182
            · have c28 := mt (b_le (show Int32.toInt 0 = 0 from rfl) (rfl : Int32.toInt y = _)).mpr c28
              refine lv_iload_n hx hb dX12_power_132 rfl (lv_at hl 2 rfl) ?_
              refine lv_ineg hx hb dX12_power_133 ?_
              refine lv_topi (fun x56 ex56 => ?_)
              have hz57 : x56.toInt = -(y.toInt) := by rw [ex56]; exact z_neg (rfl : Int32.toInt y = _) (by omega)
              refine lv_goto (tgt := 138) hx hb dX12_power_134 (by decide) ?_
              refine lv_icmp_ge (tgt := 204) hx hb dX12_power_138 (by decide) (fun c58 => ?_) (fun c58 => ?_)
              · have c58 := (b_le hz57 (nI_toInt (n := k_27) (by omega))).mp c58
                refine lv_aload_n hx hb dX12_power_204 rfl (lv_at hl 0 rfl) ?_
                refine lv_aload_n hx hb dX12_power_205 rfl (lv_at hl 0 rfl) ?_
                refine r_get (v := .ref (b 2)) hx hb (ly_X12 hE) hown hK hP rfl 4 (by decide) (wd_1385 hE) (fun _ h9 => h9) rfl dX12_power_206 ?_
                refine lv_iconst (v := 2) hx hb dX12_power_209 (by decide) ?_
                refine r_aald (j := 2) (k := 2) (n := 10) (t0 := 4) (j2 := 5) hx hb hK hP (by decide) rfl rfl (by decide) (by decide) rfl dX12_power_210 ?_
                refine rc_i hAL hS hA (va_runV (As := [.ref (b 5)]) (rest := []) ⟨hx, hb, hml, hown, noTs⟩ (r_X12_more l dC dI H.size cs b u27 a hL27_5 5 (by decide) c1_27 hL27_7 _ hL27_8 (by first | assumption | omega | rfl | (congr 1; omega)) (by first | assumption | omega | rfl | (congr 1; omega)) (by first | assumption | omega | rfl | (congr 1; omega)) (by first | assumption | omega | rfl | (congr 1; omega)) (by first | assumption | omega | rfl | (congr 1; omega))) ⟨cbE 1 (wd_1691 hE) (wd_126 hE) (wd_1688 hE) rfl rfl (by decide +kernel) ⟨Nat.le_of_ble_eq_true rfl, Nat.le_of_ble_eq_true rfl⟩, (wd_1690 hE), (wd_88 hE)⟩ ⟨PR.blind, r_recv hK hP rfl, (r_pre (av := [.ref (b 0), .ref (b 5)]) hK hP hJ hE)⟩ rfl rfl hl.1 rfl (lv_room (Nat.le_of_ble_eq_true rfl)) dX12_power_211 ⟨Nat.le_of_ble_eq_true rfl, Nat.le_of_ble_eq_true rfl⟩) (fun r59 u59 H locs hpo59 hP hS => ?_)
                obtain ⟨hr59, h59_0, h59_1, hq59⟩ := hpo59
                obtain ⟨w60, hA60⟩ : ∃ g, rA u59 1 = g := ⟨_, rfl⟩
                rw [hA60] at h59_0
                obtain ⟨n59_1, hn59_1, hfe59_1⟩ := h59_1
                have hA61 := (hq59.1 3 (by decide)).trans hL27_6
                have hA62 := (hq59.1 5 (by decide)).trans hL27_7
                have hfr := FR.step hfr hq59 (by decide) (by decide) (fun h => rfl)
                have hB := ab_0 h59_0
                have hG := bg_g hB
                have ha63 := gg_le hG
                have ha63b := bg_w hB
                exact W.iret (v := r59) hx hb hr (fun t ht hW => ⟨⟨r59, u59, rfl, ⟨trivial, (by first | (rw [hA60]; done) | (rw [hA60]; first | assumption | omega | rfl | (congr 1; omega))), (by first | (rw [hfe59_1]; done) | (rw [hfe59_1]; refine ⟨_, ?_, rfl⟩; omega)), hfr⟩, (show va_P (dC, dI) vwCl (rW cs b u59) t.heap by rw [ht]; exact hP)⟩, hS.F ht⟩) hS.2.2 dX12_power_214
              · have c58 := mt (b_le hz57 (nI_toInt (n := k_27) (by omega))).mpr c58
                refine lv_aload_n hx hb dX12_power_141 rfl (lv_at hl 0 rfl) ?_
                refine lv_aload_n hx hb dX12_power_142 rfl (lv_at hl 0 rfl) ?_
                refine r_get (v := .ref (b 2)) hx hb (ly_X12 hE) hown hK hP rfl 4 (by decide) (wd_1385 hE) (fun _ h9 => h9) rfl dX12_power_143 ?_
                refine lv_iconst (v := 2) hx hb dX12_power_146 (by decide) ?_
                refine r_aald (j := 2) (k := 2) (n := 10) (t0 := 4) (j2 := 5) hx hb hK hP (by decide) rfl rfl (by decide) (by decide) rfl dX12_power_147 ?_
                refine lv_aload_n hx hb dX12_power_148 rfl (lv_at hl 0 rfl) ?_
                refine r_get (v := .ref (b 2)) hx hb (ly_X12 hE) hown hK hP rfl 4 (by decide) (wd_1385 hE) (fun _ h9 => h9) rfl dX12_power_149 ?_
                refine lv_iconst (v := 0) hx hb dX12_power_152 (by decide) ?_
                refine r_aald (j := 2) (k := 0) (n := 10) (t0 := 4) (j2 := 3) hx hb hK hP (by decide) rfl rfl (by decide) (by decide) rfl dX12_power_153 ?_
                refine lv_aload_n hx hb dX12_power_154 rfl (lv_at hl 0 rfl) ?_
                refine r_get (v := .ref (b 2)) hx hb (ly_X12 hE) hown hK hP rfl 4 (by decide) (wd_1385 hE) (fun _ h9 => h9) rfl dX12_power_155 ?_
                refine lv_iconst (v := 3) hx hb dX12_power_158 (by decide) ?_
                refine r_aald (j := 2) (k := 3) (n := 10) (t0 := 4) (j2 := 6) hx hb hK hP (by decide) rfl rfl (by decide) (by decide) rfl dX12_power_159 ?_
                obtain ⟨g64, hg64⟩ : ∃ g, rA u27 6 = g := ⟨_, rfl⟩
                refine rc_v hAL hS hA (va_runV (As := [.ref (b 5), .ref (b 3), .ref (b 6)]) (rest := []) ⟨hx, hb, hml, hown, noTs⟩ (r_X12_joins l dC dI H.size cs b u27 a hL27_5 5 (by decide) c1_27 hL27_7 3 (by decide) w16 hL27_6 6 (by decide) g64 hg64 (by first | assumption | omega | rfl | (congr 1; omega)) (by first | assumption | omega | rfl | (congr 1; omega)) (by first | assumption | omega | rfl | (congr 1; omega)) (by first | assumption | omega | rfl | (congr 1; omega)) (by first | assumption | omega | rfl | (congr 1; omega)) (by first | assumption | omega | rfl | (congr 1; omega)) (by first | assumption | omega | rfl | (congr 1; omega)) (by first | assumption | omega | rfl | (congr 1; omega)) (by first | assumption | omega | rfl | (congr 1; omega)) (by first | assumption | omega | rfl | (congr 1; omega)) (by first | assumption | omega | rfl | (congr 1; omega)) (by first | assumption | omega | rfl | (congr 1; omega))) ⟨cbE 3 (wd_1703 hE) (wd_126 hE) (wd_1700 hE) rfl rfl (by decide +kernel) ⟨Nat.le_of_ble_eq_true rfl, Nat.le_of_ble_eq_true rfl⟩, (wd_1702 hE), (wd_89 hE)⟩ ⟨PR.blind, r_recv hK hP rfl, (r_pre (av := [.ref (b 0), .ref (b 5), .ref (b 3), .ref (b 6)]) hK hP hJ hE)⟩ rfl rfl hl.1 rfl (lv_room (Nat.le_of_ble_eq_true rfl)) dX12_power_160 ⟨Nat.le_of_ble_eq_true rfl, Nat.le_of_ble_eq_true rfl⟩) (fun u65 H locs hpo65 hP hS => ?_)
                obtain ⟨h65_0, h65_1, h65_2, h65_3, h65_4, hq65⟩ := hpo65
                obtain ⟨w66, hA66⟩ : ∃ g, rA u65 6 = g := ⟨_, rfl⟩
                rw [hA66] at h65_0 h65_1 h65_2 h65_3 h65_4
                have hA67 := (hq65.1 1 (by decide)).trans hL27_5
                have hA68 := (hq65.1 3 (by decide)).trans hL27_6
                have hA69 := (hq65.1 5 (by decide)).trans hL27_7
                have hF70x := (hq65.2.1 2 (by decide)).trans hL27_8
                have hfr := FR.step hfr hq65 (by decide) (by decide) (fun h => rfl)
                have hl65_0 := pg_le h65_0
                refine lv_aload_n hx hb dX12_power_163 rfl (lv_at hl 0 rfl) ?_
                refine r_get (v := .ref (b 2)) hx hb (ly_X12 hE) hown hK hP rfl 4 (by decide) (wd_1385 hE) (fun _ h9 => h9) rfl dX12_power_164 ?_
                refine lv_iconst (v := 3) hx hb dX12_power_167 (by decide) ?_
                refine r_aald (j := 2) (k := 3) (n := 10) (t0 := 4) (j2 := 6) hx hb hK hP (by decide) rfl rfl (by decide) (by decide) rfl dX12_power_168 ?_
                refine lv_iconst (v := 1) hx hb dX12_power_169 (by decide) ?_
                refine r_iald (j := 6) (k := 1) (n := 200) (x := nI (rn w66)) hx hb hK hP (by decide) rfl (by decide) (by decide) (by rw [hA66]; exact pg_n h65_0) dX12_power_170 ?_
                refine lv_bipush (v := 24) hx hb dX12_power_171 (by decide) ?_
                refine lv_icmp_le (tgt := 183) hx hb dX12_power_173 (by decide) (fun c72 => ?_) (fun c72 => ?_)
                · have c72 := (b_le (nI_toInt (n := rn w66) (by omega)) (show Int32.toInt 24 = 24 from rfl)).mp c72
                  refine lv_aload_n hx hb dX12_power_183 rfl (lv_at hl 0 rfl) ?_
                  refine r_get (v := .ref (b 2)) hx hb (ly_X12 hE) hown hK hP rfl 4 (by decide) (wd_1385 hE) (fun _ h9 => h9) rfl dX12_power_184 ?_
                  refine lv_iconst (v := 3) hx hb dX12_power_187 (by decide) ?_
                  refine r_aald (j := 2) (k := 3) (n := 10) (t0 := 4) (j2 := 6) hx hb hK hP (by decide) rfl rfl (by decide) (by decide) rfl dX12_power_188 ?_
                  refine lv_aload_n hx hb dX12_power_189 rfl (lv_at hl 0 rfl) ?_
                  refine r_get (v := .ref (b 2)) hx hb (ly_X12 hE) hown hK hP rfl 4 (by decide) (wd_1385 hE) (fun _ h9 => h9) rfl dX12_power_190 ?_
                  refine lv_iconst (v := 2) hx hb dX12_power_193 (by decide) ?_
                  refine r_aald (j := 2) (k := 2) (n := 10) (t0 := 4) (j2 := 5) hx hb hK hP (by decide) rfl rfl (by decide) (by decide) rfl dX12_power_194 ?_
                  refine rc_v hAL hS hA (va_runS (As := [.ref (b 6), .ref (b 5)]) (rest := []) ⟨hx, hb, hml, hown, noTs⟩ (r_X12_lays l dC dI H.size cs b u65 a hA67 6 (by decide) w66 hA66 5 (by decide) c1_27 hA69 (by first | assumption | omega | rfl | (congr 1; omega)) (by first | assumption | omega | rfl | (congr 1; omega)) (by first | assumption | omega | rfl | (congr 1; omega))) ⟨cbE 2 (wd_1706 hE) (wd_126 hE) (wd_1704 hE) rfl rfl (by decide +kernel) ⟨Nat.le_of_ble_eq_true rfl, Nat.le_of_ble_eq_true rfl⟩, (wd_1705 hE)⟩ ⟨PR.blind, (r_pre (av := [.ref (b 6), .ref (b 5)]) hK hP hJ hE)⟩ rfl rfl hl.1 rfl (lv_room (Nat.le_of_ble_eq_true rfl)) dX12_power_195 ⟨Nat.le_of_ble_eq_true rfl, Nat.le_of_ble_eq_true rfl⟩) (fun u73 H locs hpo73 hP hS => ?_)
                  obtain ⟨h73_0, h73_1, h73_2, h73_3, h73_4, h73_5, hq73⟩ := hpo73
                  obtain ⟨w74, hA74⟩ : ∃ g, rA u73 5 = g := ⟨_, rfl⟩
                  rw [hA74] at h73_0 h73_1 h73_2 h73_3 h73_4 h73_5
                  have hA75 := (hq73.1 1 (by decide)).trans hA67
                  have hA76 := (hq73.1 3 (by decide)).trans hA68
                  have hA77 := (hq73.1 6 (by decide)).trans hA66
                  have hF78x := (hq73.2.1 2 List.not_mem_nil).trans hF70x
                  have hfr := FR.step hfr hq73 (by decide) (fun _ h => absurd h List.not_mem_nil) (fun h => rfl)
                  have hl73_0 := pg_le h73_0
                  refine lv_iinc (v := nI (k_27 + 1)) (lv' := [(3, .int (nI (k_27 + 1))), (0, .ref (b 0)), (1, .int (nI n6)), (2, .int y)]) hx hb dX12_power_198 hl (k := 3) rfl (nI_1 k_27) (by decide) rfl (fun ls hl => ?_)
                  refine lv_goto (tgt := 127) hx hb dX12_power_201 (by decide) ?_
                  exact ih27 _ u73 _ _ _ (by omega) ⟨hP, hS, hfr, (k_27 + 1), w74, rfl, (by first | assumption | omega | rfl | (congr 1; omega)), (by first | assumption | omega | rfl | (congr 1; omega)), (by first | assumption | omega | rfl | (congr 1; omega)), (by first | assumption | omega | rfl | (congr 1; omega)), (by first | assumption | omega | rfl | (congr 1; omega)), hA75, hA76, hA74, hF78x, lv_sub hl [1, 2, 3, 0] rfl⟩
                · have c72 := mt (b_le (nI_toInt (n := rn w66) (by omega)) (show Int32.toInt 24 = 24 from rfl)).mpr c72
                  refine lv_aload_n hx hb dX12_power_176 rfl (lv_at hl 0 rfl) ?_
                  refine lv_bipush (v := 6) hx hb dX12_power_177 (by decide) ?_
                  refine rc_i hAL hS hA (va_runV (As := [.int 6]) (rest := []) ⟨hx, hb, hml, hown, noTs⟩ (r_X12_refuse l dC dI H.size cs b u65 a hA67 6) ⟨cbE 1 (wd_1498 hE) (wd_126 hE) (wd_1495 hE) rfl rfl (by decide +kernel) ⟨Nat.le_of_ble_eq_true rfl, Nat.le_of_ble_eq_true rfl⟩, (wd_1497 hE), (wd_54 hE)⟩ ⟨PR.blind, r_recv hK hP rfl, (r_pre (av := [.ref (b 0), .int 6]) hK hP hJ hE)⟩ rfl rfl hl.1 rfl (lv_room (Nat.le_of_ble_eq_true rfl)) dX12_power_179 ⟨Nat.le_of_ble_eq_true rfl, Nat.le_of_ble_eq_true rfl⟩) (fun r79 u79 H locs hpo79 hP hS => ?_)
                  obtain ⟨hr79, hq79⟩ := hpo79
                  have hA80 := (hq79.1 1 List.not_mem_nil).trans hA67
                  have hA81 := (hq79.1 3 List.not_mem_nil).trans hA68
                  have hA82 := (hq79.1 5 List.not_mem_nil).trans hA69
                  have hA83 := (hq79.1 6 List.not_mem_nil).trans hA66
                  have hF84x := (hq79.2.1 2 (by decide)).trans hF70x
                  have hfr := FR.step hfr hq79 (fun _ h => absurd h List.not_mem_nil) (by decide) (fun h => rfl)
                  subst hr79
                  exact W.iret (v := -1) hx hb hr (fun t ht hW => ⟨⟨-1, u79, rfl, ⟨trivial, (by first | (rw [hA80]; done) | (rw [hA80]; first | assumption | omega | rfl | (congr 1; omega))), (by first | (rw [hF84x]; done) | (rw [hF84x]; refine ⟨_, ?_, rfl⟩; omega)), hfr⟩, (show va_P (dC, dI) vwCl (rW cs b u79) t.heap by rw [ht]; exact hP)⟩, hS.F ht⟩) hS.2.2 dX12_power_182
          · have c19 := mt (b_le (show Int32.toInt 0 = 0 from rfl) (rfl : Int32.toInt y = _)).mpr c19
            refine lv_aload_n hx hb dX12_power_76 rfl (lv_at hl 0 rfl) ?_
            refine lv_aload_n hx hb dX12_power_77 rfl (lv_at hl 0 rfl) ?_
            refine r_get (v := .ref (b 2)) hx hb (ly_X12 hE) hown hK hP rfl 4 (by decide) (wd_1385 hE) (fun _ h9 => h9) rfl dX12_power_78 ?_
            refine lv_iconst (v := 0) hx hb dX12_power_81 (by decide) ?_
            refine r_aald (j := 2) (k := 0) (n := 10) (t0 := 4) (j2 := 3) hx hb hK hP (by decide) rfl rfl (by decide) (by decide) rfl dX12_power_82 ?_
            refine lv_aload_n hx hb dX12_power_83 rfl (lv_at hl 0 rfl) ?_
            refine r_get (v := .ref (b 2)) hx hb (ly_X12 hE) hown hK hP rfl 4 (by decide) (wd_1385 hE) (fun _ h9 => h9) rfl dX12_power_84 ?_
            refine lv_iconst (v := 1) hx hb dX12_power_87 (by decide) ?_
            refine r_aald (j := 2) (k := 1) (n := 10) (t0 := 4) (j2 := 4) hx hb hK hP (by decide) rfl rfl (by decide) (by decide) rfl dX12_power_88 ?_
            obtain ⟨g85, hg85⟩ : ∃ g, rA u15 4 = g := ⟨_, rfl⟩
            refine rc_v hAL hS hA (va_runV (As := [.ref (b 3), .ref (b 4)]) (rest := []) ⟨hx, hb, hml, hown, noTs⟩ (r_X12_turns l dC dI H.size cs b u15 a hA17 3 (by decide) w16 hA16 4 (by decide) g85 hg85 (by first | assumption | omega | rfl | (congr 1; omega)) (by first | assumption | omega | rfl | (congr 1; omega)) (by first | assumption | omega | rfl | (congr 1; omega)) (by first | assumption | omega | rfl | (congr 1; omega)) (by first | assumption | omega | rfl | (congr 1; omega)) (by first | assumption | omega | rfl | (congr 1; omega))) ⟨cbE 2 (wd_1717 hE) (wd_126 hE) (wd_1714 hE) rfl rfl (by decide +kernel) ⟨Nat.le_of_ble_eq_true rfl, Nat.le_of_ble_eq_true rfl⟩, (wd_1716 hE), (wd_90 hE)⟩ ⟨PR.blind, r_recv hK hP rfl, (r_pre (av := [.ref (b 0), .ref (b 3), .ref (b 4)]) hK hP hJ hE)⟩ rfl rfl hl.1 rfl (lv_room (Nat.le_of_ble_eq_true rfl)) dX12_power_89 ⟨Nat.le_of_ble_eq_true rfl, Nat.le_of_ble_eq_true rfl⟩) (fun u86 H locs hpo86 hP hS => ?_)
            obtain ⟨h86_0, h86_1, h86_2, h86_3, h86_4, hq86⟩ := hpo86
            obtain ⟨w87, hA87⟩ : ∃ g, rA u86 4 = g := ⟨_, rfl⟩
            rw [hA87] at h86_0 h86_1 h86_2 h86_3 h86_4
            have hA88 := (hq86.1 1 (by decide)).trans hA17
            have hA89 := (hq86.1 3 (by decide)).trans hA16
            have hF90x := (hq86.2.1 2 (by decide)).trans hF18x
            have hfr := FR.step hfr hq86 (by decide) (by decide) (fun h => rfl)
            have hl86_0 := pg_le h86_0
            refine lv_aload_n hx hb dX12_power_92 rfl (lv_at hl 0 rfl) ?_
            refine r_get (v := .ref (b 2)) hx hb (ly_X12 hE) hown hK hP rfl 4 (by decide) (wd_1385 hE) (fun _ h9 => h9) rfl dX12_power_93 ?_
            refine lv_iconst (v := 1) hx hb dX12_power_96 (by decide) ?_
            refine r_aald (j := 2) (k := 1) (n := 10) (t0 := 4) (j2 := 4) hx hb hK hP (by decide) rfl rfl (by decide) (by decide) rfl dX12_power_97 ?_
            refine lv_aload_n hx hb dX12_power_98 rfl (lv_at hl 0 rfl) ?_
            refine r_get (v := .ref (b 2)) hx hb (ly_X12 hE) hown hK hP rfl 4 (by decide) (wd_1385 hE) (fun _ h9 => h9) rfl dX12_power_99 ?_
            refine lv_iconst (v := 0) hx hb dX12_power_102 (by decide) ?_
            refine r_aald (j := 2) (k := 0) (n := 10) (t0 := 4) (j2 := 3) hx hb hK hP (by decide) rfl rfl (by decide) (by decide) rfl dX12_power_103 ?_
            refine rc_v hAL hS hA (va_runS (As := [.ref (b 4), .ref (b 3)]) (rest := []) ⟨hx, hb, hml, hown, noTs⟩ (r_X12_lays l dC dI H.size cs b u86 a hA88 4 (by decide) w87 hA87 3 (by decide) w16 hA89 (by first | assumption | omega | rfl | (congr 1; omega)) (by first | assumption | omega | rfl | (congr 1; omega)) (by first | assumption | omega | rfl | (congr 1; omega))) ⟨cbE 2 (wd_1706 hE) (wd_126 hE) (wd_1704 hE) rfl rfl (by decide +kernel) ⟨Nat.le_of_ble_eq_true rfl, Nat.le_of_ble_eq_true rfl⟩, (wd_1705 hE)⟩ ⟨PR.blind, (r_pre (av := [.ref (b 4), .ref (b 3)]) hK hP hJ hE)⟩ rfl rfl hl.1 rfl (lv_room (Nat.le_of_ble_eq_true rfl)) dX12_power_104 ⟨Nat.le_of_ble_eq_true rfl, Nat.le_of_ble_eq_true rfl⟩) (fun u91 H locs hpo91 hP hS => ?_)
            obtain ⟨h91_0, h91_1, h91_2, h91_3, h91_4, h91_5, hq91⟩ := hpo91
            obtain ⟨w92, hA92⟩ : ∃ g, rA u91 3 = g := ⟨_, rfl⟩
            rw [hA92] at h91_0 h91_1 h91_2 h91_3 h91_4 h91_5
            have hA93 := (hq91.1 1 (by decide)).trans hA88
            have hA94 := (hq91.1 4 (by decide)).trans hA87
            have hF95x := (hq91.2.1 2 List.not_mem_nil).trans hF90x
            have hfr := FR.step hfr hq91 (by decide) (fun _ h => absurd h List.not_mem_nil) (fun h => rfl)
            have hl91_0 := pg_le h91_0
            have PA := h91_0
            have LA := h91_1
            have VA : vend a w92 = rb w92 := by omega
            refine lv_aload_n hx hb dX12_power_107 rfl (lv_at hl 0 rfl) ?_
            refine r_get (v := .ref (b 2)) hx hb (ly_X12 hE) hown hK hP rfl 4 (by decide) (wd_1385 hE) (fun _ h9 => h9) rfl dX12_power_108 ?_
            refine lv_iconst (v := 2) hx hb dX12_power_111 (by decide) ?_
            refine r_aald (j := 2) (k := 2) (n := 10) (t0 := 4) (j2 := 5) hx hb hK hP (by decide) rfl rfl (by decide) (by decide) rfl dX12_power_112 ?_
            refine lv_aload_n hx hb dX12_power_113 rfl (lv_at hl 0 rfl) ?_
            refine r_get (v := .ref (b 2)) hx hb (ly_X12 hE) hown hK hP rfl 4 (by decide) (wd_1385 hE) (fun _ h9 => h9) rfl dX12_power_114 ?_
            refine lv_iconst (v := 0) hx hb dX12_power_117 (by decide) ?_
            refine r_aald (j := 2) (k := 0) (n := 10) (t0 := 4) (j2 := 3) hx hb hK hP (by decide) rfl rfl (by decide) (by decide) rfl dX12_power_118 ?_
            refine lv_iconst (v := 0) hx hb dX12_power_119 (by decide) ?_
            refine r_iald (j := 3) (k := 0) (n := 200) (x := nI (rb w92)) hx hb hK hP (by decide) rfl (by decide) (by decide) (by rw [hA92]; exact pg_b h91_0) dX12_power_120 ?_
            refine lv_iconst (v := 0) hx hb dX12_power_121 (by decide) ?_
            obtain ⟨g97, hg97⟩ : ∃ g, rA u91 5 = g := ⟨_, rfl⟩
            refine rc_v hAL hS hA (va_runS (As := [.ref (b 5), .int (nI (rb w92)), .int 0]) (rest := []) ⟨hx, hb, hml, hown, noTs⟩ (r_X12_single l dC dI H.size cs b u91 a hA93 5 (by decide) g97 hg97 (rb w92) 0 (by first | assumption | omega | rfl | (congr 1; omega)) (by first | assumption | omega | rfl | (congr 1; omega))) ⟨cbE 3 (wd_1579 hE) (wd_126 hE) (wd_1577 hE) rfl rfl (by decide +kernel) ⟨Nat.le_of_ble_eq_true rfl, Nat.le_of_ble_eq_true rfl⟩, (wd_1578 hE)⟩ ⟨PR.blind, (r_pre (av := [.ref (b 5), .int (nI (rb w92)), .int 0]) hK hP hJ hE)⟩ rfl rfl hl.1 rfl (lv_room (Nat.le_of_ble_eq_true rfl)) dX12_power_122 ⟨Nat.le_of_ble_eq_true rfl, Nat.le_of_ble_eq_true rfl⟩) (fun u98 H locs hpo98 hP hS => ?_)
            obtain ⟨h98_0, h98_1, h98_2, h98_3, h98_4, hq98⟩ := hpo98
            obtain ⟨w99, hA99⟩ : ∃ g, rA u98 5 = g := ⟨_, rfl⟩
            rw [hA99] at h98_0 h98_1 h98_2 h98_3 h98_4
            have hA100 := (hq98.1 1 (by decide)).trans hA93
            have hA101 := (hq98.1 4 (by decide)).trans hA94
            have hA102 := (hq98.1 3 (by decide)).trans hA92
            have hF103x := (hq98.2.1 2 List.not_mem_nil).trans hF95x
            have hfr := FR.step hfr hq98 (by decide) (fun _ h => absurd h List.not_mem_nil) (fun h => rfl)
            have hl98_0 := pg_le h98_0
            have hbo := gg_od hG (pg_le PA).1
            have q8 : LG a w99 := lg_mk (n := 0) h98_1 h98_3 (show w99 (2 + 2 * 0) = nI 0 from h98_4) (by omega) (by omega)
            refine lv_iconst (v := 0) hx hb dX12_power_125 (by decide) ?_
            refine lv_istore_n (lv' := [(3, .int 0), (0, .ref (b 0)), (1, .int (nI n6)), (2, .int y)]) hx hb dX12_power_126 rfl hl (by decide) rfl (fun ls hl => ?_)
            refine r_ind (I := fun n u_ H locs ls => va_P (dC, dI) vwCl (rW cs b u_) H ∧ va_S (AR b s.heap.size) s.heap H locs ∧ FR [1, 3, 4, 5, 6, 7, 8, 9, 10, 11, 12, 13, 14, 17, 18, 19, 20] [1, 2, 5, 21, 22] true u u_ ∧ ∃ (k_104 : Nat) (c1_104 : Nat → Int32), n = 10 - k_104 ∧ (PG a c1_104) ∧ (LG a c1_104) ∧ (k_104 ≤ 9) ∧ (rn c1_104 ≤ 24) ∧ (vend a c1_104 = rb w92) ∧ (rA u_ 1 = a) ∧ (rA u_ 3 = w92) ∧ (rA u_ 5 = c1_104) ∧ (rF u_ 2 = nI ac) ∧ lv_has ls 4 [(0, .ref (b 0)), (1, .int (nI n6)), (2, .int y), (3, .int (nI k_104))]) (fun n u104 H locs ls hI ih104 => ?_) _ u98 _ _ _ ⟨hP, hS, hfr, 0, w99, rfl, (by first | assumption | omega | rfl | (congr 1; omega)), (by first | assumption | omega | rfl | (congr 1; omega)), (by first | assumption | omega | rfl | (congr 1; omega)), (by first | assumption | omega | rfl | (congr 1; omega)), (by first | assumption | omega | rfl | (congr 1; omega)), hA100, hA102, hA99, hF103x, lv_sub hl [1, 2, 3, 0] rfl⟩
            obtain ⟨hP, hS, hfr, k_104, c1_104, hmu104, hL104_0, hL104_1, hL104_2, hL104_3, hL104_4, hL104_5, hL104_6, hL104_7, hL104_8, hl⟩ := hI
            subst hmu104
            have hl104_0 := pg_le hL104_0
            refine lv_iload_n hx hb dX12_power_127 rfl (lv_at hl 3 rfl) ?_
            refine lv_iload_n hx hb dX12_power_128 rfl (lv_at hl 2 rfl) ?_
            refine lv_if_ge (tgt := 137) hx hb dX12_power_129 (by decide) (fun c105 => ?_) (fun c105 => ?_)
            · have c105 := (b_le (show Int32.toInt 0 = 0 from rfl) (rfl : Int32.toInt y = _)).mp c105
              refine lv_iload_n hx hb dX12_power_137 rfl (lv_at hl 2 rfl) ?_
              refine lv_icmp_ge (tgt := 204) hx hb dX12_power_138 (by decide) (fun c106 => ?_) (fun c106 => ?_)
              · have c106 := (b_le (rfl : Int32.toInt y = _) (nI_toInt (n := k_104) (by omega))).mp c106
                refine lv_aload_n hx hb dX12_power_204 rfl (lv_at hl 0 rfl) ?_
                refine lv_aload_n hx hb dX12_power_205 rfl (lv_at hl 0 rfl) ?_
                refine r_get (v := .ref (b 2)) hx hb (ly_X12 hE) hown hK hP rfl 4 (by decide) (wd_1385 hE) (fun _ h9 => h9) rfl dX12_power_206 ?_
                refine lv_iconst (v := 2) hx hb dX12_power_209 (by decide) ?_
                refine r_aald (j := 2) (k := 2) (n := 10) (t0 := 4) (j2 := 5) hx hb hK hP (by decide) rfl rfl (by decide) (by decide) rfl dX12_power_210 ?_
                refine rc_i hAL hS hA (va_runV (As := [.ref (b 5)]) (rest := []) ⟨hx, hb, hml, hown, noTs⟩ (r_X12_more l dC dI H.size cs b u104 a hL104_5 5 (by decide) c1_104 hL104_7 _ hL104_8 (by first | assumption | omega | rfl | (congr 1; omega)) (by first | assumption | omega | rfl | (congr 1; omega)) (by first | assumption | omega | rfl | (congr 1; omega)) (by first | assumption | omega | rfl | (congr 1; omega)) (by first | assumption | omega | rfl | (congr 1; omega))) ⟨cbE 1 (wd_1691 hE) (wd_126 hE) (wd_1688 hE) rfl rfl (by decide +kernel) ⟨Nat.le_of_ble_eq_true rfl, Nat.le_of_ble_eq_true rfl⟩, (wd_1690 hE), (wd_88 hE)⟩ ⟨PR.blind, r_recv hK hP rfl, (r_pre (av := [.ref (b 0), .ref (b 5)]) hK hP hJ hE)⟩ rfl rfl hl.1 rfl (lv_room (Nat.le_of_ble_eq_true rfl)) dX12_power_211 ⟨Nat.le_of_ble_eq_true rfl, Nat.le_of_ble_eq_true rfl⟩) (fun r107 u107 H locs hpo107 hP hS => ?_)
                obtain ⟨hr107, h107_0, h107_1, hq107⟩ := hpo107
                obtain ⟨w108, hA108⟩ : ∃ g, rA u107 1 = g := ⟨_, rfl⟩
                rw [hA108] at h107_0
                obtain ⟨n107_1, hn107_1, hfe107_1⟩ := h107_1
                have hA109 := (hq107.1 3 (by decide)).trans hL104_6
                have hA110 := (hq107.1 5 (by decide)).trans hL104_7
                have hfr := FR.step hfr hq107 (by decide) (by decide) (fun h => rfl)
                have hB := ab_0 h107_0
                have hG := bg_g hB
                have ha111 := gg_le hG
                have ha111b := bg_w hB
                exact W.iret (v := r107) hx hb hr (fun t ht hW => ⟨⟨r107, u107, rfl, ⟨trivial, (by first | (rw [hA108]; done) | (rw [hA108]; first | assumption | omega | rfl | (congr 1; omega))), (by first | (rw [hfe107_1]; done) | (rw [hfe107_1]; refine ⟨_, ?_, rfl⟩; omega)), hfr⟩, (show va_P (dC, dI) vwCl (rW cs b u107) t.heap by rw [ht]; exact hP)⟩, hS.F ht⟩) hS.2.2 dX12_power_214
              · have c106 := mt (b_le (rfl : Int32.toInt y = _) (nI_toInt (n := k_104) (by omega))).mpr c106
                refine lv_aload_n hx hb dX12_power_141 rfl (lv_at hl 0 rfl) ?_
                refine lv_aload_n hx hb dX12_power_142 rfl (lv_at hl 0 rfl) ?_
                refine r_get (v := .ref (b 2)) hx hb (ly_X12 hE) hown hK hP rfl 4 (by decide) (wd_1385 hE) (fun _ h9 => h9) rfl dX12_power_143 ?_
                refine lv_iconst (v := 2) hx hb dX12_power_146 (by decide) ?_
                refine r_aald (j := 2) (k := 2) (n := 10) (t0 := 4) (j2 := 5) hx hb hK hP (by decide) rfl rfl (by decide) (by decide) rfl dX12_power_147 ?_
                refine lv_aload_n hx hb dX12_power_148 rfl (lv_at hl 0 rfl) ?_
                refine r_get (v := .ref (b 2)) hx hb (ly_X12 hE) hown hK hP rfl 4 (by decide) (wd_1385 hE) (fun _ h9 => h9) rfl dX12_power_149 ?_
                refine lv_iconst (v := 0) hx hb dX12_power_152 (by decide) ?_
                refine r_aald (j := 2) (k := 0) (n := 10) (t0 := 4) (j2 := 3) hx hb hK hP (by decide) rfl rfl (by decide) (by decide) rfl dX12_power_153 ?_
                refine lv_aload_n hx hb dX12_power_154 rfl (lv_at hl 0 rfl) ?_
                refine r_get (v := .ref (b 2)) hx hb (ly_X12 hE) hown hK hP rfl 4 (by decide) (wd_1385 hE) (fun _ h9 => h9) rfl dX12_power_155 ?_
                refine lv_iconst (v := 3) hx hb dX12_power_158 (by decide) ?_
                refine r_aald (j := 2) (k := 3) (n := 10) (t0 := 4) (j2 := 6) hx hb hK hP (by decide) rfl rfl (by decide) (by decide) rfl dX12_power_159 ?_
                obtain ⟨g112, hg112⟩ : ∃ g, rA u104 6 = g := ⟨_, rfl⟩
                refine rc_v hAL hS hA (va_runV (As := [.ref (b 5), .ref (b 3), .ref (b 6)]) (rest := []) ⟨hx, hb, hml, hown, noTs⟩ (r_X12_joins l dC dI H.size cs b u104 a hL104_5 5 (by decide) c1_104 hL104_7 3 (by decide) w92 hL104_6 6 (by decide) g112 hg112 (by first | assumption | omega | rfl | (congr 1; omega)) (by first | assumption | omega | rfl | (congr 1; omega)) (by first | assumption | omega | rfl | (congr 1; omega)) (by first | assumption | omega | rfl | (congr 1; omega)) (by first | assumption | omega | rfl | (congr 1; omega)) (by first | assumption | omega | rfl | (congr 1; omega)) (by first | assumption | omega | rfl | (congr 1; omega)) (by first | assumption | omega | rfl | (congr 1; omega)) (by first | assumption | omega | rfl | (congr 1; omega)) (by first | assumption | omega | rfl | (congr 1; omega)) (by first | assumption | omega | rfl | (congr 1; omega)) (by first | assumption | omega | rfl | (congr 1; omega))) ⟨cbE 3 (wd_1703 hE) (wd_126 hE) (wd_1700 hE) rfl rfl (by decide +kernel) ⟨Nat.le_of_ble_eq_true rfl, Nat.le_of_ble_eq_true rfl⟩, (wd_1702 hE), (wd_89 hE)⟩ ⟨PR.blind, r_recv hK hP rfl, (r_pre (av := [.ref (b 0), .ref (b 5), .ref (b 3), .ref (b 6)]) hK hP hJ hE)⟩ rfl rfl hl.1 rfl (lv_room (Nat.le_of_ble_eq_true rfl)) dX12_power_160 ⟨Nat.le_of_ble_eq_true rfl, Nat.le_of_ble_eq_true rfl⟩) (fun u113 H locs hpo113 hP hS => ?_)
                obtain ⟨h113_0, h113_1, h113_2, h113_3, h113_4, hq113⟩ := hpo113
                obtain ⟨w114, hA114⟩ : ∃ g, rA u113 6 = g := ⟨_, rfl⟩
                rw [hA114] at h113_0 h113_1 h113_2 h113_3 h113_4
                have hA115 := (hq113.1 1 (by decide)).trans hL104_5
                have hA116 := (hq113.1 3 (by decide)).trans hL104_6
                have hA117 := (hq113.1 5 (by decide)).trans hL104_7
                have hF118x := (hq113.2.1 2 (by decide)).trans hL104_8
                have hfr := FR.step hfr hq113 (by decide) (by decide) (fun h => rfl)
                have hl113_0 := pg_le h113_0
                refine lv_aload_n hx hb dX12_power_163 rfl (lv_at hl 0 rfl) ?_
                refine r_get (v := .ref (b 2)) hx hb (ly_X12 hE) hown hK hP rfl 4 (by decide) (wd_1385 hE) (fun _ h9 => h9) rfl dX12_power_164 ?_
                refine lv_iconst (v := 3) hx hb dX12_power_167 (by decide) ?_
                refine r_aald (j := 2) (k := 3) (n := 10) (t0 := 4) (j2 := 6) hx hb hK hP (by decide) rfl rfl (by decide) (by decide) rfl dX12_power_168 ?_
                refine lv_iconst (v := 1) hx hb dX12_power_169 (by decide) ?_
                refine r_iald (j := 6) (k := 1) (n := 200) (x := nI (rn w114)) hx hb hK hP (by decide) rfl (by decide) (by decide) (by rw [hA114]; exact pg_n h113_0) dX12_power_170 ?_
                refine lv_bipush (v := 24) hx hb dX12_power_171 (by decide) ?_
                refine lv_icmp_le (tgt := 183) hx hb dX12_power_173 (by decide) (fun c120 => ?_) (fun c120 => ?_)
                · have c120 := (b_le (nI_toInt (n := rn w114) (by omega)) (show Int32.toInt 24 = 24 from rfl)).mp c120
                  refine lv_aload_n hx hb dX12_power_183 rfl (lv_at hl 0 rfl) ?_
                  refine r_get (v := .ref (b 2)) hx hb (ly_X12 hE) hown hK hP rfl 4 (by decide) (wd_1385 hE) (fun _ h9 => h9) rfl dX12_power_184 ?_
                  refine lv_iconst (v := 3) hx hb dX12_power_187 (by decide) ?_
                  refine r_aald (j := 2) (k := 3) (n := 10) (t0 := 4) (j2 := 6) hx hb hK hP (by decide) rfl rfl (by decide) (by decide) rfl dX12_power_188 ?_
                  refine lv_aload_n hx hb dX12_power_189 rfl (lv_at hl 0 rfl) ?_
                  refine r_get (v := .ref (b 2)) hx hb (ly_X12 hE) hown hK hP rfl 4 (by decide) (wd_1385 hE) (fun _ h9 => h9) rfl dX12_power_190 ?_
                  refine lv_iconst (v := 2) hx hb dX12_power_193 (by decide) ?_
                  refine r_aald (j := 2) (k := 2) (n := 10) (t0 := 4) (j2 := 5) hx hb hK hP (by decide) rfl rfl (by decide) (by decide) rfl dX12_power_194 ?_
                  refine rc_v hAL hS hA (va_runS (As := [.ref (b 6), .ref (b 5)]) (rest := []) ⟨hx, hb, hml, hown, noTs⟩ (r_X12_lays l dC dI H.size cs b u113 a hA115 6 (by decide) w114 hA114 5 (by decide) c1_104 hA117 (by first | assumption | omega | rfl | (congr 1; omega)) (by first | assumption | omega | rfl | (congr 1; omega)) (by first | assumption | omega | rfl | (congr 1; omega))) ⟨cbE 2 (wd_1706 hE) (wd_126 hE) (wd_1704 hE) rfl rfl (by decide +kernel) ⟨Nat.le_of_ble_eq_true rfl, Nat.le_of_ble_eq_true rfl⟩, (wd_1705 hE)⟩ ⟨PR.blind, (r_pre (av := [.ref (b 6), .ref (b 5)]) hK hP hJ hE)⟩ rfl rfl hl.1 rfl (lv_room (Nat.le_of_ble_eq_true rfl)) dX12_power_195 ⟨Nat.le_of_ble_eq_true rfl, Nat.le_of_ble_eq_true rfl⟩) (fun u121 H locs hpo121 hP hS => ?_)
                  obtain ⟨h121_0, h121_1, h121_2, h121_3, h121_4, h121_5, hq121⟩ := hpo121
                  obtain ⟨w122, hA122⟩ : ∃ g, rA u121 5 = g := ⟨_, rfl⟩
                  rw [hA122] at h121_0 h121_1 h121_2 h121_3 h121_4 h121_5
                  have hA123 := (hq121.1 1 (by decide)).trans hA115
                  have hA124 := (hq121.1 3 (by decide)).trans hA116
                  have hA125 := (hq121.1 6 (by decide)).trans hA114
                  have hF126x := (hq121.2.1 2 List.not_mem_nil).trans hF118x
                  have hfr := FR.step hfr hq121 (by decide) (fun _ h => absurd h List.not_mem_nil) (fun h => rfl)
                  have hl121_0 := pg_le h121_0
                  refine lv_iinc (v := nI (k_104 + 1)) (lv' := [(3, .int (nI (k_104 + 1))), (0, .ref (b 0)), (1, .int (nI n6)), (2, .int y)]) hx hb dX12_power_198 hl (k := 3) rfl (nI_1 k_104) (by decide) rfl (fun ls hl => ?_)
                  refine lv_goto (tgt := 127) hx hb dX12_power_201 (by decide) ?_
                  exact ih104 _ u121 _ _ _ (by omega) ⟨hP, hS, hfr, (k_104 + 1), w122, rfl, (by first | assumption | omega | rfl | (congr 1; omega)), (by first | assumption | omega | rfl | (congr 1; omega)), (by first | assumption | omega | rfl | (congr 1; omega)), (by first | assumption | omega | rfl | (congr 1; omega)), (by first | assumption | omega | rfl | (congr 1; omega)), hA123, hA124, hA122, hF126x, lv_sub hl [1, 2, 3, 0] rfl⟩
                · have c120 := mt (b_le (nI_toInt (n := rn w114) (by omega)) (show Int32.toInt 24 = 24 from rfl)).mpr c120
                  refine lv_aload_n hx hb dX12_power_176 rfl (lv_at hl 0 rfl) ?_
                  refine lv_bipush (v := 6) hx hb dX12_power_177 (by decide) ?_
                  refine rc_i hAL hS hA (va_runV (As := [.int 6]) (rest := []) ⟨hx, hb, hml, hown, noTs⟩ (r_X12_refuse l dC dI H.size cs b u113 a hA115 6) ⟨cbE 1 (wd_1498 hE) (wd_126 hE) (wd_1495 hE) rfl rfl (by decide +kernel) ⟨Nat.le_of_ble_eq_true rfl, Nat.le_of_ble_eq_true rfl⟩, (wd_1497 hE), (wd_54 hE)⟩ ⟨PR.blind, r_recv hK hP rfl, (r_pre (av := [.ref (b 0), .int 6]) hK hP hJ hE)⟩ rfl rfl hl.1 rfl (lv_room (Nat.le_of_ble_eq_true rfl)) dX12_power_179 ⟨Nat.le_of_ble_eq_true rfl, Nat.le_of_ble_eq_true rfl⟩) (fun r127 u127 H locs hpo127 hP hS => ?_)
                  obtain ⟨hr127, hq127⟩ := hpo127
                  have hA128 := (hq127.1 1 List.not_mem_nil).trans hA115
                  have hA129 := (hq127.1 3 List.not_mem_nil).trans hA116
                  have hA130 := (hq127.1 5 List.not_mem_nil).trans hA117
                  have hA131 := (hq127.1 6 List.not_mem_nil).trans hA114
                  have hF132x := (hq127.2.1 2 (by decide)).trans hF118x
                  have hfr := FR.step hfr hq127 (fun _ h => absurd h List.not_mem_nil) (by decide) (fun h => rfl)
                  subst hr127
                  exact W.iret (v := -1) hx hb hr (fun t ht hW => ⟨⟨-1, u127, rfl, ⟨trivial, (by first | (rw [hA128]; done) | (rw [hA128]; first | assumption | omega | rfl | (congr 1; omega))), (by first | (rw [hF132x]; done) | (rw [hF132x]; refine ⟨_, ?_, rfl⟩; omega)), hfr⟩, (show va_P (dC, dI) vwCl (rW cs b u127) t.heap by rw [ht]; exact hP)⟩, hS.F ht⟩) hS.2.2 dX12_power_182
            · have c105 := mt (b_le (show Int32.toInt 0 = 0 from rfl) (rfl : Int32.toInt y = _)).mpr c105
              refine lv_iload_n hx hb dX12_power_132 rfl (lv_at hl 2 rfl) ?_
              refine lv_ineg hx hb dX12_power_133 ?_
              refine lv_topi (fun x133 ex133 => ?_)
              have hz134 : x133.toInt = -(y.toInt) := by rw [ex133]; exact z_neg (rfl : Int32.toInt y = _) (by omega)
              refine lv_goto (tgt := 138) hx hb dX12_power_134 (by decide) ?_
              refine lv_icmp_ge (tgt := 204) hx hb dX12_power_138 (by decide) (fun c135 => ?_) (fun c135 => ?_)
              · have c135 := (b_le hz134 (nI_toInt (n := k_104) (by omega))).mp c135
                refine lv_aload_n hx hb dX12_power_204 rfl (lv_at hl 0 rfl) ?_
                refine lv_aload_n hx hb dX12_power_205 rfl (lv_at hl 0 rfl) ?_
                refine r_get (v := .ref (b 2)) hx hb (ly_X12 hE) hown hK hP rfl 4 (by decide) (wd_1385 hE) (fun _ h9 => h9) rfl dX12_power_206 ?_
                refine lv_iconst (v := 2) hx hb dX12_power_209 (by decide) ?_
                refine r_aald (j := 2) (k := 2) (n := 10) (t0 := 4) (j2 := 5) hx hb hK hP (by decide) rfl rfl (by decide) (by decide) rfl dX12_power_210 ?_
                refine rc_i hAL hS hA (va_runV (As := [.ref (b 5)]) (rest := []) ⟨hx, hb, hml, hown, noTs⟩ (r_X12_more l dC dI H.size cs b u104 a hL104_5 5 (by decide) c1_104 hL104_7 _ hL104_8 (by first | assumption | omega | rfl | (congr 1; omega)) (by first | assumption | omega | rfl | (congr 1; omega)) (by first | assumption | omega | rfl | (congr 1; omega)) (by first | assumption | omega | rfl | (congr 1; omega)) (by first | assumption | omega | rfl | (congr 1; omega))) ⟨cbE 1 (wd_1691 hE) (wd_126 hE) (wd_1688 hE) rfl rfl (by decide +kernel) ⟨Nat.le_of_ble_eq_true rfl, Nat.le_of_ble_eq_true rfl⟩, (wd_1690 hE), (wd_88 hE)⟩ ⟨PR.blind, r_recv hK hP rfl, (r_pre (av := [.ref (b 0), .ref (b 5)]) hK hP hJ hE)⟩ rfl rfl hl.1 rfl (lv_room (Nat.le_of_ble_eq_true rfl)) dX12_power_211 ⟨Nat.le_of_ble_eq_true rfl, Nat.le_of_ble_eq_true rfl⟩) (fun r136 u136 H locs hpo136 hP hS => ?_)
                obtain ⟨hr136, h136_0, h136_1, hq136⟩ := hpo136
                obtain ⟨w137, hA137⟩ : ∃ g, rA u136 1 = g := ⟨_, rfl⟩
                rw [hA137] at h136_0
                obtain ⟨n136_1, hn136_1, hfe136_1⟩ := h136_1
                have hA138 := (hq136.1 3 (by decide)).trans hL104_6
                have hA139 := (hq136.1 5 (by decide)).trans hL104_7
                have hfr := FR.step hfr hq136 (by decide) (by decide) (fun h => rfl)
                have hB := ab_0 h136_0
                have hG := bg_g hB
                have ha140 := gg_le hG
                have ha140b := bg_w hB
                exact W.iret (v := r136) hx hb hr (fun t ht hW => ⟨⟨r136, u136, rfl, ⟨trivial, (by first | (rw [hA137]; done) | (rw [hA137]; first | assumption | omega | rfl | (congr 1; omega))), (by first | (rw [hfe136_1]; done) | (rw [hfe136_1]; refine ⟨_, ?_, rfl⟩; omega)), hfr⟩, (show va_P (dC, dI) vwCl (rW cs b u136) t.heap by rw [ht]; exact hP)⟩, hS.F ht⟩) hS.2.2 dX12_power_214
              · have c135 := mt (b_le hz134 (nI_toInt (n := k_104) (by omega))).mpr c135
                refine lv_aload_n hx hb dX12_power_141 rfl (lv_at hl 0 rfl) ?_
                refine lv_aload_n hx hb dX12_power_142 rfl (lv_at hl 0 rfl) ?_
                refine r_get (v := .ref (b 2)) hx hb (ly_X12 hE) hown hK hP rfl 4 (by decide) (wd_1385 hE) (fun _ h9 => h9) rfl dX12_power_143 ?_
                refine lv_iconst (v := 2) hx hb dX12_power_146 (by decide) ?_
                refine r_aald (j := 2) (k := 2) (n := 10) (t0 := 4) (j2 := 5) hx hb hK hP (by decide) rfl rfl (by decide) (by decide) rfl dX12_power_147 ?_
                refine lv_aload_n hx hb dX12_power_148 rfl (lv_at hl 0 rfl) ?_
                refine r_get (v := .ref (b 2)) hx hb (ly_X12 hE) hown hK hP rfl 4 (by decide) (wd_1385 hE) (fun _ h9 => h9) rfl dX12_power_149 ?_
                refine lv_iconst (v := 0) hx hb dX12_power_152 (by decide) ?_
                refine r_aald (j := 2) (k := 0) (n := 10) (t0 := 4) (j2 := 3) hx hb hK hP (by decide) rfl rfl (by decide) (by decide) rfl dX12_power_153 ?_
                refine lv_aload_n hx hb dX12_power_154 rfl (lv_at hl 0 rfl) ?_
                refine r_get (v := .ref (b 2)) hx hb (ly_X12 hE) hown hK hP rfl 4 (by decide) (wd_1385 hE) (fun _ h9 => h9) rfl dX12_power_155 ?_
                refine lv_iconst (v := 3) hx hb dX12_power_158 (by decide) ?_
                refine r_aald (j := 2) (k := 3) (n := 10) (t0 := 4) (j2 := 6) hx hb hK hP (by decide) rfl rfl (by decide) (by decide) rfl dX12_power_159 ?_
                obtain ⟨g141, hg141⟩ : ∃ g, rA u104 6 = g := ⟨_, rfl⟩
                refine rc_v hAL hS hA (va_runV (As := [.ref (b 5), .ref (b 3), .ref (b 6)]) (rest := []) ⟨hx, hb, hml, hown, noTs⟩ (r_X12_joins l dC dI H.size cs b u104 a hL104_5 5 (by decide) c1_104 hL104_7 3 (by decide) w92 hL104_6 6 (by decide) g141 hg141 (by first | assumption | omega | rfl | (congr 1; omega)) (by first | assumption | omega | rfl | (congr 1; omega)) (by first | assumption | omega | rfl | (congr 1; omega)) (by first | assumption | omega | rfl | (congr 1; omega)) (by first | assumption | omega | rfl | (congr 1; omega)) (by first | assumption | omega | rfl | (congr 1; omega)) (by first | assumption | omega | rfl | (congr 1; omega)) (by first | assumption | omega | rfl | (congr 1; omega)) (by first | assumption | omega | rfl | (congr 1; omega)) (by first | assumption | omega | rfl | (congr 1; omega)) (by first | assumption | omega | rfl | (congr 1; omega)) (by first | assumption | omega | rfl | (congr 1; omega))) ⟨cbE 3 (wd_1703 hE) (wd_126 hE) (wd_1700 hE) rfl rfl (by decide +kernel) ⟨Nat.le_of_ble_eq_true rfl, Nat.le_of_ble_eq_true rfl⟩, (wd_1702 hE), (wd_89 hE)⟩ ⟨PR.blind, r_recv hK hP rfl, (r_pre (av := [.ref (b 0), .ref (b 5), .ref (b 3), .ref (b 6)]) hK hP hJ hE)⟩ rfl rfl hl.1 rfl (lv_room (Nat.le_of_ble_eq_true rfl)) dX12_power_160 ⟨Nat.le_of_ble_eq_true rfl, Nat.le_of_ble_eq_true rfl⟩) (fun u142 H locs hpo142 hP hS => ?_)
                obtain ⟨h142_0, h142_1, h142_2, h142_3, h142_4, hq142⟩ := hpo142
                obtain ⟨w143, hA143⟩ : ∃ g, rA u142 6 = g := ⟨_, rfl⟩
                rw [hA143] at h142_0 h142_1 h142_2 h142_3 h142_4
                have hA144 := (hq142.1 1 (by decide)).trans hL104_5
                have hA145 := (hq142.1 3 (by decide)).trans hL104_6
                have hA146 := (hq142.1 5 (by decide)).trans hL104_7
                have hF147x := (hq142.2.1 2 (by decide)).trans hL104_8
                have hfr := FR.step hfr hq142 (by decide) (by decide) (fun h => rfl)
                have hl142_0 := pg_le h142_0
                refine lv_aload_n hx hb dX12_power_163 rfl (lv_at hl 0 rfl) ?_
                refine r_get (v := .ref (b 2)) hx hb (ly_X12 hE) hown hK hP rfl 4 (by decide) (wd_1385 hE) (fun _ h9 => h9) rfl dX12_power_164 ?_
                refine lv_iconst (v := 3) hx hb dX12_power_167 (by decide) ?_
                refine r_aald (j := 2) (k := 3) (n := 10) (t0 := 4) (j2 := 6) hx hb hK hP (by decide) rfl rfl (by decide) (by decide) rfl dX12_power_168 ?_
                refine lv_iconst (v := 1) hx hb dX12_power_169 (by decide) ?_
                refine r_iald (j := 6) (k := 1) (n := 200) (x := nI (rn w143)) hx hb hK hP (by decide) rfl (by decide) (by decide) (by rw [hA143]; exact pg_n h142_0) dX12_power_170 ?_
                refine lv_bipush (v := 24) hx hb dX12_power_171 (by decide) ?_
                refine lv_icmp_le (tgt := 183) hx hb dX12_power_173 (by decide) (fun c149 => ?_) (fun c149 => ?_)
                · have c149 := (b_le (nI_toInt (n := rn w143) (by omega)) (show Int32.toInt 24 = 24 from rfl)).mp c149
                  refine lv_aload_n hx hb dX12_power_183 rfl (lv_at hl 0 rfl) ?_
                  refine r_get (v := .ref (b 2)) hx hb (ly_X12 hE) hown hK hP rfl 4 (by decide) (wd_1385 hE) (fun _ h9 => h9) rfl dX12_power_184 ?_
                  refine lv_iconst (v := 3) hx hb dX12_power_187 (by decide) ?_
                  refine r_aald (j := 2) (k := 3) (n := 10) (t0 := 4) (j2 := 6) hx hb hK hP (by decide) rfl rfl (by decide) (by decide) rfl dX12_power_188 ?_
                  refine lv_aload_n hx hb dX12_power_189 rfl (lv_at hl 0 rfl) ?_
                  refine r_get (v := .ref (b 2)) hx hb (ly_X12 hE) hown hK hP rfl 4 (by decide) (wd_1385 hE) (fun _ h9 => h9) rfl dX12_power_190 ?_
                  refine lv_iconst (v := 2) hx hb dX12_power_193 (by decide) ?_
                  refine r_aald (j := 2) (k := 2) (n := 10) (t0 := 4) (j2 := 5) hx hb hK hP (by decide) rfl rfl (by decide) (by decide) rfl dX12_power_194 ?_
                  refine rc_v hAL hS hA (va_runS (As := [.ref (b 6), .ref (b 5)]) (rest := []) ⟨hx, hb, hml, hown, noTs⟩ (r_X12_lays l dC dI H.size cs b u142 a hA144 6 (by decide) w143 hA143 5 (by decide) c1_104 hA146 (by first | assumption | omega | rfl | (congr 1; omega)) (by first | assumption | omega | rfl | (congr 1; omega)) (by first | assumption | omega | rfl | (congr 1; omega))) ⟨cbE 2 (wd_1706 hE) (wd_126 hE) (wd_1704 hE) rfl rfl (by decide +kernel) ⟨Nat.le_of_ble_eq_true rfl, Nat.le_of_ble_eq_true rfl⟩, (wd_1705 hE)⟩ ⟨PR.blind, (r_pre (av := [.ref (b 6), .ref (b 5)]) hK hP hJ hE)⟩ rfl rfl hl.1 rfl (lv_room (Nat.le_of_ble_eq_true rfl)) dX12_power_195 ⟨Nat.le_of_ble_eq_true rfl, Nat.le_of_ble_eq_true rfl⟩) (fun u150 H locs hpo150 hP hS => ?_)
                  obtain ⟨h150_0, h150_1, h150_2, h150_3, h150_4, h150_5, hq150⟩ := hpo150
                  obtain ⟨w151, hA151⟩ : ∃ g, rA u150 5 = g := ⟨_, rfl⟩
                  rw [hA151] at h150_0 h150_1 h150_2 h150_3 h150_4 h150_5
                  have hA152 := (hq150.1 1 (by decide)).trans hA144
                  have hA153 := (hq150.1 3 (by decide)).trans hA145
                  have hA154 := (hq150.1 6 (by decide)).trans hA143
                  have hF155x := (hq150.2.1 2 List.not_mem_nil).trans hF147x
                  have hfr := FR.step hfr hq150 (by decide) (fun _ h => absurd h List.not_mem_nil) (fun h => rfl)
                  have hl150_0 := pg_le h150_0
                  refine lv_iinc (v := nI (k_104 + 1)) (lv' := [(3, .int (nI (k_104 + 1))), (0, .ref (b 0)), (1, .int (nI n6)), (2, .int y)]) hx hb dX12_power_198 hl (k := 3) rfl (nI_1 k_104) (by decide) rfl (fun ls hl => ?_)
                  refine lv_goto (tgt := 127) hx hb dX12_power_201 (by decide) ?_
                  exact ih104 _ u150 _ _ _ (by omega) ⟨hP, hS, hfr, (k_104 + 1), w151, rfl, (by first | assumption | omega | rfl | (congr 1; omega)), (by first | assumption | omega | rfl | (congr 1; omega)), (by first | assumption | omega | rfl | (congr 1; omega)), (by first | assumption | omega | rfl | (congr 1; omega)), (by first | assumption | omega | rfl | (congr 1; omega)), hA152, hA153, hA151, hF155x, lv_sub hl [1, 2, 3, 0] rfl⟩
                · have c149 := mt (b_le (nI_toInt (n := rn w143) (by omega)) (show Int32.toInt 24 = 24 from rfl)).mpr c149
                  refine lv_aload_n hx hb dX12_power_176 rfl (lv_at hl 0 rfl) ?_
                  refine lv_bipush (v := 6) hx hb dX12_power_177 (by decide) ?_
                  refine rc_i hAL hS hA (va_runV (As := [.int 6]) (rest := []) ⟨hx, hb, hml, hown, noTs⟩ (r_X12_refuse l dC dI H.size cs b u142 a hA144 6) ⟨cbE 1 (wd_1498 hE) (wd_126 hE) (wd_1495 hE) rfl rfl (by decide +kernel) ⟨Nat.le_of_ble_eq_true rfl, Nat.le_of_ble_eq_true rfl⟩, (wd_1497 hE), (wd_54 hE)⟩ ⟨PR.blind, r_recv hK hP rfl, (r_pre (av := [.ref (b 0), .int 6]) hK hP hJ hE)⟩ rfl rfl hl.1 rfl (lv_room (Nat.le_of_ble_eq_true rfl)) dX12_power_179 ⟨Nat.le_of_ble_eq_true rfl, Nat.le_of_ble_eq_true rfl⟩) (fun r156 u156 H locs hpo156 hP hS => ?_)
                  obtain ⟨hr156, hq156⟩ := hpo156
                  have hA157 := (hq156.1 1 List.not_mem_nil).trans hA144
                  have hA158 := (hq156.1 3 List.not_mem_nil).trans hA145
                  have hA159 := (hq156.1 5 List.not_mem_nil).trans hA146
                  have hA160 := (hq156.1 6 List.not_mem_nil).trans hA143
                  have hF161x := (hq156.2.1 2 (by decide)).trans hF147x
                  have hfr := FR.step hfr hq156 (fun _ h => absurd h List.not_mem_nil) (by decide) (fun h => rfl)
                  subst hr156
                  exact W.iret (v := -1) hx hb hr (fun t ht hW => ⟨⟨-1, u156, rfl, ⟨trivial, (by first | (rw [hA157]; done) | (rw [hA157]; first | assumption | omega | rfl | (congr 1; omega))), (by first | (rw [hF161x]; done) | (rw [hF161x]; refine ⟨_, ?_, rfl⟩; omega)), hfr⟩, (show va_P (dC, dI) vwCl (rW cs b u156) t.heap by rw [ht]; exact hP)⟩, hS.F ht⟩) hS.2.2 dX12_power_182
        · refine lv_if_ne (tgt := 61) hx hb dX12_power_52 (by decide) (fun c162 => absurd c162 (by decide)) (fun c162 => ?_)
          refine lv_aload_n hx hb dX12_power_55 rfl (lv_at hl 0 rfl) ?_
          refine lv_iconst (v := 4) hx hb dX12_power_56 (by decide) ?_
          refine rc_i hAL hS hA (va_runV (As := [.int 4]) (rest := []) ⟨hx, hb, hml, hown, noTs⟩ (r_X12_refuse l dC dI H.size cs b u10 a hA11 4) ⟨cbE 1 (wd_1498 hE) (wd_126 hE) (wd_1495 hE) rfl rfl (by decide +kernel) ⟨Nat.le_of_ble_eq_true rfl, Nat.le_of_ble_eq_true rfl⟩, (wd_1497 hE), (wd_54 hE)⟩ ⟨PR.blind, r_recv hK hP rfl, (r_pre (av := [.ref (b 0), .int 4]) hK hP hJ hE)⟩ rfl rfl hl.1 rfl (lv_room (Nat.le_of_ble_eq_true rfl)) dX12_power_57 ⟨Nat.le_of_ble_eq_true rfl, Nat.le_of_ble_eq_true rfl⟩) (fun r163 u163 H locs hpo163 hP hS => ?_)
          obtain ⟨hr163, hq163⟩ := hpo163
          have hA164 := (hq163.1 1 List.not_mem_nil).trans hA11
          have hF165x := (hq163.2.1 2 (by decide)).trans hF12x
          have hfr := FR.step hfr hq163 (fun _ h => absurd h List.not_mem_nil) (by decide) (fun h => rfl)
          subst hr163
          exact W.iret (v := -1) hx hb hr (fun t ht hW => ⟨⟨-1, u163, rfl, ⟨trivial, (by first | (rw [hA164]; done) | (rw [hA164]; first | assumption | omega | rfl | (congr 1; omega))), (by first | (rw [hF165x]; done) | (rw [hF165x]; refine ⟨_, ?_, rfl⟩; omega)), hfr⟩, (show va_P (dC, dI) vwCl (rW cs b u163) t.heap by rw [ht]; exact hP)⟩, hS.F ht⟩) hS.2.2 dX12_power_60
      · have c9 := (b_eq (nI_toInt (n := wN a) (by omega)) (show Int32.toInt 10 = 10 from rfl)).mp c9
        refine lv_aload_n hx hb dX12_power_41 rfl (lv_at hl 0 rfl) ?_
        refine lv_iconst (v := 3) hx hb dX12_power_42 (by decide) ?_
        refine rc_i hAL hS hA (va_runV (As := [.int 3]) (rest := []) ⟨hx, hb, hml, hown, noTs⟩ (r_X12_refuse l dC dI s.heap.size cs b u a hA1 3) ⟨cbE 1 (wd_1498 hE) (wd_126 hE) (wd_1495 hE) rfl rfl (by decide +kernel) ⟨Nat.le_of_ble_eq_true rfl, Nat.le_of_ble_eq_true rfl⟩, (wd_1497 hE), (wd_54 hE)⟩ ⟨PR.blind, r_recv hK hP rfl, (r_pre (av := [.ref (b 0), .int 3]) hK hP hJ hE)⟩ rfl rfl hl.1 rfl (lv_room (Nat.le_of_ble_eq_true rfl)) dX12_power_43 ⟨Nat.le_of_ble_eq_true rfl, Nat.le_of_ble_eq_true rfl⟩) (fun r166 u166 H locs hpo166 hP hS => ?_)
        obtain ⟨hr166, hq166⟩ := hpo166
        have hA167 := (hq166.1 1 List.not_mem_nil).trans hA1
        have hF168x := (hq166.2.1 2 (by decide)).trans hF2
        have hfr := FR.step hfr hq166 (fun _ h => absurd h List.not_mem_nil) (by decide) (fun h => rfl)
        subst hr166
        exact W.iret (v := -1) hx hb hr (fun t ht hW => ⟨⟨-1, u166, rfl, ⟨trivial, (by first | (rw [hA167]; done) | (rw [hA167]; first | assumption | omega | rfl | (congr 1; omega))), (by first | (rw [hF168x]; done) | (rw [hF168x]; refine ⟨_, ?_, rfl⟩; omega)), hfr⟩, (show va_P (dC, dI) vwCl (rW cs b u166) t.heap by rw [ht]; exact hP)⟩, hS.F ht⟩) hS.2.2 dX12_power_46
    · refine lv_if_ne (tgt := 31) hx hb dX12_power_22 (by decide) (fun c169 => absurd c169 (by decide)) (fun c169 => ?_)
      refine lv_aload_n hx hb dX12_power_25 rfl (lv_at hl 0 rfl) ?_
      refine lv_iconst (v := 2) hx hb dX12_power_26 (by decide) ?_
      refine rc_i hAL hS hA (va_runV (As := [.int 2]) (rest := []) ⟨hx, hb, hml, hown, noTs⟩ (r_X12_refuse l dC dI s.heap.size cs b u a hA1 2) ⟨cbE 1 (wd_1498 hE) (wd_126 hE) (wd_1495 hE) rfl rfl (by decide +kernel) ⟨Nat.le_of_ble_eq_true rfl, Nat.le_of_ble_eq_true rfl⟩, (wd_1497 hE), (wd_54 hE)⟩ ⟨PR.blind, r_recv hK hP rfl, (r_pre (av := [.ref (b 0), .int 2]) hK hP hJ hE)⟩ rfl rfl hl.1 rfl (lv_room (Nat.le_of_ble_eq_true rfl)) dX12_power_27 ⟨Nat.le_of_ble_eq_true rfl, Nat.le_of_ble_eq_true rfl⟩) (fun r170 u170 H locs hpo170 hP hS => ?_)
      obtain ⟨hr170, hq170⟩ := hpo170
      have hA171 := (hq170.1 1 List.not_mem_nil).trans hA1
      have hF172x := (hq170.2.1 2 (by decide)).trans hF2
      have hfr := FR.step hfr hq170 (fun _ h => absurd h List.not_mem_nil) (by decide) (fun h => rfl)
      subst hr170
      exact W.iret (v := -1) hx hb hr (fun t ht hW => ⟨⟨-1, u170, rfl, ⟨trivial, (by first | (rw [hA171]; done) | (rw [hA171]; first | assumption | omega | rfl | (congr 1; omega))), (by first | (rw [hF172x]; done) | (rw [hF172x]; refine ⟨_, ?_, rfl⟩; omega)), hfr⟩, (show va_P (dC, dI) vwCl (rW cs b u170) t.heap by rw [ht]; exact hP)⟩, hS.F ht⟩) hS.2.2 dX12_power_30
  · refine lv_if_ne (tgt := 17) hx hb dX12_power_8 (by decide) (fun c173 => absurd c173 (by decide)) (fun c173 => ?_)
    refine lv_aload_n hx hb dX12_power_11 rfl (lv_at hl 0 rfl) ?_
    refine lv_iconst (v := 1) hx hb dX12_power_12 (by decide) ?_
    refine rc_i hAL hS hA (va_runV (As := [.int 1]) (rest := []) ⟨hx, hb, hml, hown, noTs⟩ (r_X12_refuse l dC dI s.heap.size cs b u a hA1 1) ⟨cbE 1 (wd_1498 hE) (wd_126 hE) (wd_1495 hE) rfl rfl (by decide +kernel) ⟨Nat.le_of_ble_eq_true rfl, Nat.le_of_ble_eq_true rfl⟩, (wd_1497 hE), (wd_54 hE)⟩ ⟨PR.blind, r_recv hK hP rfl, (r_pre (av := [.ref (b 0), .int 1]) hK hP hJ hE)⟩ rfl rfl hl.1 rfl (lv_room (Nat.le_of_ble_eq_true rfl)) dX12_power_13 ⟨Nat.le_of_ble_eq_true rfl, Nat.le_of_ble_eq_true rfl⟩) (fun r174 u174 H locs hpo174 hP hS => ?_)
    obtain ⟨hr174, hq174⟩ := hpo174
    have hA175 := (hq174.1 1 List.not_mem_nil).trans hA1
    have hF176x := (hq174.2.1 2 (by decide)).trans hF2
    have hfr := FR.step hfr hq174 (fun _ h => absurd h List.not_mem_nil) (by decide) (fun h => rfl)
    subst hr174
    exact W.iret (v := -1) hx hb hr (fun t ht hW => ⟨⟨-1, u174, rfl, ⟨trivial, (by first | (rw [hA175]; done) | (rw [hA175]; first | assumption | omega | rfl | (congr 1; omega))), (by first | (rw [hF176x]; done) | (rw [hF176x]; refine ⟨_, ?_, rfl⟩; omega)), hfr⟩, (show va_P (dC, dI) vwCl (rW cs b u174) t.heap by rw [ht]; exact hP)⟩, hS.F ht⟩) hS.2.2 dX12_power_16

set_option maxHeartbeats 4000000 in
set_option maxRecDepth 100000 in
theorem r_X12_number_ (l : Launch) (dC : Nat → ClassId) (dI : Nat → Nat → Nat) (sz : Nat) (cs : Nat → ClassId) (b : Nat → Nat) (u : RS) (a : Nat → Int32) (hA1 : rA u 1 = a) (x : Int32) (y : Int32) (hp0 : BG a) : Met l yX12_number_ [.code yX12_number_ cX12_number_ 3 (some .int)] ({ frames := 2, cells := 0, slots := 0, locals := 80 }) (PR [.ref (b 0), .int x, .int y] sz dC dI cs b u) (va_Qi (fun (r : Int32) (u' : RS) => (True) ∧ FR [3, 4, 5, 6, 7, 8, 9, 10, 11, 12, 13, 14, 17, 18, 19, 20] [1, 5, 21, 22] true u u') (BR dC dI cs b) (AR b sz)) 0 0 (AR b sz) := by
  refine Met.ofW (cc := cX12_number_) (maxL := 3) (ret := (some .int)) (by decide) rfl ?_
  intro p e s m args below meth c s₁ B hml hv
  obtain ⟨rfl, hsz, hP, hK, hJ, hE⟩ := hv
  have hx := B.exec
  have hb := B.bytes
  have hr := B.returns
  have hown : s.vm.findClass RX12 = some m.cls := findClass_of_methodNamed B.named
  have hlocks := B.notSynchronized
  subst hsz
  have hAL : ∀ i, i < 108 → AR b s.heap.size (b i) := fun i h => Or.inl ⟨i, h, rfl⟩
  have hA : ∀ q : Nat, s.heap.size ≤ q → AR b s.heap.size q := fun q h => Or.inr h
  have hS : va_S (AR b s.heap.size) s.heap s.heap [] := va_S.rf
  have hfr : FR [3, 4, 5, 6, 7, 8, 9, 10, 11, 12, 13, 14, 17, 18, 19, 20] [1, 5, 21, 22] true u u := FR.refl
  have hl := lv_entry ([.ref (b 0), .int x, .int y]) (n := 3) (Nat.le_of_ble_eq_true rfl)
  rw [lg_entry_eq]
  generalize (lg_sl ([.ref (b 0), .int x, .int y]) ++ List.replicate (3 - (lg_sl ([.ref (b 0), .int x, .int y])).length) Slot.unset).toArray = ls at hl ⊢
  have hl : lv_has ls 3 [(0, .ref (b 0)), (1, .int x), (2, .int y)] := hl
  have hB := hp0
  have hG := bg_g hp0
  have ha1 := gg_le hG
  have ha1b := bg_w hp0
  refine lv_iload_n hx hb dX12_number__0 rfl (lv_at hl 2 rfl) ?_
  refine lv_if_ge (tgt := 10) hx hb dX12_number__1 (by decide) (fun c2 => ?_) (fun c2 => ?_)
  · have c2 := (b_le (show Int32.toInt 0 = 0 from rfl) (rfl : Int32.toInt y = _)).mp c2
    refine lv_aload_n hx hb dX12_number__10 rfl (lv_at hl 0 rfl) ?_
    refine lv_iload_n hx hb dX12_number__11 rfl (lv_at hl 1 rfl) ?_
    refine vp_callSi (va_Run.run (va_runV (As := [.int x]) (rest := []) ⟨hx, hb, hml, hown, noTs⟩ (r_X12_isWord l dC dI s.heap.size cs b u a hA1 x (by first | assumption | omega | rfl | (congr 1; omega))) ⟨cbE 1 (wd_1653 hE) (wd_126 hE) (wd_1650 hE) rfl rfl (by decide +kernel) ⟨Nat.le_of_ble_eq_true rfl, Nat.le_of_ble_eq_true rfl⟩, (wd_1652 hE), (wd_83 hE)⟩ ⟨PR.blind, r_recv hK hP rfl, (r_pre (av := [.ref (b 0), .int x]) hK hP hJ hE)⟩ rfl rfl hl.1 rfl (lv_room (Nat.le_of_ble_eq_true rfl)) dX12_number__12 ⟨Nat.le_of_ble_eq_true rfl, Nat.le_of_ble_eq_true rfl⟩)) (fun r3 hr3 => ?_)
    rcases hr3 with ⟨rfl, hb3⟩ | ⟨rfl, hb3⟩
    · obtain ⟨n3, hbe3_1, hb3⟩ := hb3
      subst hbe3_1
      refine lv_if_ne (tgt := 24) hx hb dX12_number__15 (by decide) (fun c4 => ?_) (fun c4 => absurd c4 (by decide))
      refine lv_aload_n hx hb dX12_number__24 rfl (lv_at hl 0 rfl) ?_
      refine lv_iload_n hx hb dX12_number__25 rfl (lv_at hl 1 rfl) ?_
      refine lv_aload_n hx hb dX12_number__26 rfl (lv_at hl 0 rfl) ?_
      refine r_get (v := .ref (b 2)) hx hb (ly_X12 hE) hown hK hP rfl 4 (by decide) (wd_1385 hE) (fun _ h9 => h9) rfl dX12_number__27 ?_
      refine lv_iconst (v := 0) hx hb dX12_number__30 (by decide) ?_
      refine r_aald (j := 2) (k := 0) (n := 10) (t0 := 4) (j2 := 3) hx hb hK hP (by decide) rfl rfl (by decide) (by decide) rfl dX12_number__31 ?_
      obtain ⟨g5, hg5⟩ : ∃ g, rA u 3 = g := ⟨_, rfl⟩
      refine rc_v hAL hS hA (va_runV (As := [.int (nI n3), .ref (b 3)]) (rest := []) ⟨hx, hb, hml, hown, noTs⟩ (r_X12_takes l dC dI s.heap.size cs b u a hA1 n3 3 (by decide) g5 hg5 (by first | assumption | omega | rfl | (congr 1; omega)) (by first | assumption | omega | rfl | (congr 1; omega))) ⟨cbE 2 (wd_1657 hE) (wd_126 hE) (wd_1654 hE) rfl rfl (by decide +kernel) ⟨Nat.le_of_ble_eq_true rfl, Nat.le_of_ble_eq_true rfl⟩, (wd_1656 hE), (wd_84 hE)⟩ ⟨PR.blind, r_recv hK hP rfl, (r_pre (av := [.ref (b 0), .int (nI n3), .ref (b 3)]) hK hP hJ hE)⟩ rfl rfl hl.1 rfl (lv_room (Nat.le_of_ble_eq_true rfl)) dX12_number__32 ⟨Nat.le_of_ble_eq_true rfl, Nat.le_of_ble_eq_true rfl⟩) (fun u6 H locs hpo6 hP hS => ?_)
      obtain ⟨h6_0, h6_1, h6_2, h6_3, h6_4, h6_5, hq6⟩ := hpo6
      obtain ⟨w7, hA7⟩ : ∃ g, rA u6 3 = g := ⟨_, rfl⟩
      rw [hA7] at h6_0 h6_1 h6_2 h6_3 h6_4 h6_5
      have hA8 := (hq6.1 1 (by decide)).trans hA1
      have hfr := FR.step hfr hq6 (by decide) (fun _ h => absurd h List.not_mem_nil) (fun h => rfl)
      have hl6_0 := pg_le h6_0
      refine lv_iload_n hx hb dX12_number__35 rfl (lv_at hl 2 rfl) ?_
      refine lv_aload_n hx hb dX12_number__36 rfl (lv_at hl 0 rfl) ?_
      refine r_get (v := .ref (b 2)) hx hb (ly_X12 hE) hown hK hP rfl 4 (by decide) (wd_1385 hE) (fun _ h9 => h9) rfl dX12_number__37 ?_
      refine lv_iconst (v := 0) hx hb dX12_number__40 (by decide) ?_
      refine r_aald (j := 2) (k := 0) (n := 10) (t0 := 4) (j2 := 3) hx hb hK hP (by decide) rfl rfl (by decide) (by decide) rfl dX12_number__41 ?_
      refine lv_iconst (v := 1) hx hb dX12_number__42 (by decide) ?_
      refine r_iald (j := 3) (k := 1) (n := 200) (x := nI (rn w7)) hx hb hK hP (by decide) rfl (by decide) (by decide) (by rw [hA7]; exact pg_n h6_0) dX12_number__43 ?_
      refine lv_icmp_gt (tgt := 64) hx hb dX12_number__44 (by decide) (fun c10 => ?_) (fun c10 => ?_)
      · have c10 := (b_lt (nI_toInt (n := rn w7) (by omega)) (rfl : Int32.toInt y = _)).mp c10
        refine lv_aload_n hx hb dX12_number__64 rfl (lv_at hl 0 rfl) ?_
        refine lv_iconst (v := 5) hx hb dX12_number__65 (by decide) ?_
        refine rc_i hAL hS hA (va_runV (As := [.int 5]) (rest := []) ⟨hx, hb, hml, hown, noTs⟩ (r_X12_refuse l dC dI H.size cs b u6 a hA8 5) ⟨cbE 1 (wd_1498 hE) (wd_126 hE) (wd_1495 hE) rfl rfl (by decide +kernel) ⟨Nat.le_of_ble_eq_true rfl, Nat.le_of_ble_eq_true rfl⟩, (wd_1497 hE), (wd_54 hE)⟩ ⟨PR.blind, r_recv hK hP rfl, (r_pre (av := [.ref (b 0), .int 5]) hK hP hJ hE)⟩ rfl rfl hl.1 rfl (lv_room (Nat.le_of_ble_eq_true rfl)) dX12_number__66 ⟨Nat.le_of_ble_eq_true rfl, Nat.le_of_ble_eq_true rfl⟩) (fun r11 u11 H locs hpo11 hP hS => ?_)
        obtain ⟨hr11, hq11⟩ := hpo11
        have hA12 := (hq11.1 1 List.not_mem_nil).trans hA8
        have hA13 := (hq11.1 3 List.not_mem_nil).trans hA7
        have hfr := FR.step hfr hq11 (fun _ h => absurd h List.not_mem_nil) (by decide) (fun h => rfl)
        subst hr11
        exact W.iret (v := -1) hx hb hr (fun t ht hW => ⟨⟨-1, u11, rfl, ⟨trivial, hfr⟩, (show va_P (dC, dI) vwCl (rW cs b u11) t.heap by rw [ht]; exact hP)⟩, hS.F ht⟩) hS.2.2 dX12_number__69
      · have c10 := mt (b_lt (nI_toInt (n := rn w7) (by omega)) (rfl : Int32.toInt y = _)).mpr c10
        obtain ⟨nx14, hi14, hj14⟩ := z_ex (x := y) (n := rn w7 + 1) (by omega) (by omega)
        subst hi14
        refine lv_aload_n hx hb dX12_number__47 rfl (lv_at hl 0 rfl) ?_
        refine lv_aload_n hx hb dX12_number__48 rfl (lv_at hl 0 rfl) ?_
        refine r_get (v := .ref (b 2)) hx hb (ly_X12 hE) hown hK hP rfl 4 (by decide) (wd_1385 hE) (fun _ h9 => h9) rfl dX12_number__49 ?_
        refine lv_iconst (v := 0) hx hb dX12_number__52 (by decide) ?_
        refine r_aald (j := 2) (k := 0) (n := 10) (t0 := 4) (j2 := 3) hx hb hK hP (by decide) rfl rfl (by decide) (by decide) rfl dX12_number__53 ?_
        refine lv_iload_n hx hb dX12_number__54 rfl (lv_at hl 2 rfl) ?_
        refine vp_callSi (va_Run.run (va_runS (As := [.ref (b 3), .int (nI nx14)]) (rest := [.ref (b 0)]) ⟨hx, hb, hml, hown, noTs⟩ (r_X12_number l dC dI H.size cs b u6 a hA8 3 (by decide) w7 hA7 nx14 (by first | assumption | omega | rfl | (congr 1; omega))) ⟨cbE 2 (wd_1664 hE) (wd_126 hE) (wd_1662 hE) rfl rfl (by decide +kernel) ⟨Nat.le_of_ble_eq_true rfl, Nat.le_of_ble_eq_true rfl⟩, (wd_1663 hE)⟩ ⟨PR.blind, (r_pre (av := [.ref (b 3), .int (nI nx14)]) hK hP hJ hE)⟩ rfl rfl hl.1 rfl (lv_room (Nat.le_of_ble_eq_true rfl)) dX12_number__55 ⟨Nat.le_of_ble_eq_true rfl, Nat.le_of_ble_eq_true rfl⟩)) (fun r15 hr15 => ?_)
        refine rc_i hAL hS hA (va_runV (As := [.int r15]) (rest := []) ⟨hx, hb, hml, hown, noTs⟩ (r_X12_gives l dC dI H.size cs b u6 a hA8 r15) ⟨cbE 1 (wd_1621 hE) (wd_126 hE) (wd_1618 hE) rfl rfl (by decide +kernel) ⟨Nat.le_of_ble_eq_true rfl, Nat.le_of_ble_eq_true rfl⟩, (wd_1620 hE), (wd_80 hE)⟩ ⟨PR.blind, r_recv hK hP rfl, (r_pre (av := [.ref (b 0), .int r15]) hK hP hJ hE)⟩ rfl rfl hl.1 rfl (lv_room (Nat.le_of_ble_eq_true rfl)) dX12_number__58 ⟨Nat.le_of_ble_eq_true rfl, Nat.le_of_ble_eq_true rfl⟩) (fun r16 u16 H locs hpo16 hP hS => ?_)
        obtain ⟨hr16, hq16⟩ := hpo16
        have hA17 := (hq16.1 1 List.not_mem_nil).trans hA8
        have hA18 := (hq16.1 3 List.not_mem_nil).trans hA7
        have hfr := FR.step hfr hq16 (fun _ h => absurd h List.not_mem_nil) (by decide) (fun h => rfl)
        refine W.eq (g2 := F0 m 61 ls [.int r15]) (by rw [hr16]) ?_
        refine lv_goto (tgt := 69) hx hb dX12_number__61 (by decide) ?_
        exact W.iret (v := r15) hx hb hr (fun t ht hW => ⟨⟨r15, u16, rfl, ⟨trivial, hfr⟩, (show va_P (dC, dI) vwCl (rW cs b u16) t.heap by rw [ht]; exact hP)⟩, hS.F ht⟩) hS.2.2 dX12_number__69
    · refine lv_if_ne (tgt := 24) hx hb dX12_number__15 (by decide) (fun c19 => absurd c19 (by decide)) (fun c19 => ?_)
      refine lv_aload_n hx hb dX12_number__18 rfl (lv_at hl 0 rfl) ?_
      refine lv_iconst (v := 2) hx hb dX12_number__19 (by decide) ?_
      refine rc_i hAL hS hA (va_runV (As := [.int 2]) (rest := []) ⟨hx, hb, hml, hown, noTs⟩ (r_X12_refuse l dC dI s.heap.size cs b u a hA1 2) ⟨cbE 1 (wd_1498 hE) (wd_126 hE) (wd_1495 hE) rfl rfl (by decide +kernel) ⟨Nat.le_of_ble_eq_true rfl, Nat.le_of_ble_eq_true rfl⟩, (wd_1497 hE), (wd_54 hE)⟩ ⟨PR.blind, r_recv hK hP rfl, (r_pre (av := [.ref (b 0), .int 2]) hK hP hJ hE)⟩ rfl rfl hl.1 rfl (lv_room (Nat.le_of_ble_eq_true rfl)) dX12_number__20 ⟨Nat.le_of_ble_eq_true rfl, Nat.le_of_ble_eq_true rfl⟩) (fun r20 u20 H locs hpo20 hP hS => ?_)
      obtain ⟨hr20, hq20⟩ := hpo20
      have hA21 := (hq20.1 1 List.not_mem_nil).trans hA1
      have hfr := FR.step hfr hq20 (fun _ h => absurd h List.not_mem_nil) (by decide) (fun h => rfl)
      subst hr20
      exact W.iret (v := -1) hx hb hr (fun t ht hW => ⟨⟨-1, u20, rfl, ⟨trivial, hfr⟩, (show va_P (dC, dI) vwCl (rW cs b u20) t.heap by rw [ht]; exact hP)⟩, hS.F ht⟩) hS.2.2 dX12_number__23
  · have c2 := mt (b_le (show Int32.toInt 0 = 0 from rfl) (rfl : Int32.toInt y = _)).mpr c2
    refine lv_aload_n hx hb dX12_number__4 rfl (lv_at hl 0 rfl) ?_
    refine lv_iconst (v := 1) hx hb dX12_number__5 (by decide) ?_
    refine rc_i hAL hS hA (va_runV (As := [.int 1]) (rest := []) ⟨hx, hb, hml, hown, noTs⟩ (r_X12_refuse l dC dI s.heap.size cs b u a hA1 1) ⟨cbE 1 (wd_1498 hE) (wd_126 hE) (wd_1495 hE) rfl rfl (by decide +kernel) ⟨Nat.le_of_ble_eq_true rfl, Nat.le_of_ble_eq_true rfl⟩, (wd_1497 hE), (wd_54 hE)⟩ ⟨PR.blind, r_recv hK hP rfl, (r_pre (av := [.ref (b 0), .int 1]) hK hP hJ hE)⟩ rfl rfl hl.1 rfl (lv_room (Nat.le_of_ble_eq_true rfl)) dX12_number__6 ⟨Nat.le_of_ble_eq_true rfl, Nat.le_of_ble_eq_true rfl⟩) (fun r22 u22 H locs hpo22 hP hS => ?_)
    obtain ⟨hr22, hq22⟩ := hpo22
    have hA23 := (hq22.1 1 List.not_mem_nil).trans hA1
    have hfr := FR.step hfr hq22 (fun _ h => absurd h List.not_mem_nil) (by decide) (fun h => rfl)
    subst hr22
    exact W.iret (v := -1) hx hb hr (fun t ht hW => ⟨⟨-1, u22, rfl, ⟨trivial, hfr⟩, (show va_P (dC, dI) vwCl (rW cs b u22) t.heap by rw [ht]; exact hP)⟩, hS.F ht⟩) hS.2.2 dX12_number__9

set_option maxHeartbeats 4000000 in
set_option maxRecDepth 100000 in
theorem r_X12_step_ (l : Launch) (dC : Nat → ClassId) (dI : Nat → Nat → Nat) (sz : Nat) (cs : Nat → ClassId) (b : Nat → Nat) (u : RS) (a : Nat → Int32) (hA1 : rA u 1 = a) (x : Int32) (y : Int32) (hp0 : BG a) : Met l yX12_step_ [.code yX12_step_ cX12_step_ 3 (some .int)] ({ frames := 2, cells := 0, slots := 0, locals := 80 }) (PR [.ref (b 0), .int x, .int y] sz dC dI cs b u) (va_Qi (fun (r : Int32) (u' : RS) => (True) ∧ FR [3, 4, 5, 6, 7, 8, 9, 10, 11, 12, 13, 14, 17, 18, 19, 20] [1, 5, 21, 22] true u u') (BR dC dI cs b) (AR b sz)) 0 0 (AR b sz) := by
  refine Met.ofW (cc := cX12_step_) (maxL := 3) (ret := (some .int)) (by decide) rfl ?_
  intro p e s m args below meth c s₁ B hml hv
  obtain ⟨rfl, hsz, hP, hK, hJ, hE⟩ := hv
  have hx := B.exec
  have hb := B.bytes
  have hr := B.returns
  have hown : s.vm.findClass RX12 = some m.cls := findClass_of_methodNamed B.named
  have hlocks := B.notSynchronized
  subst hsz
  have hAL : ∀ i, i < 108 → AR b s.heap.size (b i) := fun i h => Or.inl ⟨i, h, rfl⟩
  have hA : ∀ q : Nat, s.heap.size ≤ q → AR b s.heap.size q := fun q h => Or.inr h
  have hS : va_S (AR b s.heap.size) s.heap s.heap [] := va_S.rf
  have hfr : FR [3, 4, 5, 6, 7, 8, 9, 10, 11, 12, 13, 14, 17, 18, 19, 20] [1, 5, 21, 22] true u u := FR.refl
  have hl := lv_entry ([.ref (b 0), .int x, .int y]) (n := 3) (Nat.le_of_ble_eq_true rfl)
  rw [lg_entry_eq]
  generalize (lg_sl ([.ref (b 0), .int x, .int y]) ++ List.replicate (3 - (lg_sl ([.ref (b 0), .int x, .int y])).length) Slot.unset).toArray = ls at hl ⊢
  have hl : lv_has ls 3 [(0, .ref (b 0)), (1, .int x), (2, .int y)] := hl
  have hB := hp0
  have hG := bg_g hp0
  have ha1 := gg_le hG
  have ha1b := bg_w hp0
  refine lv_iload_n hx hb dX12_step__0 rfl (lv_at hl 2 rfl) ?_
  refine lv_if_ge (tgt := 10) hx hb dX12_step__1 (by decide) (fun c2 => ?_) (fun c2 => ?_)
  · have c2 := (b_le (show Int32.toInt 0 = 0 from rfl) (rfl : Int32.toInt y = _)).mp c2
    refine lv_aload_n hx hb dX12_step__10 rfl (lv_at hl 0 rfl) ?_
    refine lv_iload_n hx hb dX12_step__11 rfl (lv_at hl 1 rfl) ?_
    refine vp_callSi (va_Run.run (va_runV (As := [.int x]) (rest := []) ⟨hx, hb, hml, hown, noTs⟩ (r_X12_isWord l dC dI s.heap.size cs b u a hA1 x (by first | assumption | omega | rfl | (congr 1; omega))) ⟨cbE 1 (wd_1653 hE) (wd_126 hE) (wd_1650 hE) rfl rfl (by decide +kernel) ⟨Nat.le_of_ble_eq_true rfl, Nat.le_of_ble_eq_true rfl⟩, (wd_1652 hE), (wd_83 hE)⟩ ⟨PR.blind, r_recv hK hP rfl, (r_pre (av := [.ref (b 0), .int x]) hK hP hJ hE)⟩ rfl rfl hl.1 rfl (lv_room (Nat.le_of_ble_eq_true rfl)) dX12_step__12 ⟨Nat.le_of_ble_eq_true rfl, Nat.le_of_ble_eq_true rfl⟩)) (fun r3 hr3 => ?_)
    rcases hr3 with ⟨rfl, hb3⟩ | ⟨rfl, hb3⟩
    · obtain ⟨n3, hbe3_1, hb3⟩ := hb3
      subst hbe3_1
      refine lv_if_ne (tgt := 24) hx hb dX12_step__15 (by decide) (fun c4 => ?_) (fun c4 => absurd c4 (by decide))
      refine lv_aload_n hx hb dX12_step__24 rfl (lv_at hl 0 rfl) ?_
      refine lv_iload_n hx hb dX12_step__25 rfl (lv_at hl 1 rfl) ?_
      refine lv_aload_n hx hb dX12_step__26 rfl (lv_at hl 0 rfl) ?_
      refine r_get (v := .ref (b 2)) hx hb (ly_X12 hE) hown hK hP rfl 4 (by decide) (wd_1385 hE) (fun _ h9 => h9) rfl dX12_step__27 ?_
      refine lv_iconst (v := 0) hx hb dX12_step__30 (by decide) ?_
      refine r_aald (j := 2) (k := 0) (n := 10) (t0 := 4) (j2 := 3) hx hb hK hP (by decide) rfl rfl (by decide) (by decide) rfl dX12_step__31 ?_
      obtain ⟨g5, hg5⟩ : ∃ g, rA u 3 = g := ⟨_, rfl⟩
      refine rc_v hAL hS hA (va_runV (As := [.int (nI n3), .ref (b 3)]) (rest := []) ⟨hx, hb, hml, hown, noTs⟩ (r_X12_takes l dC dI s.heap.size cs b u a hA1 n3 3 (by decide) g5 hg5 (by first | assumption | omega | rfl | (congr 1; omega)) (by first | assumption | omega | rfl | (congr 1; omega))) ⟨cbE 2 (wd_1657 hE) (wd_126 hE) (wd_1654 hE) rfl rfl (by decide +kernel) ⟨Nat.le_of_ble_eq_true rfl, Nat.le_of_ble_eq_true rfl⟩, (wd_1656 hE), (wd_84 hE)⟩ ⟨PR.blind, r_recv hK hP rfl, (r_pre (av := [.ref (b 0), .int (nI n3), .ref (b 3)]) hK hP hJ hE)⟩ rfl rfl hl.1 rfl (lv_room (Nat.le_of_ble_eq_true rfl)) dX12_step__32 ⟨Nat.le_of_ble_eq_true rfl, Nat.le_of_ble_eq_true rfl⟩) (fun u6 H locs hpo6 hP hS => ?_)
      obtain ⟨h6_0, h6_1, h6_2, h6_3, h6_4, h6_5, hq6⟩ := hpo6
      obtain ⟨w7, hA7⟩ : ∃ g, rA u6 3 = g := ⟨_, rfl⟩
      rw [hA7] at h6_0 h6_1 h6_2 h6_3 h6_4 h6_5
      have hA8 := (hq6.1 1 (by decide)).trans hA1
      have hfr := FR.step hfr hq6 (by decide) (fun _ h => absurd h List.not_mem_nil) (fun h => rfl)
      have hl6_0 := pg_le h6_0
      refine lv_iload_n hx hb dX12_step__35 rfl (lv_at hl 2 rfl) ?_
      refine lv_aload_n hx hb dX12_step__36 rfl (lv_at hl 0 rfl) ?_
      refine r_get (v := .ref (b 2)) hx hb (ly_X12 hE) hown hK hP rfl 4 (by decide) (wd_1385 hE) (fun _ h9 => h9) rfl dX12_step__37 ?_
      refine lv_iconst (v := 0) hx hb dX12_step__40 (by decide) ?_
      refine r_aald (j := 2) (k := 0) (n := 10) (t0 := 4) (j2 := 3) hx hb hK hP (by decide) rfl rfl (by decide) (by decide) rfl dX12_step__41 ?_
      refine lv_iconst (v := 1) hx hb dX12_step__42 (by decide) ?_
      refine r_iald (j := 3) (k := 1) (n := 200) (x := nI (rn w7)) hx hb hK hP (by decide) rfl (by decide) (by decide) (by rw [hA7]; exact pg_n h6_0) dX12_step__43 ?_
      refine lv_icmp_ge (tgt := 64) hx hb dX12_step__44 (by decide) (fun c10 => ?_) (fun c10 => ?_)
      · have c10 := (b_le (nI_toInt (n := rn w7) (by omega)) (rfl : Int32.toInt y = _)).mp c10
        refine lv_aload_n hx hb dX12_step__64 rfl (lv_at hl 0 rfl) ?_
        refine lv_iconst (v := 5) hx hb dX12_step__65 (by decide) ?_
        refine rc_i hAL hS hA (va_runV (As := [.int 5]) (rest := []) ⟨hx, hb, hml, hown, noTs⟩ (r_X12_refuse l dC dI H.size cs b u6 a hA8 5) ⟨cbE 1 (wd_1498 hE) (wd_126 hE) (wd_1495 hE) rfl rfl (by decide +kernel) ⟨Nat.le_of_ble_eq_true rfl, Nat.le_of_ble_eq_true rfl⟩, (wd_1497 hE), (wd_54 hE)⟩ ⟨PR.blind, r_recv hK hP rfl, (r_pre (av := [.ref (b 0), .int 5]) hK hP hJ hE)⟩ rfl rfl hl.1 rfl (lv_room (Nat.le_of_ble_eq_true rfl)) dX12_step__66 ⟨Nat.le_of_ble_eq_true rfl, Nat.le_of_ble_eq_true rfl⟩) (fun r11 u11 H locs hpo11 hP hS => ?_)
        obtain ⟨hr11, hq11⟩ := hpo11
        have hA12 := (hq11.1 1 List.not_mem_nil).trans hA8
        have hA13 := (hq11.1 3 List.not_mem_nil).trans hA7
        have hfr := FR.step hfr hq11 (fun _ h => absurd h List.not_mem_nil) (by decide) (fun h => rfl)
        subst hr11
        exact W.iret (v := -1) hx hb hr (fun t ht hW => ⟨⟨-1, u11, rfl, ⟨trivial, hfr⟩, (show va_P (dC, dI) vwCl (rW cs b u11) t.heap by rw [ht]; exact hP)⟩, hS.F ht⟩) hS.2.2 dX12_step__69
      · have c10 := mt (b_le (nI_toInt (n := rn w7) (by omega)) (rfl : Int32.toInt y = _)).mpr c10
        obtain ⟨nx14, hi14, hj14⟩ := z_ex (x := y) (n := rn w7) (by omega) (by omega)
        subst hi14
        refine lv_aload_n hx hb dX12_step__47 rfl (lv_at hl 0 rfl) ?_
        refine lv_aload_n hx hb dX12_step__48 rfl (lv_at hl 0 rfl) ?_
        refine r_get (v := .ref (b 2)) hx hb (ly_X12 hE) hown hK hP rfl 4 (by decide) (wd_1385 hE) (fun _ h9 => h9) rfl dX12_step__49 ?_
        refine lv_iconst (v := 0) hx hb dX12_step__52 (by decide) ?_
        refine r_aald (j := 2) (k := 0) (n := 10) (t0 := 4) (j2 := 3) hx hb hK hP (by decide) rfl rfl (by decide) (by decide) rfl dX12_step__53 ?_
        refine lv_iload_n hx hb dX12_step__54 rfl (lv_at hl 2 rfl) ?_
        refine vp_callSi (va_Run.run (va_runS (As := [.ref (b 3), .int (nI nx14)]) (rest := [.ref (b 0)]) ⟨hx, hb, hml, hown, noTs⟩ (r_X12_step l dC dI H.size cs b u6 a hA8 3 (by decide) w7 hA7 nx14 (by first | assumption | omega | rfl | (congr 1; omega)) (by first | assumption | omega | rfl | (congr 1; omega))) ⟨cbE 2 (wd_1602 hE) (wd_126 hE) (wd_1600 hE) rfl rfl (by decide +kernel) ⟨Nat.le_of_ble_eq_true rfl, Nat.le_of_ble_eq_true rfl⟩, (wd_1601 hE)⟩ ⟨PR.blind, (r_pre (av := [.ref (b 3), .int (nI nx14)]) hK hP hJ hE)⟩ rfl rfl hl.1 rfl (lv_room (Nat.le_of_ble_eq_true rfl)) dX12_step__55 ⟨Nat.le_of_ble_eq_true rfl, Nat.le_of_ble_eq_true rfl⟩)) (fun r15 hr15 => ?_)
        have hau15 := pg_sl (a := a) (w := w7) (i := nx14) (by assumption) (by first | assumption | omega)
        subst hr15
        refine rc_i hAL hS hA (va_runV (As := [.int (nI (rs w7 nx14))]) (rest := []) ⟨hx, hb, hml, hown, noTs⟩ (r_X12_gives l dC dI H.size cs b u6 a hA8 (nI (rs w7 nx14))) ⟨cbE 1 (wd_1621 hE) (wd_126 hE) (wd_1618 hE) rfl rfl (by decide +kernel) ⟨Nat.le_of_ble_eq_true rfl, Nat.le_of_ble_eq_true rfl⟩, (wd_1620 hE), (wd_80 hE)⟩ ⟨PR.blind, r_recv hK hP rfl, (r_pre (av := [.ref (b 0), .int (nI (rs w7 nx14))]) hK hP hJ hE)⟩ rfl rfl hl.1 rfl (lv_room (Nat.le_of_ble_eq_true rfl)) dX12_step__58 ⟨Nat.le_of_ble_eq_true rfl, Nat.le_of_ble_eq_true rfl⟩) (fun r16 u16 H locs hpo16 hP hS => ?_)
        obtain ⟨hr16, hq16⟩ := hpo16
        have hA17 := (hq16.1 1 List.not_mem_nil).trans hA8
        have hA18 := (hq16.1 3 List.not_mem_nil).trans hA7
        have hfr := FR.step hfr hq16 (fun _ h => absurd h List.not_mem_nil) (by decide) (fun h => rfl)
        refine W.eq (g2 := F0 m 61 ls [.int (nI (rs w7 nx14))]) (by rw [hr16]) ?_
        refine lv_goto (tgt := 69) hx hb dX12_step__61 (by decide) ?_
        exact W.iret (v := nI (rs w7 nx14)) hx hb hr (fun t ht hW => ⟨⟨nI (rs w7 nx14), u16, rfl, ⟨trivial, hfr⟩, (show va_P (dC, dI) vwCl (rW cs b u16) t.heap by rw [ht]; exact hP)⟩, hS.F ht⟩) hS.2.2 dX12_step__69
    · refine lv_if_ne (tgt := 24) hx hb dX12_step__15 (by decide) (fun c19 => absurd c19 (by decide)) (fun c19 => ?_)
      refine lv_aload_n hx hb dX12_step__18 rfl (lv_at hl 0 rfl) ?_
      refine lv_iconst (v := 2) hx hb dX12_step__19 (by decide) ?_
      refine rc_i hAL hS hA (va_runV (As := [.int 2]) (rest := []) ⟨hx, hb, hml, hown, noTs⟩ (r_X12_refuse l dC dI s.heap.size cs b u a hA1 2) ⟨cbE 1 (wd_1498 hE) (wd_126 hE) (wd_1495 hE) rfl rfl (by decide +kernel) ⟨Nat.le_of_ble_eq_true rfl, Nat.le_of_ble_eq_true rfl⟩, (wd_1497 hE), (wd_54 hE)⟩ ⟨PR.blind, r_recv hK hP rfl, (r_pre (av := [.ref (b 0), .int 2]) hK hP hJ hE)⟩ rfl rfl hl.1 rfl (lv_room (Nat.le_of_ble_eq_true rfl)) dX12_step__20 ⟨Nat.le_of_ble_eq_true rfl, Nat.le_of_ble_eq_true rfl⟩) (fun r20 u20 H locs hpo20 hP hS => ?_)
      obtain ⟨hr20, hq20⟩ := hpo20
      have hA21 := (hq20.1 1 List.not_mem_nil).trans hA1
      have hfr := FR.step hfr hq20 (fun _ h => absurd h List.not_mem_nil) (by decide) (fun h => rfl)
      subst hr20
      exact W.iret (v := -1) hx hb hr (fun t ht hW => ⟨⟨-1, u20, rfl, ⟨trivial, hfr⟩, (show va_P (dC, dI) vwCl (rW cs b u20) t.heap by rw [ht]; exact hP)⟩, hS.F ht⟩) hS.2.2 dX12_step__23
  · have c2 := mt (b_le (show Int32.toInt 0 = 0 from rfl) (rfl : Int32.toInt y = _)).mpr c2
    refine lv_aload_n hx hb dX12_step__4 rfl (lv_at hl 0 rfl) ?_
    refine lv_iconst (v := 1) hx hb dX12_step__5 (by decide) ?_
    refine rc_i hAL hS hA (va_runV (As := [.int 1]) (rest := []) ⟨hx, hb, hml, hown, noTs⟩ (r_X12_refuse l dC dI s.heap.size cs b u a hA1 1) ⟨cbE 1 (wd_1498 hE) (wd_126 hE) (wd_1495 hE) rfl rfl (by decide +kernel) ⟨Nat.le_of_ble_eq_true rfl, Nat.le_of_ble_eq_true rfl⟩, (wd_1497 hE), (wd_54 hE)⟩ ⟨PR.blind, r_recv hK hP rfl, (r_pre (av := [.ref (b 0), .int 1]) hK hP hJ hE)⟩ rfl rfl hl.1 rfl (lv_room (Nat.le_of_ble_eq_true rfl)) dX12_step__6 ⟨Nat.le_of_ble_eq_true rfl, Nat.le_of_ble_eq_true rfl⟩) (fun r22 u22 H locs hpo22 hP hS => ?_)
    obtain ⟨hr22, hq22⟩ := hpo22
    have hA23 := (hq22.1 1 List.not_mem_nil).trans hA1
    have hfr := FR.step hfr hq22 (fun _ h => absurd h List.not_mem_nil) (by decide) (fun h => rfl)
    subst hr22
    exact W.iret (v := -1) hx hb hr (fun t ht hW => ⟨⟨-1, u22, rfl, ⟨trivial, hfr⟩, (show va_P (dC, dI) vwCl (rW cs b u22) t.heap by rw [ht]; exact hP)⟩, hS.F ht⟩) hS.2.2 dX12_step__9

set_option maxHeartbeats 4000000 in
set_option maxRecDepth 100000 in
theorem r_X12_areAlike (l : Launch) (dC : Nat → ClassId) (dI : Nat → Nat → Nat) (sz : Nat) (cs : Nat → ClassId) (b : Nat → Nat) (u : RS) (a : Nat → Int32) (hA1 : rA u 1 = a) (wd : Nat) (we : Nat) (hp0 : BG a) (hp1 : wd < wN a) (hp2 : we < wN a) : Met l yX12_areAlike [.code yX12_areAlike cX12_areAlike 3 (some .boolean)] ({ frames := 5, cells := 0, slots := 0, locals := 200 }) (PR [.ref (b 0), .int (nI wd), .int (nI we)] sz dC dI cs b u) (va_Qi (fun (r : Int32) (u' : RS) => ((r = 1 ∧ (True)) ∨ (r = 0 ∧ (True))) ∧ FR [3, 4, 5, 6] [5] false u u') (BR dC dI cs b) (AR b sz)) 0 0 (AR b sz) := by
  refine Met.ofW (cc := cX12_areAlike) (maxL := 3) (ret := (some .boolean)) (by decide) rfl ?_
  intro p e s m args below meth c s₁ B hml hv
  obtain ⟨rfl, hsz, hP, hK, hJ, hE⟩ := hv
  have hx := B.exec
  have hb := B.bytes
  have hr := B.returns
  have hown : s.vm.findClass RX12 = some m.cls := findClass_of_methodNamed B.named
  have hlocks := B.notSynchronized
  subst hsz
  have hAL : ∀ i, i < 108 → AR b s.heap.size (b i) := fun i h => Or.inl ⟨i, h, rfl⟩
  have hA : ∀ q : Nat, s.heap.size ≤ q → AR b s.heap.size q := fun q h => Or.inr h
  have hS : va_S (AR b s.heap.size) s.heap s.heap [] := va_S.rf
  have hfr : FR [3, 4, 5, 6] [5] false u u := FR.refl
  have hl := lv_entry ([.ref (b 0), .int (nI wd), .int (nI we)]) (n := 3) (Nat.le_of_ble_eq_true rfl)
  rw [lg_entry_eq]
  generalize (lg_sl ([.ref (b 0), .int (nI wd), .int (nI we)]) ++ List.replicate (3 - (lg_sl ([.ref (b 0), .int (nI wd), .int (nI we)])).length) Slot.unset).toArray = ls at hl ⊢
  have hl : lv_has ls 3 [(0, .ref (b 0)), (1, .int (nI wd)), (2, .int (nI we))] := hl
  have hB := hp0
  have hG := bg_g hp0
  have ha1 := gg_le hG
  have ha1b := bg_w hp0
  refine lv_aload_n hx hb dX12_areAlike_0 rfl (lv_at hl 0 rfl) ?_
  refine lv_iload_n hx hb dX12_areAlike_1 rfl (lv_at hl 1 rfl) ?_
  refine lv_aload_n hx hb dX12_areAlike_2 rfl (lv_at hl 0 rfl) ?_
  refine r_get (v := .ref (b 2)) hx hb (ly_X12 hE) hown hK hP rfl 4 (by decide) (wd_1385 hE) (fun _ h9 => h9) rfl dX12_areAlike_3 ?_
  refine lv_iconst (v := 0) hx hb dX12_areAlike_6 (by decide) ?_
  refine r_aald (j := 2) (k := 0) (n := 10) (t0 := 4) (j2 := 3) hx hb hK hP (by decide) rfl rfl (by decide) (by decide) rfl dX12_areAlike_7 ?_
  obtain ⟨g4, hg4⟩ : ∃ g, rA u 3 = g := ⟨_, rfl⟩
  refine rc_v hAL hS hA (va_runV (As := [.int (nI wd), .ref (b 3)]) (rest := []) ⟨hx, hb, hml, hown, noTs⟩ (r_X12_takes l dC dI s.heap.size cs b u a hA1 wd 3 (by decide) g4 hg4 (by first | assumption | omega | rfl | (congr 1; omega)) (by first | assumption | omega | rfl | (congr 1; omega))) ⟨cbE 2 (wd_1657 hE) (wd_126 hE) (wd_1654 hE) rfl rfl (by decide +kernel) ⟨Nat.le_of_ble_eq_true rfl, Nat.le_of_ble_eq_true rfl⟩, (wd_1656 hE), (wd_84 hE)⟩ ⟨PR.blind, r_recv hK hP rfl, (r_pre (av := [.ref (b 0), .int (nI wd), .ref (b 3)]) hK hP hJ hE)⟩ rfl rfl hl.1 rfl (lv_room (Nat.le_of_ble_eq_true rfl)) dX12_areAlike_8 ⟨Nat.le_of_ble_eq_true rfl, Nat.le_of_ble_eq_true rfl⟩) (fun u5 H locs hpo5 hP hS => ?_)
  obtain ⟨h5_0, h5_1, h5_2, h5_3, h5_4, h5_5, hq5⟩ := hpo5
  obtain ⟨w6, hA6⟩ : ∃ g, rA u5 3 = g := ⟨_, rfl⟩
  rw [hA6] at h5_0 h5_1 h5_2 h5_3 h5_4 h5_5
  have hA7 := (hq5.1 1 (by decide)).trans hA1
  have hfr := FR.step hfr hq5 (by decide) (fun _ h => absurd h List.not_mem_nil) (fun h => rfl)
  have hl5_0 := pg_le h5_0
  refine lv_aload_n hx hb dX12_areAlike_11 rfl (lv_at hl 0 rfl) ?_
  refine lv_iload_n hx hb dX12_areAlike_12 rfl (lv_at hl 2 rfl) ?_
  refine lv_aload_n hx hb dX12_areAlike_13 rfl (lv_at hl 0 rfl) ?_
  refine r_get (v := .ref (b 2)) hx hb (ly_X12 hE) hown hK hP rfl 4 (by decide) (wd_1385 hE) (fun _ h9 => h9) rfl dX12_areAlike_14 ?_
  refine lv_iconst (v := 1) hx hb dX12_areAlike_17 (by decide) ?_
  refine r_aald (j := 2) (k := 1) (n := 10) (t0 := 4) (j2 := 4) hx hb hK hP (by decide) rfl rfl (by decide) (by decide) rfl dX12_areAlike_18 ?_
  obtain ⟨g8, hg8⟩ : ∃ g, rA u5 4 = g := ⟨_, rfl⟩
  refine rc_v hAL hS hA (va_runV (As := [.int (nI we), .ref (b 4)]) (rest := []) ⟨hx, hb, hml, hown, noTs⟩ (r_X12_takes l dC dI H.size cs b u5 a hA7 we 4 (by decide) g8 hg8 (by first | assumption | omega | rfl | (congr 1; omega)) (by first | assumption | omega | rfl | (congr 1; omega))) ⟨cbE 2 (wd_1657 hE) (wd_126 hE) (wd_1654 hE) rfl rfl (by decide +kernel) ⟨Nat.le_of_ble_eq_true rfl, Nat.le_of_ble_eq_true rfl⟩, (wd_1656 hE), (wd_84 hE)⟩ ⟨PR.blind, r_recv hK hP rfl, (r_pre (av := [.ref (b 0), .int (nI we), .ref (b 4)]) hK hP hJ hE)⟩ rfl rfl hl.1 rfl (lv_room (Nat.le_of_ble_eq_true rfl)) dX12_areAlike_19 ⟨Nat.le_of_ble_eq_true rfl, Nat.le_of_ble_eq_true rfl⟩) (fun u9 H locs hpo9 hP hS => ?_)
  obtain ⟨h9_0, h9_1, h9_2, h9_3, h9_4, h9_5, hq9⟩ := hpo9
  obtain ⟨w10, hA10⟩ : ∃ g, rA u9 4 = g := ⟨_, rfl⟩
  rw [hA10] at h9_0 h9_1 h9_2 h9_3 h9_4 h9_5
  have hA11 := (hq9.1 1 (by decide)).trans hA7
  have hA12 := (hq9.1 3 (by decide)).trans hA6
  have hfr := FR.step hfr hq9 (by decide) (fun _ h => absurd h List.not_mem_nil) (fun h => rfl)
  have hl9_0 := pg_le h9_0
  refine lv_aload_n hx hb dX12_areAlike_22 rfl (lv_at hl 0 rfl) ?_
  refine lv_aload_n hx hb dX12_areAlike_23 rfl (lv_at hl 0 rfl) ?_
  refine r_get (v := .ref (b 2)) hx hb (ly_X12 hE) hown hK hP rfl 4 (by decide) (wd_1385 hE) (fun _ h9 => h9) rfl dX12_areAlike_24 ?_
  refine lv_iconst (v := 0) hx hb dX12_areAlike_27 (by decide) ?_
  refine r_aald (j := 2) (k := 0) (n := 10) (t0 := 4) (j2 := 3) hx hb hK hP (by decide) rfl rfl (by decide) (by decide) rfl dX12_areAlike_28 ?_
  refine lv_aload_n hx hb dX12_areAlike_29 rfl (lv_at hl 0 rfl) ?_
  refine r_get (v := .ref (b 2)) hx hb (ly_X12 hE) hown hK hP rfl 4 (by decide) (wd_1385 hE) (fun _ h9 => h9) rfl dX12_areAlike_30 ?_
  refine lv_iconst (v := 2) hx hb dX12_areAlike_33 (by decide) ?_
  refine r_aald (j := 2) (k := 2) (n := 10) (t0 := 4) (j2 := 5) hx hb hK hP (by decide) rfl rfl (by decide) (by decide) rfl dX12_areAlike_34 ?_
  obtain ⟨g13, hg13⟩ : ∃ g, rA u9 5 = g := ⟨_, rfl⟩
  refine rc_v hAL hS hA (va_runV (As := [.ref (b 3), .ref (b 5)]) (rest := []) ⟨hx, hb, hml, hown, noTs⟩ (r_X12_forms l dC dI H.size cs b u9 a hA11 3 (by decide) w6 hA12 5 (by decide) g13 hg13 (by first | assumption | omega | rfl | (congr 1; omega)) (by first | assumption | omega | rfl | (congr 1; omega)) (by first | assumption | omega | rfl | (congr 1; omega)) (by first | assumption | omega | rfl | (congr 1; omega))) ⟨cbE 2 (wd_1661 hE) (wd_126 hE) (wd_1658 hE) rfl rfl (by decide +kernel) ⟨Nat.le_of_ble_eq_true rfl, Nat.le_of_ble_eq_true rfl⟩, (wd_1660 hE), (wd_85 hE)⟩ ⟨PR.blind, r_recv hK hP rfl, (r_pre (av := [.ref (b 0), .ref (b 3), .ref (b 5)]) hK hP hJ hE)⟩ rfl rfl hl.1 rfl (lv_room (Nat.le_of_ble_eq_true rfl)) dX12_areAlike_35 ⟨Nat.le_of_ble_eq_true rfl, Nat.le_of_ble_eq_true rfl⟩) (fun u14 H locs hpo14 hP hS => ?_)
  obtain ⟨h14_0, h14_1, h14_2, h14_3, h14_4, hq14⟩ := hpo14
  obtain ⟨w15, hA15⟩ : ∃ g, rA u14 5 = g := ⟨_, rfl⟩
  rw [hA15] at h14_0 h14_1 h14_2 h14_3 h14_4
  have hA16 := (hq14.1 1 (by decide)).trans hA11
  have hA17 := (hq14.1 3 (by decide)).trans hA12
  have hA18 := (hq14.1 4 (by decide)).trans hA10
  have hfr := FR.step hfr hq14 (by decide) (by decide) (fun h => rfl)
  have hl14_0 := pg_le h14_0
  refine lv_aload_n hx hb dX12_areAlike_38 rfl (lv_at hl 0 rfl) ?_
  refine lv_aload_n hx hb dX12_areAlike_39 rfl (lv_at hl 0 rfl) ?_
  refine r_get (v := .ref (b 2)) hx hb (ly_X12 hE) hown hK hP rfl 4 (by decide) (wd_1385 hE) (fun _ h9 => h9) rfl dX12_areAlike_40 ?_
  refine lv_iconst (v := 1) hx hb dX12_areAlike_43 (by decide) ?_
  refine r_aald (j := 2) (k := 1) (n := 10) (t0 := 4) (j2 := 4) hx hb hK hP (by decide) rfl rfl (by decide) (by decide) rfl dX12_areAlike_44 ?_
  refine lv_aload_n hx hb dX12_areAlike_45 rfl (lv_at hl 0 rfl) ?_
  refine r_get (v := .ref (b 2)) hx hb (ly_X12 hE) hown hK hP rfl 4 (by decide) (wd_1385 hE) (fun _ h9 => h9) rfl dX12_areAlike_46 ?_
  refine lv_iconst (v := 3) hx hb dX12_areAlike_49 (by decide) ?_
  refine r_aald (j := 2) (k := 3) (n := 10) (t0 := 4) (j2 := 6) hx hb hK hP (by decide) rfl rfl (by decide) (by decide) rfl dX12_areAlike_50 ?_
  obtain ⟨g19, hg19⟩ : ∃ g, rA u14 6 = g := ⟨_, rfl⟩
  refine rc_v hAL hS hA (va_runV (As := [.ref (b 4), .ref (b 6)]) (rest := []) ⟨hx, hb, hml, hown, noTs⟩ (r_X12_forms l dC dI H.size cs b u14 a hA16 4 (by decide) w10 hA18 6 (by decide) g19 hg19 (by first | assumption | omega | rfl | (congr 1; omega)) (by first | assumption | omega | rfl | (congr 1; omega)) (by first | assumption | omega | rfl | (congr 1; omega)) (by first | assumption | omega | rfl | (congr 1; omega))) ⟨cbE 2 (wd_1661 hE) (wd_126 hE) (wd_1658 hE) rfl rfl (by decide +kernel) ⟨Nat.le_of_ble_eq_true rfl, Nat.le_of_ble_eq_true rfl⟩, (wd_1660 hE), (wd_85 hE)⟩ ⟨PR.blind, r_recv hK hP rfl, (r_pre (av := [.ref (b 0), .ref (b 4), .ref (b 6)]) hK hP hJ hE)⟩ rfl rfl hl.1 rfl (lv_room (Nat.le_of_ble_eq_true rfl)) dX12_areAlike_51 ⟨Nat.le_of_ble_eq_true rfl, Nat.le_of_ble_eq_true rfl⟩) (fun u20 H locs hpo20 hP hS => ?_)
  obtain ⟨h20_0, h20_1, h20_2, h20_3, h20_4, hq20⟩ := hpo20
  obtain ⟨w21, hA21⟩ : ∃ g, rA u20 6 = g := ⟨_, rfl⟩
  rw [hA21] at h20_0 h20_1 h20_2 h20_3 h20_4
  have hA22 := (hq20.1 1 (by decide)).trans hA16
  have hA23 := (hq20.1 3 (by decide)).trans hA17
  have hA24 := (hq20.1 4 (by decide)).trans hA18
  have hA25 := (hq20.1 5 (by decide)).trans hA15
  have hfr := FR.step hfr hq20 (by decide) (by decide) (fun h => rfl)
  have hl20_0 := pg_le h20_0
  refine lv_aload_n hx hb dX12_areAlike_54 rfl (lv_at hl 0 rfl) ?_
  refine r_get (v := .ref (b 2)) hx hb (ly_X12 hE) hown hK hP rfl 4 (by decide) (wd_1385 hE) (fun _ h9 => h9) rfl dX12_areAlike_55 ?_
  refine lv_iconst (v := 2) hx hb dX12_areAlike_58 (by decide) ?_
  refine r_aald (j := 2) (k := 2) (n := 10) (t0 := 4) (j2 := 5) hx hb hK hP (by decide) rfl rfl (by decide) (by decide) rfl dX12_areAlike_59 ?_
  refine lv_aload_n hx hb dX12_areAlike_60 rfl (lv_at hl 0 rfl) ?_
  refine r_get (v := .ref (b 2)) hx hb (ly_X12 hE) hown hK hP rfl 4 (by decide) (wd_1385 hE) (fun _ h9 => h9) rfl dX12_areAlike_61 ?_
  refine lv_iconst (v := 3) hx hb dX12_areAlike_64 (by decide) ?_
  refine r_aald (j := 2) (k := 3) (n := 10) (t0 := 4) (j2 := 6) hx hb hK hP (by decide) rfl rfl (by decide) (by decide) rfl dX12_areAlike_65 ?_
  refine vp_callSi (va_Run.run (va_runS (As := [.ref (b 5), .ref (b 6)]) (rest := []) ⟨hx, hb, hml, hown, noTs⟩ (r_X12_isLike l dC dI H.size cs b u20 a hA22 5 (by decide) w15 hA25 6 (by decide) w21 hA21 (by first | assumption | omega | rfl | (congr 1; omega)) (by first | assumption | omega | rfl | (congr 1; omega))) ⟨cbE 2 (wd_1675 hE) (wd_126 hE) (wd_1673 hE) rfl rfl (by decide +kernel) ⟨Nat.le_of_ble_eq_true rfl, Nat.le_of_ble_eq_true rfl⟩, (wd_1674 hE)⟩ ⟨PR.blind, (r_pre (av := [.ref (b 5), .ref (b 6)]) hK hP hJ hE)⟩ rfl rfl hl.1 rfl (lv_room (Nat.le_of_ble_eq_true rfl)) dX12_areAlike_66 ⟨Nat.le_of_ble_eq_true rfl, Nat.le_of_ble_eq_true rfl⟩)) (fun r26 hr26 => ?_)
  rcases hr26 with ⟨rfl, hb26⟩ | ⟨rfl, hb26⟩
  · exact W.zret (v := 1) hx hb hr rfl (fun t ht hW => ⟨⟨1, u20, rfl, ⟨Or.inl ⟨rfl, by trivial⟩, hfr⟩, (show va_P (dC, dI) vwCl (rW cs b u20) t.heap by rw [ht]; exact hP)⟩, hS.F ht⟩) hS.2.2 dX12_areAlike_69
  · exact W.zret (v := 0) hx hb hr rfl (fun t ht hW => ⟨⟨0, u20, rfl, ⟨Or.inr ⟨rfl, by trivial⟩, hfr⟩, (show va_P (dC, dI) vwCl (rW cs b u20) t.heap by rw [ht]; exact hP)⟩, hS.F ht⟩) hS.2.2 dX12_areAlike_69
