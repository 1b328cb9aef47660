set_option maxHeartbeats 4000000 in
set_option maxRecDepth 100000 in
theorem r_X12_swaps (l : Launch) (dC : Nat → ClassId) (dI : Nat → Nat → Nat) (sz : Nat) (cs : Nat → ClassId) (b : Nat → Nat) (u : RS) (a : Nat → Int32) (hA1 : rA u 1 = a) (x : Int32) (y : Int32) (hp0 : BG a) : Met l yX12_swaps [.code yX12_swaps cX12_swaps 4 (some .int)] ({ frames := 8, cells := 0, slots := 0, locals := 320 }) (PR [.ref (b 0), .int x, .int y] sz dC dI cs b u) (va_Qi (fun (r : Int32) (u' : RS) => (True) ∧ FR [3, 4, 5, 6, 7, 8, 9, 10, 11, 12, 13, 14, 17, 18, 19, 20] [1, 5, 21, 22] true u u') (BR dC dI cs b) (AR b sz)) 0 0 (AR b sz) := by
  refine Met.ofW (cc := cX12_swaps) (maxL := 4) (ret := (some .int)) (by decide) rfl ?_
  intro p e s m args below meth c s₁ B hml hv
  obtain ⟨rfl, hsz, hP, hK, hJ, hE⟩ := hv
  have hx := B.exec
  have hb := B.bytes
  have hr := B.returns
  have hown : s.vm.findClass RX12 = some m.cls := findClass_of_methodNamed B.named
  have hlocks := B.notSynchronized
  subst hsz
  have hAL : ∀ i, i < 108 → AR b s.heap.size (b i) := fun i h => Or.inl ⟨i, h, rfl⟩
  have hA : ∀ q : Nat, s.heap.size ≤ q → AR b s.heap.size q := fun q h => Or.inr h
  have hS : va_S (AR b s.heap.size) s.heap s.heap [] := va_S.rf
  have hfr : FR [3, 4, 5, 6, 7, 8, 9, 10, 11, 12, 13, 14, 17, 18, 19, 20] [1, 5, 21, 22] true u u := FR.refl
  have hl := lv_entry ([.ref (b 0), .int x, .int y]) (n := 4) (Nat.le_of_ble_eq_true rfl)
  rw [lg_entry_eq]
  generalize (lg_sl ([.ref (b 0), .int x, .int y]) ++ List.replicate (4 - (lg_sl ([.ref (b 0), .int x, .int y])).length) Slot.unset).toArray = ls at hl ⊢
  have hl : lv_has ls 4 [(0, .ref (b 0)), (1, .int x), (2, .int y)] := hl
  have hB := hp0
  have hG := bg_g hp0
  have ha1 := gg_le hG
  have ha1b := bg_w hp0
  refine lv_aload_n hx hb dX12_swaps_0 rfl (lv_at hl 0 rfl) ?_
  refine lv_iload_n hx hb dX12_swaps_1 rfl (lv_at hl 1 rfl) ?_
  refine lv_iload_n hx hb dX12_swaps_2 rfl (lv_at hl 2 rfl) ?_
  refine rc_i hAL hS hA (va_runV (As := [.int x, .int y]) (rest := []) ⟨hx, hb, hml, hown, noTs⟩ (r_X12_wrongLoops l dC dI s.heap.size cs b u a hA1 x y (by first | assumption | omega | rfl | (congr 1; omega))) ⟨cbE 2 (wd_1800 hE) (wd_126 hE) (wd_1797 hE) rfl rfl (by decide +kernel) ⟨Nat.le_of_ble_eq_true rfl, Nat.le_of_ble_eq_true rfl⟩, (wd_1799 hE), (wd_97 hE)⟩ ⟨PR.blind, r_recv hK hP rfl, (r_pre (av := [.ref (b 0), .int x, .int y]) hK hP hJ hE)⟩ rfl rfl hl.1 rfl (lv_room (Nat.le_of_ble_eq_true rfl)) dX12_swaps_3 ⟨Nat.le_of_ble_eq_true rfl, Nat.le_of_ble_eq_true rfl⟩) (fun r2 u2 H locs hpo2 hP hS => ?_)
  obtain ⟨hr2, hq2⟩ := hpo2
  have hA3 := (hq2.1 1 (by decide)).trans hA1
  have hfr := FR.step hfr hq2 (by decide) (fun _ h => absurd h List.not_mem_nil) (fun h => rfl)
  rcases hr2 with ⟨rfl, hb2⟩ | ⟨rfl, hb2⟩ | ⟨rfl, hb2⟩
  · obtain ⟨n2, hbe2_1, hb2⟩ := hb2
    subst hbe2_1
    have hti4 := nI_toInt (n := n2) (by omega)
    obtain ⟨n2_2, hbe2_2, hb2⟩ := hb2
    subst hbe2_2
    have hti5 := nI_toInt (n := n2_2) (by omega)
    refine lv_istore_n (lv' := [(3, .int 0), (0, .ref (b 0)), (1, .int (nI n2)), (2, .int (nI n2_2))]) hx hb dX12_swaps_6 rfl hl (by decide) rfl (fun ls hl => ?_)
    refine lv_iload_n hx hb dX12_swaps_7 rfl (lv_at hl 0 rfl) ?_
    refine lv_if_le (tgt := 17) hx hb dX12_swaps_8 (by decide) (fun c6 => ?_) (fun c6 => absurd c6 (by decide))
    refine lv_aload_n hx hb dX12_swaps_17 rfl (lv_at hl 1 rfl) ?_
    refine lv_iload_n hx hb dX12_swaps_18 rfl (lv_at hl 2 rfl) ?_
    refine lv_aload_n hx hb dX12_swaps_19 rfl (lv_at hl 1 rfl) ?_
    refine r_get (v := .ref (b 2)) hx hb (ly_X12 hE) hown hK hP rfl 4 (by decide) (wd_1385 hE) (fun _ h9 => h9) rfl dX12_swaps_20 ?_
    refine lv_iconst (v := 0) hx hb dX12_swaps_23 (by decide) ?_
    refine r_aald (j := 2) (k := 0) (n := 10) (t0 := 4) (j2 := 3) hx hb hK hP (by decide) rfl rfl (by decide) (by decide) rfl dX12_swaps_24 ?_
    obtain ⟨g7, hg7⟩ : ∃ g, rA u2 3 = g := ⟨_, rfl⟩
    refine rc_v hAL hS hA (va_runV (As := [.int (nI n2), .ref (b 3)]) (rest := []) ⟨hx, hb, hml, hown, noTs⟩ (r_X12_takes l dC dI H.size cs b u2 a hA3 n2 3 (by decide) g7 hg7 (by first | assumption | omega | rfl | (congr 1; omega)) (by first | assumption | omega | rfl | (congr 1; omega))) ⟨cbE 2 (wd_1657 hE) (wd_126 hE) (wd_1654 hE) rfl rfl (by decide +kernel) ⟨Nat.le_of_ble_eq_true rfl, Nat.le_of_ble_eq_true rfl⟩, (wd_1656 hE), (wd_84 hE)⟩ ⟨PR.blind, r_recv hK hP rfl, (r_pre (av := [.ref (b 0), .int (nI n2), .ref (b 3)]) hK hP hJ hE)⟩ rfl rfl hl.1 rfl (lv_room (Nat.le_of_ble_eq_true rfl)) dX12_swaps_25 ⟨Nat.le_of_ble_eq_true rfl, Nat.le_of_ble_eq_true rfl⟩) (fun u8 H locs hpo8 hP hS => ?_)
    obtain ⟨h8_0, h8_1, h8_2, h8_3, h8_4, h8_5, hq8⟩ := hpo8
    obtain ⟨w9, hA9⟩ : ∃ g, rA u8 3 = g := ⟨_, rfl⟩
    rw [hA9] at h8_0 h8_1 h8_2 h8_3 h8_4 h8_5
    have hA10 := (hq8.1 1 (by decide)).trans hA3
    have hfr := FR.step hfr hq8 (by decide) (fun _ h => absurd h List.not_mem_nil) (fun h => rfl)
    have hl8_0 := pg_le h8_0
    refine lv_aload_n hx hb dX12_swaps_28 rfl (lv_at hl 1 rfl) ?_
    refine lv_iload_n hx hb dX12_swaps_29 rfl (lv_at hl 3 rfl) ?_
    refine lv_aload_n hx hb dX12_swaps_30 rfl (lv_at hl 1 rfl) ?_
    refine r_get (v := .ref (b 2)) hx hb (ly_X12 hE) hown hK hP rfl 4 (by decide) (wd_1385 hE) (fun _ h9 => h9) rfl dX12_swaps_31 ?_
    refine lv_iconst (v := 1) hx hb dX12_swaps_34 (by decide) ?_
    refine r_aald (j := 2) (k := 1) (n := 10) (t0 := 4) (j2 := 4) hx hb hK hP (by decide) rfl rfl (by decide) (by decide) rfl dX12_swaps_35 ?_
    obtain ⟨g11, hg11⟩ : ∃ g, rA u8 4 = g := ⟨_, rfl⟩
    refine rc_v hAL hS hA (va_runV (As := [.int (nI n2_2), .ref (b 4)]) (rest := []) ⟨hx, hb, hml, hown, noTs⟩ (r_X12_takes l dC dI H.size cs b u8 a hA10 n2_2 4 (by decide) g11 hg11 (by first | assumption | omega | rfl | (congr 1; omega)) (by first | assumption | omega | rfl | (congr 1; omega))) ⟨cbE 2 (wd_1657 hE) (wd_126 hE) (wd_1654 hE) rfl rfl (by decide +kernel) ⟨Nat.le_of_ble_eq_true rfl, Nat.le_of_ble_eq_true rfl⟩, (wd_1656 hE), (wd_84 hE)⟩ ⟨PR.blind, r_recv hK hP rfl, (r_pre (av := [.ref (b 0), .int (nI n2_2), .ref (b 4)]) hK hP hJ hE)⟩ rfl rfl hl.1 rfl (lv_room (Nat.le_of_ble_eq_true rfl)) dX12_swaps_36 ⟨Nat.le_of_ble_eq_true rfl, Nat.le_of_ble_eq_true rfl⟩) (fun u12 H locs hpo12 hP hS => ?_)
    obtain ⟨h12_0, h12_1, h12_2, h12_3, h12_4, h12_5, hq12⟩ := hpo12
    obtain ⟨w13, hA13⟩ : ∃ g, rA u12 4 = g := ⟨_, rfl⟩
    rw [hA13] at h12_0 h12_1 h12_2 h12_3 h12_4 h12_5
    have hA14 := (hq12.1 1 (by decide)).trans hA10
    have hA15 := (hq12.1 3 (by decide)).trans hA9
    have hfr := FR.step hfr hq12 (by decide) (fun _ h => absurd h List.not_mem_nil) (fun h => rfl)
    have hl12_0 := pg_le h12_0
    refine lv_aload_n hx hb dX12_swaps_39 rfl (lv_at hl 1 rfl) ?_
    refine r_get (v := .ref (b 2)) hx hb (ly_X12 hE) hown hK hP rfl 4 (by decide) (wd_1385 hE) (fun _ h9 => h9) rfl dX12_swaps_40 ?_
    refine lv_iconst (v := 0) hx hb dX12_swaps_43 (by decide) ?_
    refine r_aald (j := 2) (k := 0) (n := 10) (t0 := 4) (j2 := 3) hx hb hK hP (by decide) rfl rfl (by decide) (by decide) rfl dX12_swaps_44 ?_
    refine lv_iconst (v := 0) hx hb dX12_swaps_45 (by decide) ?_
    refine r_iald (j := 3) (k := 0) (n := 200) (x := nI (rb w9)) hx hb hK hP (by decide) rfl (by decide) (by decide) (by rw [hA15]; exact pg_b h8_0) dX12_swaps_46 ?_
    refine lv_aload_n hx hb dX12_swaps_47 rfl (lv_at hl 1 rfl) ?_
    refine r_get (v := .ref (b 2)) hx hb (ly_X12 hE) hown hK hP rfl 4 (by decide) (wd_1385 hE) (fun _ h9 => h9) rfl dX12_swaps_48 ?_
    refine lv_iconst (v := 1) hx hb dX12_swaps_51 (by decide) ?_
    refine r_aald (j := 2) (k := 1) (n := 10) (t0 := 4) (j2 := 4) hx hb hK hP (by decide) rfl rfl (by decide) (by decide) rfl dX12_swaps_52 ?_
    refine lv_iconst (v := 0) hx hb dX12_swaps_53 (by decide) ?_
    refine r_iald (j := 4) (k := 0) (n := 200) (x := nI (rb w13)) hx hb hK hP (by decide) rfl (by decide) (by decide) (by rw [hA13]; exact pg_b h12_0) dX12_swaps_54 ?_
    refine lv_icmp_eq (tgt := 64) hx hb dX12_swaps_55 (by decide) (fun c18 => ?_) (fun c18 => ?_)
    · have c18 := (b_eq (nI_toInt (n := rb w9) (by omega)) (nI_toInt (n := rb w13) (by omega))).mp c18
      refine lv_aload_n hx hb dX12_swaps_64 rfl (lv_at hl 1 rfl) ?_
      refine lv_aload_n hx hb dX12_swaps_65 rfl (lv_at hl 1 rfl) ?_
      refine r_get (v := .ref (b 2)) hx hb (ly_X12 hE) hown hK hP rfl 4 (by decide) (wd_1385 hE) (fun _ h9 => h9) rfl dX12_swaps_66 ?_
      refine lv_iconst (v := 0) hx hb dX12_swaps_69 (by decide) ?_
      refine r_aald (j := 2) (k := 0) (n := 10) (t0 := 4) (j2 := 3) hx hb hK hP (by decide) rfl rfl (by decide) (by decide) rfl dX12_swaps_70 ?_
      refine lv_aload_n hx hb dX12_swaps_71 rfl (lv_at hl 1 rfl) ?_
      refine r_get (v := .ref (b 2)) hx hb (ly_X12 hE) hown hK hP rfl 4 (by decide) (wd_1385 hE) (fun _ h9 => h9) rfl dX12_swaps_72 ?_
      refine lv_iconst (v := 1) hx hb dX12_swaps_75 (by decide) ?_
      refine r_aald (j := 2) (k := 1) (n := 10) (t0 := 4) (j2 := 4) hx hb hK hP (by decide) rfl rfl (by decide) (by decide) rfl dX12_swaps_76 ?_
      refine lv_aload_n hx hb dX12_swaps_77 rfl (lv_at hl 1 rfl) ?_
      refine r_get (v := .ref (b 2)) hx hb (ly_X12 hE) hown hK hP rfl 4 (by decide) (wd_1385 hE) (fun _ h9 => h9) rfl dX12_swaps_78 ?_
      refine lv_iconst (v := 2) hx hb dX12_swaps_81 (by decide) ?_
      refine r_aald (j := 2) (k := 2) (n := 10) (t0 := 4) (j2 := 5) hx hb hK hP (by decide) rfl rfl (by decide) (by decide) rfl dX12_swaps_82 ?_
      obtain ⟨g19, hg19⟩ : ∃ g, rA u12 5 = g := ⟨_, rfl⟩
      refine rc_v hAL hS hA (va_runV (As := [.ref (b 3), .ref (b 4), .ref (b 5)]) (rest := []) ⟨hx, hb, hml, hown, noTs⟩ (r_X12_joins l dC dI H.size cs b u12 a hA14 3 (by decide) w9 hA15 4 (by decide) w13 hA13 5 (by decide) g19 hg19 (by first | assumption | omega | rfl | (congr 1; omega)) (by first | assumption | omega | rfl | (congr 1; omega)) (by first | assumption | omega | rfl | (congr 1; omega)) (by first | assumption | omega | rfl | (congr 1; omega)) (by first | assumption | omega | rfl | (congr 1; omega)) (by first | assumption | omega | rfl | (congr 1; omega)) (by first | assumption | omega | rfl | (congr 1; omega)) (by first | assumption | omega | rfl | (congr 1; omega)) (by first | assumption | omega | rfl | (congr 1; omega)) (by first | assumption | omega | rfl | (congr 1; omega)) (by first | assumption | omega | rfl | (congr 1; omega)) (by first | assumption | omega | rfl | (congr 1; omega))) ⟨cbE 3 (wd_1703 hE) (wd_126 hE) (wd_1700 hE) rfl rfl (by decide +kernel) ⟨Nat.le_of_ble_eq_true rfl, Nat.le_of_ble_eq_true rfl⟩, (wd_1702 hE), (wd_89 hE)⟩ ⟨PR.blind, r_recv hK hP rfl, (r_pre (av := [.ref (b 0), .ref (b 3), .ref (b 4), .ref (b 5)]) hK hP hJ hE)⟩ rfl rfl hl.1 rfl (lv_room (Nat.le_of_ble_eq_true rfl)) dX12_swaps_83 ⟨Nat.le_of_ble_eq_true rfl, Nat.le_of_ble_eq_true rfl⟩) (fun u20 H locs hpo20 hP hS => ?_)
      obtain ⟨h20_0, h20_1, h20_2, h20_3, h20_4, hq20⟩ := hpo20
      obtain ⟨w21, hA21⟩ : ∃ g, rA u20 5 = g := ⟨_, rfl⟩
      rw [hA21] at h20_0 h20_1 h20_2 h20_3 h20_4
      have hA22 := (hq20.1 1 (by decide)).trans hA14
      have hA23 := (hq20.1 3 (by decide)).trans hA15
      have hA24 := (hq20.1 4 (by decide)).trans hA13
      have hfr := FR.step hfr hq20 (by decide) (by decide) (fun h => rfl)
      have hl20_0 := pg_le h20_0
      refine lv_aload_n hx hb dX12_swaps_86 rfl (lv_at hl 1 rfl) ?_
      refine lv_aload_n hx hb dX12_swaps_87 rfl (lv_at hl 1 rfl) ?_
      refine r_get (v := .ref (b 2)) hx hb (ly_X12 hE) hown hK hP rfl 4 (by decide) (wd_1385 hE) (fun _ h9 => h9) rfl dX12_swaps_88 ?_
      refine lv_iconst (v := 1) hx hb dX12_swaps_91 (by decide) ?_
      refine r_aald (j := 2) (k := 1) (n := 10) (t0 := 4) (j2 := 4) hx hb hK hP (by decide) rfl rfl (by decide) (by decide) rfl dX12_swaps_92 ?_
      refine lv_aload_n hx hb dX12_swaps_93 rfl (lv_at hl 1 rfl) ?_
      refine r_get (v := .ref (b 2)) hx hb (ly_X12 hE) hown hK hP rfl 4 (by decide) (wd_1385 hE) (fun _ h9 => h9) rfl dX12_swaps_94 ?_
      refine lv_iconst (v := 0) hx hb dX12_swaps_97 (by decide) ?_
      refine r_aald (j := 2) (k := 0) (n := 10) (t0 := 4) (j2 := 3) hx hb hK hP (by decide) rfl rfl (by decide) (by decide) rfl dX12_swaps_98 ?_
      refine lv_aload_n hx hb dX12_swaps_99 rfl (lv_at hl 1 rfl) ?_
      refine r_get (v := .ref (b 2)) hx hb (ly_X12 hE) hown hK hP rfl 4 (by decide) (wd_1385 hE) (fun _ h9 => h9) rfl dX12_swaps_100 ?_
      refine lv_iconst (v := 3) hx hb dX12_swaps_103 (by decide) ?_
      refine r_aald (j := 2) (k := 3) (n := 10) (t0 := 4) (j2 := 6) hx hb hK hP (by decide) rfl rfl (by decide) (by decide) rfl dX12_swaps_104 ?_
      obtain ⟨g25, hg25⟩ : ∃ g, rA u20 6 = g := ⟨_, rfl⟩
      refine rc_v hAL hS hA (va_runV (As := [.ref (b 4), .ref (b 3), .ref (b 6)]) (rest := []) ⟨hx, hb, hml, hown, noTs⟩ (r_X12_joins l dC dI H.size cs b u20 a hA22 4 (by decide) w13 hA24 3 (by decide) w9 hA23 6 (by decide) g25 hg25 (by first | assumption | omega | rfl | (congr 1; omega)) (by first | assumption | omega | rfl | (congr 1; omega)) (by first | assumption | omega | rfl | (congr 1; omega)) (by first | assumption | omega | rfl | (congr 1; omega)) (by first | assumption | omega | rfl | (congr 1; omega)) (by first | assumption | omega | rfl | (congr 1; omega)) (by first | assumption | omega | rfl | (congr 1; omega)) (by first | assumption | omega | rfl | (congr 1; omega)) (by first | assumption | omega | rfl | (congr 1; omega)) (by first | assumption | omega | rfl | (congr 1; omega)) (by first | assumption | omega | rfl | (congr 1; omega)) (by first | assumption | omega | rfl | (congr 1; omega))) ⟨cbE 3 (wd_1703 hE) (wd_126 hE) (wd_1700 hE) rfl rfl (by decide +kernel) ⟨Nat.le_of_ble_eq_true rfl, Nat.le_of_ble_eq_true rfl⟩, (wd_1702 hE), (wd_89 hE)⟩ ⟨PR.blind, r_recv hK hP rfl, (r_pre (av := [.ref (b 0), .ref (b 4), .ref (b 3), .ref (b 6)]) hK hP hJ hE)⟩ rfl rfl hl.1 rfl (lv_room (Nat.le_of_ble_eq_true rfl)) dX12_swaps_105 ⟨Nat.le_of_ble_eq_true rfl, Nat.le_of_ble_eq_true rfl⟩) (fun u26 H locs hpo26 hP hS => ?_)
      obtain ⟨h26_0, h26_1, h26_2, h26_3, h26_4, hq26⟩ := hpo26
      obtain ⟨w27, hA27⟩ : ∃ g, rA u26 6 = g := ⟨_, rfl⟩
      rw [hA27] at h26_0 h26_1 h26_2 h26_3 h26_4
      have hA28 := (hq26.1 1 (by decide)).trans hA22
      have hA29 := (hq26.1 3 (by decide)).trans hA23
      have hA30 := (hq26.1 4 (by decide)).trans hA24
      have hA31 := (hq26.1 5 (by decide)).trans hA21
      have hfr := FR.step hfr hq26 (by decide) (by decide) (fun h => rfl)
      have hl26_0 := pg_le h26_0
      refine lv_aload_n hx hb dX12_swaps_108 rfl (lv_at hl 1 rfl) ?_
      refine lv_aload_n hx hb dX12_swaps_109 rfl (lv_at hl 1 rfl) ?_
      refine r_get (v := .ref (b 2)) hx hb (ly_X12 hE) hown hK hP rfl 4 (by decide) (wd_1385 hE) (fun _ h9 => h9) rfl dX12_swaps_110 ?_
      refine lv_iconst (v := 2) hx hb dX12_swaps_113 (by decide) ?_
      refine r_aald (j := 2) (k := 2) (n := 10) (t0 := 4) (j2 := 5) hx hb hK hP (by decide) rfl rfl (by decide) (by decide) rfl dX12_swaps_114 ?_
      refine lv_aload_n hx hb dX12_swaps_115 rfl (lv_at hl 1 rfl) ?_
      refine r_get (v := .ref (b 2)) hx hb (ly_X12 hE) hown hK hP rfl 4 (by decide) (wd_1385 hE) (fun _ h9 => h9) rfl dX12_swaps_116 ?_
      refine lv_iconst (v := 3) hx hb dX12_swaps_119 (by decide) ?_
      refine r_aald (j := 2) (k := 3) (n := 10) (t0 := 4) (j2 := 6) hx hb hK hP (by decide) rfl rfl (by decide) (by decide) rfl dX12_swaps_120 ?_
      refine vp_callSi (va_Run.run (va_runS (As := [.ref (b 5), .ref (b 6)]) (rest := [.ref (b 0)]) ⟨hx, hb, hml, hown, noTs⟩ (r_X12_isLike l dC dI H.size cs b u26 a hA28 5 (by decide) w21 hA31 6 (by decide) w27 hA27 (by first | assumption | omega | rfl | (congr 1; omega)) (by first | assumption | omega | rfl | (congr 1; omega))) ⟨cbE 2 (wd_1675 hE) (wd_126 hE) (wd_1673 hE) rfl rfl (by decide +kernel) ⟨Nat.le_of_ble_eq_true rfl, Nat.le_of_ble_eq_true rfl⟩, (wd_1674 hE)⟩ ⟨PR.blind, (r_pre (av := [.ref (b 5), .ref (b 6)]) hK hP hJ hE)⟩ rfl rfl hl.1 rfl (lv_room (Nat.le_of_ble_eq_true rfl)) dX12_swaps_121 ⟨Nat.le_of_ble_eq_true rfl, Nat.le_of_ble_eq_true rfl⟩)) (fun r32 hr32 => ?_)
      rcases hr32 with ⟨rfl, hb32⟩ | ⟨rfl, hb32⟩
      · refine lv_if_eq (tgt := 131) hx hb dX12_swaps_124 (by decide) (fun c33 => absurd c33 (by decide)) (fun c33 => ?_)
        refine lv_iconst (v := 1) hx hb dX12_swaps_127 (by decide) ?_
        refine lv_goto (tgt := 132) hx hb dX12_swaps_128 (by decide) ?_
        refine rc_i hAL hS hA (va_runV (As := [.int 1]) (rest := []) ⟨hx, hb, hml, hown, noTs⟩ (r_X12_gives l dC dI H.size cs b u26 a hA28 1) ⟨cbE 1 (wd_1621 hE) (wd_126 hE) (wd_1618 hE) rfl rfl (by decide +kernel) ⟨Nat.le_of_ble_eq_true rfl, Nat.le_of_ble_eq_true rfl⟩, (wd_1620 hE), (wd_80 hE)⟩ ⟨PR.blind, r_recv hK hP rfl, (r_pre (av := [.ref (b 0), .int 1]) hK hP hJ hE)⟩ rfl rfl hl.1 rfl (lv_room (Nat.le_of_ble_eq_true rfl)) dX12_swaps_132 ⟨Nat.le_of_ble_eq_true rfl, Nat.le_of_ble_eq_true rfl⟩) (fun r34 u34 H locs hpo34 hP hS => ?_)
        obtain ⟨hr34, hq34⟩ := hpo34
        have hA35 := (hq34.1 1 List.not_mem_nil).trans hA28
        have hA36 := (hq34.1 3 List.not_mem_nil).trans hA29
        have hA37 := (hq34.1 4 List.not_mem_nil).trans hA30
        have hA38 := (hq34.1 5 List.not_mem_nil).trans hA31
        have hA39 := (hq34.1 6 List.not_mem_nil).trans hA27
        have hfr := FR.step hfr hq34 (fun _ h => absurd h List.not_mem_nil) (by decide) (fun h => rfl)
        subst hr34
        exact W.iret (v := 1) hx hb hr (fun t ht hW => ⟨⟨1, u34, rfl, ⟨trivial, hfr⟩, (show va_P (dC, dI) vwCl (rW cs b u34) t.heap by rw [ht]; exact hP)⟩, hS.F ht⟩) hS.2.2 dX12_swaps_135
      · refine lv_if_eq (tgt := 131) hx hb dX12_swaps_124 (by decide) (fun c40 => ?_) (fun c40 => absurd c40 (by decide))
        refine lv_iconst (v := 0) hx hb dX12_swaps_131 (by decide) ?_
        refine rc_i hAL hS hA (va_runV (As := [.int 0]) (rest := []) ⟨hx, hb, hml, hown, noTs⟩ (r_X12_gives l dC dI H.size cs b u26 a hA28 0) ⟨cbE 1 (wd_1621 hE) (wd_126 hE) (wd_1618 hE) rfl rfl (by decide +kernel) ⟨Nat.le_of_ble_eq_true rfl, Nat.le_of_ble_eq_true rfl⟩, (wd_1620 hE), (wd_80 hE)⟩ ⟨PR.blind, r_recv hK hP rfl, (r_pre (av := [.ref (b 0), .int 0]) hK hP hJ hE)⟩ rfl rfl hl.1 rfl (lv_room (Nat.le_of_ble_eq_true rfl)) dX12_swaps_132 ⟨Nat.le_of_ble_eq_true rfl, Nat.le_of_ble_eq_true rfl⟩) (fun r41 u41 H locs hpo41 hP hS => ?_)
        obtain ⟨hr41, hq41⟩ := hpo41
        have hA42 := (hq41.1 1 List.not_mem_nil).trans hA28
        have hA43 := (hq41.1 3 List.not_mem_nil).trans hA29
        have hA44 := (hq41.1 4 List.not_mem_nil).trans hA30
        have hA45 := (hq41.1 5 List.not_mem_nil).trans hA31
        have hA46 := (hq41.1 6 List.not_mem_nil).trans hA27
        have hfr := FR.step hfr hq41 (fun _ h => absurd h List.not_mem_nil) (by decide) (fun h => rfl)
        subst hr41
        exact W.iret (v := 0) hx hb hr (fun t ht hW => ⟨⟨0, u41, rfl, ⟨trivial, hfr⟩, (show va_P (dC, dI) vwCl (rW cs b u41) t.heap by rw [ht]; exact hP)⟩, hS.F ht⟩) hS.2.2 dX12_swaps_135
    · have c18 := mt (b_eq (nI_toInt (n := rb w9) (by omega)) (nI_toInt (n := rb w13) (by omega))).mpr c18
      refine lv_aload_n hx hb dX12_swaps_58 rfl (lv_at hl 1 rfl) ?_
      refine lv_iconst (v := 4) hx hb dX12_swaps_59 (by decide) ?_
      refine rc_i hAL hS hA (va_runV (As := [.int 4]) (rest := []) ⟨hx, hb, hml, hown, noTs⟩ (r_X12_refuse l dC dI H.size cs b u12 a hA14 4) ⟨cbE 1 (wd_1498 hE) (wd_126 hE) (wd_1495 hE) rfl rfl (by decide +kernel) ⟨Nat.le_of_ble_eq_true rfl, Nat.le_of_ble_eq_true rfl⟩, (wd_1497 hE), (wd_54 hE)⟩ ⟨PR.blind, r_recv hK hP rfl, (r_pre (av := [.ref (b 0), .int 4]) hK hP hJ hE)⟩ rfl rfl hl.1 rfl (lv_room (Nat.le_of_ble_eq_true rfl)) dX12_swaps_60 ⟨Nat.le_of_ble_eq_true rfl, Nat.le_of_ble_eq_true rfl⟩) (fun r47 u47 H locs hpo47 hP hS => ?_)
      obtain ⟨hr47, hq47⟩ := hpo47
      have hA48 := (hq47.1 1 List.not_mem_nil).trans hA14
      have hA49 := (hq47.1 3 List.not_mem_nil).trans hA15
      have hA50 := (hq47.1 4 List.not_mem_nil).trans hA13
      have hfr := FR.step hfr hq47 (fun _ h => absurd h List.not_mem_nil) (by decide) (fun h => rfl)
      subst hr47
      exact W.iret (v := -1) hx hb hr (fun t ht hW => ⟨⟨-1, u47, rfl, ⟨trivial, hfr⟩, (show va_P (dC, dI) vwCl (rW cs b u47) t.heap by rw [ht]; exact hP)⟩, hS.F ht⟩) hS.2.2 dX12_swaps_63
  · refine lv_istore_n (lv' := [(3, .int 2), (0, .ref (b 0)), (1, .int x), (2, .int y)]) hx hb dX12_swaps_6 rfl hl (by decide) rfl (fun ls hl => ?_)
    refine lv_iload_n hx hb dX12_swaps_7 rfl (lv_at hl 0 rfl) ?_
    refine lv_if_le (tgt := 17) hx hb dX12_swaps_8 (by decide) (fun c51 => absurd c51 (by decide)) (fun c51 => ?_)
    refine lv_aload_n hx hb dX12_swaps_11 rfl (lv_at hl 1 rfl) ?_
    refine lv_iload_n hx hb dX12_swaps_12 rfl (lv_at hl 0 rfl) ?_
    refine rc_i hAL hS hA (va_runV (As := [.int 2]) (rest := []) ⟨hx, hb, hml, hown, noTs⟩ (r_X12_refuse l dC dI H.size cs b u2 a hA3 2) ⟨cbE 1 (wd_1498 hE) (wd_126 hE) (wd_1495 hE) rfl rfl (by decide +kernel) ⟨Nat.le_of_ble_eq_true rfl, Nat.le_of_ble_eq_true rfl⟩, (wd_1497 hE), (wd_54 hE)⟩ ⟨PR.blind, r_recv hK hP rfl, (r_pre (av := [.ref (b 0), .int 2]) hK hP hJ hE)⟩ rfl rfl hl.1 rfl (lv_room (Nat.le_of_ble_eq_true rfl)) dX12_swaps_13 ⟨Nat.le_of_ble_eq_true rfl, Nat.le_of_ble_eq_true rfl⟩) (fun r52 u52 H locs hpo52 hP hS => ?_)
    obtain ⟨hr52, hq52⟩ := hpo52
    have hA53 := (hq52.1 1 List.not_mem_nil).trans hA3
    have hfr := FR.step hfr hq52 (fun _ h => absurd h List.not_mem_nil) (by decide) (fun h => rfl)
    subst hr52
    exact W.iret (v := -1) hx hb hr (fun t ht hW => ⟨⟨-1, u52, rfl, ⟨trivial, hfr⟩, (show va_P (dC, dI) vwCl (rW cs b u52) t.heap by rw [ht]; exact hP)⟩, hS.F ht⟩) hS.2.2 dX12_swaps_16
  · refine lv_istore_n (lv' := [(3, .int 4), (0, .ref (b 0)), (1, .int x), (2, .int y)]) hx hb dX12_swaps_6 rfl hl (by decide) rfl (fun ls hl => ?_)
    refine lv_iload_n hx hb dX12_swaps_7 rfl (lv_at hl 0 rfl) ?_
    refine lv_if_le (tgt := 17) hx hb dX12_swaps_8 (by decide) (fun c54 => absurd c54 (by decide)) (fun c54 => ?_)
    refine lv_aload_n hx hb dX12_swaps_11 rfl (lv_at hl 1 rfl) ?_
    refine lv_iload_n hx hb dX12_swaps_12 rfl (lv_at hl 0 rfl) ?_
    refine rc_i hAL hS hA (va_runV (As := [.int 4]) (rest := []) ⟨hx, hb, hml, hown, noTs⟩ (r_X12_refuse l dC dI H.size cs b u2 a hA3 4) ⟨cbE 1 (wd_1498 hE) (wd_126 hE) (wd_1495 hE) rfl rfl (by decide +kernel) ⟨Nat.le_of_ble_eq_true rfl, Nat.le_of_ble_eq_true rfl⟩, (wd_1497 hE), (wd_54 hE)⟩ ⟨PR.blind, r_recv hK hP rfl, (r_pre (av := [.ref (b 0), .int 4]) hK hP hJ hE)⟩ rfl rfl hl.1 rfl (lv_room (Nat.le_of_ble_eq_true rfl)) dX12_swaps_13 ⟨Nat.le_of_ble_eq_true rfl, Nat.le_of_ble_eq_true rfl⟩) (fun r55 u55 H locs hpo55 hP hS => ?_)
    obtain ⟨hr55, hq55⟩ := hpo55
    have hA56 := (hq55.1 1 List.not_mem_nil).trans hA3
    have hfr := FR.step hfr hq55 (fun _ h => absurd h List.not_mem_nil) (by decide) (fun h => rfl)
    subst hr55
    exact W.iret (v := -1) hx hb hr (fun t ht hW => ⟨⟨-1, u55, rfl, ⟨trivial, hfr⟩, (show va_P (dC, dI) vwCl (rW cs b u55) t.heap by rw [ht]; exact hP)⟩, hS.F ht⟩) hS.2.2 dX12_swaps_16

set_option maxHeartbeats 4000000 in
set_option maxRecDepth 100000 in
theorem r_X12_ways (l : Launch) (dC : Nat → ClassId) (dI : Nat → Nat → Nat) (sz : Nat) (cs : Nat → ClassId) (b : Nat → Nat) (u : RS) (a : Nat → Int32) (hA1 : rA u 1 = a) (jw : Nat) (hjwr : 3 ≤ jw ∧ jw ≤ 14) (w : Nat → Int32) (hAjw : rA u jw = w) (jx : Nat) (hjxr : 3 ≤ jx ∧ jx ≤ 14) (x : Nat → Int32) (hAjx : rA u jx = x) (jt : Nat) (hjtr : 3 ≤ jt ∧ jt ≤ 14) (g : Nat → Int32) (hAjt : rA u jt = g) (hp0 : GG a) (hp1 : PG a w) (hp2 : LG a w) (hp3 : PG a x) (hp4 : LG a x) (hp5 : rn w + rn x ≤ 98) (hp6 : rb x = rb w) (hp7 : jw ≠ 13) (hp8 : jx ≠ 13) (hp9 : jt ≠ 13) (hp10 : jw ≠ jt) (hp11 : jx ≠ jt) (hp12 : jw ≠ 10) (hp13 : jx ≠ 10) (hp14 : jt ≠ 10) : Met l yX12_ways [.code yX12_ways cX12_ways 4 none] ({ frames := 6, cells := 0, slots := 0, locals := 240 }) (PR [.ref (b 0), .ref (b jw), .ref (b jx), .ref (b jt)] sz dC dI cs b u) (va_Qv (fun (u' : RS) => (PG a (rA u' jt)) ∧ (LG a (rA u' jt)) ∧ (rn (rA u' jt) ≤ rn w + rn x) ∧ FR [10, 13, jt] [5] false u u') (BR dC dI cs b) (AR b sz)) 0 0 (AR b sz) := by
  refine Met.ofW (cc := cX12_ways) (maxL := 4) (ret := none) (by decide) rfl ?_
  intro p e s m args below meth c s₁ B hml hv
  obtain ⟨rfl, hsz, hP, hK, hJ, hE⟩ := hv
  have hx := B.exec
  have hb := B.bytes
  have hr := B.returns
  have hown : s.vm.findClass RX12 = some m.cls := findClass_of_methodNamed B.named
  have hlocks := B.notSynchronized
  subst hsz
  have hAL : ∀ i, i < 108 → AR b s.heap.size (b i) := fun i h => Or.inl ⟨i, h, rfl⟩
  have hA : ∀ q : Nat, s.heap.size ≤ q → AR b s.heap.size q := fun q h => Or.inr h
  have hS : va_S (AR b s.heap.size) s.heap s.heap [] := va_S.rf
  have hfr : FR [10, 13, jt] [5] false u u := FR.refl
  have hl := lv_entry ([.ref (b 0), .ref (b jw), .ref (b jx), .ref (b jt)]) (n := 4) (Nat.le_of_ble_eq_true rfl)
  rw [lg_entry_eq]
  generalize (lg_sl ([.ref (b 0), .ref (b jw), .ref (b jx), .ref (b jt)]) ++ List.replicate (4 - (lg_sl ([.ref (b 0), .ref (b jw), .ref (b jx), .ref (b jt)])).length) Slot.unset).toArray = ls at hl ⊢
  have hl : lv_has ls 4 [(0, .ref (b 0)), (1, .ref (b jw)), (2, .ref (b jx)), (3, .ref (b jt))] := hl
  have hG := hp0
  have ha1 := gg_le hp0
  have ha2 := pg_le hp1
  have ha4 := pg_le hp3
  refine lv_aload_n hx hb dX12_ways_0 rfl (lv_at hl 0 rfl) ?_
  refine lv_aload_n hx hb dX12_ways_1 rfl (lv_at hl 1 rfl) ?_
  refine lv_aload_n hx hb dX12_ways_2 rfl (lv_at hl 0 rfl) ?_
  refine r_get (v := .ref (b 2)) hx hb (ly_X12 hE) hown hK hP rfl 4 (by decide) (wd_1385 hE) (fun _ h9 => h9) rfl dX12_ways_3 ?_
  refine lv_bipush (v := 7) hx hb dX12_ways_6 (by decide) ?_
  refine r_aald (j := 2) (k := 7) (n := 10) (t0 := 4) (j2 := 10) hx hb hK hP (by decide) rfl rfl (by decide) (by decide) rfl dX12_ways_8 ?_
  obtain ⟨g16, hg16⟩ : ∃ g, rA u 10 = g := ⟨_, rfl⟩
  refine rc_v hAL hS hA (va_runV (As := [.ref (b jw), .ref (b 10)]) (rest := []) ⟨hx, hb, hml, hown, noTs⟩ (r_X12_turns l dC dI s.heap.size cs b u a hA1 jw (by omega) w hAjw 10 (by decide) g16 hg16 (by first | assumption | omega | rfl | (congr 1; omega)) (by first | assumption | omega | rfl | (congr 1; omega)) (by first | assumption | omega | rfl | (congr 1; omega)) (by first | assumption | omega | rfl | (congr 1; omega)) (by first | assumption | omega | rfl | (congr 1; omega)) (by first | assumption | omega | rfl | (congr 1; omega))) ⟨cbE 2 (wd_1717 hE) (wd_126 hE) (wd_1714 hE) rfl rfl (by decide +kernel) ⟨Nat.le_of_ble_eq_true rfl, Nat.le_of_ble_eq_true rfl⟩, (wd_1716 hE), (wd_90 hE)⟩ ⟨PR.blind, r_recv hK hP rfl, (r_pre (av := [.ref (b 0), .ref (b jw), .ref (b 10)]) hK hP hJ hE)⟩ rfl rfl hl.1 rfl (lv_room (Nat.le_of_ble_eq_true rfl)) dX12_ways_9 ⟨Nat.le_of_ble_eq_true rfl, Nat.le_of_ble_eq_true rfl⟩) (fun u17 H locs hpo17 hP hS => ?_)
  obtain ⟨h17_0, h17_1, h17_2, h17_3, h17_4, hq17⟩ := hpo17
  obtain ⟨w18, hA18⟩ : ∃ g, rA u17 10 = g := ⟨_, rfl⟩
  rw [hA18] at h17_0 h17_1 h17_2 h17_3 h17_4
  have hA19 := (hq17.1 1 (by decide)).trans hA1
  have hA20 := (hq17.1 jw (by simp only [List.mem_cons, List.not_mem_nil, or_false, not_or]; omega)).trans hAjw
  have hA21 := (hq17.1 jx (by simp only [List.mem_cons, List.not_mem_nil, or_false, not_or]; omega)).trans hAjx
  have hA22 := (hq17.1 jt (by simp only [List.mem_cons, List.not_mem_nil, or_false, not_or]; omega)).trans hAjt
  have hfr := FR.step hfr hq17 (by simp) (by decide) (fun h => rfl)
  have hl17_0 := pg_le h17_0
  refine lv_aload_n hx hb dX12_ways_12 rfl (lv_at hl 0 rfl) ?_
  refine lv_aload_n hx hb dX12_ways_13 rfl (lv_at hl 0 rfl) ?_
  refine r_get (v := .ref (b 2)) hx hb (ly_X12 hE) hown hK hP rfl 4 (by decide) (wd_1385 hE) (fun _ h9 => h9) rfl dX12_ways_14 ?_
  refine lv_bipush (v := 7) hx hb dX12_ways_17 (by decide) ?_
  refine r_aald (j := 2) (k := 7) (n := 10) (t0 := 4) (j2 := 10) hx hb hK hP (by decide) rfl rfl (by decide) (by decide) rfl dX12_ways_19 ?_
  refine lv_aload_n hx hb dX12_ways_20 rfl (lv_at hl 2 rfl) ?_
  refine lv_aload_n hx hb dX12_ways_21 rfl (lv_at hl 3 rfl) ?_
  refine rc_v hAL hS hA (va_runV (As := [.ref (b 10), .ref (b jx), .ref (b jt)]) (rest := []) ⟨hx, hb, hml, hown, noTs⟩ (r_X12_joins l dC dI H.size cs b u17 a hA19 10 (by decide) w18 hA18 jx (by omega) x hA21 jt (by omega) g hA22 (by first | assumption | omega | rfl | (congr 1; omega)) (by first | assumption | omega | rfl | (congr 1; omega)) (by first | assumption | omega | rfl | (congr 1; omega)) (by first | assumption | omega | rfl | (congr 1; omega)) (by first | assumption | omega | rfl | (congr 1; omega)) (by first | assumption | omega | rfl | (congr 1; omega)) (by first | assumption | omega | rfl | (congr 1; omega)) (by first | assumption | omega | rfl | (congr 1; omega)) (by first | assumption | omega | rfl | (congr 1; omega)) (by first | assumption | omega | rfl | (congr 1; omega)) (by first | assumption | omega | rfl | (congr 1; omega)) (by first | assumption | omega | rfl | (congr 1; omega))) ⟨cbE 3 (wd_1703 hE) (wd_126 hE) (wd_1700 hE) rfl rfl (by decide +kernel) ⟨Nat.le_of_ble_eq_true rfl, Nat.le_of_ble_eq_true rfl⟩, (wd_1702 hE), (wd_89 hE)⟩ ⟨PR.blind, r_recv hK hP rfl, (r_pre (av := [.ref (b 0), .ref (b 10), .ref (b jx), .ref (b jt)]) hK hP hJ hE)⟩ rfl rfl hl.1 rfl (lv_room (Nat.le_of_ble_eq_true rfl)) dX12_ways_22 ⟨Nat.le_of_ble_eq_true rfl, Nat.le_of_ble_eq_true rfl⟩) (fun u23 H locs hpo23 hP hS => ?_)
  obtain ⟨h23_0, h23_1, h23_2, h23_3, h23_4, hq23⟩ := hpo23
  obtain ⟨w24, hA24⟩ : ∃ g, rA u23 jt = g := ⟨_, rfl⟩
  rw [hA24] at h23_0 h23_1 h23_2 h23_3 h23_4
  have hA25 := (hq23.1 1 (by simp only [List.mem_cons, List.not_mem_nil, or_false, not_or]; omega)).trans hA19
  have hA26 := (hq23.1 jw (by simp only [List.mem_cons, List.not_mem_nil, or_false, not_or]; omega)).trans hA20
  have hA27 := (hq23.1 jx (by simp only [List.mem_cons, List.not_mem_nil, or_false, not_or]; omega)).trans hA21
  have hA28 := (hq23.1 10 (by simp only [List.mem_cons, List.not_mem_nil, or_false, not_or]; omega)).trans hA18
  have hfr := FR.step hfr hq23 (by simp) (by decide) (fun h => rfl)
  have hl23_0 := pg_le h23_0
  exact W.vret hx hb hr (fun t ht hW => ⟨⟨u23, rfl, ⟨(by first | (rw [hA24]; done) | (rw [hA24]; first | assumption | omega | rfl | (congr 1; omega))), (by first | (rw [hA24]; done) | (rw [hA24]; first | assumption | omega | rfl | (congr 1; omega))), (by first | (rw [hA24]; done) | (rw [hA24]; first | assumption | omega | rfl | (congr 1; omega))), hfr⟩, (show va_P (dC, dI) vwCl (rW cs b u23) t.heap by rw [ht]; exact hP)⟩, hS.F ht⟩) hS.2.2 dX12_ways_25

set_option maxHeartbeats 4000000 in
set_option maxRecDepth 100000 in
theorem r_X12_wrongPair (l : Launch) (dC : Nat → ClassId) (dI : Nat → Nat → Nat) (sz : Nat) (cs : Nat → ClassId) (b : Nat → Nat) (u : RS) (a : Nat → Int32) (hA1 : rA u 1 = a) (x : Int32) (y : Int32) (hp0 : BG a) : Met l yX12_wrongPair [.code yX12_wrongPair cX12_wrongPair 3 (some .int)] ({ frames := 2, cells := 0, slots := 0, locals := 80 }) (PR [.ref (b 0), .int x, .int y] sz dC dI cs b u) (va_Qi (fun (r : Int32) (u' : RS) => ((r = 0 ∧ (∃ n : Nat, x = nI n ∧ ∃ k : Nat, y = nI k ∧ n < wN a ∧ k < wN a ∧ rb (rA u' 3) = rb (rA u' 4) ∧ PG a (rA u' 3) ∧ LG a (rA u' 3) ∧ rn (rA u' 3) ≤ 24 ∧ PG a (rA u' 4) ∧ LG a (rA u' 4) ∧ rn (rA u' 4) ≤ 24 ∧ vend a (rA u' 3) = vend a (row a n) ∧ rb (rA u' 3) = rb (row a n))) ∨ (r = 2 ∧ (True)) ∨ (r = 4 ∧ (True))) ∧ FR [3, 4] [] false u u') (BR dC dI cs b) (AR b sz)) 0 0 (AR b sz) := by
  refine Met.ofW (cc := cX12_wrongPair) (maxL := 3) (ret := (some .int)) (by decide) rfl ?_
  intro p e s m args below meth c s₁ B hml hv
  obtain ⟨rfl, hsz, hP, hK, hJ, hE⟩ := hv
  have hx := B.exec
  have hb := B.bytes
  have hr := B.returns
  have hown : s.vm.findClass RX12 = some m.cls := findClass_of_methodNamed B.named
  have hlocks := B.notSynchronized
  subst hsz
  have hAL : ∀ i, i < 108 → AR b s.heap.size (b i) := fun i h => Or.inl ⟨i, h, rfl⟩
  have hA : ∀ q : Nat, s.heap.size ≤ q → AR b s.heap.size q := fun q h => Or.inr h
  have hS : va_S (AR b s.heap.size) s.heap s.heap [] := va_S.rf
  have hfr : FR [3, 4] [] false u u := FR.refl
  have hl := lv_entry ([.ref (b 0), .int x, .int y]) (n := 3) (Nat.le_of_ble_eq_true rfl)
  rw [lg_entry_eq]
  generalize (lg_sl ([.ref (b 0), .int x, .int y]) ++ List.replicate (3 - (lg_sl ([.ref (b 0), .int x, .int y])).length) Slot.unset).toArray = ls at hl ⊢
  have hl : lv_has ls 3 [(0, .ref (b 0)), (1, .int x), (2, .int y)] := hl
  have hB := hp0
  have hG := bg_g hp0
  have ha1 := gg_le hG
  have ha1b := bg_w hp0
  refine lv_aload_n hx hb dX12_wrongPair_0 rfl (lv_at hl 0 rfl) ?_
  refine lv_iload_n hx hb dX12_wrongPair_1 rfl (lv_at hl 1 rfl) ?_
  refine vp_callSi (va_Run.run (va_runV (As := [.int x]) (rest := []) ⟨hx, hb, hml, hown, noTs⟩ (r_X12_isWord l dC dI s.heap.size cs b u a hA1 x (by first | assumption | omega | rfl | (congr 1; omega))) ⟨cbE 1 (wd_1653 hE) (wd_126 hE) (wd_1650 hE) rfl rfl (by decide +kernel) ⟨Nat.le_of_ble_eq_true rfl, Nat.le_of_ble_eq_true rfl⟩, (wd_1652 hE), (wd_83 hE)⟩ ⟨PR.blind, r_recv hK hP rfl, (r_pre (av := [.ref (b 0), .int x]) hK hP hJ hE)⟩ rfl rfl hl.1 rfl (lv_room (Nat.le_of_ble_eq_true rfl)) dX12_wrongPair_2 ⟨Nat.le_of_ble_eq_true rfl, Nat.le_of_ble_eq_true rfl⟩)) (fun r2 hr2 => ?_)
  rcases hr2 with ⟨rfl, hb2⟩ | ⟨rfl, hb2⟩
  · obtain ⟨n2, hbe2_1, hb2⟩ := hb2
    subst hbe2_1
    have hti3 := nI_toInt (n := n2) (by omega)
    refine lv_if_eq (tgt := 16) hx hb dX12_wrongPair_5 (by decide) (fun c4 => absurd c4 (by decide)) (fun c4 => ?_)
    refine lv_aload_n hx hb dX12_wrongPair_8 rfl (lv_at hl 0 rfl) ?_
    refine lv_iload_n hx hb dX12_wrongPair_9 rfl (lv_at hl 2 rfl) ?_
    refine vp_callSi (va_Run.run (va_runV (As := [.int y]) (rest := []) ⟨hx, hb, hml, hown, noTs⟩ (r_X12_isWord l dC dI s.heap.size cs b u a hA1 y (by first | assumption | omega | rfl | (congr 1; omega))) ⟨cbE 1 (wd_1653 hE) (wd_126 hE) (wd_1650 hE) rfl rfl (by decide +kernel) ⟨Nat.le_of_ble_eq_true rfl, Nat.le_of_ble_eq_true rfl⟩, (wd_1652 hE), (wd_83 hE)⟩ ⟨PR.blind, r_recv hK hP rfl, (r_pre (av := [.ref (b 0), .int y]) hK hP hJ hE)⟩ rfl rfl hl.1 rfl (lv_room (Nat.le_of_ble_eq_true rfl)) dX12_wrongPair_10 ⟨Nat.le_of_ble_eq_true rfl, Nat.le_of_ble_eq_true rfl⟩)) (fun r5 hr5 => ?_)
    rcases hr5 with ⟨rfl, hb5⟩ | ⟨rfl, hb5⟩
    · obtain ⟨n5, hbe5_1, hb5⟩ := hb5
      subst hbe5_1
      have hti6 := nI_toInt (n := n5) (by omega)
      refine lv_if_ne (tgt := 18) hx hb dX12_wrongPair_13 (by decide) (fun c7 => ?_) (fun c7 => absurd c7 (by decide))
      refine lv_aload_n hx hb dX12_wrongPair_18 rfl (lv_at hl 0 rfl) ?_
      refine lv_iload_n hx hb dX12_wrongPair_19 rfl (lv_at hl 1 rfl) ?_
      refine lv_aload_n hx hb dX12_wrongPair_20 rfl (lv_at hl 0 rfl) ?_
      refine r_get (v := .ref (b 2)) hx hb (ly_X12 hE) hown hK hP rfl 4 (by decide) (wd_1385 hE) (fun _ h9 => h9) rfl dX12_wrongPair_21 ?_
      refine lv_iconst (v := 0) hx hb dX12_wrongPair_24 (by decide) ?_
      refine r_aald (j := 2) (k := 0) (n := 10) (t0 := 4) (j2 := 3) hx hb hK hP (by decide) rfl rfl (by decide) (by decide) rfl dX12_wrongPair_25 ?_
      obtain ⟨g8, hg8⟩ : ∃ g, rA u 3 = g := ⟨_, rfl⟩
      refine rc_v hAL hS hA (va_runV (As := [.int (nI n2), .ref (b 3)]) (rest := []) ⟨hx, hb, hml, hown, noTs⟩ (r_X12_takes l dC dI s.heap.size cs b u a hA1 n2 3 (by decide) g8 hg8 (by first | assumption | omega | rfl | (congr 1; omega)) (by first | assumption | omega | rfl | (congr 1; omega))) ⟨cbE 2 (wd_1657 hE) (wd_126 hE) (wd_1654 hE) rfl rfl (by decide +kernel) ⟨Nat.le_of_ble_eq_true rfl, Nat.le_of_ble_eq_true rfl⟩, (wd_1656 hE), (wd_84 hE)⟩ ⟨PR.blind, r_recv hK hP rfl, (r_pre (av := [.ref (b 0), .int (nI n2), .ref (b 3)]) hK hP hJ hE)⟩ rfl rfl hl.1 rfl (lv_room (Nat.le_of_ble_eq_true rfl)) dX12_wrongPair_26 ⟨Nat.le_of_ble_eq_true rfl, Nat.le_of_ble_eq_true rfl⟩) (fun u9 H locs hpo9 hP hS => ?_)
      obtain ⟨h9_0, h9_1, h9_2, h9_3, h9_4, h9_5, hq9⟩ := hpo9
      obtain ⟨w10, hA10⟩ : ∃ g, rA u9 3 = g := ⟨_, rfl⟩
      rw [hA10] at h9_0 h9_1 h9_2 h9_3 h9_4 h9_5
      have hA11 := (hq9.1 1 (by decide)).trans hA1
      have hfr := FR.step hfr hq9 (by decide) (fun _ h => absurd h List.not_mem_nil) (fun h => rfl)
      have hl9_0 := pg_le h9_0
      refine lv_aload_n hx hb dX12_wrongPair_29 rfl (lv_at hl 0 rfl) ?_
      refine lv_iload_n hx hb dX12_wrongPair_30 rfl (lv_at hl 2 rfl) ?_
      refine lv_aload_n hx hb dX12_wrongPair_31 rfl (lv_at hl 0 rfl) ?_
      refine r_get (v := .ref (b 2)) hx hb (ly_X12 hE) hown hK hP rfl 4 (by decide) (wd_1385 hE) (fun _ h9 => h9) rfl dX12_wrongPair_32 ?_
      refine lv_iconst (v := 1) hx hb dX12_wrongPair_35 (by decide) ?_
      refine r_aald (j := 2) (k := 1) (n := 10) (t0 := 4) (j2 := 4) hx hb hK hP (by decide) rfl rfl (by decide) (by decide) rfl dX12_wrongPair_36 ?_
      obtain ⟨g12, hg12⟩ : ∃ g, rA u9 4 = g := ⟨_, rfl⟩
      refine rc_v hAL hS hA (va_runV (As := [.int (nI n5), .ref (b 4)]) (rest := []) ⟨hx, hb, hml, hown, noTs⟩ (r_X12_takes l dC dI H.size cs b u9 a hA11 n5 4 (by decide) g12 hg12 (by first | assumption | omega | rfl | (congr 1; omega)) (by first | assumption | omega | rfl | (congr 1; omega))) ⟨cbE 2 (wd_1657 hE) (wd_126 hE) (wd_1654 hE) rfl rfl (by decide +kernel) ⟨Nat.le_of_ble_eq_true rfl, Nat.le_of_ble_eq_true rfl⟩, (wd_1656 hE), (wd_84 hE)⟩ ⟨PR.blind, r_recv hK hP rfl, (r_pre (av := [.ref (b 0), .int (nI n5), .ref (b 4)]) hK hP hJ hE)⟩ rfl rfl hl.1 rfl (lv_room (Nat.le_of_ble_eq_true rfl)) dX12_wrongPair_37 ⟨Nat.le_of_ble_eq_true rfl, Nat.le_of_ble_eq_true rfl⟩) (fun u13 H locs hpo13 hP hS => ?_)
      obtain ⟨h13_0, h13_1, h13_2, h13_3, h13_4, h13_5, hq13⟩ := hpo13
      obtain ⟨w14, hA14⟩ : ∃ g, rA u13 4 = g := ⟨_, rfl⟩
      rw [hA14] at h13_0 h13_1 h13_2 h13_3 h13_4 h13_5
      have hA15 := (hq13.1 1 (by decide)).trans hA11
      have hA16 := (hq13.1 3 (by decide)).trans hA10
      have hfr := FR.step hfr hq13 (by decide) (fun _ h => absurd h List.not_mem_nil) (fun h => rfl)
      have hl13_0 := pg_le h13_0
      refine lv_aload_n hx hb dX12_wrongPair_40 rfl (lv_at hl 0 rfl) ?_
      refine r_get (v := .ref (b 2)) hx hb (ly_X12 hE) hown hK hP rfl 4 (by decide) (wd_1385 hE) (fun _ h9 => h9) rfl dX12_wrongPair_41 ?_
      refine lv_iconst (v := 0) hx hb dX12_wrongPair_44 (by decide) ?_
      refine r_aald (j := 2) (k := 0) (n := 10) (t0 := 4) (j2 := 3) hx hb hK hP (by decide) rfl rfl (by decide) (by decide) rfl dX12_wrongPair_45 ?_
      refine lv_iconst (v := 0) hx hb dX12_wrongPair_46 (by decide) ?_
      refine r_iald (j := 3) (k := 0) (n := 200) (x := nI (rb w10)) hx hb hK hP (by decide) rfl (by decide) (by decide) (by rw [hA16]; exact pg_b h9_0) dX12_wrongPair_47 ?_
      refine lv_aload_n hx hb dX12_wrongPair_48 rfl (lv_at hl 0 rfl) ?_
      refine r_get (v := .ref (b 2)) hx hb (ly_X12 hE) hown hK hP rfl 4 (by decide) (wd_1385 hE) (fun _ h9 => h9) rfl dX12_wrongPair_49 ?_
      refine lv_iconst (v := 1) hx hb dX12_wrongPair_52 (by decide) ?_
      refine r_aald (j := 2) (k := 1) (n := 10) (t0 := 4) (j2 := 4) hx hb hK hP (by decide) rfl rfl (by decide) (by decide) rfl dX12_wrongPair_53 ?_
      refine lv_iconst (v := 0) hx hb dX12_wrongPair_54 (by decide) ?_
      refine r_iald (j := 4) (k := 0) (n := 200) (x := nI (rb w14)) hx hb hK hP (by decide) rfl (by decide) (by decide) (by rw [hA14]; exact pg_b h13_0) dX12_wrongPair_55 ?_
      refine lv_icmp_ne (tgt := 63) hx hb dX12_wrongPair_56 (by decide) (fun c19 => ?_) (fun c19 => ?_)
      · have c19 := mt (b_eq (nI_toInt (n := rb w10) (by omega)) (nI_toInt (n := rb w14) (by omega))).mpr c19
        refine lv_iconst (v := 4) hx hb dX12_wrongPair_63 (by decide) ?_
        exact W.iret (v := 4) hx hb hr (fun t ht hW => ⟨⟨4, u13, rfl, ⟨Or.inr (Or.inr (⟨rfl, by trivial⟩)), hfr⟩, (show va_P (dC, dI) vwCl (rW cs b u13) t.heap by rw [ht]; exact hP)⟩, hS.F ht⟩) hS.2.2 dX12_wrongPair_64
      · have c19 := (b_eq (nI_toInt (n := rb w10) (by omega)) (nI_toInt (n := rb w14) (by omega))).mp c19
        refine lv_iconst (v := 0) hx hb dX12_wrongPair_59 (by decide) ?_
        refine lv_goto (tgt := 64) hx hb dX12_wrongPair_60 (by decide) ?_
        exact W.iret (v := 0) hx hb hr (fun t ht hW => ⟨⟨0, u13, rfl, ⟨Or.inl ⟨rfl, by rw [hA16, hA14]; refine ⟨_, rfl, _, rfl, ?_, ?_, ?_, ?_, ?_, ?_, ?_, ?_, ?_, ?_, ?_⟩ <;> first | assumption | omega⟩, hfr⟩, (show va_P (dC, dI) vwCl (rW cs b u13) t.heap by rw [ht]; exact hP)⟩, hS.F ht⟩) hS.2.2 dX12_wrongPair_64
    · refine lv_if_ne (tgt := 18) hx hb dX12_wrongPair_13 (by decide) (fun c20 => absurd c20 (by decide)) (fun c20 => ?_)
      refine lv_iconst (v := 2) hx hb dX12_wrongPair_16 (by decide) ?_
      exact W.iret (v := 2) hx hb hr (fun t ht hW => ⟨⟨2, u, rfl, ⟨Or.inr (Or.inl ⟨rfl, by trivial⟩), hfr⟩, (show va_P (dC, dI) vwCl (rW cs b u) t.heap by rw [ht]; exact hP)⟩, hS.F ht⟩) hS.2.2 dX12_wrongPair_17
  · refine lv_if_eq (tgt := 16) hx hb dX12_wrongPair_5 (by decide) (fun c21 => ?_) (fun c21 => absurd c21 (by decide))
    refine lv_iconst (v := 2) hx hb dX12_wrongPair_16 (by decide) ?_
    exact W.iret (v := 2) hx hb hr (fun t ht hW => ⟨⟨2, u, rfl, ⟨Or.inr (Or.inl ⟨rfl, by trivial⟩), hfr⟩, (show va_P (dC, dI) vwCl (rW cs b u) t.heap by rw [ht]; exact hP)⟩, hS.F ht⟩) hS.2.2 dX12_wrongPair_17

set_option maxHeartbeats 4000000 in
set_option maxRecDepth 100000 in
theorem r_X12_apart (l : Launch) (dC : Nat → ClassId) (dI : Nat → Nat → Nat) (sz : Nat) (cs : Nat → ClassId) (b : Nat → Nat) (u : RS) (a : Nat → Int32) (hA1 : rA u 1 = a) (x : Int32) (y : Int32) (hp0 : BG a) : Met l yX12_apart [.code yX12_apart cX12_apart 4 (some .int)] ({ frames := 7, cells := 0, slots := 0, locals := 280 }) (PR [.ref (b 0), .int x, .int y] sz dC dI cs b u) (va_Qi (fun (r : Int32) (u' : RS) => (True) ∧ FR [3, 4, 5, 6, 7, 8, 9, 10, 11, 12, 13, 14, 17, 18, 19, 20] [1, 5, 21, 22] true u u') (BR dC dI cs b) (AR b sz)) 0 0 (AR b sz) := by
  refine Met.ofW (cc := cX12_apart) (maxL := 4) (ret := (some .int)) (by decide) rfl ?_
  intro p e s m args below meth c s₁ B hml hv
  obtain ⟨rfl, hsz, hP, hK, hJ, hE⟩ := hv
  have hx := B.exec
  have hb := B.bytes
  have hr := B.returns
  have hown : s.vm.findClass RX12 = some m.cls := findClass_of_methodNamed B.named
  have hlocks := B.notSynchronized
  subst hsz
  have hAL : ∀ i, i < 108 → AR b s.heap.size (b i) := fun i h => Or.inl ⟨i, h, rfl⟩
  have hA : ∀ q : Nat, s.heap.size ≤ q → AR b s.heap.size q := fun q h => Or.inr h
  have hS : va_S (AR b s.heap.size) s.heap s.heap [] := va_S.rf
  have hfr : FR [3, 4, 5, 6, 7, 8, 9, 10, 11, 12, 13, 14, 17, 18, 19, 20] [1, 5, 21, 22] true u u := FR.refl
  have hl := lv_entry ([.ref (b 0), .int x, .int y]) (n := 4) (Nat.le_of_ble_eq_true rfl)
  rw [lg_entry_eq]
  generalize (lg_sl ([.ref (b 0), .int x, .int y]) ++ List.replicate (4 - (lg_sl ([.ref (b 0), .int x, .int y])).length) Slot.unset).toArray = ls at hl ⊢
  have hl : lv_has ls 4 [(0, .ref (b 0)), (1, .int x), (2, .int y)] := hl
  have hB := hp0
  have hG := bg_g hp0
  have ha1 := gg_le hG
  have ha1b := bg_w hp0
  refine lv_aload_n hx hb dX12_apart_0 rfl (lv_at hl 0 rfl) ?_
  refine lv_iload_n hx hb dX12_apart_1 rfl (lv_at hl 1 rfl) ?_
  refine lv_iload_n hx hb dX12_apart_2 rfl (lv_at hl 2 rfl) ?_
  refine rc_i hAL hS hA (va_runV (As := [.int x, .int y]) (rest := []) ⟨hx, hb, hml, hown, noTs⟩ (r_X12_wrongPair l dC dI s.heap.size cs b u a hA1 x y (by first | assumption | omega | rfl | (congr 1; omega))) ⟨cbE 2 (wd_1864 hE) (wd_126 hE) (wd_1861 hE) rfl rfl (by decide +kernel) ⟨Nat.le_of_ble_eq_true rfl, Nat.le_of_ble_eq_true rfl⟩, (wd_1863 hE), (wd_104 hE)⟩ ⟨PR.blind, r_recv hK hP rfl, (r_pre (av := [.ref (b 0), .int x, .int y]) hK hP hJ hE)⟩ rfl rfl hl.1 rfl (lv_room (Nat.le_of_ble_eq_true rfl)) dX12_apart_3 ⟨Nat.le_of_ble_eq_true rfl, Nat.le_of_ble_eq_true rfl⟩) (fun r2 u2 H locs hpo2 hP hS => ?_)
  obtain ⟨hr2, hq2⟩ := hpo2
  obtain ⟨w3, hA3⟩ : ∃ g, rA u2 3 = g := ⟨_, rfl⟩
  rw [hA3] at hr2
  obtain ⟨w4, hA4⟩ : ∃ g, rA u2 4 = g := ⟨_, rfl⟩
  rw [hA4] at hr2
  have hA5 := (hq2.1 1 (by decide)).trans hA1
  have hfr := FR.step hfr hq2 (by decide) (fun _ h => absurd h List.not_mem_nil) (fun h => rfl)
  rcases hr2 with ⟨rfl, hb2⟩ | ⟨rfl, hb2⟩ | ⟨rfl, hb2⟩
  · obtain ⟨n2, hbe2_1, hb2⟩ := hb2
    subst hbe2_1
    have hti6 := nI_toInt (n := n2) (by omega)
    obtain ⟨n2_2, hbe2_2, hb2⟩ := hb2
    subst hbe2_2
    have hti7 := nI_toInt (n := n2_2) (by omega)
    obtain ⟨b1, b2, b3, b4, b5, b6, b7, b8, b9, b10, b11⟩ := hb2
    have b12 := pg_le b4
    have b13 := pg_le b7
    refine lv_istore_n (lv' := [(3, .int 0), (0, .ref (b 0)), (1, .int (nI n2)), (2, .int (nI n2_2))]) hx hb dX12_apart_6 rfl hl (by decide) rfl (fun ls hl => ?_)
    refine lv_iload_n hx hb dX12_apart_7 rfl (lv_at hl 0 rfl) ?_
    refine lv_if_le (tgt := 17) hx hb dX12_apart_8 (by decide) (fun c8 => ?_) (fun c8 => absurd c8 (by decide))
    refine lv_aload_n hx hb dX12_apart_17 rfl (lv_at hl 1 rfl) ?_
    refine lv_aload_n hx hb dX12_apart_18 rfl (lv_at hl 1 rfl) ?_
    refine r_get (v := .ref (b 2)) hx hb (ly_X12 hE) hown hK hP rfl 4 (by decide) (wd_1385 hE) (fun _ h9 => h9) rfl dX12_apart_19 ?_
    refine lv_iconst (v := 0) hx hb dX12_apart_22 (by decide) ?_
    refine r_aald (j := 2) (k := 0) (n := 10) (t0 := 4) (j2 := 3) hx hb hK hP (by decide) rfl rfl (by decide) (by decide) rfl dX12_apart_23 ?_
    refine lv_aload_n hx hb dX12_apart_24 rfl (lv_at hl 1 rfl) ?_
    refine r_get (v := .ref (b 2)) hx hb (ly_X12 hE) hown hK hP rfl 4 (by decide) (wd_1385 hE) (fun _ h9 => h9) rfl dX12_apart_25 ?_
    refine lv_iconst (v := 1) hx hb dX12_apart_28 (by decide) ?_
    refine r_aald (j := 2) (k := 1) (n := 10) (t0 := 4) (j2 := 4) hx hb hK hP (by decide) rfl rfl (by decide) (by decide) rfl dX12_apart_29 ?_
    refine lv_aload_n hx hb dX12_apart_30 rfl (lv_at hl 1 rfl) ?_
    refine r_get (v := .ref (b 2)) hx hb (ly_X12 hE) hown hK hP rfl 4 (by decide) (wd_1385 hE) (fun _ h9 => h9) rfl dX12_apart_31 ?_
    refine lv_iconst (v := 2) hx hb dX12_apart_34 (by decide) ?_
    refine r_aald (j := 2) (k := 2) (n := 10) (t0 := 4) (j2 := 5) hx hb hK hP (by decide) rfl rfl (by decide) (by decide) rfl dX12_apart_35 ?_
    obtain ⟨g9, hg9⟩ : ∃ g, rA u2 5 = g := ⟨_, rfl⟩
    refine rc_v hAL hS hA (va_runV (As := [.ref (b 3), .ref (b 4), .ref (b 5)]) (rest := []) ⟨hx, hb, hml, hown, noTs⟩ (r_X12_ways l dC dI H.size cs b u2 a hA5 3 (by decide) w3 hA3 4 (by decide) w4 hA4 5 (by decide) g9 hg9 (by first | assumption | omega | rfl | (congr 1; omega)) (by first | assumption | omega | rfl | (congr 1; omega)) (by first | assumption | omega | rfl | (congr 1; omega)) (by first | assumption | omega | rfl | (congr 1; omega)) (by first | assumption | omega | rfl | (congr 1; omega)) (by first | assumption | omega | rfl | (congr 1; omega)) (by first | assumption | omega | rfl | (congr 1; omega)) (by first | assumption | omega | rfl | (congr 1; omega)) (by first | assumption | omega | rfl | (congr 1; omega)) (by first | assumption | omega | rfl | (congr 1; omega)) (by first | assumption | omega | rfl | (congr 1; omega)) (by first | assumption | omega | rfl | (congr 1; omega)) (by first | assumption | omega | rfl | (congr 1; omega)) (by first | assumption | omega | rfl | (congr 1; omega)) (by first | assumption | omega | rfl | (congr 1; omega))) ⟨cbE 3 (wd_1868 hE) (wd_126 hE) (wd_1865 hE) rfl rfl (by decide +kernel) ⟨Nat.le_of_ble_eq_true rfl, Nat.le_of_ble_eq_true rfl⟩, (wd_1867 hE), (wd_105 hE)⟩ ⟨PR.blind, r_recv hK hP rfl, (r_pre (av := [.ref (b 0), .ref (b 3), .ref (b 4), .ref (b 5)]) hK hP hJ hE)⟩ rfl rfl hl.1 rfl (lv_room (Nat.le_of_ble_eq_true rfl)) dX12_apart_36 ⟨Nat.le_of_ble_eq_true rfl, Nat.le_of_ble_eq_true rfl⟩) (fun u10 H locs hpo10 hP hS => ?_)
    obtain ⟨h10_0, h10_1, h10_2, hq10⟩ := hpo10
    obtain ⟨w11, hA11⟩ : ∃ g, rA u10 5 = g := ⟨_, rfl⟩
    rw [hA11] at h10_0 h10_1 h10_2
    have hA12 := (hq10.1 1 (by decide)).trans hA5
    have hA13 := (hq10.1 3 (by decide)).trans hA3
    have hA14 := (hq10.1 4 (by decide)).trans hA4
    have hfr := FR.step hfr hq10 (by decide) (by decide) (fun h => rfl)
    have hl10_0 := pg_le h10_0
    refine lv_aload_n hx hb dX12_apart_39 rfl (lv_at hl 1 rfl) ?_
    refine lv_aload_n hx hb dX12_apart_40 rfl (lv_at hl 1 rfl) ?_
    refine r_get (v := .ref (b 2)) hx hb (ly_X12 hE) hown hK hP rfl 4 (by decide) (wd_1385 hE) (fun _ h9 => h9) rfl dX12_apart_41 ?_
    refine lv_iconst (v := 2) hx hb dX12_apart_44 (by decide) ?_
    refine r_aald (j := 2) (k := 2) (n := 10) (t0 := 4) (j2 := 5) hx hb hK hP (by decide) rfl rfl (by decide) (by decide) rfl dX12_apart_45 ?_
    refine lv_iconst (v := 1) hx hb dX12_apart_46 (by decide) ?_
    refine r_iald (j := 5) (k := 1) (n := 200) (x := nI (rn w11)) hx hb hK hP (by decide) rfl (by decide) (by decide) (by rw [hA11]; exact pg_n h10_0) dX12_apart_47 ?_
    refine rc_i hAL hS hA (va_runV (As := [.int (nI (rn w11))]) (rest := []) ⟨hx, hb, hml, hown, noTs⟩ (r_X12_gives l dC dI H.size cs b u10 a hA12 (nI (rn w11))) ⟨cbE 1 (wd_1621 hE) (wd_126 hE) (wd_1618 hE) rfl rfl (by decide +kernel) ⟨Nat.le_of_ble_eq_true rfl, Nat.le_of_ble_eq_true rfl⟩, (wd_1620 hE), (wd_80 hE)⟩ ⟨PR.blind, r_recv hK hP rfl, (r_pre (av := [.ref (b 0), .int (nI (rn w11))]) hK hP hJ hE)⟩ rfl rfl hl.1 rfl (lv_room (Nat.le_of_ble_eq_true rfl)) dX12_apart_48 ⟨Nat.le_of_ble_eq_true rfl, Nat.le_of_ble_eq_true rfl⟩) (fun r16 u16 H locs hpo16 hP hS => ?_)
    obtain ⟨hr16, hq16⟩ := hpo16
    have hA17 := (hq16.1 1 List.not_mem_nil).trans hA12
    have hA18 := (hq16.1 3 List.not_mem_nil).trans hA13
    have hA19 := (hq16.1 4 List.not_mem_nil).trans hA14
    have hA20 := (hq16.1 5 List.not_mem_nil).trans hA11
    have hfr := FR.step hfr hq16 (fun _ h => absurd h List.not_mem_nil) (by decide) (fun h => rfl)
    refine W.eq (g2 := F0 m 51 ls [.int (nI (rn w11))]) (by rw [hr16]) ?_
    exact W.iret (v := nI (rn w11)) hx hb hr (fun t ht hW => ⟨⟨nI (rn w11), u16, rfl, ⟨trivial, hfr⟩, (show va_P (dC, dI) vwCl (rW cs b u16) t.heap by rw [ht]; exact hP)⟩, hS.F ht⟩) hS.2.2 dX12_apart_51
  · refine lv_istore_n (lv' := [(3, .int 2), (0, .ref (b 0)), (1, .int x), (2, .int y)]) hx hb dX12_apart_6 rfl hl (by decide) rfl (fun ls hl => ?_)
    refine lv_iload_n hx hb dX12_apart_7 rfl (lv_at hl 0 rfl) ?_
    refine lv_if_le (tgt := 17) hx hb dX12_apart_8 (by decide) (fun c21 => absurd c21 (by decide)) (fun c21 => ?_)
    refine lv_aload_n hx hb dX12_apart_11 rfl (lv_at hl 1 rfl) ?_
    refine lv_iload_n hx hb dX12_apart_12 rfl (lv_at hl 0 rfl) ?_
    refine rc_i hAL hS hA (va_runV (As := [.int 2]) (rest := []) ⟨hx, hb, hml, hown, noTs⟩ (r_X12_refuse l dC dI H.size cs b u2 a hA5 2) ⟨cbE 1 (wd_1498 hE) (wd_126 hE) (wd_1495 hE) rfl rfl (by decide +kernel) ⟨Nat.le_of_ble_eq_true rfl, Nat.le_of_ble_eq_true rfl⟩, (wd_1497 hE), (wd_54 hE)⟩ ⟨PR.blind, r_recv hK hP rfl, (r_pre (av := [.ref (b 0), .int 2]) hK hP hJ hE)⟩ rfl rfl hl.1 rfl (lv_room (Nat.le_of_ble_eq_true rfl)) dX12_apart_13 ⟨Nat.le_of_ble_eq_true rfl, Nat.le_of_ble_eq_true rfl⟩) (fun r22 u22 H locs hpo22 hP hS => ?_)
    obtain ⟨hr22, hq22⟩ := hpo22
    have hA23 := (hq22.1 1 List.not_mem_nil).trans hA5
    have hA24 := (hq22.1 3 List.not_mem_nil).trans hA3
    have hA25 := (hq22.1 4 List.not_mem_nil).trans hA4
    have hfr := FR.step hfr hq22 (fun _ h => absurd h List.not_mem_nil) (by decide) (fun h => rfl)
    subst hr22
    exact W.iret (v := -1) hx hb hr (fun t ht hW => ⟨⟨-1, u22, rfl, ⟨trivial, hfr⟩, (show va_P (dC, dI) vwCl (rW cs b u22) t.heap by rw [ht]; exact hP)⟩, hS.F ht⟩) hS.2.2 dX12_apart_16
  · refine lv_istore_n (lv' := [(3, .int 4), (0, .ref (b 0)), (1, .int x), (2, .int y)]) hx hb dX12_apart_6 rfl hl (by decide) rfl (fun ls hl => ?_)
    refine lv_iload_n hx hb dX12_apart_7 rfl (lv_at hl 0 rfl) ?_
    refine lv_if_le (tgt := 17) hx hb dX12_apart_8 (by decide) (fun c26 => absurd c26 (by decide)) (fun c26 => ?_)
    refine lv_aload_n hx hb dX12_apart_11 rfl (lv_at hl 1 rfl) ?_
    refine lv_iload_n hx hb dX12_apart_12 rfl (lv_at hl 0 rfl) ?_
    refine rc_i hAL hS hA (va_runV (As := [.int 4]) (rest := []) ⟨hx, hb, hml, hown, noTs⟩ (r_X12_refuse l dC dI H.size cs b u2 a hA5 4) ⟨cbE 1 (wd_1498 hE) (wd_126 hE) (wd_1495 hE) rfl rfl (by decide +kernel) ⟨Nat.le_of_ble_eq_true rfl, Nat.le_of_ble_eq_true rfl⟩, (wd_1497 hE), (wd_54 hE)⟩ ⟨PR.blind, r_recv hK hP rfl, (r_pre (av := [.ref (b 0), .int 4]) hK hP hJ hE)⟩ rfl rfl hl.1 rfl (lv_room (Nat.le_of_ble_eq_true rfl)) dX12_apart_13 ⟨Nat.le_of_ble_eq_true rfl, Nat.le_of_ble_eq_true rfl⟩) (fun r27 u27 H locs hpo27 hP hS => ?_)
    obtain ⟨hr27, hq27⟩ := hpo27
    have hA28 := (hq27.1 1 List.not_mem_nil).trans hA5
    have hA29 := (hq27.1 3 List.not_mem_nil).trans hA3
    have hA30 := (hq27.1 4 List.not_mem_nil).trans hA4
    have hfr := FR.step hfr hq27 (fun _ h => absurd h List.not_mem_nil) (by decide) (fun h => rfl)
    subst hr27
    exact W.iret (v := -1) hx hb hr (fun t ht hW => ⟨⟨-1, u27, rfl, ⟨trivial, hfr⟩, (show va_P (dC, dI) vwCl (rW cs b u27) t.heap by rw [ht]; exact hP)⟩, hS.F ht⟩) hS.2.2 dX12_apart_16

set_option maxHeartbeats 4000000 in
set_option maxRecDepth 100000 in
theorem r_X12_moves (l : Launch) (dC : Nat → ClassId) (dI : Nat → Nat → Nat) (sz : Nat) (cs : Nat → ClassId) (b : Nat → Nat) (u : RS) (a : Nat → Int32) (hA1 : rA u 1 = a) (x : Int32) (y : Int32) (hp0 : BG a) : Met l yX12_moves [.code yX12_moves cX12_moves 4 (some .int)] ({ frames := 7, cells := 0, slots := 0, locals := 280 }) (PR [.ref (b 0), .int x, .int y] sz dC dI cs b u) (va_Qi (fun (r : Int32) (u' : RS) => (True) ∧ FR [3, 4, 5, 6, 7, 8, 9, 10, 11, 12, 13, 14, 17, 18, 19, 20] [1, 5, 21, 22] true u u') (BR dC dI cs b) (AR b sz)) 0 0 (AR b sz) := by
  refine Met.ofW (cc := cX12_moves) (maxL := 4) (ret := (some .int)) (by decide) rfl ?_
  intro p e s m args below meth c s₁ B hml hv
  obtain ⟨rfl, hsz, hP, hK, hJ, hE⟩ := hv
  have hx := B.exec
  have hb := B.bytes
  have hr := B.returns
  have hown : s.vm.findClass RX12 = some m.cls := findClass_of_methodNamed B.named
  have hlocks := B.notSynchronized
  subst hsz
  have hAL : ∀ i, i < 108 → AR b s.heap.size (b i) := fun i h => Or.inl ⟨i, h, rfl⟩
  have hA : ∀ q : Nat, s.heap.size ≤ q → AR b s.heap.size q := fun q h => Or.inr h
  have hS : va_S (AR b s.heap.size) s.heap s.heap [] := va_S.rf
  have hfr : FR [3, 4, 5, 6, 7, 8, 9, 10, 11, 12, 13, 14, 17, 18, 19, 20] [1, 5, 21, 22] true u u := FR.refl
  have hl := lv_entry ([.ref (b 0), .int x, .int y]) (n := 4) (Nat.le_of_ble_eq_true rfl)
  rw [lg_entry_eq]
  generalize (lg_sl ([.ref (b 0), .int x, .int y]) ++ List.replicate (4 - (lg_sl ([.ref (b 0), .int x, .int y])).length) Slot.unset).toArray = ls at hl ⊢
  have hl : lv_has ls 4 [(0, .ref (b 0)), (1, .int x), (2, .int y)] := hl
  have hB := hp0
  have hG := bg_g hp0
  have ha1 := gg_le hG
  have ha1b := bg_w hp0
  refine lv_aload_n hx hb dX12_moves_0 rfl (lv_at hl 0 rfl) ?_
  refine lv_iload_n hx hb dX12_moves_1 rfl (lv_at hl 1 rfl) ?_
  refine lv_iload_n hx hb dX12_moves_2 rfl (lv_at hl 2 rfl) ?_
  refine rc_i hAL hS hA (va_runV (As := [.int x, .int y]) (rest := []) ⟨hx, hb, hml, hown, noTs⟩ (r_X12_wrongPair l dC dI s.heap.size cs b u a hA1 x y (by first | assumption | omega | rfl | (congr 1; omega))) ⟨cbE 2 (wd_1864 hE) (wd_126 hE) (wd_1861 hE) rfl rfl (by decide +kernel) ⟨Nat.le_of_ble_eq_true rfl, Nat.le_of_ble_eq_true rfl⟩, (wd_1863 hE), (wd_104 hE)⟩ ⟨PR.blind, r_recv hK hP rfl, (r_pre (av := [.ref (b 0), .int x, .int y]) hK hP hJ hE)⟩ rfl rfl hl.1 rfl (lv_room (Nat.le_of_ble_eq_true rfl)) dX12_moves_3 ⟨Nat.le_of_ble_eq_true rfl, Nat.le_of_ble_eq_true rfl⟩) (fun r2 u2 H locs hpo2 hP hS => ?_)
  obtain ⟨hr2, hq2⟩ := hpo2
  obtain ⟨w3, hA3⟩ : ∃ g, rA u2 3 = g := ⟨_, rfl⟩
  rw [hA3] at hr2
  obtain ⟨w4, hA4⟩ : ∃ g, rA u2 4 = g := ⟨_, rfl⟩
  rw [hA4] at hr2
  have hA5 := (hq2.1 1 (by decide)).trans hA1
  have hfr := FR.step hfr hq2 (by decide) (fun _ h => absurd h List.not_mem_nil) (fun h => rfl)
  rcases hr2 with ⟨rfl, hb2⟩ | ⟨rfl, hb2⟩ | ⟨rfl, hb2⟩
  · obtain ⟨n2, hbe2_1, hb2⟩ := hb2
    subst hbe2_1
    have hti6 := nI_toInt (n := n2) (by omega)
    obtain ⟨n2_2, hbe2_2, hb2⟩ := hb2
    subst hbe2_2
    have hti7 := nI_toInt (n := n2_2) (by omega)
    obtain ⟨b1, b2, b3, b4, b5, b6, b7, b8, b9, b10, b11⟩ := hb2
    have b12 := pg_le b4
    have b13 := pg_le b7
    refine lv_istore_n (lv' := [(3, .int 0), (0, .ref (b 0)), (1, .int (nI n2)), (2, .int (nI n2_2))]) hx hb dX12_moves_6 rfl hl (by decide) rfl (fun ls hl => ?_)
    refine lv_iload_n hx hb dX12_moves_7 rfl (lv_at hl 0 rfl) ?_
    refine lv_if_ne (tgt := 21) hx hb dX12_moves_8 (by decide) (fun c8 => absurd c8 (by decide)) (fun c8 => ?_)
    refine lv_aload_n hx hb dX12_moves_11 rfl (lv_at hl 1 rfl) ?_
    refine lv_iload_n hx hb dX12_moves_12 rfl (lv_at hl 2 rfl) ?_
    refine rc_i hAL hS hA (va_runV (As := [.int (nI n2)]) (rest := []) ⟨hx, hb, hml, hown, noTs⟩ (r_X12_isLoop l dC dI H.size cs b u2 a hA5 n2 (by first | assumption | omega | rfl | (congr 1; omega)) (by first | assumption | omega | rfl | (congr 1; omega))) ⟨cbE 1 (wd_1725 hE) (wd_126 hE) (wd_1722 hE) rfl rfl (by decide +kernel) ⟨Nat.le_of_ble_eq_true rfl, Nat.le_of_ble_eq_true rfl⟩, (wd_1724 hE), (wd_91 hE)⟩ ⟨PR.blind, r_recv hK hP rfl, (r_pre (av := [.ref (b 0), .int (nI n2)]) hK hP hJ hE)⟩ rfl rfl hl.1 rfl (lv_room (Nat.le_of_ble_eq_true rfl)) dX12_moves_13 ⟨Nat.le_of_ble_eq_true rfl, Nat.le_of_ble_eq_true rfl⟩) (fun r9 u9 H locs hpo9 hP hS => ?_)
    obtain ⟨hr9, hq9⟩ := hpo9
    have hA10 := (hq9.1 1 (by decide)).trans hA5
    have hA11 := (hq9.1 3 (by decide)).trans hA3
    have hA12 := (hq9.1 4 (by decide)).trans hA4
    have hfr := FR.step hfr hq9 (by decide) (fun _ h => absurd h List.not_mem_nil) (fun h => rfl)
    rcases hr9 with ⟨rfl, hb9⟩ | ⟨rfl, hb9⟩
    · refine lv_if_ne (tgt := 21) hx hb dX12_moves_16 (by decide) (fun c13 => ?_) (fun c13 => absurd c13 (by decide))
      refine lv_iload_n hx hb dX12_moves_21 rfl (lv_at hl 0 rfl) ?_
      refine lv_if_le (tgt := 31) hx hb dX12_moves_22 (by decide) (fun c14 => ?_) (fun c14 => absurd c14 (by decide))
      refine lv_aload_n hx hb dX12_moves_31 rfl (lv_at hl 1 rfl) ?_
      refine lv_aload_n hx hb dX12_moves_32 rfl (lv_at hl 1 rfl) ?_
      refine r_get (v := .ref (b 2)) hx hb (ly_X12 hE) hown hK hP rfl 4 (by decide) (wd_1385 hE) (fun _ h9 => h9) rfl dX12_moves_33 ?_
      refine lv_iconst (v := 0) hx hb dX12_moves_36 (by decide) ?_
      refine r_aald (j := 2) (k := 0) (n := 10) (t0 := 4) (j2 := 3) hx hb hK hP (by decide) rfl rfl (by decide) (by decide) rfl dX12_moves_37 ?_
      refine lv_aload_n hx hb dX12_moves_38 rfl (lv_at hl 1 rfl) ?_
      refine r_get (v := .ref (b 2)) hx hb (ly_X12 hE) hown hK hP rfl 4 (by decide) (wd_1385 hE) (fun _ h9 => h9) rfl dX12_moves_39 ?_
      refine lv_iconst (v := 1) hx hb dX12_moves_42 (by decide) ?_
      refine r_aald (j := 2) (k := 1) (n := 10) (t0 := 4) (j2 := 4) hx hb hK hP (by decide) rfl rfl (by decide) (by decide) rfl dX12_moves_43 ?_
      refine lv_aload_n hx hb dX12_moves_44 rfl (lv_at hl 1 rfl) ?_
      refine r_get (v := .ref (b 2)) hx hb (ly_X12 hE) hown hK hP rfl 4 (by decide) (wd_1385 hE) (fun _ h9 => h9) rfl dX12_moves_45 ?_
      refine lv_iconst (v := 3) hx hb dX12_moves_48 (by decide) ?_
      refine r_aald (j := 2) (k := 3) (n := 10) (t0 := 4) (j2 := 6) hx hb hK hP (by decide) rfl rfl (by decide) (by decide) rfl dX12_moves_49 ?_
      obtain ⟨g15, hg15⟩ : ∃ g, rA u9 6 = g := ⟨_, rfl⟩
      refine rc_v hAL hS hA (va_runV (As := [.ref (b 3), .ref (b 4), .ref (b 6)]) (rest := []) ⟨hx, hb, hml, hown, noTs⟩ (r_X12_joins l dC dI H.size cs b u9 a hA10 3 (by decide) w3 hA11 4 (by decide) w4 hA12 6 (by decide) g15 hg15 (by first | assumption | omega | rfl | (congr 1; omega)) (by first | assumption | omega | rfl | (congr 1; omega)) (by first | assumption | omega | rfl | (congr 1; omega)) (by first | assumption | omega | rfl | (congr 1; omega)) (by first | assumption | omega | rfl | (congr 1; omega)) (by first | assumption | omega | rfl | (congr 1; omega)) (by first | assumption | omega | rfl | (congr 1; omega)) (by first | assumption | omega | rfl | (congr 1; omega)) (by first | assumption | omega | rfl | (congr 1; omega)) (by first | assumption | omega | rfl | (congr 1; omega)) (by first | assumption | omega | rfl | (congr 1; omega)) (by first | assumption | omega | rfl | (congr 1; omega))) ⟨cbE 3 (wd_1703 hE) (wd_126 hE) (wd_1700 hE) rfl rfl (by decide +kernel) ⟨Nat.le_of_ble_eq_true rfl, Nat.le_of_ble_eq_true rfl⟩, (wd_1702 hE), (wd_89 hE)⟩ ⟨PR.blind, r_recv hK hP rfl, (r_pre (av := [.ref (b 0), .ref (b 3), .ref (b 4), .ref (b 6)]) hK hP hJ hE)⟩ rfl rfl hl.1 rfl (lv_room (Nat.le_of_ble_eq_true rfl)) dX12_moves_50 ⟨Nat.le_of_ble_eq_true rfl, Nat.le_of_ble_eq_true rfl⟩) (fun u16 H locs hpo16 hP hS => ?_)
      obtain ⟨h16_0, h16_1, h16_2, h16_3, h16_4, hq16⟩ := hpo16
      obtain ⟨w17, hA17⟩ : ∃ g, rA u16 6 = g := ⟨_, rfl⟩
      rw [hA17] at h16_0 h16_1 h16_2 h16_3 h16_4
      have hA18 := (hq16.1 1 (by decide)).trans hA10
      have hA19 := (hq16.1 3 (by decide)).trans hA11
      have hA20 := (hq16.1 4 (by decide)).trans hA12
      have hfr := FR.step hfr hq16 (by decide) (by decide) (fun h => rfl)
      have hl16_0 := pg_le h16_0
      refine lv_aload_n hx hb dX12_moves_53 rfl (lv_at hl 1 rfl) ?_
      refine lv_aload_n hx hb dX12_moves_54 rfl (lv_at hl 1 rfl) ?_
      refine r_get (v := .ref (b 2)) hx hb (ly_X12 hE) hown hK hP rfl 4 (by decide) (wd_1385 hE) (fun _ h9 => h9) rfl dX12_moves_55 ?_
      refine lv_iconst (v := 1) hx hb dX12_moves_58 (by decide) ?_
      refine r_aald (j := 2) (k := 1) (n := 10) (t0 := 4) (j2 := 4) hx hb hK hP (by decide) rfl rfl (by decide) (by decide) rfl dX12_moves_59 ?_
      refine lv_aload_n hx hb dX12_moves_60 rfl (lv_at hl 1 rfl) ?_
      refine r_get (v := .ref (b 2)) hx hb (ly_X12 hE) hown hK hP rfl 4 (by decide) (wd_1385 hE) (fun _ h9 => h9) rfl dX12_moves_61 ?_
      refine lv_iconst (v := 3) hx hb dX12_moves_64 (by decide) ?_
      refine r_aald (j := 2) (k := 3) (n := 10) (t0 := 4) (j2 := 6) hx hb hK hP (by decide) rfl rfl (by decide) (by decide) rfl dX12_moves_65 ?_
      refine lv_aload_n hx hb dX12_moves_66 rfl (lv_at hl 1 rfl) ?_
      refine r_get (v := .ref (b 2)) hx hb (ly_X12 hE) hown hK hP rfl 4 (by decide) (wd_1385 hE) (fun _ h9 => h9) rfl dX12_moves_67 ?_
      refine lv_iconst (v := 2) hx hb dX12_moves_70 (by decide) ?_
      refine r_aald (j := 2) (k := 2) (n := 10) (t0 := 4) (j2 := 5) hx hb hK hP (by decide) rfl rfl (by decide) (by decide) rfl dX12_moves_71 ?_
      obtain ⟨g21, hg21⟩ : ∃ g, rA u16 5 = g := ⟨_, rfl⟩
      refine rc_v hAL hS hA (va_runV (As := [.ref (b 4), .ref (b 6), .ref (b 5)]) (rest := []) ⟨hx, hb, hml, hown, noTs⟩ (r_X12_ways l dC dI H.size cs b u16 a hA18 4 (by decide) w4 hA20 6 (by decide) w17 hA17 5 (by decide) g21 hg21 (by first | assumption | omega | rfl | (congr 1; omega)) (by first | assumption | omega | rfl | (congr 1; omega)) (by first | assumption | omega | rfl | (congr 1; omega)) (by first | assumption | omega | rfl | (congr 1; omega)) (by first | assumption | omega | rfl | (congr 1; omega)) (by first | assumption | omega | rfl | (congr 1; omega)) (by first | assumption | omega | rfl | (congr 1; omega)) (by first | assumption | omega | rfl | (congr 1; omega)) (by first | assumption | omega | rfl | (congr 1; omega)) (by first | assumption | omega | rfl | (congr 1; omega)) (by first | assumption | omega | rfl | (congr 1; omega)) (by first | assumption | omega | rfl | (congr 1; omega)) (by first | assumption | omega | rfl | (congr 1; omega)) (by first | assumption | omega | rfl | (congr 1; omega)) (by first | assumption | omega | rfl | (congr 1; omega))) ⟨cbE 3 (wd_1868 hE) (wd_126 hE) (wd_1865 hE) rfl rfl (by decide +kernel) ⟨Nat.le_of_ble_eq_true rfl, Nat.le_of_ble_eq_true rfl⟩, (wd_1867 hE), (wd_105 hE)⟩ ⟨PR.blind, r_recv hK hP rfl, (r_pre (av := [.ref (b 0), .ref (b 4), .ref (b 6), .ref (b 5)]) hK hP hJ hE)⟩ rfl rfl hl.1 rfl (lv_room (Nat.le_of_ble_eq_true rfl)) dX12_moves_72 ⟨Nat.le_of_ble_eq_true rfl, Nat.le_of_ble_eq_true rfl⟩) (fun u22 H locs hpo22 hP hS => ?_)
      obtain ⟨h22_0, h22_1, h22_2, hq22⟩ := hpo22
      obtain ⟨w23, hA23⟩ : ∃ g, rA u22 5 = g := ⟨_, rfl⟩
      rw [hA23] at h22_0 h22_1 h22_2
      have hA24 := (hq22.1 1 (by decide)).trans hA18
      have hA25 := (hq22.1 3 (by decide)).trans hA19
      have hA26 := (hq22.1 4 (by decide)).trans hA20
      have hA27 := (hq22.1 6 (by decide)).trans hA17
      have hfr := FR.step hfr hq22 (by decide) (by decide) (fun h => rfl)
      have hl22_0 := pg_le h22_0
      refine lv_aload_n hx hb dX12_moves_75 rfl (lv_at hl 1 rfl) ?_
      refine lv_aload_n hx hb dX12_moves_76 rfl (lv_at hl 1 rfl) ?_
      refine r_get (v := .ref (b 2)) hx hb (ly_X12 hE) hown hK hP rfl 4 (by decide) (wd_1385 hE) (fun _ h9 => h9) rfl dX12_moves_77 ?_
      refine lv_iconst (v := 2) hx hb dX12_moves_80 (by decide) ?_
      refine r_aald (j := 2) (k := 2) (n := 10) (t0 := 4) (j2 := 5) hx hb hK hP (by decide) rfl rfl (by decide) (by decide) rfl dX12_moves_81 ?_
      refine lv_iconst (v := 1) hx hb dX12_moves_82 (by decide) ?_
      refine r_iald (j := 5) (k := 1) (n := 200) (x := nI (rn w23)) hx hb hK hP (by decide) rfl (by decide) (by decide) (by rw [hA23]; exact pg_n h22_0) dX12_moves_83 ?_
      refine rc_i hAL hS hA (va_runV (As := [.int (nI (rn w23))]) (rest := []) ⟨hx, hb, hml, hown, noTs⟩ (r_X12_gives l dC dI H.size cs b u22 a hA24 (nI (rn w23))) ⟨cbE 1 (wd_1621 hE) (wd_126 hE) (wd_1618 hE) rfl rfl (by decide +kernel) ⟨Nat.le_of_ble_eq_true rfl, Nat.le_of_ble_eq_true rfl⟩, (wd_1620 hE), (wd_80 hE)⟩ ⟨PR.blind, r_recv hK hP rfl, (r_pre (av := [.ref (b 0), .int (nI (rn w23))]) hK hP hJ hE)⟩ rfl rfl hl.1 rfl (lv_room (Nat.le_of_ble_eq_true rfl)) dX12_moves_84 ⟨Nat.le_of_ble_eq_true rfl, Nat.le_of_ble_eq_true rfl⟩) (fun r29 u29 H locs hpo29 hP hS => ?_)
      obtain ⟨hr29, hq29⟩ := hpo29
      have hA30 := (hq29.1 1 List.not_mem_nil).trans hA24
      have hA31 := (hq29.1 3 List.not_mem_nil).trans hA25
      have hA32 := (hq29.1 4 List.not_mem_nil).trans hA26
      have hA33 := (hq29.1 6 List.not_mem_nil).trans hA27
      have hA34 := (hq29.1 5 List.not_mem_nil).trans hA23
      have hfr := FR.step hfr hq29 (fun _ h => absurd h List.not_mem_nil) (by decide) (fun h => rfl)
      refine W.eq (g2 := F0 m 87 ls [.int (nI (rn w23))]) (by rw [hr29]) ?_
      exact W.iret (v := nI (rn w23)) hx hb hr (fun t ht hW => ⟨⟨nI (rn w23), u29, rfl, ⟨trivial, hfr⟩, (show va_P (dC, dI) vwCl (rW cs b u29) t.heap by rw [ht]; exact hP)⟩, hS.F ht⟩) hS.2.2 dX12_moves_87
    · refine lv_if_ne (tgt := 21) hx hb dX12_moves_16 (by decide) (fun c35 => absurd c35 (by decide)) (fun c35 => ?_)
      refine lv_iconst (v := 4) hx hb dX12_moves_19 (by decide) ?_
      refine lv_istore_n (lv' := [(3, .int 4), (0, .ref (b 0)), (1, .int (nI n2)), (2, .int (nI n2_2))]) hx hb dX12_moves_20 rfl hl (by decide) rfl (fun ls hl => ?_)
      refine lv_iload_n hx hb dX12_moves_21 rfl (lv_at hl 0 rfl) ?_
      refine lv_if_le (tgt := 31) hx hb dX12_moves_22 (by decide) (fun c36 => absurd c36 (by decide)) (fun c36 => ?_)
      refine lv_aload_n hx hb dX12_moves_25 rfl (lv_at hl 1 rfl) ?_
      refine lv_iload_n hx hb dX12_moves_26 rfl (lv_at hl 0 rfl) ?_
      refine rc_i hAL hS hA (va_runV (As := [.int 4]) (rest := []) ⟨hx, hb, hml, hown, noTs⟩ (r_X12_refuse l dC dI H.size cs b u9 a hA10 4) ⟨cbE 1 (wd_1498 hE) (wd_126 hE) (wd_1495 hE) rfl rfl (by decide +kernel) ⟨Nat.le_of_ble_eq_true rfl, Nat.le_of_ble_eq_true rfl⟩, (wd_1497 hE), (wd_54 hE)⟩ ⟨PR.blind, r_recv hK hP rfl, (r_pre (av := [.ref (b 0), .int 4]) hK hP hJ hE)⟩ rfl rfl hl.1 rfl (lv_room (Nat.le_of_ble_eq_true rfl)) dX12_moves_27 ⟨Nat.le_of_ble_eq_true rfl, Nat.le_of_ble_eq_true rfl⟩) (fun r37 u37 H locs hpo37 hP hS => ?_)
      obtain ⟨hr37, hq37⟩ := hpo37
      have hA38 := (hq37.1 1 List.not_mem_nil).trans hA10
      have hA39 := (hq37.1 3 List.not_mem_nil).trans hA11
      have hA40 := (hq37.1 4 List.not_mem_nil).trans hA12
      have hfr := FR.step hfr hq37 (fun _ h => absurd h List.not_mem_nil) (by decide) (fun h => rfl)
      subst hr37
      exact W.iret (v := -1) hx hb hr (fun t ht hW => ⟨⟨-1, u37, rfl, ⟨trivial, hfr⟩, (show va_P (dC, dI) vwCl (rW cs b u37) t.heap by rw [ht]; exact hP)⟩, hS.F ht⟩) hS.2.2 dX12_moves_30
  · refine lv_istore_n (lv' := [(3, .int 2), (0, .ref (b 0)), (1, .int x), (2, .int y)]) hx hb dX12_moves_6 rfl hl (by decide) rfl (fun ls hl => ?_)
    refine lv_iload_n hx hb dX12_moves_7 rfl (lv_at hl 0 rfl) ?_
    refine lv_if_ne (tgt := 21) hx hb dX12_moves_8 (by decide) (fun c41 => ?_) (fun c41 => absurd c41 (by decide))
    refine lv_iload_n hx hb dX12_moves_21 rfl (lv_at hl 0 rfl) ?_
    refine lv_if_le (tgt := 31) hx hb dX12_moves_22 (by decide) (fun c42 => absurd c42 (by decide)) (fun c42 => ?_)
    refine lv_aload_n hx hb dX12_moves_25 rfl (lv_at hl 1 rfl) ?_
    refine lv_iload_n hx hb dX12_moves_26 rfl (lv_at hl 0 rfl) ?_
    refine rc_i hAL hS hA (va_runV (As := [.int 2]) (rest := []) ⟨hx, hb, hml, hown, noTs⟩ (r_X12_refuse l dC dI H.size cs b u2 a hA5 2) ⟨cbE 1 (wd_1498 hE) (wd_126 hE) (wd_1495 hE) rfl rfl (by decide +kernel) ⟨Nat.le_of_ble_eq_true rfl, Nat.le_of_ble_eq_true rfl⟩, (wd_1497 hE), (wd_54 hE)⟩ ⟨PR.blind, r_recv hK hP rfl, (r_pre (av := [.ref (b 0), .int 2]) hK hP hJ hE)⟩ rfl rfl hl.1 rfl (lv_room (Nat.le_of_ble_eq_true rfl)) dX12_moves_27 ⟨Nat.le_of_ble_eq_true rfl, Nat.le_of_ble_eq_true rfl⟩) (fun r43 u43 H locs hpo43 hP hS => ?_)
    obtain ⟨hr43, hq43⟩ := hpo43
    have hA44 := (hq43.1 1 List.not_mem_nil).trans hA5
    have hA45 := (hq43.1 3 List.not_mem_nil).trans hA3
    have hA46 := (hq43.1 4 List.not_mem_nil).trans hA4
    have hfr := FR.step hfr hq43 (fun _ h => absurd h List.not_mem_nil) (by decide) (fun h => rfl)
    subst hr43
    exact W.iret (v := -1) hx hb hr (fun t ht hW => ⟨⟨-1, u43, rfl, ⟨trivial, hfr⟩, (show va_P (dC, dI) vwCl (rW cs b u43) t.heap by rw [ht]; exact hP)⟩, hS.F ht⟩) hS.2.2 dX12_moves_30
  · refine lv_istore_n (lv' := [(3, .int 4), (0, .ref (b 0)), (1, .int x), (2, .int y)]) hx hb dX12_moves_6 rfl hl (by decide) rfl (fun ls hl => ?_)
    refine lv_iload_n hx hb dX12_moves_7 rfl (lv_at hl 0 rfl) ?_
    refine lv_if_ne (tgt := 21) hx hb dX12_moves_8 (by decide) (fun c47 => ?_) (fun c47 => absurd c47 (by decide))
    refine lv_iload_n hx hb dX12_moves_21 rfl (lv_at hl 0 rfl) ?_
    refine lv_if_le (tgt := 31) hx hb dX12_moves_22 (by decide) (fun c48 => absurd c48 (by decide)) (fun c48 => ?_)
    refine lv_aload_n hx hb dX12_moves_25 rfl (lv_at hl 1 rfl) ?_
    refine lv_iload_n hx hb dX12_moves_26 rfl (lv_at hl 0 rfl) ?_
    refine rc_i hAL hS hA (va_runV (As := [.int 4]) (rest := []) ⟨hx, hb, hml, hown, noTs⟩ (r_X12_refuse l dC dI H.size cs b u2 a hA5 4) ⟨cbE 1 (wd_1498 hE) (wd_126 hE) (wd_1495 hE) rfl rfl (by decide +kernel) ⟨Nat.le_of_ble_eq_true rfl, Nat.le_of_ble_eq_true rfl⟩, (wd_1497 hE), (wd_54 hE)⟩ ⟨PR.blind, r_recv hK hP rfl, (r_pre (av := [.ref (b 0), .int 4]) hK hP hJ hE)⟩ rfl rfl hl.1 rfl (lv_room (Nat.le_of_ble_eq_true rfl)) dX12_moves_27 ⟨Nat.le_of_ble_eq_true rfl, Nat.le_of_ble_eq_true rfl⟩) (fun r49 u49 H locs hpo49 hP hS => ?_)
    obtain ⟨hr49, hq49⟩ := hpo49
    have hA50 := (hq49.1 1 List.not_mem_nil).trans hA5
    have hA51 := (hq49.1 3 List.not_mem_nil).trans hA3
    have hA52 := (hq49.1 4 List.not_mem_nil).trans hA4
    have hfr := FR.step hfr hq49 (fun _ h => absurd h List.not_mem_nil) (by decide) (fun h => rfl)
    subst hr49
    exact W.iret (v := -1) hx hb hr (fun t ht hW => ⟨⟨-1, u49, rfl, ⟨trivial, hfr⟩, (show va_P (dC, dI) vwCl (rW cs b u49) t.heap by rw [ht]; exact hP)⟩, hS.F ht⟩) hS.2.2 dX12_moves_30

set_option maxHeartbeats 4000000 in
set_option maxRecDepth 100000 in
theorem r_X12_way (l : Launch) (dC : Nat → ClassId) (dI : Nat → Nat → Nat) (sz : Nat) (cs : Nat → ClassId) (b : Nat → Nat) (u : RS) (a : Nat → Int32) (hA1 : rA u 1 = a) (x : Int32) (y : Int32) (z : Int32) (hp0 : BG a) : Met l yX12_way [.code yX12_way cX12_way 5 (some .int)] ({ frames := 7, cells := 0, slots := 0, locals := 280 }) (PR [.ref (b 0), .int x, .int y, .int z] sz dC dI cs b u) (va_Qi (fun (r : Int32) (u' : RS) => (True) ∧ FR [3, 4, 5, 6, 7, 8, 9, 10, 11, 12, 13, 14, 17, 18, 19, 20] [1, 5, 21, 22] true u u') (BR dC dI cs b) (AR b sz)) 0 0 (AR b sz) := by
  refine Met.ofW (cc := cX12_way) (maxL := 5) (ret := (some .int)) (by decide) rfl ?_
  intro p e s m args below meth c s₁ B hml hv
  obtain ⟨rfl, hsz, hP, hK, hJ, hE⟩ := hv
  have hx := B.exec
  have hb := B.bytes
  have hr := B.returns
  have hown : s.vm.findClass RX12 = some m.cls := findClass_of_methodNamed B.named
  have hlocks := B.notSynchronized
  subst hsz
  have hAL : ∀ i, i < 108 → AR b s.heap.size (b i) := fun i h => Or.inl ⟨i, h, rfl⟩
  have hA : ∀ q : Nat, s.heap.size ≤ q → AR b s.heap.size q := fun q h => Or.inr h
  have hS : va_S (AR b s.heap.size) s.heap s.heap [] := va_S.rf
  have hfr : FR [3, 4, 5, 6, 7, 8, 9, 10, 11, 12, 13, 14, 17, 18, 19, 20] [1, 5, 21, 22] true u u := FR.refl
  have hl := lv_entry ([.ref (b 0), .int x, .int y, .int z]) (n := 5) (Nat.le_of_ble_eq_true rfl)
  rw [lg_entry_eq]
  generalize (lg_sl ([.ref (b 0), .int x, .int y, .int z]) ++ List.replicate (5 - (lg_sl ([.ref (b 0), .int x, .int y, .int z])).length) Slot.unset).toArray = ls at hl ⊢
  have hl : lv_has ls 5 [(0, .ref (b 0)), (1, .int x), (2, .int y), (3, .int z)] := hl
  have hB := hp0
  have hG := bg_g hp0
  have ha1 := gg_le hG
  have ha1b := bg_w hp0
  refine lv_iload_n hx hb dX12_way_0 rfl (lv_at hl 3 rfl) ?_
  refine lv_if_ge (tgt := 8) hx hb dX12_way_1 (by decide) (fun c2 => ?_) (fun c2 => ?_)
  · have c2 := (b_le (show Int32.toInt 0 = 0 from rfl) (rfl : Int32.toInt z = _)).mp c2
    refine lv_aload_n hx hb dX12_way_8 rfl (lv_at hl 0 rfl) ?_
    refine lv_iload_n hx hb dX12_way_9 rfl (lv_at hl 1 rfl) ?_
    refine lv_iload_n hx hb dX12_way_10 rfl (lv_at hl 2 rfl) ?_
    refine rc_i hAL hS hA (va_runV (As := [.int x, .int y]) (rest := []) ⟨hx, hb, hml, hown, noTs⟩ (r_X12_wrongPair l dC dI s.heap.size cs b u a hA1 x y (by first | assumption | omega | rfl | (congr 1; omega))) ⟨cbE 2 (wd_1864 hE) (wd_126 hE) (wd_1861 hE) rfl rfl (by decide +kernel) ⟨Nat.le_of_ble_eq_true rfl, Nat.le_of_ble_eq_true rfl⟩, (wd_1863 hE), (wd_104 hE)⟩ ⟨PR.blind, r_recv hK hP rfl, (r_pre (av := [.ref (b 0), .int x, .int y]) hK hP hJ hE)⟩ rfl rfl hl.1 rfl (lv_room (Nat.le_of_ble_eq_true rfl)) dX12_way_11 ⟨Nat.le_of_ble_eq_true rfl, Nat.le_of_ble_eq_true rfl⟩) (fun r3 u3 H locs hpo3 hP hS => ?_)
    obtain ⟨hr3, hq3⟩ := hpo3
    obtain ⟨w4, hA4⟩ : ∃ g, rA u3 3 = g := ⟨_, rfl⟩
    rw [hA4] at hr3
    obtain ⟨w5, hA5⟩ : ∃ g, rA u3 4 = g := ⟨_, rfl⟩
    rw [hA5] at hr3
    have hA6 := (hq3.1 1 (by decide)).trans hA1
    have hfr := FR.step hfr hq3 (by decide) (fun _ h => absurd h List.not_mem_nil) (fun h => rfl)
    rcases hr3 with ⟨rfl, hb3⟩ | ⟨rfl, hb3⟩ | ⟨rfl, hb3⟩
    · obtain ⟨n3, hbe3_1, hb3⟩ := hb3
      subst hbe3_1
      have hti7 := nI_toInt (n := n3) (by omega)
      obtain ⟨n3_2, hbe3_2, hb3⟩ := hb3
      subst hbe3_2
      have hti8 := nI_toInt (n := n3_2) (by omega)
      obtain ⟨b1, b2, b3, b4, b5, b6, b7, b8, b9, b10, b11⟩ := hb3
      have b12 := pg_le b4
      have b13 := pg_le b7
      refine lv_istore (lv' := [(4, .int 0), (0, .ref (b 0)), (1, .int (nI n3)), (2, .int (nI n3_2)), (3, .int z)]) hx hb dX12_way_14 hl (by decide) rfl (fun ls hl => ?_)
      refine lv_iload hx hb dX12_way_16 (lv_at hl 0 rfl) ?_
      refine lv_if_le (tgt := 28) hx hb dX12_way_18 (by decide) (fun c9 => ?_) (fun c9 => absurd c9 (by decide))
      refine lv_aload_n hx hb dX12_way_28 rfl (lv_at hl 1 rfl) ?_
      refine lv_aload_n hx hb dX12_way_29 rfl (lv_at hl 1 rfl) ?_
      refine r_get (v := .ref (b 2)) hx hb (ly_X12 hE) hown hK hP rfl 4 (by decide) (wd_1385 hE) (fun _ h9 => h9) rfl dX12_way_30 ?_
      refine lv_iconst (v := 0) hx hb dX12_way_33 (by decide) ?_
      refine r_aald (j := 2) (k := 0) (n := 10) (t0 := 4) (j2 := 3) hx hb hK hP (by decide) rfl rfl (by decide) (by decide) rfl dX12_way_34 ?_
      refine lv_aload_n hx hb dX12_way_35 rfl (lv_at hl 1 rfl) ?_
      refine r_get (v := .ref (b 2)) hx hb (ly_X12 hE) hown hK hP rfl 4 (by decide) (wd_1385 hE) (fun _ h9 => h9) rfl dX12_way_36 ?_
      refine lv_iconst (v := 1) hx hb dX12_way_39 (by decide) ?_
      refine r_aald (j := 2) (k := 1) (n := 10) (t0 := 4) (j2 := 4) hx hb hK hP (by decide) rfl rfl (by decide) (by decide) rfl dX12_way_40 ?_
      refine lv_aload_n hx hb dX12_way_41 rfl (lv_at hl 1 rfl) ?_
      refine r_get (v := .ref (b 2)) hx hb (ly_X12 hE) hown hK hP rfl 4 (by decide) (wd_1385 hE) (fun _ h9 => h9) rfl dX12_way_42 ?_
      refine lv_iconst (v := 2) hx hb dX12_way_45 (by decide) ?_
      refine r_aald (j := 2) (k := 2) (n := 10) (t0 := 4) (j2 := 5) hx hb hK hP (by decide) rfl rfl (by decide) (by decide) rfl dX12_way_46 ?_
      obtain ⟨g10, hg10⟩ : ∃ g, rA u3 5 = g := ⟨_, rfl⟩
      refine rc_v hAL hS hA (va_runV (As := [.ref (b 3), .ref (b 4), .ref (b 5)]) (rest := []) ⟨hx, hb, hml, hown, noTs⟩ (r_X12_ways l dC dI H.size cs b u3 a hA6 3 (by decide) w4 hA4 4 (by decide) w5 hA5 5 (by decide) g10 hg10 (by first | assumption | omega | rfl | (congr 1; omega)) (by first | assumption | omega | rfl | (congr 1; omega)) (by first | assumption | omega | rfl | (congr 1; omega)) (by first | assumption | omega | rfl | (congr 1; omega)) (by first | assumption | omega | rfl | (congr 1; omega)) (by first | assumption | omega | rfl | (congr 1; omega)) (by first | assumption | omega | rfl | (congr 1; omega)) (by first | assumption | omega | rfl | (congr 1; omega)) (by first | assumption | omega | rfl | (congr 1; omega)) (by first | assumption | omega | rfl | (congr 1; omega)) (by first | assumption | omega | rfl | (congr 1; omega)) (by first | assumption | omega | rfl | (congr 1; omega)) (by first | assumption | omega | rfl | (congr 1; omega)) (by first | assumption | omega | rfl | (congr 1; omega)) (by first | assumption | omega | rfl | (congr 1; omega))) ⟨cbE 3 (wd_1868 hE) (wd_126 hE) (wd_1865 hE) rfl rfl (by decide +kernel) ⟨Nat.le_of_ble_eq_true rfl, Nat.le_of_ble_eq_true rfl⟩, (wd_1867 hE), (wd_105 hE)⟩ ⟨PR.blind, r_recv hK hP rfl, (r_pre (av := [.ref (b 0), .ref (b 3), .ref (b 4), .ref (b 5)]) hK hP hJ hE)⟩ rfl rfl hl.1 rfl (lv_room (Nat.le_of_ble_eq_true rfl)) dX12_way_47 ⟨Nat.le_of_ble_eq_true rfl, Nat.le_of_ble_eq_true rfl⟩) (fun u11 H locs hpo11 hP hS => ?_)
      obtain ⟨h11_0, h11_1, h11_2, hq11⟩ := hpo11
      obtain ⟨w12, hA12⟩ : ∃ g, rA u11 5 = g := ⟨_, rfl⟩
      rw [hA12] at h11_0 h11_1 h11_2
      have hA13 := (hq11.1 1 (by decide)).trans hA6
      have hA14 := (hq11.1 3 (by decide)).trans hA4
      have hA15 := (hq11.1 4 (by decide)).trans hA5
      have hfr := FR.step hfr hq11 (by decide) (by decide) (fun h => rfl)
      have hl11_0 := pg_le h11_0
      refine lv_iload_n hx hb dX12_way_50 rfl (lv_at hl 4 rfl) ?_
      refine lv_aload_n hx hb dX12_way_51 rfl (lv_at hl 1 rfl) ?_
      refine r_get (v := .ref (b 2)) hx hb (ly_X12 hE) hown hK hP rfl 4 (by decide) (wd_1385 hE) (fun _ h9 => h9) rfl dX12_way_52 ?_
      refine lv_iconst (v := 2) hx hb dX12_way_55 (by decide) ?_
      refine r_aald (j := 2) (k := 2) (n := 10) (t0 := 4) (j2 := 5) hx hb hK hP (by decide) rfl rfl (by decide) (by decide) rfl dX12_way_56 ?_
      refine lv_iconst (v := 1) hx hb dX12_way_57 (by decide) ?_
      refine r_iald (j := 5) (k := 1) (n := 200) (x := nI (rn w12)) hx hb hK hP (by decide) rfl (by decide) (by decide) (by rw [hA12]; exact pg_n h11_0) dX12_way_58 ?_
      refine lv_icmp_le (tgt := 68) hx hb dX12_way_59 (by decide) (fun c17 => ?_) (fun c17 => ?_)
      · have c17 := (b_le (rfl : Int32.toInt z = _) (nI_toInt (n := rn w12) (by omega))).mp c17
        refine lv_aload_n hx hb dX12_way_68 rfl (lv_at hl 1 rfl) ?_
        refine lv_iload_n hx hb dX12_way_69 rfl (lv_at hl 4 rfl) ?_
        refine lv_if_ne (tgt := 84) hx hb dX12_way_70 (by decide) (fun c18 => ?_) (fun c18 => ?_)
        · have c18 := mt (b_eq (rfl : Int32.toInt z = _) (show Int32.toInt 0 = 0 from rfl)).mpr c18
          obtain ⟨nx19, hi19, hj19⟩ := z_ex (x := z) (n := rn w12 + 1) (by omega) (by omega)
          subst hi19
          have hti20 := nI_toInt (n := nx19) (by omega)
          refine lv_aload_n hx hb dX12_way_84 rfl (lv_at hl 1 rfl) ?_
          refine lv_aload_n hx hb dX12_way_85 rfl (lv_at hl 1 rfl) ?_
          refine r_get (v := .ref (b 2)) hx hb (ly_X12 hE) hown hK hP rfl 4 (by decide) (wd_1385 hE) (fun _ h9 => h9) rfl dX12_way_86 ?_
          refine lv_iconst (v := 2) hx hb dX12_way_89 (by decide) ?_
          refine r_aald (j := 2) (k := 2) (n := 10) (t0 := 4) (j2 := 5) hx hb hK hP (by decide) rfl rfl (by decide) (by decide) rfl dX12_way_90 ?_
          refine lv_iload_n hx hb dX12_way_91 rfl (lv_at hl 4 rfl) ?_
          refine lv_iconst (v := 1) hx hb dX12_way_92 (by decide) ?_
          refine lv_isub hx hb dX12_way_93 ?_
          refine W.eq (g2 := F0 m 94 ls [.int (nI (nx19 - 1)), .ref (b 5), .ref (b 0), .ref (b 0)]) (congrArg (fun z : Int32 => F0 m 94 ls (.int z :: [.ref (b 5), .ref (b 0), .ref (b 0)])) (pk_sub (a := nx19) (b := 1) (by omega))) ?_
          refine vp_callSi (va_Run.run (va_runS (As := [.ref (b 5), .int (nI (nx19 - 1))]) (rest := [.ref (b 0), .ref (b 0)]) ⟨hx, hb, hml, hown, noTs⟩ (r_X12_step l dC dI H.size cs b u11 a hA13 5 (by decide) w12 hA12 (nx19 - 1) (by first | assumption | omega | rfl | (congr 1; omega)) (by first | assumption | omega | rfl | (congr 1; omega))) ⟨cbE 2 (wd_1602 hE) (wd_126 hE) (wd_1600 hE) rfl rfl (by decide +kernel) ⟨Nat.le_of_ble_eq_true rfl, Nat.le_of_ble_eq_true rfl⟩, (wd_1601 hE)⟩ ⟨PR.blind, (r_pre (av := [.ref (b 5), .int (nI (nx19 - 1))]) hK hP hJ hE)⟩ rfl rfl hl.1 rfl (lv_room (Nat.le_of_ble_eq_true rfl)) dX12_way_94 ⟨Nat.le_of_ble_eq_true rfl, Nat.le_of_ble_eq_true rfl⟩)) (fun r21 hr21 => ?_)
          have hau21 := pg_sl (a := a) (w := w12) (i := (nx19 - 1)) (by assumption) (by first | assumption | omega)
          subst hr21
          refine vp_callSi (va_Run.run (va_runV (As := [.int (nI (rs w12 (nx19 - 1)))]) (rest := [.ref (b 0)]) ⟨hx, hb, hml, hown, noTs⟩ (r_X12_to l dC dI H.size cs b u11 a hA13 (rs w12 (nx19 - 1)) (by first | assumption | omega | rfl | (congr 1; omega)) (by first | assumption | omega | rfl | (congr 1; omega))) ⟨cbE 1 (wd_1606 hE) (wd_126 hE) (wd_1603 hE) rfl rfl (by decide +kernel) ⟨Nat.le_of_ble_eq_true rfl, Nat.le_of_ble_eq_true rfl⟩, (wd_1605 hE), (wd_77 hE)⟩ ⟨PR.blind, r_recv hK hP rfl, (r_pre (av := [.ref (b 0), .int (nI (rs w12 (nx19 - 1)))]) hK hP hJ hE)⟩ rfl rfl hl.1 rfl (lv_room (Nat.le_of_ble_eq_true rfl)) dX12_way_97 ⟨Nat.le_of_ble_eq_true rfl, Nat.le_of_ble_eq_true rfl⟩)) (fun r22 hr22 => ?_)
          have hau22 := gg_dst (a := a) (s := (rs w12 (nx19 - 1))) (by assumption) (by first | assumption | omega)
          subst hr22
          refine rc_i hAL hS hA (va_runV (As := [.int (nI (dst a (rs w12 (nx19 - 1))))]) (rest := []) ⟨hx, hb, hml, hown, noTs⟩ (r_X12_gives l dC dI H.size cs b u11 a hA13 (nI (dst a (rs w12 (nx19 - 1))))) ⟨cbE 1 (wd_1621 hE) (wd_126 hE) (wd_1618 hE) rfl rfl (by decide +kernel) ⟨Nat.le_of_ble_eq_true rfl, Nat.le_of_ble_eq_true rfl⟩, (wd_1620 hE), (wd_80 hE)⟩ ⟨PR.blind, r_recv hK hP rfl, (r_pre (av := [.ref (b 0), .int (nI (dst a (rs w12 (nx19 - 1))))]) hK hP hJ hE)⟩ rfl rfl hl.1 rfl (lv_room (Nat.le_of_ble_eq_true rfl)) dX12_way_100 ⟨Nat.le_of_ble_eq_true rfl, Nat.le_of_ble_eq_true rfl⟩) (fun r23 u23 H locs hpo23 hP hS => ?_)
          obtain ⟨hr23, hq23⟩ := hpo23
          have hA24 := (hq23.1 1 List.not_mem_nil).trans hA13
          have hA25 := (hq23.1 3 List.not_mem_nil).trans hA14
          have hA26 := (hq23.1 4 List.not_mem_nil).trans hA15
          have hA27 := (hq23.1 5 List.not_mem_nil).trans hA12
          have hfr := FR.step hfr hq23 (fun _ h => absurd h List.not_mem_nil) (by decide) (fun h => rfl)
          refine W.eq (g2 := F0 m 103 ls [.int (nI (dst a (rs w12 (nx19 - 1))))]) (by rw [hr23]) ?_
          exact W.iret (v := nI (dst a (rs w12 (nx19 - 1)))) hx hb hr (fun t ht hW => ⟨⟨nI (dst a (rs w12 (nx19 - 1))), u23, rfl, ⟨trivial, hfr⟩, (show va_P (dC, dI) vwCl (rW cs b u23) t.heap by rw [ht]; exact hP)⟩, hS.F ht⟩) hS.2.2 dX12_way_103
        · have c18 := (b_eq (rfl : Int32.toInt z = _) (show Int32.toInt 0 = 0 from rfl)).mp c18
          refine lv_aload_n hx hb dX12_way_73 rfl (lv_at hl 1 rfl) ?_
          refine r_get (v := .ref (b 2)) hx hb (ly_X12 hE) hown hK hP rfl 4 (by decide) (wd_1385 hE) (fun _ h9 => h9) rfl dX12_way_74 ?_
          refine lv_iconst (v := 2) hx hb dX12_way_77 (by decide) ?_
          refine r_aald (j := 2) (k := 2) (n := 10) (t0 := 4) (j2 := 5) hx hb hK hP (by decide) rfl rfl (by decide) (by decide) rfl dX12_way_78 ?_
          refine lv_iconst (v := 0) hx hb dX12_way_79 (by decide) ?_
          refine r_iald (j := 5) (k := 0) (n := 200) (x := nI (rb w12)) hx hb hK hP (by decide) rfl (by decide) (by decide) (by rw [hA12]; exact pg_b h11_0) dX12_way_80 ?_
          refine lv_goto (tgt := 100) hx hb dX12_way_81 (by decide) ?_
          refine rc_i hAL hS hA (va_runV (As := [.int (nI (rb w12))]) (rest := []) ⟨hx, hb, hml, hown, noTs⟩ (r_X12_gives l dC dI H.size cs b u11 a hA13 (nI (rb w12))) ⟨cbE 1 (wd_1621 hE) (wd_126 hE) (wd_1618 hE) rfl rfl (by decide +kernel) ⟨Nat.le_of_ble_eq_true rfl, Nat.le_of_ble_eq_true rfl⟩, (wd_1620 hE), (wd_80 hE)⟩ ⟨PR.blind, r_recv hK hP rfl, (r_pre (av := [.ref (b 0), .int (nI (rb w12))]) hK hP hJ hE)⟩ rfl rfl hl.1 rfl (lv_room (Nat.le_of_ble_eq_true rfl)) dX12_way_100 ⟨Nat.le_of_ble_eq_true rfl, Nat.le_of_ble_eq_true rfl⟩) (fun r29 u29 H locs hpo29 hP hS => ?_)
          obtain ⟨hr29, hq29⟩ := hpo29
          have hA30 := (hq29.1 1 List.not_mem_nil).trans hA13
          have hA31 := (hq29.1 3 List.not_mem_nil).trans hA14
          have hA32 := (hq29.1 4 List.not_mem_nil).trans hA15
          have hA33 := (hq29.1 5 List.not_mem_nil).trans hA12
          have hfr := FR.step hfr hq29 (fun _ h => absurd h List.not_mem_nil) (by decide) (fun h => rfl)
          refine W.eq (g2 := F0 m 103 ls [.int (nI (rb w12))]) (by rw [hr29]) ?_
          exact W.iret (v := nI (rb w12)) hx hb hr (fun t ht hW => ⟨⟨nI (rb w12), u29, rfl, ⟨trivial, hfr⟩, (show va_P (dC, dI) vwCl (rW cs b u29) t.heap by rw [ht]; exact hP)⟩, hS.F ht⟩) hS.2.2 dX12_way_103
      · have c17 := mt (b_le (rfl : Int32.toInt z = _) (nI_toInt (n := rn w12) (by omega))).mpr c17
        refine lv_aload_n hx hb dX12_way_62 rfl (lv_at hl 1 rfl) ?_
        refine lv_iconst (v := 5) hx hb dX12_way_63 (by decide) ?_
        refine rc_i hAL hS hA (va_runV (As := [.int 5]) (rest := []) ⟨hx, hb, hml, hown, noTs⟩ (r_X12_refuse l dC dI H.size cs b u11 a hA13 5) ⟨cbE 1 (wd_1498 hE) (wd_126 hE) (wd_1495 hE) rfl rfl (by decide +kernel) ⟨Nat.le_of_ble_eq_true rfl, Nat.le_of_ble_eq_true rfl⟩, (wd_1497 hE), (wd_54 hE)⟩ ⟨PR.blind, r_recv hK hP rfl, (r_pre (av := [.ref (b 0), .int 5]) hK hP hJ hE)⟩ rfl rfl hl.1 rfl (lv_room (Nat.le_of_ble_eq_true rfl)) dX12_way_64 ⟨Nat.le_of_ble_eq_true rfl, Nat.le_of_ble_eq_true rfl⟩) (fun r34 u34 H locs hpo34 hP hS => ?_)
        obtain ⟨hr34, hq34⟩ := hpo34
        have hA35 := (hq34.1 1 List.not_mem_nil).trans hA13
        have hA36 := (hq34.1 3 List.not_mem_nil).trans hA14
        have hA37 := (hq34.1 4 List.not_mem_nil).trans hA15
        have hA38 := (hq34.1 5 List.not_mem_nil).trans hA12
        have hfr := FR.step hfr hq34 (fun _ h => absurd h List.not_mem_nil) (by decide) (fun h => rfl)
        subst hr34
        exact W.iret (v := -1) hx hb hr (fun t ht hW => ⟨⟨-1, u34, rfl, ⟨trivial, hfr⟩, (show va_P (dC, dI) vwCl (rW cs b u34) t.heap by rw [ht]; exact hP)⟩, hS.F ht⟩) hS.2.2 dX12_way_67
    · refine lv_istore (lv' := [(4, .int 2), (0, .ref (b 0)), (1, .int x), (2, .int y), (3, .int z)]) hx hb dX12_way_14 hl (by decide) rfl (fun ls hl => ?_)
      refine lv_iload hx hb dX12_way_16 (lv_at hl 0 rfl) ?_
      refine lv_if_le (tgt := 28) hx hb dX12_way_18 (by decide) (fun c39 => absurd c39 (by decide)) (fun c39 => ?_)
      refine lv_aload_n hx hb dX12_way_21 rfl (lv_at hl 1 rfl) ?_
      refine lv_iload hx hb dX12_way_22 (lv_at hl 0 rfl) ?_
      refine rc_i hAL hS hA (va_runV (As := [.int 2]) (rest := []) ⟨hx, hb, hml, hown, noTs⟩ (r_X12_refuse l dC dI H.size cs b u3 a hA6 2) ⟨cbE 1 (wd_1498 hE) (wd_126 hE) (wd_1495 hE) rfl rfl (by decide +kernel) ⟨Nat.le_of_ble_eq_true rfl, Nat.le_of_ble_eq_true rfl⟩, (wd_1497 hE), (wd_54 hE)⟩ ⟨PR.blind, r_recv hK hP rfl, (r_pre (av := [.ref (b 0), .int 2]) hK hP hJ hE)⟩ rfl rfl hl.1 rfl (lv_room (Nat.le_of_ble_eq_true rfl)) dX12_way_24 ⟨Nat.le_of_ble_eq_true rfl, Nat.le_of_ble_eq_true rfl⟩) (fun r40 u40 H locs hpo40 hP hS => ?_)
      obtain ⟨hr40, hq40⟩ := hpo40
      have hA41 := (hq40.1 1 List.not_mem_nil).trans hA6
      have hA42 := (hq40.1 3 List.not_mem_nil).trans hA4
      have hA43 := (hq40.1 4 List.not_mem_nil).trans hA5
      have hfr := FR.step hfr hq40 (fun _ h => absurd h List.not_mem_nil) (by decide) (fun h => rfl)
      subst hr40
      exact W.iret (v := -1) hx hb hr (fun t ht hW => ⟨⟨-1, u40, rfl, ⟨trivial, hfr⟩, (show va_P (dC, dI) vwCl (rW cs b u40) t.heap by rw [ht]; exact hP)⟩, hS.F ht⟩) hS.2.2 dX12_way_27
    · refine lv_istore (lv' := [(4, .int 4), (0, .ref (b 0)), (1, .int x), (2, .int y), (3, .int z)]) hx hb dX12_way_14 hl (by decide) rfl (fun ls hl => ?_)
      refine lv_iload hx hb dX12_way_16 (lv_at hl 0 rfl) ?_
      refine lv_if_le (tgt := 28) hx hb dX12_way_18 (by decide) (fun c44 => absurd c44 (by decide)) (fun c44 => ?_)
      refine lv_aload_n hx hb dX12_way_21 rfl (lv_at hl 1 rfl) ?_
      refine lv_iload hx hb dX12_way_22 (lv_at hl 0 rfl) ?_
      refine rc_i hAL hS hA (va_runV (As := [.int 4]) (rest := []) ⟨hx, hb, hml, hown, noTs⟩ (r_X12_refuse l dC dI H.size cs b u3 a hA6 4) ⟨cbE 1 (wd_1498 hE) (wd_126 hE) (wd_1495 hE) rfl rfl (by decide +kernel) ⟨Nat.le_of_ble_eq_true rfl, Nat.le_of_ble_eq_true rfl⟩, (wd_1497 hE), (wd_54 hE)⟩ ⟨PR.blind, r_recv hK hP rfl, (r_pre (av := [.ref (b 0), .int 4]) hK hP hJ hE)⟩ rfl rfl hl.1 rfl (lv_room (Nat.le_of_ble_eq_true rfl)) dX12_way_24 ⟨Nat.le_of_ble_eq_true rfl, Nat.le_of_ble_eq_true rfl⟩) (fun r45 u45 H locs hpo45 hP hS => ?_)
      obtain ⟨hr45, hq45⟩ := hpo45
      have hA46 := (hq45.1 1 List.not_mem_nil).trans hA6
      have hA47 := (hq45.1 3 List.not_mem_nil).trans hA4
      have hA48 := (hq45.1 4 List.not_mem_nil).trans hA5
      have hfr := FR.step hfr hq45 (fun _ h => absurd h List.not_mem_nil) (by decide) (fun h => rfl)
      subst hr45
      exact W.iret (v := -1) hx hb hr (fun t ht hW => ⟨⟨-1, u45, rfl, ⟨trivial, hfr⟩, (show va_P (dC, dI) vwCl (rW cs b u45) t.heap by rw [ht]; exact hP)⟩, hS.F ht⟩) hS.2.2 dX12_way_27
  · have c2 := mt (b_le (show Int32.toInt 0 = 0 from rfl) (rfl : Int32.toInt z = _)).mpr c2
    refine lv_iconst (v := 1) hx hb dX12_way_4 (by decide) ?_
    refine lv_goto (tgt := 14) hx hb dX12_way_5 (by decide) ?_
    refine lv_istore (lv' := [(4, .int 1), (0, .ref (b 0)), (1, .int x), (2, .int y), (3, .int z)]) hx hb dX12_way_14 hl (by decide) rfl (fun ls hl => ?_)
    refine lv_iload hx hb dX12_way_16 (lv_at hl 0 rfl) ?_
    refine lv_if_le (tgt := 28) hx hb dX12_way_18 (by decide) (fun c49 => absurd c49 (by decide)) (fun c49 => ?_)
    refine lv_aload_n hx hb dX12_way_21 rfl (lv_at hl 1 rfl) ?_
    refine lv_iload hx hb dX12_way_22 (lv_at hl 0 rfl) ?_
    refine rc_i hAL hS hA (va_runV (As := [.int 1]) (rest := []) ⟨hx, hb, hml, hown, noTs⟩ (r_X12_refuse l dC dI s.heap.size cs b u a hA1 1) ⟨cbE 1 (wd_1498 hE) (wd_126 hE) (wd_1495 hE) rfl rfl (by decide +kernel) ⟨Nat.le_of_ble_eq_true rfl, Nat.le_of_ble_eq_true rfl⟩, (wd_1497 hE), (wd_54 hE)⟩ ⟨PR.blind, r_recv hK hP rfl, (r_pre (av := [.ref (b 0), .int 1]) hK hP hJ hE)⟩ rfl rfl hl.1 rfl (lv_room (Nat.le_of_ble_eq_true rfl)) dX12_way_24 ⟨Nat.le_of_ble_eq_true rfl, Nat.le_of_ble_eq_true rfl⟩) (fun r50 u50 H locs hpo50 hP hS => ?_)
    obtain ⟨hr50, hq50⟩ := hpo50
    have hA51 := (hq50.1 1 List.not_mem_nil).trans hA1
    have hfr := FR.step hfr hq50 (fun _ h => absurd h List.not_mem_nil) (by decide) (fun h => rfl)
    subst hr50
    exact W.iret (v := -1) hx hb hr (fun t ht hW => ⟨⟨-1, u50, rfl, ⟨trivial, hfr⟩, (show va_P (dC, dI) vwCl (rW cs b u50) t.heap by rw [ht]; exact hP)⟩, hS.F ht⟩) hS.2.2 dX12_way_27

set_option maxHeartbeats 4000000 in
set_option maxRecDepth 100000 in
theorem r_X12_near (l : Launch) (dC : Nat → ClassId) (dI : Nat → Nat → Nat) (sz : Nat) (cs : Nat → ClassId) (b : Nat → Nat) (u : RS) (a : Nat → Int32) (hA1 : rA u 1 = a) (x : Int32) (y : Int32) (hp0 : BG a) : Met l yX12_near [.code yX12_near cX12_near 5 (some .int)] ({ frames := 7, cells := 0, slots := 0, locals := 280 }) (PR [.ref (b 0), .int x, .int y] sz dC dI cs b u) (va_Qi (fun (r : Int32) (u' : RS) => (True) ∧ FR [3, 4, 5, 6, 7, 8, 9, 10, 11, 12, 13, 14, 17, 18, 19, 20] [1, 5, 21, 22] true u u') (BR dC dI cs b) (AR b sz)) 0 0 (AR b sz) := by
  refine Met.ofW (cc := cX12_near) (maxL := 5) (ret := (some .int)) (by decide) rfl ?_
  intro p e s m args below meth c s₁ B hml hv
  obtain ⟨rfl, hsz, hP, hK, hJ, hE⟩ := hv
  have hx := B.exec
  have hb := B.bytes
  have hr := B.returns
  have hown : s.vm.findClass RX12 = some m.cls := findClass_of_methodNamed B.named
  have hlocks := B.notSynchronized
  subst hsz
  have hAL : ∀ i, i < 108 → AR b s.heap.size (b i) := fun i h => Or.inl ⟨i, h, rfl⟩
  have hA : ∀ q : Nat, s.heap.size ≤ q → AR b s.heap.size q := fun q h => Or.inr h
  have hS : va_S (AR b s.heap.size) s.heap s.heap [] := va_S.rf
  have hfr : FR [3, 4, 5, 6, 7, 8, 9, 10, 11, 12, 13, 14, 17, 18, 19, 20] [1, 5, 21, 22] true u u := FR.refl
  have hl := lv_entry ([.ref (b 0), .int x, .int y]) (n := 5) (Nat.le_of_ble_eq_true rfl)
  rw [lg_entry_eq]
  generalize (lg_sl ([.ref (b 0), .int x, .int y]) ++ List.replicate (5 - (lg_sl ([.ref (b 0), .int x, .int y])).length) Slot.unset).toArray = ls at hl ⊢
  have hl : lv_has ls 5 [(0, .ref (b 0)), (1, .int x), (2, .int y)] := hl
  have hB := hp0
  have hG := bg_g hp0
  have ha1 := gg_le hG
  have ha1b := bg_w hp0
  refine lv_iload_n hx hb dX12_near_0 rfl (lv_at hl 2 rfl) ?_
  refine lv_iconst (v := 0) hx hb dX12_near_1 (by decide) ?_
  refine lv_bipush (v := 99) hx hb dX12_near_2 (by decide) ?_
  refine vp_callSi (va_Run.run (va_runS (As := [.int y, .int 0, .int 99]) (rest := []) ⟨hx, hb, hml, hown, noTs⟩ (r_X12_isFrom l dC dI s.heap.size cs b u a hA1 y 0 99 ((0 : Int)) ((99 : Int)) (show Int32.toInt 0 = 0 from rfl) (show Int32.toInt 99 = 99 from rfl)) ⟨cbE 3 (wd_1494 hE) (wd_126 hE) (wd_1492 hE) rfl rfl (by decide +kernel) ⟨Nat.le_of_ble_eq_true rfl, Nat.le_of_ble_eq_true rfl⟩, (wd_1493 hE)⟩ ⟨PR.blind, (r_pre (av := [.int y, .int 0, .int 99]) hK hP hJ hE)⟩ rfl rfl hl.1 rfl (lv_room (Nat.le_of_ble_eq_true rfl)) dX12_near_4 ⟨Nat.le_of_ble_eq_true rfl, Nat.le_of_ble_eq_true rfl⟩)) (fun r2 hr2 => ?_)
  rcases hr2 with ⟨rfl, hb2⟩ | ⟨rfl, hb2⟩
  · refine lv_if_ne (tgt := 16) hx hb dX12_near_7 (by decide) (fun c3 => ?_) (fun c3 => absurd c3 (by decide))
    refine lv_aload_n hx hb dX12_near_16 rfl (lv_at hl 0 rfl) ?_
    refine lv_iload_n hx hb dX12_near_17 rfl (lv_at hl 1 rfl) ?_
    refine vp_callSi (va_Run.run (va_runV (As := [.int x]) (rest := []) ⟨hx, hb, hml, hown, noTs⟩ (r_X12_isWord l dC dI s.heap.size cs b u a hA1 x (by first | assumption | omega | rfl | (congr 1; omega))) ⟨cbE 1 (wd_1653 hE) (wd_126 hE) (wd_1650 hE) rfl rfl (by decide +kernel) ⟨Nat.le_of_ble_eq_true rfl, Nat.le_of_ble_eq_true rfl⟩, (wd_1652 hE), (wd_83 hE)⟩ ⟨PR.blind, r_recv hK hP rfl, (r_pre (av := [.ref (b 0), .int x]) hK hP hJ hE)⟩ rfl rfl hl.1 rfl (lv_room (Nat.le_of_ble_eq_true rfl)) dX12_near_18 ⟨Nat.le_of_ble_eq_true rfl, Nat.le_of_ble_eq_true rfl⟩)) (fun r4 hr4 => ?_)
    rcases hr4 with ⟨rfl, hb4⟩ | ⟨rfl, hb4⟩
    · obtain ⟨n4, hbe4_1, hb4⟩ := hb4
      subst hbe4_1
      have hti5 := nI_toInt (n := n4) (by omega)
      refine lv_if_ne (tgt := 30) hx hb dX12_near_21 (by decide) (fun c6 => ?_) (fun c6 => absurd c6 (by decide))
      refine lv_iconst (v := 0) hx hb dX12_near_30 (by decide) ?_
      refine lv_istore_n (lv' := [(3, .int 0), (0, .ref (b 0)), (1, .int (nI n4)), (2, .int y)]) hx hb dX12_near_31 rfl hl (by decide) rfl (fun ls hl => ?_)
      refine lv_iconst (v := 0) hx hb dX12_near_32 (by decide) ?_
      refine lv_istore (lv' := [(4, .int 0), (3, .int 0), (0, .ref (b 0)), (1, .int (nI n4)), (2, .int y)]) hx hb dX12_near_33 hl (by decide) rfl (fun ls hl => ?_)
      refine r_ind (I := fun n u_ H locs ls => va_P (dC, dI) vwCl (rW cs b u_) H ∧ va_S (AR b s.heap.size) s.heap H locs ∧ FR [3, 4, 5, 6, 7, 8, 9, 10, 11, 12, 13, 14, 17, 18, 19, 20] [1, 5, 21, 22] true u u_ ∧ ∃ (k_7 : Nat) (x1_7 : Int32), n = wN a - k_7 ∧ (k_7 ≤ wN a) ∧ lv_has ls 5 [(0, .ref (b 0)), (1, .int (nI n4)), (2, .int y), (3, .int x1_7), (4, .int (nI k_7))]) (fun n u7 H locs ls hI ih7 => ?_) _ u _ _ _ ⟨hP, hS, hfr, 0, 0, rfl, (by first | assumption | omega | rfl | (congr 1; omega)), lv_sub hl [2, 3, 4, 1, 0] rfl⟩
      obtain ⟨hP, hS, hfr, k_7, x1_7, hmu7, hL7_0, hl⟩ := hI
      have hA8 := (hfr.1 1 (by decide)).trans hA1
      subst hmu7
      refine lv_iload hx hb dX12_near_35 (lv_at hl 4 rfl) ?_
      refine lv_aload_n hx hb dX12_near_37 rfl (lv_at hl 0 rfl) ?_
      refine lv_iconst (v := 2) hx hb dX12_near_38 (by decide) ?_
      refine vp_callSi (va_Run.run (va_runV (As := [.int (nI 2)]) (rest := [.int (nI k_7)]) ⟨hx, hb, hml, hown, noTs⟩ (r_X12_of l dC dI H.size cs b u7 a hA8 2 (by first | assumption | omega | rfl | (congr 1; omega))) ⟨cbE 1 (wd_1536 hE) (wd_126 hE) (wd_1533 hE) rfl rfl (by decide +kernel) ⟨Nat.le_of_ble_eq_true rfl, Nat.le_of_ble_eq_true rfl⟩, (wd_1535 hE), (wd_61 hE)⟩ ⟨PR.blind, r_recv hK hP rfl, (r_pre (av := [.ref (b 0), .int (nI 2)]) hK hP hJ hE)⟩ rfl rfl hl.1 rfl (lv_room (Nat.le_of_ble_eq_true rfl)) dX12_near_39 ⟨Nat.le_of_ble_eq_true rfl, Nat.le_of_ble_eq_true rfl⟩)) (fun r9 hr9 => ?_)
      have hr9 := hr9.trans ((bg_w hB).1)
      subst hr9
      refine lv_icmp_ge (tgt := 109) hx hb dX12_near_42 (by decide) (fun c10 => ?_) (fun c10 => ?_)
      · have c10 := (b_le (nI_toInt (n := wN a) (by omega)) (nI_toInt (n := k_7) (by omega))).mp c10
        refine lv_aload_n hx hb dX12_near_109 rfl (lv_at hl 0 rfl) ?_
        refine lv_iload_n hx hb dX12_near_110 rfl (lv_at hl 3 rfl) ?_
        refine rc_i hAL hS hA (va_runV (As := [.int x1_7]) (rest := []) ⟨hx, hb, hml, hown, noTs⟩ (r_X12_gives l dC dI H.size cs b u7 a hA8 x1_7) ⟨cbE 1 (wd_1621 hE) (wd_126 hE) (wd_1618 hE) rfl rfl (by decide +kernel) ⟨Nat.le_of_ble_eq_true rfl, Nat.le_of_ble_eq_true rfl⟩, (wd_1620 hE), (wd_80 hE)⟩ ⟨PR.blind, r_recv hK hP rfl, (r_pre (av := [.ref (b 0), .int x1_7]) hK hP hJ hE)⟩ rfl rfl hl.1 rfl (lv_room (Nat.le_of_ble_eq_true rfl)) dX12_near_111 ⟨Nat.le_of_ble_eq_true rfl, Nat.le_of_ble_eq_true rfl⟩) (fun r11 u11 H locs hpo11 hP hS => ?_)
        obtain ⟨hr11, hq11⟩ := hpo11
        have hA12 := (hq11.1 1 List.not_mem_nil).trans hA8
        have hfr := FR.step hfr hq11 (fun _ h => absurd h List.not_mem_nil) (by decide) (fun h => rfl)
        refine W.eq (g2 := F0 m 114 ls [.int x1_7]) (by rw [hr11]) ?_
        exact W.iret (v := x1_7) hx hb hr (fun t ht hW => ⟨⟨x1_7, u11, rfl, ⟨trivial, hfr⟩, (show va_P (dC, dI) vwCl (rW cs b u11) t.heap by rw [ht]; exact hP)⟩, hS.F ht⟩) hS.2.2 dX12_near_114
      · have c10 := mt (b_le (nI_toInt (n := wN a) (by omega)) (nI_toInt (n := k_7) (by omega))).mpr c10
        refine lv_aload_n hx hb dX12_near_45 rfl (lv_at hl 0 rfl) ?_
        refine lv_iload_n hx hb dX12_near_46 rfl (lv_at hl 1 rfl) ?_
        refine lv_iload hx hb dX12_near_47 (lv_at hl 4 rfl) ?_
        refine rc_i hAL hS hA (va_runV (As := [.int (nI n4), .int (nI k_7)]) (rest := []) ⟨hx, hb, hml, hown, noTs⟩ (r_X12_wrongPair l dC dI H.size cs b u7 a hA8 (nI n4) (nI k_7) (by first | assumption | omega | rfl | (congr 1; omega))) ⟨cbE 2 (wd_1864 hE) (wd_126 hE) (wd_1861 hE) rfl rfl (by decide +kernel) ⟨Nat.le_of_ble_eq_true rfl, Nat.le_of_ble_eq_true rfl⟩, (wd_1863 hE), (wd_104 hE)⟩ ⟨PR.blind, r_recv hK hP rfl, (r_pre (av := [.ref (b 0), .int (nI n4), .int (nI k_7)]) hK hP hJ hE)⟩ rfl rfl hl.1 rfl (lv_room (Nat.le_of_ble_eq_true rfl)) dX12_near_49 ⟨Nat.le_of_ble_eq_true rfl, Nat.le_of_ble_eq_true rfl⟩) (fun r13 u13 H locs hpo13 hP hS => ?_)
        obtain ⟨hr13, hq13⟩ := hpo13
        obtain ⟨w14, hA14⟩ : ∃ g, rA u13 3 = g := ⟨_, rfl⟩
        rw [hA14] at hr13
        obtain ⟨w15, hA15⟩ : ∃ g, rA u13 4 = g := ⟨_, rfl⟩
        rw [hA15] at hr13
        have hA16 := (hq13.1 1 (by decide)).trans hA8
        have hfr := FR.step hfr hq13 (by decide) (fun _ h => absurd h List.not_mem_nil) (fun h => rfl)
        rcases hr13 with ⟨rfl, hb13⟩ | ⟨rfl, hb13⟩ | ⟨rfl, hb13⟩
        · obtain ⟨n13, hbe13_1, hb13⟩ := hb13
          have hbe13_1 := (nI_eq (by omega) (by omega)).mp hbe13_1
          subst hbe13_1
          obtain ⟨n13_2, hbe13_2, hb13⟩ := hb13
          have hbe13_2 := (nI_eq (by omega) (by omega)).mp hbe13_2
          subst hbe13_2
          obtain ⟨b1, b2, b3, b4, b5, b6, b7, b8, b9, b10, b11⟩ := hb13
          have b12 := pg_le b4
          have b13 := pg_le b7
          refine lv_if_eq (tgt := 58) hx hb dX12_near_52 (by decide) (fun c17 => ?_) (fun c17 => absurd c17 (by decide))
          refine lv_aload_n hx hb dX12_near_58 rfl (lv_at hl 0 rfl) ?_
          refine lv_aload_n hx hb dX12_near_59 rfl (lv_at hl 0 rfl) ?_
          refine r_get (v := .ref (b 2)) hx hb (ly_X12 hE) hown hK hP rfl 4 (by decide) (wd_1385 hE) (fun _ h9 => h9) rfl dX12_near_60 ?_
          refine lv_iconst (v := 0) hx hb dX12_near_63 (by decide) ?_
          refine r_aald (j := 2) (k := 0) (n := 10) (t0 := 4) (j2 := 3) hx hb hK hP (by decide) rfl rfl (by decide) (by decide) rfl dX12_near_64 ?_
          refine lv_aload_n hx hb dX12_near_65 rfl (lv_at hl 0 rfl) ?_
          refine r_get (v := .ref (b 2)) hx hb (ly_X12 hE) hown hK hP rfl 4 (by decide) (wd_1385 hE) (fun _ h9 => h9) rfl dX12_near_66 ?_
          refine lv_iconst (v := 1) hx hb dX12_near_69 (by decide) ?_
          refine r_aald (j := 2) (k := 1) (n := 10) (t0 := 4) (j2 := 4) hx hb hK hP (by decide) rfl rfl (by decide) (by decide) rfl dX12_near_70 ?_
          refine lv_aload_n hx hb dX12_near_71 rfl (lv_at hl 0 rfl) ?_
          refine r_get (v := .ref (b 2)) hx hb (ly_X12 hE) hown hK hP rfl 4 (by decide) (wd_1385 hE) (fun _ h9 => h9) rfl dX12_near_72 ?_
          refine lv_iconst (v := 2) hx hb dX12_near_75 (by decide) ?_
          refine r_aald (j := 2) (k := 2) (n := 10) (t0 := 4) (j2 := 5) hx hb hK hP (by decide) rfl rfl (by decide) (by decide) rfl dX12_near_76 ?_
          obtain ⟨g18, hg18⟩ : ∃ g, rA u13 5 = g := ⟨_, rfl⟩
          refine rc_v hAL hS hA (va_runV (As := [.ref (b 3), .ref (b 4), .ref (b 5)]) (rest := []) ⟨hx, hb, hml, hown, noTs⟩ (r_X12_ways l dC dI H.size cs b u13 a hA16 3 (by decide) w14 hA14 4 (by decide) w15 hA15 5 (by decide) g18 hg18 (by first | assumption | omega | rfl | (congr 1; omega)) (by first | assumption | omega | rfl | (congr 1; omega)) (by first | assumption | omega | rfl | (congr 1; omega)) (by first | assumption | omega | rfl | (congr 1; omega)) (by first | assumption | omega | rfl | (congr 1; omega)) (by first | assumption | omega | rfl | (congr 1; omega)) (by first | assumption | omega | rfl | (congr 1; omega)) (by first | assumption | omega | rfl | (congr 1; omega)) (by first | assumption | omega | rfl | (congr 1; omega)) (by first | assumption | omega | rfl | (congr 1; omega)) (by first | assumption | omega | rfl | (congr 1; omega)) (by first | assumption | omega | rfl | (congr 1; omega)) (by first | assumption | omega | rfl | (congr 1; omega)) (by first | assumption | omega | rfl | (congr 1; omega)) (by first | assumption | omega | rfl | (congr 1; omega))) ⟨cbE 3 (wd_1868 hE) (wd_126 hE) (wd_1865 hE) rfl rfl (by decide +kernel) ⟨Nat.le_of_ble_eq_true rfl, Nat.le_of_ble_eq_true rfl⟩, (wd_1867 hE), (wd_105 hE)⟩ ⟨PR.blind, r_recv hK hP rfl, (r_pre (av := [.ref (b 0), .ref (b 3), .ref (b 4), .ref (b 5)]) hK hP hJ hE)⟩ rfl rfl hl.1 rfl (lv_room (Nat.le_of_ble_eq_true rfl)) dX12_near_77 ⟨Nat.le_of_ble_eq_true rfl, Nat.le_of_ble_eq_true rfl⟩) (fun u19 H locs hpo19 hP hS => ?_)
          obtain ⟨h19_0, h19_1, h19_2, hq19⟩ := hpo19
          obtain ⟨w20, hA20⟩ : ∃ g, rA u19 5 = g := ⟨_, rfl⟩
          rw [hA20] at h19_0 h19_1 h19_2
          have hA21 := (hq19.1 1 (by decide)).trans hA16
          have hA22 := (hq19.1 3 (by decide)).trans hA14
          have hA23 := (hq19.1 4 (by decide)).trans hA15
          have hfr := FR.step hfr hq19 (by decide) (by decide) (fun h => rfl)
          have hl19_0 := pg_le h19_0
          refine lv_iload_n hx hb dX12_near_80 rfl (lv_at hl 3 rfl) ?_
          refine lv_aload_n hx hb dX12_near_81 rfl (lv_at hl 0 rfl) ?_
          refine r_get (v := .ref (b 2)) hx hb (ly_X12 hE) hown hK hP rfl 4 (by decide) (wd_1385 hE) (fun _ h9 => h9) rfl dX12_near_82 ?_
          refine lv_iconst (v := 2) hx hb dX12_near_85 (by decide) ?_
          refine r_aald (j := 2) (k := 2) (n := 10) (t0 := 4) (j2 := 5) hx hb hK hP (by decide) rfl rfl (by decide) (by decide) rfl dX12_near_86 ?_
          refine lv_iconst (v := 1) hx hb dX12_near_87 (by decide) ?_
          refine r_iald (j := 5) (k := 1) (n := 200) (x := nI (rn w20)) hx hb hK hP (by decide) rfl (by decide) (by decide) (by rw [hA20]; exact pg_n h19_0) dX12_near_88 ?_
          refine lv_iload_n hx hb dX12_near_89 rfl (lv_at hl 2 rfl) ?_
          refine lv_icmp_gt (tgt := 100) hx hb dX12_near_90 (by decide) (fun c25 => ?_) (fun c25 => ?_)
          · have c25 := (b_lt (rfl : Int32.toInt y = _) (nI_toInt (n := rn w20) (by omega))).mp c25
            refine lv_iconst (v := 0) hx hb dX12_near_100 (by decide) ?_
            refine lv_ior hx hb dX12_near_101 ?_
            refine lv_topi (fun x26 ex26 => ?_)
            refine lv_istore_n (lv' := [(3, .int x26), (0, .ref (b 0)), (1, .int (nI n4)), (2, .int y), (4, .int (nI k_7))]) hx hb dX12_near_102 rfl hl (by decide) rfl (fun ls hl => ?_)
            refine lv_iinc (v := nI (k_7 + 1)) (lv' := [(4, .int (nI (k_7 + 1))), (3, .int x26), (0, .ref (b 0)), (1, .int (nI n4)), (2, .int y)]) hx hb dX12_near_103 hl (k := 4) rfl (nI_1 k_7) (by decide) rfl (fun ls hl => ?_)
            refine lv_goto (tgt := 35) hx hb dX12_near_106 (by decide) ?_
            exact ih7 _ u19 _ _ _ (by omega) ⟨hP, hS, hfr, (k_7 + 1), x26, rfl, (by first | assumption | omega | rfl | (congr 1; omega)), lv_sub hl [2, 3, 4, 1, 0] rfl⟩
          · have c25 := mt (b_lt (rfl : Int32.toInt y = _) (nI_toInt (n := rn w20) (by omega))).mpr c25
            refine lv_iconst (v := 1) hx hb dX12_near_93 (by decide) ?_
            refine lv_iload hx hb dX12_near_94 (lv_at hl 4 rfl) ?_
            refine lv_ishl hx hb dX12_near_96 ?_
            refine lv_topi (fun x27 ex27 => ?_)
            refine lv_goto (tgt := 101) hx hb dX12_near_97 (by decide) ?_
            refine lv_ior hx hb dX12_near_101 ?_
            refine lv_topi (fun x28 ex28 => ?_)
            refine lv_istore_n (lv' := [(3, .int x28), (0, .ref (b 0)), (1, .int (nI n4)), (2, .int y), (4, .int (nI k_7))]) hx hb dX12_near_102 rfl hl (by decide) rfl (fun ls hl => ?_)
            refine lv_iinc (v := nI (k_7 + 1)) (lv' := [(4, .int (nI (k_7 + 1))), (3, .int x28), (0, .ref (b 0)), (1, .int (nI n4)), (2, .int y)]) hx hb dX12_near_103 hl (k := 4) rfl (nI_1 k_7) (by decide) rfl (fun ls hl => ?_)
            refine lv_goto (tgt := 35) hx hb dX12_near_106 (by decide) ?_
            exact ih7 _ u19 _ _ _ (by omega) ⟨hP, hS, hfr, (k_7 + 1), x28, rfl, (by first | assumption | omega | rfl | (congr 1; omega)), lv_sub hl [2, 3, 4, 1, 0] rfl⟩
        · refine lv_if_eq (tgt := 58) hx hb dX12_near_52 (by decide) (fun c29 => absurd c29 (by decide)) (fun c29 => ?_)
          refine lv_goto (tgt := 103) hx hb dX12_near_55 (by decide) ?_
          refine lv_iinc (v := nI (k_7 + 1)) (lv' := [(4, .int (nI (k_7 + 1))), (0, .ref (b 0)), (1, .int (nI n4)), (2, .int y), (3, .int x1_7)]) hx hb dX12_near_103 hl (k := 4) rfl (nI_1 k_7) (by decide) rfl (fun ls hl => ?_)
          refine lv_goto (tgt := 35) hx hb dX12_near_106 (by decide) ?_
          exact ih7 _ u13 _ _ _ (by omega) ⟨hP, hS, hfr, (k_7 + 1), x1_7, rfl, (by first | assumption | omega | rfl | (congr 1; omega)), lv_sub hl [1, 2, 3, 4, 0] rfl⟩
        · refine lv_if_eq (tgt := 58) hx hb dX12_near_52 (by decide) (fun c30 => absurd c30 (by decide)) (fun c30 => ?_)
          refine lv_goto (tgt := 103) hx hb dX12_near_55 (by decide) ?_
          refine lv_iinc (v := nI (k_7 + 1)) (lv' := [(4, .int (nI (k_7 + 1))), (0, .ref (b 0)), (1, .int (nI n4)), (2, .int y), (3, .int x1_7)]) hx hb dX12_near_103 hl (k := 4) rfl (nI_1 k_7) (by decide) rfl (fun ls hl => ?_)
          refine lv_goto (tgt := 35) hx hb dX12_near_106 (by decide) ?_
          exact ih7 _ u13 _ _ _ (by omega) ⟨hP, hS, hfr, (k_7 + 1), x1_7, rfl, (by first | assumption | omega | rfl | (congr 1; omega)), lv_sub hl [1, 2, 3, 4, 0] rfl⟩
    · refine lv_if_ne (tgt := 30) hx hb dX12_near_21 (by decide) (fun c31 => absurd c31 (by decide)) (fun c31 => ?_)
      refine lv_aload_n hx hb dX12_near_24 rfl (lv_at hl 0 rfl) ?_
      refine lv_iconst (v := 2) hx hb dX12_near_25 (by decide) ?_
      refine rc_i hAL hS hA (va_runV (As := [.int 2]) (rest := []) ⟨hx, hb, hml, hown, noTs⟩ (r_X12_refuse l dC dI s.heap.size cs b u a hA1 2) ⟨cbE 1 (wd_1498 hE) (wd_126 hE) (wd_1495 hE) rfl rfl (by decide +kernel) ⟨Nat.le_of_ble_eq_true rfl, Nat.le_of_ble_eq_true rfl⟩, (wd_1497 hE), (wd_54 hE)⟩ ⟨PR.blind, r_recv hK hP rfl, (r_pre (av := [.ref (b 0), .int 2]) hK hP hJ hE)⟩ rfl rfl hl.1 rfl (lv_room (Nat.le_of_ble_eq_true rfl)) dX12_near_26 ⟨Nat.le_of_ble_eq_true rfl, Nat.le_of_ble_eq_true rfl⟩) (fun r32 u32 H locs hpo32 hP hS => ?_)
      obtain ⟨hr32, hq32⟩ := hpo32
      have hA33 := (hq32.1 1 List.not_mem_nil).trans hA1
      have hfr := FR.step hfr hq32 (fun _ h => absurd h List.not_mem_nil) (by decide) (fun h => rfl)
      subst hr32
      exact W.iret (v := -1) hx hb hr (fun t ht hW => ⟨⟨-1, u32, rfl, ⟨trivial, hfr⟩, (show va_P (dC, dI) vwCl (rW cs b u32) t.heap by rw [ht]; exact hP)⟩, hS.F ht⟩) hS.2.2 dX12_near_29
  · refine lv_if_ne (tgt := 16) hx hb dX12_near_7 (by decide) (fun c34 => absurd c34 (by decide)) (fun c34 => ?_)
    refine lv_aload_n hx hb dX12_near_10 rfl (lv_at hl 0 rfl) ?_
    refine lv_iconst (v := 1) hx hb dX12_near_11 (by decide) ?_
    refine rc_i hAL hS hA (va_runV (As := [.int 1]) (rest := []) ⟨hx, hb, hml, hown, noTs⟩ (r_X12_refuse l dC dI s.heap.size cs b u a hA1 1) ⟨cbE 1 (wd_1498 hE) (wd_126 hE) (wd_1495 hE) rfl rfl (by decide +kernel) ⟨Nat.le_of_ble_eq_true rfl, Nat.le_of_ble_eq_true rfl⟩, (wd_1497 hE), (wd_54 hE)⟩ ⟨PR.blind, r_recv hK hP rfl, (r_pre (av := [.ref (b 0), .int 1]) hK hP hJ hE)⟩ rfl rfl hl.1 rfl (lv_room (Nat.le_of_ble_eq_true rfl)) dX12_near_12 ⟨Nat.le_of_ble_eq_true rfl, Nat.le_of_ble_eq_true rfl⟩) (fun r35 u35 H locs hpo35 hP hS => ?_)
    obtain ⟨hr35, hq35⟩ := hpo35
    have hA36 := (hq35.1 1 List.not_mem_nil).trans hA1
    have hfr := FR.step hfr hq35 (fun _ h => absurd h List.not_mem_nil) (by decide) (fun h => rfl)
    subst hr35
    exact W.iret (v := -1) hx hb hr (fun t ht hW => ⟨⟨-1, u35, rfl, ⟨trivial, hfr⟩, (show va_P (dC, dI) vwCl (rW cs b u35) t.heap by rw [ht]; exact hP)⟩, hS.F ht⟩) hS.2.2 dX12_near_15
