set_option maxHeartbeats 4000000 in
set_option maxRecDepth 100000 in
theorem r_X12_isPower (l : Launch) (dC : Nat → ClassId) (dI : Nat → Nat → Nat) (sz : Nat) (cs : Nat → ClassId) (b : Nat → Nat) (u : RS) (a : Nat → Int32) (hA1 : rA u 1 = a) (jw : Nat) (hjwr : 3 ≤ jw ∧ jw ≤ 14) (w : Nat → Int32) (hAjw : rA u jw = w) (pt : Nat) (k : Nat) (hp0 : GG a) (hp1 : PG a w) (hp2 : rn w ≤ 24) (hp3 : 1 ≤ pt) (hp4 : pt ≤ rn w) (hp5 : dst a (rs w (pt - 1)) = rb w) (hp6 : k < od a (rb w)) (hp7 : jw = 7) : Met l yX12_isPower [.code yX12_isPower cX12_isPower 5 (some .boolean)] ({ frames := 6, cells := 0, slots := 0, locals := 240 }) (PR [.ref (b 0), .ref (b jw), .int (nI pt), .int (nI k)] sz dC dI cs b u) (va_Qi (fun (r : Int32) (u' : RS) => ((r = 1 ∧ (True)) ∨ (r = 0 ∧ (True))) ∧ FR [9, 10, 11, 13] [5] false u u') (BR dC dI cs b) (AR b sz)) 0 0 (AR b sz) := by
  refine Met.ofW (cc := cX12_isPower) (maxL := 5) (ret := (some .boolean)) (by decide) rfl ?_
  intro p e s m args below meth c s₁ B hml hv
  obtain ⟨rfl, hsz, hP, hK, hJ, hE⟩ := hv
  have hx := B.exec
  have hb := B.bytes
  have hr := B.returns
  have hown : s.vm.findClass RX12 = some m.cls := findClass_of_methodNamed B.named
  have hlocks := B.notSynchronized
  subst hsz
  have hAL : ∀ i, i < 108 → AR b s.heap.size (b i) := fun i h => Or.inl ⟨i, h, rfl⟩
  have hA : ∀ q : Nat, s.heap.size ≤ q → AR b s.heap.size q := fun q h => Or.inr h
  have hS : va_S (AR b s.heap.size) s.heap s.heap [] := va_S.rf
  have hfr : FR [9, 10, 11, 13] [5] false u u := FR.refl
  have hl := lv_entry ([.ref (b 0), .ref (b jw), .int (nI pt), .int (nI k)]) (n := 5) (Nat.le_of_ble_eq_true rfl)
  rw [lg_entry_eq]
  generalize (lg_sl ([.ref (b 0), .ref (b jw), .int (nI pt), .int (nI k)]) ++ List.replicate (5 - (lg_sl ([.ref (b 0), .ref (b jw), .int (nI pt), .int (nI k)])).length) Slot.unset).toArray = ls at hl ⊢
  have hl : lv_has ls 5 [(0, .ref (b 0)), (1, .ref (b jw)), (2, .int (nI pt)), (3, .int (nI k))] := hl
  have hG := hp0
  have ha1 := gg_le hp0
  have ha2 := pg_le hp1
  have hbo := gg_od hG (pg_le hp1).1
  refine lv_aload_n hx hb dX12_isPower_0 rfl (lv_at hl 0 rfl) ?_
  refine r_get (v := .ref (b 2)) hx hb (ly_X12 hE) hown hK hP rfl 4 (by decide) (wd_1385 hE) (fun _ h9 => h9) rfl dX12_isPower_1 ?_
  refine lv_bipush (v := 6) hx hb dX12_isPower_4 (by decide) ?_
  refine r_aald (j := 2) (k := 6) (n := 10) (t0 := 4) (j2 := 9) hx hb hK hP (by decide) rfl rfl (by decide) (by decide) rfl dX12_isPower_6 ?_
  refine lv_aload_n hx hb dX12_isPower_7 rfl (lv_at hl 1 rfl) ?_
  refine lv_iconst (v := 0) hx hb dX12_isPower_8 (by decide) ?_
  refine r_iald (j := jw) (k := 0) (n := 200) (x := nI (rb w)) hx hb hK hP (by omega) (rE_row (by omega)) (by decide) (by decide) (by rw [hAjw]; exact pg_b hp1) dX12_isPower_9 ?_
  refine lv_aload_n hx hb dX12_isPower_10 rfl (lv_at hl 1 rfl) ?_
  refine lv_iconst (v := 0) hx hb dX12_isPower_11 (by decide) ?_
  refine vp_callSi (va_Run.run (va_runS (As := [.ref (b jw), .int (nI 0)]) (rest := [.int (nI (rb w)), .ref (b 9)]) ⟨hx, hb, hml, hown, noTs⟩ (r_X12_number l dC dI s.heap.size cs b u a hA1 jw (by omega) w hAjw 0 (by first | assumption | omega | rfl | (congr 1; omega))) ⟨cbE 2 (wd_1664 hE) (wd_126 hE) (wd_1662 hE) rfl rfl (by decide +kernel) ⟨Nat.le_of_ble_eq_true rfl, Nat.le_of_ble_eq_true rfl⟩, (wd_1663 hE)⟩ ⟨PR.blind, (r_pre (av := [.ref (b jw), .int (nI 0)]) hK hP hJ hE)⟩ rfl rfl hl.1 rfl (lv_room (Nat.le_of_ble_eq_true rfl)) dX12_isPower_12 ⟨Nat.le_of_ble_eq_true rfl, Nat.le_of_ble_eq_true rfl⟩)) (fun r10 hr10 => ?_)
  obtain ⟨g11, hg11⟩ : ∃ g, rA u 9 = g := ⟨_, rfl⟩
  refine rc_v hAL hS hA (va_runS (As := [.ref (b 9), .int (nI (rb w)), .int r10]) (rest := []) ⟨hx, hb, hml, hown, noTs⟩ (r_X12_single l dC dI s.heap.size cs b u a hA1 9 (by decide) g11 hg11 (rb w) r10 (by first | assumption | omega | rfl | (congr 1; omega)) (by first | assumption | omega | rfl | (congr 1; omega))) ⟨cbE 3 (wd_1579 hE) (wd_126 hE) (wd_1577 hE) rfl rfl (by decide +kernel) ⟨Nat.le_of_ble_eq_true rfl, Nat.le_of_ble_eq_true rfl⟩, (wd_1578 hE)⟩ ⟨PR.blind, (r_pre (av := [.ref (b 9), .int (nI (rb w)), .int r10]) hK hP hJ hE)⟩ rfl rfl hl.1 rfl (lv_room (Nat.le_of_ble_eq_true rfl)) dX12_isPower_15 ⟨Nat.le_of_ble_eq_true rfl, Nat.le_of_ble_eq_true rfl⟩) (fun u12 H locs hpo12 hP hS => ?_)
  obtain ⟨h12_0, h12_1, h12_2, h12_3, h12_4, hq12⟩ := hpo12
  obtain ⟨w13, hA13⟩ : ∃ g, rA u12 9 = g := ⟨_, rfl⟩
  rw [hA13] at h12_0 h12_1 h12_2 h12_3 h12_4
  have hA14 := (hq12.1 1 (by decide)).trans hA1
  have hA15 := (hq12.1 jw (by simp only [List.mem_cons, List.not_mem_nil, or_false, not_or]; omega)).trans hAjw
  have hfr := FR.step hfr hq12 (by decide) (fun _ h => absurd h List.not_mem_nil) (fun h => rfl)
  have hl12_0 := pg_le h12_0
  refine lv_iconst (v := 0) hx hb dX12_isPower_18 (by decide) ?_
  refine lv_istore (lv' := [(4, .int 0), (0, .ref (b 0)), (1, .ref (b jw)), (2, .int (nI pt)), (3, .int (nI k))]) hx hb dX12_isPower_19 hl (by decide) rfl (fun ls hl => ?_)
  refine r_ind (I := fun n u_ H locs ls => va_P (dC, dI) vwCl (rW cs b u_) H ∧ va_S (AR b s.heap.size) s.heap H locs ∧ FR [9, 10, 11, 13] [5] false u u_ ∧ ∃ (i_16 : Nat) (f1_16 : Nat → Int32), n = pt - i_16 ∧ (PG a f1_16) ∧ (i_16 ≤ pt) ∧ (rn f1_16 = i_16) ∧ (rb f1_16 = rb w) ∧ (vend a f1_16 = vx a w i_16) ∧ (i_16 = pt → f1_16 (2 + 2 * rn f1_16) = nI k) ∧ (rA u_ 9 = f1_16) ∧ lv_has ls 5 [(0, .ref (b 0)), (1, .ref (b jw)), (2, .int (nI pt)), (3, .int (nI k)), (4, .int (nI i_16))]) (fun n u16 H locs ls hI ih16 => ?_) _ u12 _ _ _ ⟨hP, hS, hfr, 0, w13, rfl, (by first | assumption | omega | rfl | (congr 1; omega)), (by first | assumption | omega | rfl | (congr 1; omega)), (by first | assumption | omega | rfl | (congr 1; omega)), (by first | assumption | omega | rfl | (congr 1; omega)), (by rw [vx_0]; omega), (by omega), hA13, lv_sub hl [1, 2, 3, 4, 0] rfl⟩
  obtain ⟨hP, hS, hfr, i_16, f1_16, hmu16, hL16_0, hL16_1, hL16_2, hL16_3, hL16_4, hL16_5, hL16_6, hl⟩ := hI
  have hA17 := (hfr.1 1 (by decide)).trans hA1
  have hA18 := (hfr.1 jw (by simp only [List.mem_cons, List.not_mem_nil, or_false, not_or]; omega)).trans hAjw
  subst hmu16
  have hl16_0 := pg_le hL16_0
  refine lv_iload hx hb dX12_isPower_21 (lv_at hl 4 rfl) ?_
  refine lv_iload_n hx hb dX12_isPower_23 rfl (lv_at hl 2 rfl) ?_
  refine lv_icmp_ge (tgt := 69) hx hb dX12_isPower_24 (by decide) (fun c19 => ?_) (fun c19 => ?_)
  · have c19 := (b_le (nI_toInt (n := pt) (by omega)) (nI_toInt (n := i_16) (by omega))).mp c19
    have hie : i_16 = pt := by omega
    have q4 : vend a f1_16 = rb w := by rw [hL16_4, hie, vx_p (by omega)]; exact hp5
    have q8 : LG a f1_16 := lg_mk rfl q4 (hL16_5 hie) (by omega) (by omega)
    refine lv_aload_n hx hb dX12_isPower_69 rfl (lv_at hl 0 rfl) ?_
    refine r_get (v := .ref (b 2)) hx hb (ly_X12 hE) hown hK hP rfl 4 (by decide) (wd_1385 hE) (fun _ h9 => h9) rfl dX12_isPower_70 ?_
    refine lv_bipush (v := 6) hx hb dX12_isPower_73 (by decide) ?_
    refine r_aald (j := 2) (k := 6) (n := 10) (t0 := 4) (j2 := 9) hx hb hK hP (by decide) rfl rfl (by decide) (by decide) rfl dX12_isPower_75 ?_
    refine lv_aload_n hx hb dX12_isPower_76 rfl (lv_at hl 0 rfl) ?_
    refine r_get (v := .ref (b 2)) hx hb (ly_X12 hE) hown hK hP rfl 4 (by decide) (wd_1385 hE) (fun _ h9 => h9) rfl dX12_isPower_77 ?_
    refine lv_bipush (v := 7) hx hb dX12_isPower_80 (by decide) ?_
    refine r_aald (j := 2) (k := 7) (n := 10) (t0 := 4) (j2 := 10) hx hb hK hP (by decide) rfl rfl (by decide) (by decide) rfl dX12_isPower_82 ?_
    obtain ⟨g20, hg20⟩ : ∃ g, rA u16 10 = g := ⟨_, rfl⟩
    refine rc_v hAL hS hA (va_runS (As := [.ref (b 9), .ref (b 10)]) (rest := []) ⟨hx, hb, hml, hown, noTs⟩ (r_X12_lays l dC dI H.size cs b u16 a hA17 9 (by decide) f1_16 hL16_6 10 (by decide) g20 hg20 (by first | assumption | omega | rfl | (congr 1; omega)) (by first | assumption | omega | rfl | (congr 1; omega)) (by first | assumption | omega | rfl | (congr 1; omega))) ⟨cbE 2 (wd_1706 hE) (wd_126 hE) (wd_1704 hE) rfl rfl (by decide +kernel) ⟨Nat.le_of_ble_eq_true rfl, Nat.le_of_ble_eq_true rfl⟩, (wd_1705 hE)⟩ ⟨PR.blind, (r_pre (av := [.ref (b 9), .ref (b 10)]) hK hP hJ hE)⟩ rfl rfl hl.1 rfl (lv_room (Nat.le_of_ble_eq_true rfl)) dX12_isPower_83 ⟨Nat.le_of_ble_eq_true rfl, Nat.le_of_ble_eq_true rfl⟩) (fun u21 H locs hpo21 hP hS => ?_)
    obtain ⟨h21_0, h21_1, h21_2, h21_3, h21_4, h21_5, hq21⟩ := hpo21
    obtain ⟨w22, hA22⟩ : ∃ g, rA u21 10 = g := ⟨_, rfl⟩
    rw [hA22] at h21_0 h21_1 h21_2 h21_3 h21_4 h21_5
    have hA23 := (hq21.1 1 (by decide)).trans hA17
    have hA24 := (hq21.1 jw (by simp only [List.mem_cons, List.not_mem_nil, or_false, not_or]; omega)).trans hA18
    have hA25 := (hq21.1 9 (by decide)).trans hL16_6
    have hfr := FR.step hfr hq21 (by decide) (fun _ h => absurd h List.not_mem_nil) (fun h => rfl)
    have hl21_0 := pg_le h21_0
    refine lv_iload_n hx hb dX12_isPower_86 rfl (lv_at hl 2 rfl) ?_
    refine lv_istore (lv' := [(4, .int (nI pt)), (0, .ref (b 0)), (1, .ref (b jw)), (2, .int (nI pt)), (3, .int (nI k))]) hx hb dX12_isPower_87 hl (by decide) rfl (fun ls hl => ?_)
    refine r_ind (I := fun n u_ H locs ls => va_P (dC, dI) vwCl (rW cs b u_) H ∧ va_S (AR b s.heap.size) s.heap H locs ∧ FR [9, 10, 11, 13] [5] false u u_ ∧ ∃ (i_26 : Nat) (k1_26 : Nat → Int32), n = 50 - i_26 ∧ (PG a k1_26) ∧ (LG a k1_26) ∧ (pt ≤ i_26) ∧ (i_26 ≤ 24 + pt) ∧ (rn k1_26 ≤ i_26) ∧ (vend a k1_26 = rb w) ∧ (rA u_ 9 = f1_16) ∧ (rA u_ 10 = k1_26) ∧ lv_has ls 5 [(0, .ref (b 0)), (1, .ref (b jw)), (2, .int (nI pt)), (3, .int (nI k)), (4, .int (nI i_26))]) (fun n u26 H locs ls hI ih26 => ?_) _ u21 _ _ _ ⟨hP, hS, hfr, pt, w22, rfl, (by first | assumption | omega | rfl | (congr 1; omega)), (by first | assumption | omega | rfl | (congr 1; omega)), (by first | assumption | omega | rfl | (congr 1; omega)), (by first | assumption | omega | rfl | (congr 1; omega)), (by first | assumption | omega | rfl | (congr 1; omega)), (by first | assumption | omega | rfl | (congr 1; omega)), hA25, hA22, lv_sub hl [1, 2, 3, 4, 0] rfl⟩
    obtain ⟨hP, hS, hfr, i_26, k1_26, hmu26, hL26_0, hL26_1, hL26_2, hL26_3, hL26_4, hL26_5, hL26_6, hL26_7, hl⟩ := hI
    have hA27 := (hfr.1 1 (by decide)).trans hA1
    have hA28 := (hfr.1 jw (by simp only [List.mem_cons, List.not_mem_nil, or_false, not_or]; omega)).trans hAjw
    subst hmu26
    have hl26_0 := pg_le hL26_0
    refine lv_iload hx hb dX12_isPower_89 (lv_at hl 4 rfl) ?_
    refine lv_aload_n hx hb dX12_isPower_91 rfl (lv_at hl 1 rfl) ?_
    refine lv_iconst (v := 1) hx hb dX12_isPower_92 (by decide) ?_
    refine r_iald (j := jw) (k := 1) (n := 200) (x := nI (rn w)) hx hb hK hP (by omega) (rE_row (by omega)) (by decide) (by decide) (by rw [hA28]; exact pg_n hp1) dX12_isPower_93 ?_
    refine lv_icmp_ge (tgt := 148) hx hb dX12_isPower_94 (by decide) (fun c30 => ?_) (fun c30 => ?_)
    · have c30 := (b_le (nI_toInt (n := rn w) (by omega)) (nI_toInt (n := i_26) (by omega))).mp c30
      refine lv_aload_n hx hb dX12_isPower_148 rfl (lv_at hl 0 rfl) ?_
      refine lv_aload_n hx hb dX12_isPower_149 rfl (lv_at hl 0 rfl) ?_
      refine r_get (v := .ref (b 2)) hx hb (ly_X12 hE) hown hK hP rfl 4 (by decide) (wd_1385 hE) (fun _ h9 => h9) rfl dX12_isPower_150 ?_
      refine lv_bipush (v := 7) hx hb dX12_isPower_153 (by decide) ?_
      refine r_aald (j := 2) (k := 7) (n := 10) (t0 := 4) (j2 := 10) hx hb hK hP (by decide) rfl rfl (by decide) (by decide) rfl dX12_isPower_155 ?_
      refine lv_aload_n hx hb dX12_isPower_156 rfl (lv_at hl 0 rfl) ?_
      refine r_get (v := .ref (b 2)) hx hb (ly_X12 hE) hown hK hP rfl 4 (by decide) (wd_1385 hE) (fun _ h9 => h9) rfl dX12_isPower_157 ?_
      refine lv_bipush (v := 8) hx hb dX12_isPower_160 (by decide) ?_
      refine r_aald (j := 2) (k := 8) (n := 10) (t0 := 4) (j2 := 11) hx hb hK hP (by decide) rfl rfl (by decide) (by decide) rfl dX12_isPower_162 ?_
      obtain ⟨g31, hg31⟩ : ∃ g, rA u26 11 = g := ⟨_, rfl⟩
      refine rc_v hAL hS hA (va_runV (As := [.ref (b 10), .ref (b 11)]) (rest := []) ⟨hx, hb, hml, hown, noTs⟩ (r_X12_forms l dC dI H.size cs b u26 a hA27 10 (by decide) k1_26 hL26_7 11 (by decide) g31 hg31 (by first | assumption | omega | rfl | (congr 1; omega)) (by first | assumption | omega | rfl | (congr 1; omega)) (by first | assumption | omega | rfl | (congr 1; omega)) (by first | assumption | omega | rfl | (congr 1; omega))) ⟨cbE 2 (wd_1661 hE) (wd_126 hE) (wd_1658 hE) rfl rfl (by decide +kernel) ⟨Nat.le_of_ble_eq_true rfl, Nat.le_of_ble_eq_true rfl⟩, (wd_1660 hE), (wd_85 hE)⟩ ⟨PR.blind, r_recv hK hP rfl, (r_pre (av := [.ref (b 0), .ref (b 10), .ref (b 11)]) hK hP hJ hE)⟩ rfl rfl hl.1 rfl (lv_room (Nat.le_of_ble_eq_true rfl)) dX12_isPower_163 ⟨Nat.le_of_ble_eq_true rfl, Nat.le_of_ble_eq_true rfl⟩) (fun u32 H locs hpo32 hP hS => ?_)
      obtain ⟨h32_0, h32_1, h32_2, h32_3, h32_4, hq32⟩ := hpo32
      obtain ⟨w33, hA33⟩ : ∃ g, rA u32 11 = g := ⟨_, rfl⟩
      rw [hA33] at h32_0 h32_1 h32_2 h32_3 h32_4
      have hA34 := (hq32.1 1 (by decide)).trans hA27
      have hA35 := (hq32.1 jw (by simp only [List.mem_cons, List.not_mem_nil, or_false, not_or]; omega)).trans hA28
      have hA36 := (hq32.1 9 (by decide)).trans hL26_6
      have hA37 := (hq32.1 10 (by decide)).trans hL26_7
      have hfr := FR.step hfr hq32 (by decide) (by decide) (fun h => rfl)
      have hl32_0 := pg_le h32_0
      refine lv_aload_n hx hb dX12_isPower_166 rfl (lv_at hl 0 rfl) ?_
      refine r_get (v := .ref (b 2)) hx hb (ly_X12 hE) hown hK hP rfl 4 (by decide) (wd_1385 hE) (fun _ h9 => h9) rfl dX12_isPower_167 ?_
      refine lv_bipush (v := 8) hx hb dX12_isPower_170 (by decide) ?_
      refine r_aald (j := 2) (k := 8) (n := 10) (t0 := 4) (j2 := 11) hx hb hK hP (by decide) rfl rfl (by decide) (by decide) rfl dX12_isPower_172 ?_
      refine lv_aload_n hx hb dX12_isPower_173 rfl (lv_at hl 1 rfl) ?_
      refine vp_callSi (va_Run.run (va_runS (As := [.ref (b 11), .ref (b jw)]) (rest := []) ⟨hx, hb, hml, hown, noTs⟩ (r_X12_isLike l dC dI H.size cs b u32 a hA34 11 (by decide) w33 hA33 jw (by omega) w hA35 (by first | assumption | omega | rfl | (congr 1; omega)) (by first | assumption | omega | rfl | (congr 1; omega))) ⟨cbE 2 (wd_1675 hE) (wd_126 hE) (wd_1673 hE) rfl rfl (by decide +kernel) ⟨Nat.le_of_ble_eq_true rfl, Nat.le_of_ble_eq_true rfl⟩, (wd_1674 hE)⟩ ⟨PR.blind, (r_pre (av := [.ref (b 11), .ref (b jw)]) hK hP hJ hE)⟩ rfl rfl hl.1 rfl (lv_room (Nat.le_of_ble_eq_true rfl)) dX12_isPower_174 ⟨Nat.le_of_ble_eq_true rfl, Nat.le_of_ble_eq_true rfl⟩)) (fun r38 hr38 => ?_)
      rcases hr38 with ⟨rfl, hb38⟩ | ⟨rfl, hb38⟩
      · exact W.zret (v := 1) hx hb hr rfl (fun t ht hW => ⟨⟨1, u32, rfl, ⟨Or.inl ⟨rfl, by trivial⟩, hfr⟩, (show va_P (dC, dI) vwCl (rW cs b u32) t.heap by rw [ht]; exact hP)⟩, hS.F ht⟩) hS.2.2 dX12_isPower_177
      · exact W.zret (v := 0) hx hb hr rfl (fun t ht hW => ⟨⟨0, u32, rfl, ⟨Or.inr ⟨rfl, by trivial⟩, hfr⟩, (show va_P (dC, dI) vwCl (rW cs b u32) t.heap by rw [ht]; exact hP)⟩, hS.F ht⟩) hS.2.2 dX12_isPower_177
    · have c30 := mt (b_le (nI_toInt (n := rn w) (by omega)) (nI_toInt (n := i_26) (by omega))).mpr c30
      refine lv_aload_n hx hb dX12_isPower_97 rfl (lv_at hl 0 rfl) ?_
      refine lv_aload_n hx hb dX12_isPower_98 rfl (lv_at hl 0 rfl) ?_
      refine r_get (v := .ref (b 2)) hx hb (ly_X12 hE) hown hK hP rfl 4 (by decide) (wd_1385 hE) (fun _ h9 => h9) rfl dX12_isPower_99 ?_
      refine lv_bipush (v := 7) hx hb dX12_isPower_102 (by decide) ?_
      refine r_aald (j := 2) (k := 7) (n := 10) (t0 := 4) (j2 := 10) hx hb hK hP (by decide) rfl rfl (by decide) (by decide) rfl dX12_isPower_104 ?_
      refine lv_aload_n hx hb dX12_isPower_105 rfl (lv_at hl 0 rfl) ?_
      refine r_get (v := .ref (b 2)) hx hb (ly_X12 hE) hown hK hP rfl 4 (by decide) (wd_1385 hE) (fun _ h9 => h9) rfl dX12_isPower_106 ?_
      refine lv_bipush (v := 6) hx hb dX12_isPower_109 (by decide) ?_
      refine r_aald (j := 2) (k := 6) (n := 10) (t0 := 4) (j2 := 9) hx hb hK hP (by decide) rfl rfl (by decide) (by decide) rfl dX12_isPower_111 ?_
      refine lv_aload_n hx hb dX12_isPower_112 rfl (lv_at hl 0 rfl) ?_
      refine r_get (v := .ref (b 2)) hx hb (ly_X12 hE) hown hK hP rfl 4 (by decide) (wd_1385 hE) (fun _ h9 => h9) rfl dX12_isPower_113 ?_
      refine lv_bipush (v := 8) hx hb dX12_isPower_116 (by decide) ?_
      refine r_aald (j := 2) (k := 8) (n := 10) (t0 := 4) (j2 := 11) hx hb hK hP (by decide) rfl rfl (by decide) (by decide) rfl dX12_isPower_118 ?_
      obtain ⟨g39, hg39⟩ : ∃ g, rA u26 11 = g := ⟨_, rfl⟩
      refine rc_v hAL hS hA (va_runV (As := [.ref (b 10), .ref (b 9), .ref (b 11)]) (rest := []) ⟨hx, hb, hml, hown, noTs⟩ (r_X12_joins l dC dI H.size cs b u26 a hA27 10 (by decide) k1_26 hL26_7 9 (by decide) f1_16 hL26_6 11 (by decide) g39 hg39 (by first | assumption | omega | rfl | (congr 1; omega)) (by first | assumption | omega | rfl | (congr 1; omega)) (by first | assumption | omega | rfl | (congr 1; omega)) (by first | assumption | omega | rfl | (congr 1; omega)) (by first | assumption | omega | rfl | (congr 1; omega)) (by first | assumption | omega | rfl | (congr 1; omega)) (by first | assumption | omega | rfl | (congr 1; omega)) (by first | assumption | omega | rfl | (congr 1; omega)) (by first | assumption | omega | rfl | (congr 1; omega)) (by first | assumption | omega | rfl | (congr 1; omega)) (by first | assumption | omega | rfl | (congr 1; omega)) (by first | assumption | omega | rfl | (congr 1; omega))) ⟨cbE 3 (wd_1703 hE) (wd_126 hE) (wd_1700 hE) rfl rfl (by decide +kernel) ⟨Nat.le_of_ble_eq_true rfl, Nat.le_of_ble_eq_true rfl⟩, (wd_1702 hE), (wd_89 hE)⟩ ⟨PR.blind, r_recv hK hP rfl, (r_pre (av := [.ref (b 0), .ref (b 10), .ref (b 9), .ref (b 11)]) hK hP hJ hE)⟩ rfl rfl hl.1 rfl (lv_room (Nat.le_of_ble_eq_true rfl)) dX12_isPower_119 ⟨Nat.le_of_ble_eq_true rfl, Nat.le_of_ble_eq_true rfl⟩) (fun u40 H locs hpo40 hP hS => ?_)
      obtain ⟨h40_0, h40_1, h40_2, h40_3, h40_4, hq40⟩ := hpo40
      obtain ⟨w41, hA41⟩ : ∃ g, rA u40 11 = g := ⟨_, rfl⟩
      rw [hA41] at h40_0 h40_1 h40_2 h40_3 h40_4
      have hA42 := (hq40.1 1 (by decide)).trans hA27
      have hA43 := (hq40.1 jw (by simp only [List.mem_cons, List.not_mem_nil, or_false, not_or]; omega)).trans hA28
      have hA44 := (hq40.1 9 (by decide)).trans hL26_6
      have hA45 := (hq40.1 10 (by decide)).trans hL26_7
      have hfr := FR.step hfr hq40 (by decide) (by decide) (fun h => rfl)
      have hl40_0 := pg_le h40_0
      refine lv_aload_n hx hb dX12_isPower_122 rfl (lv_at hl 0 rfl) ?_
      refine r_get (v := .ref (b 2)) hx hb (ly_X12 hE) hown hK hP rfl 4 (by decide) (wd_1385 hE) (fun _ h9 => h9) rfl dX12_isPower_123 ?_
      refine lv_bipush (v := 8) hx hb dX12_isPower_126 (by decide) ?_
      refine r_aald (j := 2) (k := 8) (n := 10) (t0 := 4) (j2 := 11) hx hb hK hP (by decide) rfl rfl (by decide) (by decide) rfl dX12_isPower_128 ?_
      refine lv_aload_n hx hb dX12_isPower_129 rfl (lv_at hl 0 rfl) ?_
      refine r_get (v := .ref (b 2)) hx hb (ly_X12 hE) hown hK hP rfl 4 (by decide) (wd_1385 hE) (fun _ h9 => h9) rfl dX12_isPower_130 ?_
      refine lv_bipush (v := 7) hx hb dX12_isPower_133 (by decide) ?_
      refine r_aald (j := 2) (k := 7) (n := 10) (t0 := 4) (j2 := 10) hx hb hK hP (by decide) rfl rfl (by decide) (by decide) rfl dX12_isPower_135 ?_
      refine rc_v hAL hS hA (va_runS (As := [.ref (b 11), .ref (b 10)]) (rest := []) ⟨hx, hb, hml, hown, noTs⟩ (r_X12_lays l dC dI H.size cs b u40 a hA42 11 (by decide) w41 hA41 10 (by decide) k1_26 hA45 (by first | assumption | omega | rfl | (congr 1; omega)) (by first | assumption | omega | rfl | (congr 1; omega)) (by first | assumption | omega | rfl | (congr 1; omega))) ⟨cbE 2 (wd_1706 hE) (wd_126 hE) (wd_1704 hE) rfl rfl (by decide +kernel) ⟨Nat.le_of_ble_eq_true rfl, Nat.le_of_ble_eq_true rfl⟩, (wd_1705 hE)⟩ ⟨PR.blind, (r_pre (av := [.ref (b 11), .ref (b 10)]) hK hP hJ hE)⟩ rfl rfl hl.1 rfl (lv_room (Nat.le_of_ble_eq_true rfl)) dX12_isPower_136 ⟨Nat.le_of_ble_eq_true rfl, Nat.le_of_ble_eq_true rfl⟩) (fun u46 H locs hpo46 hP hS => ?_)
      obtain ⟨h46_0, h46_1, h46_2, h46_3, h46_4, h46_5, hq46⟩ := hpo46
      obtain ⟨w47, hA47⟩ : ∃ g, rA u46 10 = g := ⟨_, rfl⟩
      rw [hA47] at h46_0 h46_1 h46_2 h46_3 h46_4 h46_5
      have hA48 := (hq46.1 1 (by decide)).trans hA42
      have hA49 := (hq46.1 jw (by simp only [List.mem_cons, List.not_mem_nil, or_false, not_or]; omega)).trans hA43
      have hA50 := (hq46.1 9 (by decide)).trans hA44
      have hA51 := (hq46.1 11 (by decide)).trans hA41
      have hfr := FR.step hfr hq46 (by decide) (fun _ h => absurd h List.not_mem_nil) (fun h => rfl)
      have hl46_0 := pg_le h46_0
      refine lv_iload hx hb dX12_isPower_139 (lv_at hl 4 rfl) ?_
      refine lv_iload_n hx hb dX12_isPower_141 rfl (lv_at hl 2 rfl) ?_
      refine lv_iadd hx hb dX12_isPower_142 ?_
      refine W.eq (g2 := F0 m 143 ls [.int (nI (i_26 + pt))]) (congrArg (fun z : Int32 => F0 m 143 ls (.int z :: [])) (nI_add i_26 pt)) ?_
      refine lv_istore (lv' := [(4, .int (nI (i_26 + pt))), (0, .ref (b 0)), (1, .ref (b jw)), (2, .int (nI pt)), (3, .int (nI k))]) hx hb dX12_isPower_143 hl (by decide) rfl (fun ls hl => ?_)
      refine lv_goto (tgt := 89) hx hb dX12_isPower_145 (by decide) ?_
      exact ih26 _ u46 _ _ _ (by omega) ⟨hP, hS, hfr, (i_26 + pt), w47, rfl, (by first | assumption | omega | rfl | (congr 1; omega)), (by first | assumption | omega | rfl | (congr 1; omega)), (by first | assumption | omega | rfl | (congr 1; omega)), (by first | assumption | omega | rfl | (congr 1; omega)), (by first | assumption | omega | rfl | (congr 1; omega)), (by first | assumption | omega | rfl | (congr 1; omega)), hA50, hA47, lv_sub hl [1, 2, 3, 4, 0] rfl⟩
  · have c19 := mt (b_le (nI_toInt (n := pt) (by omega)) (nI_toInt (n := i_16) (by omega))).mpr c19
    have hsl := pg_sl hp1 (i := i_16) (by omega)
    have hsv := pg_sv hp1 (i := i_16) (by omega)
    refine lv_aload_n hx hb dX12_isPower_27 rfl (lv_at hl 0 rfl) ?_
    refine r_get (v := .ref (b 2)) hx hb (ly_X12 hE) hown hK hP rfl 4 (by decide) (wd_1385 hE) (fun _ h9 => h9) rfl dX12_isPower_28 ?_
    refine lv_bipush (v := 6) hx hb dX12_isPower_31 (by decide) ?_
    refine r_aald (j := 2) (k := 6) (n := 10) (t0 := 4) (j2 := 9) hx hb hK hP (by decide) rfl rfl (by decide) (by decide) rfl dX12_isPower_33 ?_
    refine lv_aload_n hx hb dX12_isPower_34 rfl (lv_at hl 1 rfl) ?_
    refine lv_iload hx hb dX12_isPower_35 (lv_at hl 4 rfl) ?_
    refine vp_callSi (va_Run.run (va_runS (As := [.ref (b jw), .int (nI i_16)]) (rest := [.ref (b 9)]) ⟨hx, hb, hml, hown, noTs⟩ (r_X12_step l dC dI H.size cs b u16 a hA17 jw (by omega) w hA18 i_16 (by first | assumption | omega | rfl | (congr 1; omega)) (by first | assumption | omega | rfl | (congr 1; omega))) ⟨cbE 2 (wd_1602 hE) (wd_126 hE) (wd_1600 hE) rfl rfl (by decide +kernel) ⟨Nat.le_of_ble_eq_true rfl, Nat.le_of_ble_eq_true rfl⟩, (wd_1601 hE)⟩ ⟨PR.blind, (r_pre (av := [.ref (b jw), .int (nI i_16)]) hK hP hJ hE)⟩ rfl rfl hl.1 rfl (lv_room (Nat.le_of_ble_eq_true rfl)) dX12_isPower_37 ⟨Nat.le_of_ble_eq_true rfl, Nat.le_of_ble_eq_true rfl⟩)) (fun r52 hr52 => ?_)
    have hau52 := pg_sl (a := a) (w := w) (i := i_16) (by assumption) (by first | assumption | omega)
    subst hr52
    refine lv_iload hx hb dX12_isPower_40 (lv_at hl 4 rfl) ?_
    refine lv_iconst (v := 1) hx hb dX12_isPower_42 (by decide) ?_
    refine lv_iadd hx hb dX12_isPower_43 ?_
    refine W.eq (g2 := F0 m 44 ls [.int (nI (i_16 + 1)), .int (nI (rs w i_16)), .ref (b 9)]) (congrArg (fun z : Int32 => F0 m 44 ls (.int z :: [.int (nI (rs w i_16)), .ref (b 9)])) (nI_add i_16 1)) ?_
    refine lv_iload_n hx hb dX12_isPower_44 rfl (lv_at hl 2 rfl) ?_
    refine lv_icmp_ge (tgt := 59) hx hb dX12_isPower_45 (by decide) (fun c53 => ?_) (fun c53 => ?_)
    · have c53 := (b_le (nI_toInt (n := pt) (by omega)) (nI_toInt (n := i_16 + 1) (by omega))).mp c53
      refine lv_iload_n hx hb dX12_isPower_59 rfl (lv_at hl 3 rfl) ?_
      refine rc_v hAL hS hA (va_runS (As := [.ref (b 9), .int (nI (rs w i_16)), .int (nI k)]) (rest := []) ⟨hx, hb, hml, hown, noTs⟩ (r_X12_goes l dC dI H.size cs b u16 a hA17 9 (by decide) f1_16 hL16_6 (rs w i_16) (nI k) (by first | assumption | omega | rfl | (congr 1; omega)) (by first | assumption | omega | rfl | (congr 1; omega)) (by first | assumption | omega | rfl | (congr 1; omega)) (by first | assumption | omega | rfl | (congr 1; omega)) (by first | assumption | omega | rfl | (congr 1; omega))) ⟨cbE 3 (wd_1609 hE) (wd_126 hE) (wd_1607 hE) rfl rfl (by decide +kernel) ⟨Nat.le_of_ble_eq_true rfl, Nat.le_of_ble_eq_true rfl⟩, (wd_1608 hE)⟩ ⟨PR.blind, (r_pre (av := [.ref (b 9), .int (nI (rs w i_16)), .int (nI k)]) hK hP hJ hE)⟩ rfl rfl hl.1 rfl (lv_room (Nat.le_of_ble_eq_true rfl)) dX12_isPower_60 ⟨Nat.le_of_ble_eq_true rfl, Nat.le_of_ble_eq_true rfl⟩) (fun u54 H locs hpo54 hP hS => ?_)
      obtain ⟨h54_0, h54_1, h54_2, h54_3, h54_4, h54_5, h54_6, h54_7, hq54⟩ := hpo54
      obtain ⟨w55, hA55⟩ : ∃ g, rA u54 9 = g := ⟨_, rfl⟩
      rw [hA55] at h54_0 h54_1 h54_2 h54_3 h54_4 h54_5 h54_6 h54_7
      have hA56 := (hq54.1 1 (by decide)).trans hA17
      have hA57 := (hq54.1 jw (by simp only [List.mem_cons, List.not_mem_nil, or_false, not_or]; omega)).trans hA18
      have hfr := FR.step hfr hq54 (by decide) (fun _ h => absurd h List.not_mem_nil) (fun h => rfl)
      have hl54_0 := pg_le h54_0
      have gn := h54_1
      have gx := h54_4
      refine lv_iinc (v := nI (i_16 + 1)) (lv' := [(4, .int (nI (i_16 + 1))), (0, .ref (b 0)), (1, .ref (b jw)), (2, .int (nI pt)), (3, .int (nI k))]) hx hb dX12_isPower_63 hl (k := 4) rfl (nI_1 i_16) (by decide) rfl (fun ls hl => ?_)
      refine lv_goto (tgt := 21) hx hb dX12_isPower_66 (by decide) ?_
      exact ih16 _ u54 _ _ _ (by omega) ⟨hP, hS, hfr, (i_16 + 1), w55, rfl, (by first | assumption | omega | rfl | (congr 1; omega)), (by first | assumption | omega | rfl | (congr 1; omega)), (by first | assumption | omega | rfl | (congr 1; omega)), (by first | assumption | omega | rfl | (congr 1; omega)), (by rw [vx_s]; omega), (by first | (intro hki; omega) | (intro _; rw [gn]; exact gx)), hA55, lv_sub hl [1, 2, 3, 4, 0] rfl⟩
    · have c53 := mt (b_le (nI_toInt (n := pt) (by omega)) (nI_toInt (n := i_16 + 1) (by omega))).mpr c53
      refine lv_aload_n hx hb dX12_isPower_48 rfl (lv_at hl 1 rfl) ?_
      refine lv_iload hx hb dX12_isPower_49 (lv_at hl 4 rfl) ?_
      refine lv_iconst (v := 1) hx hb dX12_isPower_51 (by decide) ?_
      refine lv_iadd hx hb dX12_isPower_52 ?_
      refine W.eq (g2 := F0 m 53 ls [.int (nI (i_16 + 1)), .ref (b jw), .int (nI (rs w i_16)), .ref (b 9)]) (congrArg (fun z : Int32 => F0 m 53 ls (.int z :: [.ref (b jw), .int (nI (rs w i_16)), .ref (b 9)])) (nI_add i_16 1)) ?_
      refine vp_callSi (va_Run.run (va_runS (As := [.ref (b jw), .int (nI (i_16 + 1))]) (rest := [.int (nI (rs w i_16)), .ref (b 9)]) ⟨hx, hb, hml, hown, noTs⟩ (r_X12_number l dC dI H.size cs b u16 a hA17 jw (by omega) w hA18 (i_16 + 1) (by first | assumption | omega | rfl | (congr 1; omega))) ⟨cbE 2 (wd_1664 hE) (wd_126 hE) (wd_1662 hE) rfl rfl (by decide +kernel) ⟨Nat.le_of_ble_eq_true rfl, Nat.le_of_ble_eq_true rfl⟩, (wd_1663 hE)⟩ ⟨PR.blind, (r_pre (av := [.ref (b jw), .int (nI (i_16 + 1))]) hK hP hJ hE)⟩ rfl rfl hl.1 rfl (lv_room (Nat.le_of_ble_eq_true rfl)) dX12_isPower_53 ⟨Nat.le_of_ble_eq_true rfl, Nat.le_of_ble_eq_true rfl⟩)) (fun r58 hr58 => ?_)
      refine lv_goto (tgt := 60) hx hb dX12_isPower_56 (by decide) ?_
      refine rc_v hAL hS hA (va_runS (As := [.ref (b 9), .int (nI (rs w i_16)), .int r58]) (rest := []) ⟨hx, hb, hml, hown, noTs⟩ (r_X12_goes l dC dI H.size cs b u16 a hA17 9 (by decide) f1_16 hL16_6 (rs w i_16) r58 (by first | assumption | omega | rfl | (congr 1; omega)) (by first | assumption | omega | rfl | (congr 1; omega)) (by first | assumption | omega | rfl | (congr 1; omega)) (by first | assumption | omega | rfl | (congr 1; omega)) (by first | assumption | omega | rfl | (congr 1; omega))) ⟨cbE 3 (wd_1609 hE) (wd_126 hE) (wd_1607 hE) rfl rfl (by decide +kernel) ⟨Nat.le_of_ble_eq_true rfl, Nat.le_of_ble_eq_true rfl⟩, (wd_1608 hE)⟩ ⟨PR.blind, (r_pre (av := [.ref (b 9), .int (nI (rs w i_16)), .int r58]) hK hP hJ hE)⟩ rfl rfl hl.1 rfl (lv_room (Nat.le_of_ble_eq_true rfl)) dX12_isPower_60 ⟨Nat.le_of_ble_eq_true rfl, Nat.le_of_ble_eq_true rfl⟩) (fun u59 H locs hpo59 hP hS => ?_)
      obtain ⟨h59_0, h59_1, h59_2, h59_3, h59_4, h59_5, h59_6, h59_7, hq59⟩ := hpo59
      obtain ⟨w60, hA60⟩ : ∃ g, rA u59 9 = g := ⟨_, rfl⟩
      rw [hA60] at h59_0 h59_1 h59_2 h59_3 h59_4 h59_5 h59_6 h59_7
      have hA61 := (hq59.1 1 (by decide)).trans hA17
      have hA62 := (hq59.1 jw (by simp only [List.mem_cons, List.not_mem_nil, or_false, not_or]; omega)).trans hA18
      have hfr := FR.step hfr hq59 (by decide) (fun _ h => absurd h List.not_mem_nil) (fun h => rfl)
      have hl59_0 := pg_le h59_0
      have gn := h59_1
      have gx := h59_4
      refine lv_iinc (v := nI (i_16 + 1)) (lv' := [(4, .int (nI (i_16 + 1))), (0, .ref (b 0)), (1, .ref (b jw)), (2, .int (nI pt)), (3, .int (nI k))]) hx hb dX12_isPower_63 hl (k := 4) rfl (nI_1 i_16) (by decide) rfl (fun ls hl => ?_)
      refine lv_goto (tgt := 21) hx hb dX12_isPower_66 (by decide) ?_
      exact ih16 _ u59 _ _ _ (by omega) ⟨hP, hS, hfr, (i_16 + 1), w60, rfl, (by first | assumption | omega | rfl | (congr 1; omega)), (by first | assumption | omega | rfl | (congr 1; omega)), (by first | assumption | omega | rfl | (congr 1; omega)), (by first | assumption | omega | rfl | (congr 1; omega)), (by rw [vx_s]; omega), (by first | (intro hki; omega) | (intro _; rw [gn]; exact gx)), hA60, lv_sub hl [1, 2, 3, 4, 0] rfl⟩

set_option maxHeartbeats 4000000 in
set_option maxRecDepth 100000 in
theorem r_X12_rootOf (l : Launch) (dC : Nat → ClassId) (dI : Nat → Nat → Nat) (sz : Nat) (cs : Nat → ClassId) (b : Nat → Nat) (u : RS) (a : Nat → Int32) (hA1 : rA u 1 = a) (jw : Nat) (hjwr : 3 ≤ jw ∧ jw ≤ 14) (w : Nat → Int32) (hAjw : rA u jw = w) (hp0 : GG a) (hp1 : PG a w) (hp2 : rn w ≤ 24) (hp3 : jw = 7) : Met l yX12_rootOf [.code yX12_rootOf cX12_rootOf 4 (some .int)] ({ frames := 7, cells := 0, slots := 0, locals := 280 }) (PR [.ref (b 0), .ref (b jw)] sz dC dI cs b u) (va_Qi (fun (r : Int32) (u' : RS) => (True) ∧ FR [9, 10, 11, 13] [5] false u u') (BR dC dI cs b) (AR b sz)) 0 0 (AR b sz) := by
  refine Met.ofW (cc := cX12_rootOf) (maxL := 4) (ret := (some .int)) (by decide) rfl ?_
  intro p e s m args below meth c s₁ B hml hv
  obtain ⟨rfl, hsz, hP, hK, hJ, hE⟩ := hv
  have hx := B.exec
  have hb := B.bytes
  have hr := B.returns
  have hown : s.vm.findClass RX12 = some m.cls := findClass_of_methodNamed B.named
  have hlocks := B.notSynchronized
  subst hsz
  have hAL : ∀ i, i < 108 → AR b s.heap.size (b i) := fun i h => Or.inl ⟨i, h, rfl⟩
  have hA : ∀ q : Nat, s.heap.size ≤ q → AR b s.heap.size q := fun q h => Or.inr h
  have hS : va_S (AR b s.heap.size) s.heap s.heap [] := va_S.rf
  have hfr : FR [9, 10, 11, 13] [5] false u u := FR.refl
  have hl := lv_entry ([.ref (b 0), .ref (b jw)]) (n := 4) (Nat.le_of_ble_eq_true rfl)
  rw [lg_entry_eq]
  generalize (lg_sl ([.ref (b 0), .ref (b jw)]) ++ List.replicate (4 - (lg_sl ([.ref (b 0), .ref (b jw)])).length) Slot.unset).toArray = ls at hl ⊢
  have hl : lv_has ls 4 [(0, .ref (b 0)), (1, .ref (b jw))] := hl
  have hG := hp0
  have ha1 := gg_le hp0
  have ha2 := pg_le hp1
  refine lv_iconst (v := 1) hx hb dX12_rootOf_0 (by decide) ?_
  refine lv_istore_n (lv' := [(2, .int 1), (0, .ref (b 0)), (1, .ref (b jw))]) hx hb dX12_rootOf_1 rfl hl (by decide) rfl (fun ls hl => ?_)
  refine r_ind (I := fun n u_ H locs ls => va_P (dC, dI) vwCl (rW cs b u_) H ∧ va_S (AR b s.heap.size) s.heap H locs ∧ FR [9, 10, 11, 13] [5] false u u_ ∧ ∃ (q1_5 : Nat), n = 30 - q1_5 ∧ (1 ≤ q1_5) ∧ (q1_5 ≤ rn w + 1) ∧ lv_has ls 4 [(0, .ref (b 0)), (1, .ref (b jw)), (2, .int (nI q1_5))]) (fun n u5 H locs ls hI ih5 => ?_) _ u _ _ _ ⟨hP, hS, hfr, 1, rfl, (by first | assumption | omega | rfl | (congr 1; omega)), (by first | assumption | omega | rfl | (congr 1; omega)), lv_sub hl [1, 2, 0] rfl⟩
  obtain ⟨hP, hS, hfr, q1_5, hmu5, hL5_0, hL5_1, hl⟩ := hI
  have hA6 := (hfr.1 1 (by decide)).trans hA1
  have hA7 := (hfr.1 jw (by simp only [List.mem_cons, List.not_mem_nil, or_false, not_or]; omega)).trans hAjw
  subst hmu5
  refine lv_iload_n hx hb dX12_rootOf_2 rfl (lv_at hl 2 rfl) ?_
  refine lv_aload_n hx hb dX12_rootOf_3 rfl (lv_at hl 1 rfl) ?_
  refine lv_iconst (v := 1) hx hb dX12_rootOf_4 (by decide) ?_
  refine r_iald (j := jw) (k := 1) (n := 200) (x := nI (rn w)) hx hb hK hP (by omega) (rE_row (by omega)) (by decide) (by decide) (by rw [hA7]; exact pg_n hp1) dX12_rootOf_5 ?_
  refine lv_icmp_ge (tgt := 78) hx hb dX12_rootOf_6 (by decide) (fun c9 => ?_) (fun c9 => ?_)
  · have c9 := (b_le (nI_toInt (n := rn w) (by omega)) (nI_toInt (n := q1_5) (by omega))).mp c9
    refine lv_iconst (v := 1) hx hb dX12_rootOf_78 (by decide) ?_
    exact W.iret (v := 1) hx hb hr (fun t ht hW => ⟨⟨1, u5, rfl, ⟨trivial, hfr⟩, (show va_P (dC, dI) vwCl (rW cs b u5) t.heap by rw [ht]; exact hP)⟩, hS.F ht⟩) hS.2.2 dX12_rootOf_79
  · have c9 := mt (b_le (nI_toInt (n := rn w) (by omega)) (nI_toInt (n := q1_5) (by omega))).mpr c9
    refine lv_aload_n hx hb dX12_rootOf_9 rfl (lv_at hl 1 rfl) ?_
    refine lv_iconst (v := 1) hx hb dX12_rootOf_10 (by decide) ?_
    refine r_iald (j := jw) (k := 1) (n := 200) (x := nI (rn w)) hx hb hK hP (by omega) (rE_row (by omega)) (by decide) (by decide) (by rw [hA7]; exact pg_n hp1) dX12_rootOf_11 ?_
    refine lv_iload_n hx hb dX12_rootOf_12 rfl (lv_at hl 2 rfl) ?_
    refine lv_irem hx hb dX12_rootOf_13 (nI_ne0 (n := q1_5) (by omega) (by omega)) ?_
    refine W.eq (g2 := F0 m 14 ls [.int (nI ((rn w) % q1_5))]) (congrArg (fun z : Int32 => F0 m 14 ls (.int z :: [])) (pk_rem (a := rn w) (d := q1_5) (by omega) (by omega) (by omega))) ?_
    have hmd11 := Nat.mod_lt (rn w) (show 0 < q1_5 by omega)
    refine lv_if_ne (tgt := 72) hx hb dX12_rootOf_14 (by decide) (fun c12 => ?_) (fun c12 => ?_)
    · have c12 := mt (b_eq (nI_toInt (n := (rn w) % q1_5) (by omega)) (show Int32.toInt 0 = 0 from rfl)).mpr c12
      refine lv_iinc (v := nI (q1_5 + 1)) (lv' := [(2, .int (nI (q1_5 + 1))), (0, .ref (b 0)), (1, .ref (b jw))]) hx hb dX12_rootOf_72 hl (k := 2) rfl (nI_1 q1_5) (by decide) rfl (fun ls hl => ?_)
      refine lv_goto (tgt := 2) hx hb dX12_rootOf_75 (by decide) ?_
      exact ih5 _ u5 _ _ _ (by omega) ⟨hP, hS, hfr, (q1_5 + 1), rfl, (by first | assumption | omega | rfl | (congr 1; omega)), (by first | assumption | omega | rfl | (congr 1; omega)), lv_sub hl [1, 2, 0] rfl⟩
    · have c12 := (b_eq (nI_toInt (n := (rn w) % q1_5) (by omega)) (show Int32.toInt 0 = 0 from rfl)).mp c12
      refine lv_aload_n hx hb dX12_rootOf_17 rfl (lv_at hl 0 rfl) ?_
      refine lv_aload_n hx hb dX12_rootOf_18 rfl (lv_at hl 1 rfl) ?_
      refine lv_iload_n hx hb dX12_rootOf_19 rfl (lv_at hl 2 rfl) ?_
      refine lv_iconst (v := 1) hx hb dX12_rootOf_20 (by decide) ?_
      refine lv_isub hx hb dX12_rootOf_21 ?_
      refine W.eq (g2 := F0 m 22 ls [.int (nI (q1_5 - 1)), .ref (b jw), .ref (b 0)]) (congrArg (fun z : Int32 => F0 m 22 ls (.int z :: [.ref (b jw), .ref (b 0)])) (pk_sub (a := q1_5) (b := 1) (by omega))) ?_
      refine vp_callSi (va_Run.run (va_runS (As := [.ref (b jw), .int (nI (q1_5 - 1))]) (rest := [.ref (b 0)]) ⟨hx, hb, hml, hown, noTs⟩ (r_X12_step l dC dI H.size cs b u5 a hA6 jw (by omega) w hA7 (q1_5 - 1) (by first | assumption | omega | rfl | (congr 1; omega)) (by first | assumption | omega | rfl | (congr 1; omega))) ⟨cbE 2 (wd_1602 hE) (wd_126 hE) (wd_1600 hE) rfl rfl (by decide +kernel) ⟨Nat.le_of_ble_eq_true rfl, Nat.le_of_ble_eq_true rfl⟩, (wd_1601 hE)⟩ ⟨PR.blind, (r_pre (av := [.ref (b jw), .int (nI (q1_5 - 1))]) hK hP hJ hE)⟩ rfl rfl hl.1 rfl (lv_room (Nat.le_of_ble_eq_true rfl)) dX12_rootOf_22 ⟨Nat.le_of_ble_eq_true rfl, Nat.le_of_ble_eq_true rfl⟩)) (fun r13 hr13 => ?_)
      have hau13 := pg_sl (a := a) (w := w) (i := (q1_5 - 1)) (by assumption) (by first | assumption | omega)
      subst hr13
      refine vp_callSi (va_Run.run (va_runV (As := [.int (nI (rs w (q1_5 - 1)))]) (rest := []) ⟨hx, hb, hml, hown, noTs⟩ (r_X12_to l dC dI H.size cs b u5 a hA6 (rs w (q1_5 - 1)) (by first | assumption | omega | rfl | (congr 1; omega)) (by first | assumption | omega | rfl | (congr 1; omega))) ⟨cbE 1 (wd_1606 hE) (wd_126 hE) (wd_1603 hE) rfl rfl (by decide +kernel) ⟨Nat.le_of_ble_eq_true rfl, Nat.le_of_ble_eq_true rfl⟩, (wd_1605 hE), (wd_77 hE)⟩ ⟨PR.blind, r_recv hK hP rfl, (r_pre (av := [.ref (b 0), .int (nI (rs w (q1_5 - 1)))]) hK hP hJ hE)⟩ rfl rfl hl.1 rfl (lv_room (Nat.le_of_ble_eq_true rfl)) dX12_rootOf_25 ⟨Nat.le_of_ble_eq_true rfl, Nat.le_of_ble_eq_true rfl⟩)) (fun r14 hr14 => ?_)
      have hau14 := gg_dst (a := a) (s := (rs w (q1_5 - 1))) (by assumption) (by first | assumption | omega)
      subst hr14
      refine lv_aload_n hx hb dX12_rootOf_28 rfl (lv_at hl 1 rfl) ?_
      refine lv_iconst (v := 0) hx hb dX12_rootOf_29 (by decide) ?_
      refine r_iald (j := jw) (k := 0) (n := 200) (x := nI (rb w)) hx hb hK hP (by omega) (rE_row (by omega)) (by decide) (by decide) (by rw [hA7]; exact pg_b hp1) dX12_rootOf_30 ?_
      refine lv_icmp_eq (tgt := 37) hx hb dX12_rootOf_31 (by decide) (fun c16 => ?_) (fun c16 => ?_)
      · have c16 := (b_eq (nI_toInt (n := dst a (rs w (q1_5 - 1))) (by omega)) (nI_toInt (n := rb w) (by omega))).mp c16
        refine lv_iconst (v := 0) hx hb dX12_rootOf_37 (by decide) ?_
        refine lv_istore_n (lv' := [(3, .int 0), (0, .ref (b 0)), (1, .ref (b jw)), (2, .int (nI q1_5))]) hx hb dX12_rootOf_38 rfl hl (by decide) rfl (fun ls hl => ?_)
        refine r_ind (I := fun n u_ H locs ls => va_P (dC, dI) vwCl (rW cs b u_) H ∧ va_S (AR b s.heap.size) s.heap H locs ∧ FR [9, 10, 11, 13] [5] false u u_ ∧ ∃ (k_17 : Nat), n = od a (rb w) - k_17 ∧ (k_17 ≤ od a (rb w)) ∧ lv_has ls 4 [(0, .ref (b 0)), (1, .ref (b jw)), (2, .int (nI q1_5)), (3, .int (nI k_17))]) (fun n u17 H locs ls hI ih17 => ?_) _ u5 _ _ _ ⟨hP, hS, hfr, 0, rfl, (by first | assumption | omega | rfl | (congr 1; omega)), lv_sub hl [1, 2, 3, 0] rfl⟩
        obtain ⟨hP, hS, hfr, k_17, hmu17, hL17_0, hl⟩ := hI
        have hA18 := (hfr.1 1 (by decide)).trans hA1
        have hA19 := (hfr.1 jw (by simp only [List.mem_cons, List.not_mem_nil, or_false, not_or]; omega)).trans hAjw
        subst hmu17
        refine lv_iload_n hx hb dX12_rootOf_39 rfl (lv_at hl 3 rfl) ?_
        refine lv_aload_n hx hb dX12_rootOf_40 rfl (lv_at hl 0 rfl) ?_
        refine lv_aload_n hx hb dX12_rootOf_41 rfl (lv_at hl 1 rfl) ?_
        refine lv_iconst (v := 0) hx hb dX12_rootOf_42 (by decide) ?_
        refine r_iald (j := jw) (k := 0) (n := 200) (x := nI (rb w)) hx hb hK hP (by omega) (rE_row (by omega)) (by decide) (by decide) (by rw [hA19]; exact pg_b hp1) dX12_rootOf_43 ?_
        refine vp_callSi (va_Run.run (va_runV (As := [.int (nI (rb w))]) (rest := [.int (nI k_17)]) ⟨hx, hb, hml, hown, noTs⟩ (r_X12_orderAt l dC dI H.size cs b u17 a hA18 (rb w) (by first | assumption | omega | rfl | (congr 1; omega)) (by first | assumption | omega | rfl | (congr 1; omega))) ⟨cbE 1 (wd_1564 hE) (wd_126 hE) (wd_1561 hE) rfl rfl (by decide +kernel) ⟨Nat.le_of_ble_eq_true rfl, Nat.le_of_ble_eq_true rfl⟩, (wd_1563 hE), (wd_68 hE)⟩ ⟨PR.blind, r_recv hK hP rfl, (r_pre (av := [.ref (b 0), .int (nI (rb w))]) hK hP hJ hE)⟩ rfl rfl hl.1 rfl (lv_room (Nat.le_of_ble_eq_true rfl)) dX12_rootOf_44 ⟨Nat.le_of_ble_eq_true rfl, Nat.le_of_ble_eq_true rfl⟩)) (fun r21 hr21 => ?_)
        have hau21 := (gg_od (a := a) (v := (rb w)) (by assumption) (by first | assumption | omega)).2
        subst hr21
        refine lv_icmp_ge (tgt := 72) hx hb dX12_rootOf_47 (by decide) (fun c22 => ?_) (fun c22 => ?_)
        · have c22 := (b_le (nI_toInt (n := od a (rb w)) (by omega)) (nI_toInt (n := k_17) (by omega))).mp c22
          refine lv_iinc (v := nI (q1_5 + 1)) (lv' := [(2, .int (nI (q1_5 + 1))), (0, .ref (b 0)), (1, .ref (b jw)), (3, .int (nI k_17))]) hx hb dX12_rootOf_72 hl (k := 2) rfl (nI_1 q1_5) (by decide) rfl (fun ls hl => ?_)
          refine lv_goto (tgt := 2) hx hb dX12_rootOf_75 (by decide) ?_
          exact ih5 _ u17 _ _ _ (by omega) ⟨hP, hS, hfr, (q1_5 + 1), rfl, (by first | assumption | omega | rfl | (congr 1; omega)), (by first | assumption | omega | rfl | (congr 1; omega)), lv_sub hl [1, 2, 0] rfl⟩
        · have c22 := mt (b_le (nI_toInt (n := od a (rb w)) (by omega)) (nI_toInt (n := k_17) (by omega))).mpr c22
          refine lv_aload_n hx hb dX12_rootOf_50 rfl (lv_at hl 0 rfl) ?_
          refine lv_aload_n hx hb dX12_rootOf_51 rfl (lv_at hl 1 rfl) ?_
          refine lv_iload_n hx hb dX12_rootOf_52 rfl (lv_at hl 2 rfl) ?_
          refine lv_iload_n hx hb dX12_rootOf_53 rfl (lv_at hl 3 rfl) ?_
          refine rc_i hAL hS hA (va_runV (As := [.ref (b jw), .int (nI q1_5), .int (nI k_17)]) (rest := []) ⟨hx, hb, hml, hown, noTs⟩ (r_X12_isPower l dC dI H.size cs b u17 a hA18 jw (by omega) w hA19 q1_5 k_17 (by first | assumption | omega | rfl | (congr 1; omega)) (by first | assumption | omega | rfl | (congr 1; omega)) (by first | assumption | omega | rfl | (congr 1; omega)) (by first | assumption | omega | rfl | (congr 1; omega)) (by first | assumption | omega | rfl | (congr 1; omega)) (by first | assumption | omega | rfl | (congr 1; omega)) (by first | assumption | omega | rfl | (congr 1; omega)) (by first | assumption | omega | rfl | (congr 1; omega))) ⟨cbE 3 (wd_1852 hE) (wd_126 hE) (wd_1849 hE) rfl rfl (by decide +kernel) ⟨Nat.le_of_ble_eq_true rfl, Nat.le_of_ble_eq_true rfl⟩, (wd_1851 hE), (wd_103 hE)⟩ ⟨PR.blind, r_recv hK hP rfl, (r_pre (av := [.ref (b 0), .ref (b jw), .int (nI q1_5), .int (nI k_17)]) hK hP hJ hE)⟩ rfl rfl hl.1 rfl (lv_room (Nat.le_of_ble_eq_true rfl)) dX12_rootOf_54 ⟨Nat.le_of_ble_eq_true rfl, Nat.le_of_ble_eq_true rfl⟩) (fun r23 u23 H locs hpo23 hP hS => ?_)
          obtain ⟨hr23, hq23⟩ := hpo23
          have hA24 := (hq23.1 1 (by decide)).trans hA18
          have hA25 := (hq23.1 jw (by simp only [List.mem_cons, List.not_mem_nil, or_false, not_or]; omega)).trans hA19
          have hfr := FR.step hfr hq23 (by decide) (by decide) (fun h => rfl)
          rcases hr23 with ⟨rfl, hb23⟩ | ⟨rfl, hb23⟩
          · refine lv_if_eq (tgt := 66) hx hb dX12_rootOf_57 (by decide) (fun c26 => absurd c26 (by decide)) (fun c26 => ?_)
            refine lv_aload_n hx hb dX12_rootOf_60 rfl (lv_at hl 1 rfl) ?_
            refine lv_iconst (v := 1) hx hb dX12_rootOf_61 (by decide) ?_
            refine r_iald (j := jw) (k := 1) (n := 200) (x := nI (rn w)) hx hb hK hP (by omega) (rE_row (by omega)) (by decide) (by decide) (by rw [hA25]; exact pg_n hp1) dX12_rootOf_62 ?_
            refine lv_iload_n hx hb dX12_rootOf_63 rfl (lv_at hl 2 rfl) ?_
            refine lv_idiv hx hb dX12_rootOf_64 (nI_ne0 (n := q1_5) (by omega) (by omega)) ?_
            refine W.eq (g2 := F0 m 65 ls [.int (nI ((rn w) / q1_5))]) (congrArg (fun z : Int32 => F0 m 65 ls (.int z :: [])) (pk_div (a := rn w) (d := q1_5) (by omega) (by omega) (by omega))) ?_
            have hmd28 := Nat.div_le_self (rn w) q1_5
            exact W.iret (v := nI ((rn w) / q1_5)) hx hb hr (fun t ht hW => ⟨⟨nI ((rn w) / q1_5), u23, rfl, ⟨trivial, hfr⟩, (show va_P (dC, dI) vwCl (rW cs b u23) t.heap by rw [ht]; exact hP)⟩, hS.F ht⟩) hS.2.2 dX12_rootOf_65
          · refine lv_if_eq (tgt := 66) hx hb dX12_rootOf_57 (by decide) (fun c29 => ?_) (fun c29 => absurd c29 (by decide))
            refine lv_iinc (v := nI (k_17 + 1)) (lv' := [(3, .int (nI (k_17 + 1))), (0, .ref (b 0)), (1, .ref (b jw)), (2, .int (nI q1_5))]) hx hb dX12_rootOf_66 hl (k := 3) rfl (nI_1 k_17) (by decide) rfl (fun ls hl => ?_)
            refine lv_goto (tgt := 39) hx hb dX12_rootOf_69 (by decide) ?_
            exact ih17 _ u23 _ _ _ (by omega) ⟨hP, hS, hfr, (k_17 + 1), rfl, (by first | assumption | omega | rfl | (congr 1; omega)), lv_sub hl [1, 2, 3, 0] rfl⟩
      · have c16 := mt (b_eq (nI_toInt (n := dst a (rs w (q1_5 - 1))) (by omega)) (nI_toInt (n := rb w) (by omega))).mpr c16
        refine lv_goto (tgt := 72) hx hb dX12_rootOf_34 (by decide) ?_
        refine lv_iinc (v := nI (q1_5 + 1)) (lv' := [(2, .int (nI (q1_5 + 1))), (0, .ref (b 0)), (1, .ref (b jw))]) hx hb dX12_rootOf_72 hl (k := 2) rfl (nI_1 q1_5) (by decide) rfl (fun ls hl => ?_)
        refine lv_goto (tgt := 2) hx hb dX12_rootOf_75 (by decide) ?_
        exact ih5 _ u5 _ _ _ (by omega) ⟨hP, hS, hfr, (q1_5 + 1), rfl, (by first | assumption | omega | rfl | (congr 1; omega)), (by first | assumption | omega | rfl | (congr 1; omega)), lv_sub hl [1, 2, 0] rfl⟩

set_option maxHeartbeats 4000000 in
set_option maxRecDepth 100000 in
theorem r_X12_root (l : Launch) (dC : Nat → ClassId) (dI : Nat → Nat → Nat) (sz : Nat) (cs : Nat → ClassId) (b : Nat → Nat) (u : RS) (a : Nat → Int32) (hA1 : rA u 1 = a) (x : Int32) (hp0 : BG a) : Met l yX12_root [.code yX12_root cX12_root 3 (some .int)] ({ frames := 8, cells := 0, slots := 0, locals := 320 }) (PR [.ref (b 0), .int x] sz dC dI cs b u) (va_Qi (fun (r : Int32) (u' : RS) => (True) ∧ FR [3, 4, 5, 6, 7, 8, 9, 10, 11, 12, 13, 14, 17, 18, 19, 20] [1, 5, 21, 22] true u u') (BR dC dI cs b) (AR b sz)) 0 0 (AR b sz) := by
  refine Met.ofW (cc := cX12_root) (maxL := 3) (ret := (some .int)) (by decide) rfl ?_
  intro p e s m args below meth c s₁ B hml hv
  obtain ⟨rfl, hsz, hP, hK, hJ, hE⟩ := hv
  have hx := B.exec
  have hb := B.bytes
  have hr := B.returns
  have hown : s.vm.findClass RX12 = some m.cls := findClass_of_methodNamed B.named
  have hlocks := B.notSynchronized
  subst hsz
  have hAL : ∀ i, i < 108 → AR b s.heap.size (b i) := fun i h => Or.inl ⟨i, h, rfl⟩
  have hA : ∀ q : Nat, s.heap.size ≤ q → AR b s.heap.size q := fun q h => Or.inr h
  have hS : va_S (AR b s.heap.size) s.heap s.heap [] := va_S.rf
  have hfr : FR [3, 4, 5, 6, 7, 8, 9, 10, 11, 12, 13, 14, 17, 18, 19, 20] [1, 5, 21, 22] true u u := FR.refl
  have hl := lv_entry ([.ref (b 0), .int x]) (n := 3) (Nat.le_of_ble_eq_true rfl)
  rw [lg_entry_eq]
  generalize (lg_sl ([.ref (b 0), .int x]) ++ List.replicate (3 - (lg_sl ([.ref (b 0), .int x])).length) Slot.unset).toArray = ls at hl ⊢
  have hl : lv_has ls 3 [(0, .ref (b 0)), (1, .int x)] := hl
  have hB := hp0
  have hG := bg_g hp0
  have ha1 := gg_le hG
  have ha1b := bg_w hp0
  refine lv_aload_n hx hb dX12_root_0 rfl (lv_at hl 0 rfl) ?_
  refine lv_iload_n hx hb dX12_root_1 rfl (lv_at hl 1 rfl) ?_
  refine rc_i hAL hS hA (va_runV (As := [.int x]) (rest := []) ⟨hx, hb, hml, hown, noTs⟩ (r_X12_wrongLoop l dC dI s.heap.size cs b u a hA1 x (by first | assumption | omega | rfl | (congr 1; omega))) ⟨cbE 1 (wd_1781 hE) (wd_126 hE) (wd_1778 hE) rfl rfl (by decide +kernel) ⟨Nat.le_of_ble_eq_true rfl, Nat.le_of_ble_eq_true rfl⟩, (wd_1780 hE), (wd_95 hE)⟩ ⟨PR.blind, r_recv hK hP rfl, (r_pre (av := [.ref (b 0), .int x]) hK hP hJ hE)⟩ rfl rfl hl.1 rfl (lv_room (Nat.le_of_ble_eq_true rfl)) dX12_root_2 ⟨Nat.le_of_ble_eq_true rfl, Nat.le_of_ble_eq_true rfl⟩) (fun r2 u2 H locs hpo2 hP hS => ?_)
  obtain ⟨hr2, hq2⟩ := hpo2
  have hA3 := (hq2.1 1 (by decide)).trans hA1
  have hfr := FR.step hfr hq2 (by decide) (fun _ h => absurd h List.not_mem_nil) (fun h => rfl)
  rcases hr2 with ⟨rfl, hb2⟩ | ⟨rfl, hb2⟩ | ⟨rfl, hb2⟩
  · obtain ⟨n2, hbe2_1, hb2⟩ := hb2
    subst hbe2_1
    have hti4 := nI_toInt (n := n2) (by omega)
    refine lv_istore_n (lv' := [(2, .int 0), (0, .ref (b 0)), (1, .int (nI n2))]) hx hb dX12_root_5 rfl hl (by decide) rfl (fun ls hl => ?_)
    refine lv_iload_n hx hb dX12_root_6 rfl (lv_at hl 0 rfl) ?_
    refine lv_if_le (tgt := 16) hx hb dX12_root_7 (by decide) (fun c5 => ?_) (fun c5 => absurd c5 (by decide))
    refine lv_aload_n hx hb dX12_root_16 rfl (lv_at hl 1 rfl) ?_
    refine lv_iload_n hx hb dX12_root_17 rfl (lv_at hl 2 rfl) ?_
    refine lv_aload_n hx hb dX12_root_18 rfl (lv_at hl 1 rfl) ?_
    refine r_get (v := .ref (b 2)) hx hb (ly_X12 hE) hown hK hP rfl 4 (by decide) (wd_1385 hE) (fun _ h9 => h9) rfl dX12_root_19 ?_
    refine lv_iconst (v := 4) hx hb dX12_root_22 (by decide) ?_
    refine r_aald (j := 2) (k := 4) (n := 10) (t0 := 4) (j2 := 7) hx hb hK hP (by decide) rfl rfl (by decide) (by decide) rfl dX12_root_23 ?_
    obtain ⟨g6, hg6⟩ : ∃ g, rA u2 7 = g := ⟨_, rfl⟩
    refine rc_v hAL hS hA (va_runV (As := [.int (nI n2), .ref (b 7)]) (rest := []) ⟨hx, hb, hml, hown, noTs⟩ (r_X12_coreOf l dC dI H.size cs b u2 a hA3 n2 7 (by decide) g6 hg6 (by first | assumption | omega | rfl | (congr 1; omega)) (by first | assumption | omega | rfl | (congr 1; omega)) (by first | assumption | omega | rfl | (congr 1; omega)) (by first | assumption | omega | rfl | (congr 1; omega))) ⟨cbE 2 (wd_1733 hE) (wd_126 hE) (wd_1730 hE) rfl rfl (by decide +kernel) ⟨Nat.le_of_ble_eq_true rfl, Nat.le_of_ble_eq_true rfl⟩, (wd_1732 hE), (wd_92 hE)⟩ ⟨PR.blind, r_recv hK hP rfl, (r_pre (av := [.ref (b 0), .int (nI n2), .ref (b 7)]) hK hP hJ hE)⟩ rfl rfl hl.1 rfl (lv_room (Nat.le_of_ble_eq_true rfl)) dX12_root_24 ⟨Nat.le_of_ble_eq_true rfl, Nat.le_of_ble_eq_true rfl⟩) (fun u7 H locs hpo7 hP hS => ?_)
    obtain ⟨h7_0, h7_1, h7_2, h7_3, hq7⟩ := hpo7
    obtain ⟨w8, hA8⟩ : ∃ g, rA u7 7 = g := ⟨_, rfl⟩
    rw [hA8] at h7_0 h7_1 h7_2 h7_3
    have hA9 := (hq7.1 1 (by decide)).trans hA3
    have hfr := FR.step hfr hq7 (by decide) (by decide) (fun h => rfl)
    have hl7_0 := pg_le h7_0
    refine lv_aload_n hx hb dX12_root_27 rfl (lv_at hl 1 rfl) ?_
    refine r_get (v := .ref (b 2)) hx hb (ly_X12 hE) hown hK hP rfl 4 (by decide) (wd_1385 hE) (fun _ h9 => h9) rfl dX12_root_28 ?_
    refine lv_iconst (v := 4) hx hb dX12_root_31 (by decide) ?_
    refine r_aald (j := 2) (k := 4) (n := 10) (t0 := 4) (j2 := 7) hx hb hK hP (by decide) rfl rfl (by decide) (by decide) rfl dX12_root_32 ?_
    refine lv_iconst (v := 1) hx hb dX12_root_33 (by decide) ?_
    refine r_iald (j := 7) (k := 1) (n := 200) (x := nI (rn w8)) hx hb hK hP (by decide) rfl (by decide) (by decide) (by rw [hA8]; exact pg_n h7_0) dX12_root_34 ?_
    refine lv_if_ne (tgt := 46) hx hb dX12_root_35 (by decide) (fun c11 => ?_) (fun c11 => ?_)
    · have c11 := mt (b_eq (nI_toInt (n := rn w8) (by omega)) (show Int32.toInt 0 = 0 from rfl)).mpr c11
      refine lv_aload_n hx hb dX12_root_46 rfl (lv_at hl 1 rfl) ?_
      refine lv_aload_n hx hb dX12_root_47 rfl (lv_at hl 1 rfl) ?_
      refine lv_aload_n hx hb dX12_root_48 rfl (lv_at hl 1 rfl) ?_
      refine r_get (v := .ref (b 2)) hx hb (ly_X12 hE) hown hK hP rfl 4 (by decide) (wd_1385 hE) (fun _ h9 => h9) rfl dX12_root_49 ?_
      refine lv_iconst (v := 4) hx hb dX12_root_52 (by decide) ?_
      refine r_aald (j := 2) (k := 4) (n := 10) (t0 := 4) (j2 := 7) hx hb hK hP (by decide) rfl rfl (by decide) (by decide) rfl dX12_root_53 ?_
      refine rc_i hAL hS hA (va_runV (As := [.ref (b 7)]) (rest := [.ref (b 0)]) ⟨hx, hb, hml, hown, noTs⟩ (r_X12_rootOf l dC dI H.size cs b u7 a hA9 7 (by decide) w8 hA8 (by first | assumption | omega | rfl | (congr 1; omega)) (by first | assumption | omega | rfl | (congr 1; omega)) (by first | assumption | omega | rfl | (congr 1; omega)) (by first | assumption | omega | rfl | (congr 1; omega))) ⟨cbE 1 (wd_1848 hE) (wd_126 hE) (wd_1845 hE) rfl rfl (by decide +kernel) ⟨Nat.le_of_ble_eq_true rfl, Nat.le_of_ble_eq_true rfl⟩, (wd_1847 hE), (wd_102 hE)⟩ ⟨PR.blind, r_recv hK hP rfl, (r_pre (av := [.ref (b 0), .ref (b 7)]) hK hP hJ hE)⟩ rfl rfl hl.1 rfl (lv_room (Nat.le_of_ble_eq_true rfl)) dX12_root_54 ⟨Nat.le_of_ble_eq_true rfl, Nat.le_of_ble_eq_true rfl⟩) (fun r12 u12 H locs hpo12 hP hS => ?_)
      obtain ⟨hr12, hq12⟩ := hpo12
      have hA13 := (hq12.1 1 (by decide)).trans hA9
      have hA14 := (hq12.1 7 (by decide)).trans hA8
      have hfr := FR.step hfr hq12 (by decide) (by decide) (fun h => rfl)
      refine rc_i hAL hS hA (va_runV (As := [.int r12]) (rest := []) ⟨hx, hb, hml, hown, noTs⟩ (r_X12_gives l dC dI H.size cs b u12 a hA13 r12) ⟨cbE 1 (wd_1621 hE) (wd_126 hE) (wd_1618 hE) rfl rfl (by decide +kernel) ⟨Nat.le_of_ble_eq_true rfl, Nat.le_of_ble_eq_true rfl⟩, (wd_1620 hE), (wd_80 hE)⟩ ⟨PR.blind, r_recv hK hP rfl, (r_pre (av := [.ref (b 0), .int r12]) hK hP hJ hE)⟩ rfl rfl hl.1 rfl (lv_room (Nat.le_of_ble_eq_true rfl)) dX12_root_57 ⟨Nat.le_of_ble_eq_true rfl, Nat.le_of_ble_eq_true rfl⟩) (fun r15 u15 H locs hpo15 hP hS => ?_)
      obtain ⟨hr15, hq15⟩ := hpo15
      have hA16 := (hq15.1 1 List.not_mem_nil).trans hA13
      have hA17 := (hq15.1 7 List.not_mem_nil).trans hA14
      have hfr := FR.step hfr hq15 (fun _ h => absurd h List.not_mem_nil) (by decide) (fun h => rfl)
      refine W.eq (g2 := F0 m 60 ls [.int r12]) (by rw [hr15]) ?_
      exact W.iret (v := r12) hx hb hr (fun t ht hW => ⟨⟨r12, u15, rfl, ⟨trivial, hfr⟩, (show va_P (dC, dI) vwCl (rW cs b u15) t.heap by rw [ht]; exact hP)⟩, hS.F ht⟩) hS.2.2 dX12_root_60
    · have c11 := (b_eq (nI_toInt (n := rn w8) (by omega)) (show Int32.toInt 0 = 0 from rfl)).mp c11
      refine lv_aload_n hx hb dX12_root_38 rfl (lv_at hl 1 rfl) ?_
      refine lv_iconst (v := 5) hx hb dX12_root_39 (by decide) ?_
      refine rc_i hAL hS hA (va_runV (As := [.int 5]) (rest := []) ⟨hx, hb, hml, hown, noTs⟩ (r_X12_refuse l dC dI H.size cs b u7 a hA9 5) ⟨cbE 1 (wd_1498 hE) (wd_126 hE) (wd_1495 hE) rfl rfl (by decide +kernel) ⟨Nat.le_of_ble_eq_true rfl, Nat.le_of_ble_eq_true rfl⟩, (wd_1497 hE), (wd_54 hE)⟩ ⟨PR.blind, r_recv hK hP rfl, (r_pre (av := [.ref (b 0), .int 5]) hK hP hJ hE)⟩ rfl rfl hl.1 rfl (lv_room (Nat.le_of_ble_eq_true rfl)) dX12_root_40 ⟨Nat.le_of_ble_eq_true rfl, Nat.le_of_ble_eq_true rfl⟩) (fun r18 u18 H locs hpo18 hP hS => ?_)
      obtain ⟨hr18, hq18⟩ := hpo18
      have hA19 := (hq18.1 1 List.not_mem_nil).trans hA9
      have hA20 := (hq18.1 7 List.not_mem_nil).trans hA8
      have hfr := FR.step hfr hq18 (fun _ h => absurd h List.not_mem_nil) (by decide) (fun h => rfl)
      subst hr18
      refine lv_goto (tgt := 60) hx hb dX12_root_43 (by decide) ?_
      exact W.iret (v := -1) hx hb hr (fun t ht hW => ⟨⟨-1, u18, rfl, ⟨trivial, hfr⟩, (show va_P (dC, dI) vwCl (rW cs b u18) t.heap by rw [ht]; exact hP)⟩, hS.F ht⟩) hS.2.2 dX12_root_60
  · refine lv_istore_n (lv' := [(2, .int 2), (0, .ref (b 0)), (1, .int x)]) hx hb dX12_root_5 rfl hl (by decide) rfl (fun ls hl => ?_)
    refine lv_iload_n hx hb dX12_root_6 rfl (lv_at hl 0 rfl) ?_
    refine lv_if_le (tgt := 16) hx hb dX12_root_7 (by decide) (fun c21 => absurd c21 (by decide)) (fun c21 => ?_)
    refine lv_aload_n hx hb dX12_root_10 rfl (lv_at hl 1 rfl) ?_
    refine lv_iload_n hx hb dX12_root_11 rfl (lv_at hl 0 rfl) ?_
    refine rc_i hAL hS hA (va_runV (As := [.int 2]) (rest := []) ⟨hx, hb, hml, hown, noTs⟩ (r_X12_refuse l dC dI H.size cs b u2 a hA3 2) ⟨cbE 1 (wd_1498 hE) (wd_126 hE) (wd_1495 hE) rfl rfl (by decide +kernel) ⟨Nat.le_of_ble_eq_true rfl, Nat.le_of_ble_eq_true rfl⟩, (wd_1497 hE), (wd_54 hE)⟩ ⟨PR.blind, r_recv hK hP rfl, (r_pre (av := [.ref (b 0), .int 2]) hK hP hJ hE)⟩ rfl rfl hl.1 rfl (lv_room (Nat.le_of_ble_eq_true rfl)) dX12_root_12 ⟨Nat.le_of_ble_eq_true rfl, Nat.le_of_ble_eq_true rfl⟩) (fun r22 u22 H locs hpo22 hP hS => ?_)
    obtain ⟨hr22, hq22⟩ := hpo22
    have hA23 := (hq22.1 1 List.not_mem_nil).trans hA3
    have hfr := FR.step hfr hq22 (fun _ h => absurd h List.not_mem_nil) (by decide) (fun h => rfl)
    subst hr22
    exact W.iret (v := -1) hx hb hr (fun t ht hW => ⟨⟨-1, u22, rfl, ⟨trivial, hfr⟩, (show va_P (dC, dI) vwCl (rW cs b u22) t.heap by rw [ht]; exact hP)⟩, hS.F ht⟩) hS.2.2 dX12_root_15
  · refine lv_istore_n (lv' := [(2, .int 4), (0, .ref (b 0)), (1, .int x)]) hx hb dX12_root_5 rfl hl (by decide) rfl (fun ls hl => ?_)
    refine lv_iload_n hx hb dX12_root_6 rfl (lv_at hl 0 rfl) ?_
    refine lv_if_le (tgt := 16) hx hb dX12_root_7 (by decide) (fun c24 => absurd c24 (by decide)) (fun c24 => ?_)
    refine lv_aload_n hx hb dX12_root_10 rfl (lv_at hl 1 rfl) ?_
    refine lv_iload_n hx hb dX12_root_11 rfl (lv_at hl 0 rfl) ?_
    refine rc_i hAL hS hA (va_runV (As := [.int 4]) (rest := []) ⟨hx, hb, hml, hown, noTs⟩ (r_X12_refuse l dC dI H.size cs b u2 a hA3 4) ⟨cbE 1 (wd_1498 hE) (wd_126 hE) (wd_1495 hE) rfl rfl (by decide +kernel) ⟨Nat.le_of_ble_eq_true rfl, Nat.le_of_ble_eq_true rfl⟩, (wd_1497 hE), (wd_54 hE)⟩ ⟨PR.blind, r_recv hK hP rfl, (r_pre (av := [.ref (b 0), .int 4]) hK hP hJ hE)⟩ rfl rfl hl.1 rfl (lv_room (Nat.le_of_ble_eq_true rfl)) dX12_root_12 ⟨Nat.le_of_ble_eq_true rfl, Nat.le_of_ble_eq_true rfl⟩) (fun r25 u25 H locs hpo25 hP hS => ?_)
    obtain ⟨hr25, hq25⟩ := hpo25
    have hA26 := (hq25.1 1 List.not_mem_nil).trans hA3
    have hfr := FR.step hfr hq25 (fun _ h => absurd h List.not_mem_nil) (by decide) (fun h => rfl)
    subst hr25
    exact W.iret (v := -1) hx hb hr (fun t ht hW => ⟨⟨-1, u25, rfl, ⟨trivial, hfr⟩, (show va_P (dC, dI) vwCl (rW cs b u25) t.heap by rw [ht]; exact hP)⟩, hS.F ht⟩) hS.2.2 dX12_root_15
