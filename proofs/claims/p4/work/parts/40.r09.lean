set_option maxHeartbeats 4000000 in
set_option maxRecDepth 100000 in
theorem r_X12_begins (l : Launch) (dC : Nat → ClassId) (dI : Nat → Nat → Nat) (sz : Nat) (cs : Nat → ClassId) (b : Nat → Nat) (u : RS) (a : Nat → Int32) (hA1 : rA u 1 = a) (jw : Nat) (hjwr : 3 ≤ jw ∧ jw ≤ 14) (w : Nat → Int32) (hAjw : rA u jw = w) (i : Nat) (jt : Nat) (hjtr : 3 ≤ jt ∧ jt ≤ 14) (g : Nat → Int32) (hAjt : rA u jt = g) (hp0 : GG a) (hp1 : PG a w) (hp2 : LG a w) (hp3 : i < rn w) (hp4 : vend a w = rb w) (hp5 : jw ≠ jt) : Met l yX12_begins [.code yX12_begins cX12_begins 6 none] ({ frames := 3, cells := 0, slots := 0, locals := 120 }) (PR [.ref (b 0), .ref (b jw), .int (nI i), .ref (b jt)] sz dC dI cs b u) (va_Qv (fun (u' : RS) => (PG a (rA u' jt)) ∧ (LG a (rA u' jt)) ∧ (rn (rA u' jt) = rn w) ∧ (vend a (rA u' jt) = rb (rA u' jt)) ∧ FR [jt] [] false u u') (BR dC dI cs b) (AR b sz)) 0 0 (AR b sz) := by
  refine Met.ofW (cc := cX12_begins) (maxL := 6) (ret := none) (by decide) rfl ?_
  intro p e s m args below meth c s₁ B hml hv
  obtain ⟨rfl, hsz, hP, hK, hJ, hE⟩ := hv
  have hx := B.exec
  have hb := B.bytes
  have hr := B.returns
  have hown : s.vm.findClass RX12 = some m.cls := findClass_of_methodNamed B.named
  have hlocks := B.notSynchronized
  subst hsz
  have hAL : ∀ i, i < 108 → AR b s.heap.size (b i) := fun i h => Or.inl ⟨i, h, rfl⟩
  have hA : ∀ q : Nat, s.heap.size ≤ q → AR b s.heap.size q := fun q h => Or.inr h
  have hS : va_S (AR b s.heap.size) s.heap s.heap [] := va_S.rf
  have hfr : FR [jt] [] false u u := FR.refl
  have hl := lv_entry ([.ref (b 0), .ref (b jw), .int (nI i), .ref (b jt)]) (n := 6) (Nat.le_of_ble_eq_true rfl)
  rw [lg_entry_eq]
  generalize (lg_sl ([.ref (b 0), .ref (b jw), .int (nI i), .ref (b jt)]) ++ List.replicate (6 - (lg_sl ([.ref (b 0), .ref (b jw), .int (nI i), .ref (b jt)])).length) Slot.unset).toArray = ls at hl ⊢
  have hl : lv_has ls 6 [(0, .ref (b 0)), (1, .ref (b jw)), (2, .int (nI i)), (3, .ref (b jt))] := hl
  have hG := hp0
  have ha1 := gg_le hp0
  have ha2 := pg_le hp1
  refine lv_iload_n hx hb dX12_begins_0 rfl (lv_at hl 2 rfl) ?_
  refine lv_if_ne (tgt := 10) hx hb dX12_begins_1 (by decide) (fun c7 => ?_) (fun c7 => ?_)
  · have c7 := mt (b_eq (nI_toInt (n := i) (by omega)) (show Int32.toInt 0 = 0 from rfl)).mpr c7
    have hsi := pg_sv hp1 (i := i) hp3
    refine lv_aload_n hx hb dX12_begins_10 rfl (lv_at hl 1 rfl) ?_
    refine lv_iconst (v := 1) hx hb dX12_begins_11 (by decide) ?_
    refine r_iald (j := jw) (k := 1) (n := 200) (x := nI (rn w)) hx hb hK hP (by omega) (rE_row (by omega)) (by decide) (by decide) (by rw [hAjw]; exact pg_n hp1) dX12_begins_12 ?_
    refine lv_istore (lv' := [(4, .int (nI (rn w))), (0, .ref (b 0)), (1, .ref (b jw)), (2, .int (nI i)), (3, .ref (b jt))]) hx hb dX12_begins_13 hl (by decide) rfl (fun ls hl => ?_)
    refine lv_aload_n hx hb dX12_begins_15 rfl (lv_at hl 4 rfl) ?_
    refine lv_aload_n hx hb dX12_begins_16 rfl (lv_at hl 1 rfl) ?_
    refine lv_aload_n hx hb dX12_begins_17 rfl (lv_at hl 2 rfl) ?_
    refine lv_iload_n hx hb dX12_begins_18 rfl (lv_at hl 3 rfl) ?_
    refine vp_callSi (va_Run.run (va_runS (As := [.ref (b jw), .int (nI i)]) (rest := [.ref (b 0), .ref (b jt)]) ⟨hx, hb, hml, hown, noTs⟩ (r_X12_step l dC dI s.heap.size cs b u a hA1 jw (by omega) w hAjw i (by first | assumption | omega | rfl | (congr 1; omega)) (by first | assumption | omega | rfl | (congr 1; omega))) ⟨cbE 2 (wd_1602 hE) (wd_126 hE) (wd_1600 hE) rfl rfl (by decide +kernel) ⟨Nat.le_of_ble_eq_true rfl, Nat.le_of_ble_eq_true rfl⟩, (wd_1601 hE)⟩ ⟨PR.blind, (r_pre (av := [.ref (b jw), .int (nI i)]) hK hP hJ hE)⟩ rfl rfl hl.1 rfl (lv_room (Nat.le_of_ble_eq_true rfl)) dX12_begins_19 ⟨Nat.le_of_ble_eq_true rfl, Nat.le_of_ble_eq_true rfl⟩)) (fun r9 hr9 => ?_)
    have hau9 := pg_sl (a := a) (w := w) (i := i) (by assumption) (by first | assumption | omega)
    subst hr9
    refine vp_callSi (va_Run.run (va_runV (As := [.int (nI (rs w i))]) (rest := [.ref (b jt)]) ⟨hx, hb, hml, hown, noTs⟩ (r_X12_from l dC dI s.heap.size cs b u a hA1 (rs w i) (by first | assumption | omega | rfl | (congr 1; omega)) (by first | assumption | omega | rfl | (congr 1; omega))) ⟨cbE 1 (wd_1591 hE) (wd_126 hE) (wd_1588 hE) rfl rfl (by decide +kernel) ⟨Nat.le_of_ble_eq_true rfl, Nat.le_of_ble_eq_true rfl⟩, (wd_1590 hE), (wd_74 hE)⟩ ⟨PR.blind, r_recv hK hP rfl, (r_pre (av := [.ref (b 0), .int (nI (rs w i))]) hK hP hJ hE)⟩ rfl rfl hl.1 rfl (lv_room (Nat.le_of_ble_eq_true rfl)) dX12_begins_22 ⟨Nat.le_of_ble_eq_true rfl, Nat.le_of_ble_eq_true rfl⟩)) (fun r10 hr10 => ?_)
    have hau10 := gg_src (a := a) (s := (rs w i)) (by assumption) (by first | assumption | omega)
    subst hr10
    refine lv_aload_n hx hb dX12_begins_25 rfl (lv_at hl 2 rfl) ?_
    refine lv_iload_n hx hb dX12_begins_26 rfl (lv_at hl 3 rfl) ?_
    refine vp_callSi (va_Run.run (va_runS (As := [.ref (b jw), .int (nI i)]) (rest := [.int (nI (src a (rs w i))), .ref (b jt)]) ⟨hx, hb, hml, hown, noTs⟩ (r_X12_number l dC dI s.heap.size cs b u a hA1 jw (by omega) w hAjw i (by first | assumption | omega | rfl | (congr 1; omega))) ⟨cbE 2 (wd_1664 hE) (wd_126 hE) (wd_1662 hE) rfl rfl (by decide +kernel) ⟨Nat.le_of_ble_eq_true rfl, Nat.le_of_ble_eq_true rfl⟩, (wd_1663 hE)⟩ ⟨PR.blind, (r_pre (av := [.ref (b jw), .int (nI i)]) hK hP hJ hE)⟩ rfl rfl hl.1 rfl (lv_room (Nat.le_of_ble_eq_true rfl)) dX12_begins_27 ⟨Nat.le_of_ble_eq_true rfl, Nat.le_of_ble_eq_true rfl⟩)) (fun r11 hr11 => ?_)
    refine rc_v hAL hS hA (va_runS (As := [.ref (b jt), .int (nI (src a (rs w i))), .int r11]) (rest := []) ⟨hx, hb, hml, hown, noTs⟩ (r_X12_single l dC dI s.heap.size cs b u a hA1 jt (by omega) g hAjt (src a (rs w i)) r11 (by first | assumption | omega | rfl | (congr 1; omega)) (by first | assumption | omega | rfl | (congr 1; omega))) ⟨cbE 3 (wd_1579 hE) (wd_126 hE) (wd_1577 hE) rfl rfl (by decide +kernel) ⟨Nat.le_of_ble_eq_true rfl, Nat.le_of_ble_eq_true rfl⟩, (wd_1578 hE)⟩ ⟨PR.blind, (r_pre (av := [.ref (b jt), .int (nI (src a (rs w i))), .int r11]) hK hP hJ hE)⟩ rfl rfl hl.1 rfl (lv_room (Nat.le_of_ble_eq_true rfl)) dX12_begins_30 ⟨Nat.le_of_ble_eq_true rfl, Nat.le_of_ble_eq_true rfl⟩) (fun u12 H locs hpo12 hP hS => ?_)
    obtain ⟨h12_0, h12_1, h12_2, h12_3, h12_4, hq12⟩ := hpo12
    obtain ⟨w13, hA13⟩ : ∃ g, rA u12 jt = g := ⟨_, rfl⟩
    rw [hA13] at h12_0 h12_1 h12_2 h12_3 h12_4
    have hA14 := (hq12.1 1 (by simp only [List.mem_cons, List.not_mem_nil, or_false, not_or]; omega)).trans hA1
    have hA15 := (hq12.1 jw (by simp only [List.mem_cons, List.not_mem_nil, or_false, not_or]; omega)).trans hAjw
    have hfr := FR.step hfr hq12 (by simp) (fun _ h => absurd h List.not_mem_nil) (fun h => rfl)
    have hl12_0 := pg_le h12_0
    refine lv_iload_n hx hb dX12_begins_33 rfl (lv_at hl 3 rfl) ?_
    refine lv_istore (lv' := [(5, .int (nI i)), (4, .int (nI (rn w))), (0, .ref (b 0)), (1, .ref (b jw)), (2, .int (nI i)), (3, .ref (b jt))]) hx hb dX12_begins_34 hl (by decide) rfl (fun ls hl => ?_)
    refine r_ind (I := fun n u_ H locs ls => va_P (dC, dI) vwCl (rW cs b u_) H ∧ va_S (AR b s.heap.size) s.heap H locs ∧ FR [jt] [] false u u_ ∧ ∃ (k_16 : Nat) (f1_16 : Nat → Int32), n = rn w - k_16 ∧ (PG a f1_16) ∧ (i ≤ k_16) ∧ (k_16 ≤ rn w) ∧ (rn f1_16 + i = k_16) ∧ (rb f1_16 = vx a w i) ∧ (vend a f1_16 = vx a w k_16) ∧ (rA u_ jt = f1_16) ∧ lv_has ls 6 [(0, .ref (b 0)), (1, .ref (b jw)), (2, .int (nI i)), (3, .ref (b jt)), (4, .int (nI (rn w))), (5, .int (nI k_16))]) (fun n u16 H locs ls hI ih16 => ?_) _ u12 _ _ _ ⟨hP, hS, hfr, i, w13, rfl, (by first | assumption | omega | rfl | (congr 1; omega)), (by first | assumption | omega | rfl | (congr 1; omega)), (by first | assumption | omega | rfl | (congr 1; omega)), (by omega), (by omega), (by omega), hA13, lv_sub hl [2, 3, 4, 5, 1, 0] rfl⟩
    obtain ⟨hP, hS, hfr, k_16, f1_16, hmu16, hL16_0, hL16_1, hL16_2, hL16_3, hL16_4, hL16_5, hL16_6, hl⟩ := hI
    have hA17 := (hfr.1 1 (by simp only [List.mem_cons, List.not_mem_nil, or_false, not_or]; omega)).trans hA1
    have hA18 := (hfr.1 jw (by simp only [List.mem_cons, List.not_mem_nil, or_false, not_or]; omega)).trans hAjw
    subst hmu16
    have hl16_0 := pg_le hL16_0
    refine lv_iload hx hb dX12_begins_36 (lv_at hl 5 rfl) ?_
    refine lv_iload hx hb dX12_begins_38 (lv_at hl 4 rfl) ?_
    refine lv_icmp_ge (tgt := 96) hx hb dX12_begins_40 (by decide) (fun c19 => ?_) (fun c19 => ?_)
    · have c19 := (b_le (nI_toInt (n := rn w) (by omega)) (nI_toInt (n := k_16) (by omega))).mp c19
      refine lv_iconst (v := 0) hx hb dX12_begins_96 (by decide) ?_
      refine lv_istore (lv' := [(5, .int 0), (0, .ref (b 0)), (1, .ref (b jw)), (2, .int (nI i)), (3, .ref (b jt)), (4, .int (nI (rn w)))]) hx hb dX12_begins_97 hl (by decide) rfl (fun ls hl => ?_)
      refine r_ind (I := fun n u_ H locs ls => va_P (dC, dI) vwCl (rW cs b u_) H ∧ va_S (AR b s.heap.size) s.heap H locs ∧ FR [jt] [] false u u_ ∧ ∃ (k_20 : Nat) (f1_20 : Nat → Int32), n = i - k_20 ∧ (PG a f1_20) ∧ (k_20 ≤ i) ∧ (rn f1_20 + i = rn w + k_20) ∧ (rb f1_20 = vx a w i) ∧ (vend a f1_20 = vx a w k_20) ∧ (k_20 = i → f1_20 (2 + 2 * rn f1_20) = 0) ∧ (rA u_ jt = f1_20) ∧ lv_has ls 6 [(0, .ref (b 0)), (1, .ref (b jw)), (2, .int (nI i)), (3, .ref (b jt)), (4, .int (nI (rn w))), (5, .int (nI k_20))]) (fun n u20 H locs ls hI ih20 => ?_) _ u16 _ _ _ ⟨hP, hS, hfr, 0, f1_16, rfl, (by first | assumption | omega | rfl | (congr 1; omega)), (by first | assumption | omega | rfl | (congr 1; omega)), (by first | assumption | omega | rfl | (congr 1; omega)), (by first | assumption | omega | rfl | (congr 1; omega)), (by rw [vx_0, ← hp4]; rw [hL16_5, show k_16 = rn w by omega]; rfl), (by omega), hL16_6, lv_sub hl [1, 2, 3, 4, 5, 0] rfl⟩
      obtain ⟨hP, hS, hfr, k_20, f1_20, hmu20, hL20_0, hL20_1, hL20_2, hL20_3, hL20_4, hL20_5, hL20_6, hl⟩ := hI
      have hA21 := (hfr.1 1 (by simp only [List.mem_cons, List.not_mem_nil, or_false, not_or]; omega)).trans hA1
      have hA22 := (hfr.1 jw (by simp only [List.mem_cons, List.not_mem_nil, or_false, not_or]; omega)).trans hAjw
      subst hmu20
      have hl20_0 := pg_le hL20_0
      refine lv_iload hx hb dX12_begins_99 (lv_at hl 5 rfl) ?_
      refine lv_iload_n hx hb dX12_begins_101 rfl (lv_at hl 2 rfl) ?_
      refine lv_icmp_ge (tgt := 141) hx hb dX12_begins_102 (by decide) (fun c23 => ?_) (fun c23 => ?_)
      · have c23 := (b_le (nI_toInt (n := i) (by omega)) (nI_toInt (n := k_20) (by omega))).mp c23
        have q7 : vend a f1_20 = rb f1_20 := by rw [hL20_4, hL20_3, show k_20 = i by omega]
        have hve := pg_v hG hp1 (i := i) (by omega)
        have hvo := gg_od hG hve
        have q9 : LG a f1_20 := lg_mk rfl (show vend a f1_20 = vx a w i by rw [hL20_4, show k_20 = i by omega]) (show f1_20 (2 + 2 * rn f1_20) = nI 0 from hL20_5 (by omega)) (by omega) (by omega)
        exact W.vret hx hb hr (fun t ht hW => ⟨⟨u20, rfl, ⟨(by first | (rw [hL20_6]; done) | (rw [hL20_6]; first | assumption | omega | rfl | (congr 1; omega))), (by first | (rw [hL20_6]; done) | (rw [hL20_6]; first | assumption | omega | rfl | (congr 1; omega))), (by first | (rw [hL20_6]; done) | (rw [hL20_6]; first | assumption | omega | rfl | (congr 1; omega))), (by first | (rw [hL20_6]; done) | (rw [hL20_6]; first | assumption | omega | rfl | (congr 1; omega))), hfr⟩, (show va_P (dC, dI) vwCl (rW cs b u20) t.heap by rw [ht]; exact hP)⟩, hS.F ht⟩) hS.2.2 dX12_begins_141
      · have c23 := mt (b_le (nI_toInt (n := i) (by omega)) (nI_toInt (n := k_20) (by omega))).mpr c23
        have hsl := pg_sl hp1 (i := k_20) (by omega)
        have hsv := pg_sv hp1 (i := k_20) (by omega)
        refine lv_aload_n hx hb dX12_begins_105 rfl (lv_at hl 3 rfl) ?_
        refine lv_aload_n hx hb dX12_begins_106 rfl (lv_at hl 1 rfl) ?_
        refine lv_iload hx hb dX12_begins_107 (lv_at hl 5 rfl) ?_
        refine vp_callSi (va_Run.run (va_runS (As := [.ref (b jw), .int (nI k_20)]) (rest := [.ref (b jt)]) ⟨hx, hb, hml, hown, noTs⟩ (r_X12_step l dC dI H.size cs b u20 a hA21 jw (by omega) w hA22 k_20 (by first | assumption | omega | rfl | (congr 1; omega)) (by first | assumption | omega | rfl | (congr 1; omega))) ⟨cbE 2 (wd_1602 hE) (wd_126 hE) (wd_1600 hE) rfl rfl (by decide +kernel) ⟨Nat.le_of_ble_eq_true rfl, Nat.le_of_ble_eq_true rfl⟩, (wd_1601 hE)⟩ ⟨PR.blind, (r_pre (av := [.ref (b jw), .int (nI k_20)]) hK hP hJ hE)⟩ rfl rfl hl.1 rfl (lv_room (Nat.le_of_ble_eq_true rfl)) dX12_begins_109 ⟨Nat.le_of_ble_eq_true rfl, Nat.le_of_ble_eq_true rfl⟩)) (fun r24 hr24 => ?_)
        have hau24 := pg_sl (a := a) (w := w) (i := k_20) (by assumption) (by first | assumption | omega)
        subst hr24
        refine lv_iload hx hb dX12_begins_112 (lv_at hl 5 rfl) ?_
        refine lv_iconst (v := 1) hx hb dX12_begins_114 (by decide) ?_
        refine lv_iadd hx hb dX12_begins_115 ?_
        refine W.eq (g2 := F0 m 116 ls [.int (nI (k_20 + 1)), .int (nI (rs w k_20)), .ref (b jt)]) (congrArg (fun z : Int32 => F0 m 116 ls (.int z :: [.int (nI (rs w k_20)), .ref (b jt)])) (nI_add k_20 1)) ?_
        refine lv_iload_n hx hb dX12_begins_116 rfl (lv_at hl 2 rfl) ?_
        refine lv_icmp_ge (tgt := 131) hx hb dX12_begins_117 (by decide) (fun c25 => ?_) (fun c25 => ?_)
        · have c25 := (b_le (nI_toInt (n := i) (by omega)) (nI_toInt (n := k_20 + 1) (by omega))).mp c25
          refine lv_iconst (v := 0) hx hb dX12_begins_131 (by decide) ?_
          refine rc_v hAL hS hA (va_runS (As := [.ref (b jt), .int (nI (rs w k_20)), .int 0]) (rest := []) ⟨hx, hb, hml, hown, noTs⟩ (r_X12_goes l dC dI H.size cs b u20 a hA21 jt (by omega) f1_20 hL20_6 (rs w k_20) 0 (by first | assumption | omega | rfl | (congr 1; omega)) (by first | assumption | omega | rfl | (congr 1; omega)) (by first | assumption | omega | rfl | (congr 1; omega)) (by first | assumption | omega | rfl | (congr 1; omega)) (by first | assumption | omega | rfl | (congr 1; omega))) ⟨cbE 3 (wd_1609 hE) (wd_126 hE) (wd_1607 hE) rfl rfl (by decide +kernel) ⟨Nat.le_of_ble_eq_true rfl, Nat.le_of_ble_eq_true rfl⟩, (wd_1608 hE)⟩ ⟨PR.blind, (r_pre (av := [.ref (b jt), .int (nI (rs w k_20)), .int 0]) hK hP hJ hE)⟩ rfl rfl hl.1 rfl (lv_room (Nat.le_of_ble_eq_true rfl)) dX12_begins_132 ⟨Nat.le_of_ble_eq_true rfl, Nat.le_of_ble_eq_true rfl⟩) (fun u26 H locs hpo26 hP hS => ?_)
          obtain ⟨h26_0, h26_1, h26_2, h26_3, h26_4, h26_5, h26_6, h26_7, hq26⟩ := hpo26
          obtain ⟨w27, hA27⟩ : ∃ g, rA u26 jt = g := ⟨_, rfl⟩
          rw [hA27] at h26_0 h26_1 h26_2 h26_3 h26_4 h26_5 h26_6 h26_7
          have hA28 := (hq26.1 1 (by simp only [List.mem_cons, List.not_mem_nil, or_false, not_or]; omega)).trans hA21
          have hA29 := (hq26.1 jw (by simp only [List.mem_cons, List.not_mem_nil, or_false, not_or]; omega)).trans hA22
          have hfr := FR.step hfr hq26 (by simp) (fun _ h => absurd h List.not_mem_nil) (fun h => rfl)
          have hl26_0 := pg_le h26_0
          have gn := h26_1
          have gx := h26_4
          refine lv_iinc (v := nI (k_20 + 1)) (lv' := [(5, .int (nI (k_20 + 1))), (0, .ref (b 0)), (1, .ref (b jw)), (2, .int (nI i)), (3, .ref (b jt)), (4, .int (nI (rn w)))]) hx hb dX12_begins_135 hl (k := 5) rfl (nI_1 k_20) (by decide) rfl (fun ls hl => ?_)
          refine lv_goto (tgt := 99) hx hb dX12_begins_138 (by decide) ?_
          exact ih20 _ u26 _ _ _ (by omega) ⟨hP, hS, hfr, (k_20 + 1), w27, rfl, (by first | assumption | omega | rfl | (congr 1; omega)), (by first | assumption | omega | rfl | (congr 1; omega)), (by first | assumption | omega | rfl | (congr 1; omega)), (by first | assumption | omega | rfl | (congr 1; omega)), (by rw [vx_s]; omega), (by first | (intro hki; omega) | (intro _; rw [gn]; exact gx)), hA27, lv_sub hl [1, 2, 3, 4, 5, 0] rfl⟩
        · have c25 := mt (b_le (nI_toInt (n := i) (by omega)) (nI_toInt (n := k_20 + 1) (by omega))).mpr c25
          refine lv_aload_n hx hb dX12_begins_120 rfl (lv_at hl 1 rfl) ?_
          refine lv_iload hx hb dX12_begins_121 (lv_at hl 5 rfl) ?_
          refine lv_iconst (v := 1) hx hb dX12_begins_123 (by decide) ?_
          refine lv_iadd hx hb dX12_begins_124 ?_
          refine W.eq (g2 := F0 m 125 ls [.int (nI (k_20 + 1)), .ref (b jw), .int (nI (rs w k_20)), .ref (b jt)]) (congrArg (fun z : Int32 => F0 m 125 ls (.int z :: [.ref (b jw), .int (nI (rs w k_20)), .ref (b jt)])) (nI_add k_20 1)) ?_
          refine vp_callSi (va_Run.run (va_runS (As := [.ref (b jw), .int (nI (k_20 + 1))]) (rest := [.int (nI (rs w k_20)), .ref (b jt)]) ⟨hx, hb, hml, hown, noTs⟩ (r_X12_number l dC dI H.size cs b u20 a hA21 jw (by omega) w hA22 (k_20 + 1) (by first | assumption | omega | rfl | (congr 1; omega))) ⟨cbE 2 (wd_1664 hE) (wd_126 hE) (wd_1662 hE) rfl rfl (by decide +kernel) ⟨Nat.le_of_ble_eq_true rfl, Nat.le_of_ble_eq_true rfl⟩, (wd_1663 hE)⟩ ⟨PR.blind, (r_pre (av := [.ref (b jw), .int (nI (k_20 + 1))]) hK hP hJ hE)⟩ rfl rfl hl.1 rfl (lv_room (Nat.le_of_ble_eq_true rfl)) dX12_begins_125 ⟨Nat.le_of_ble_eq_true rfl, Nat.le_of_ble_eq_true rfl⟩)) (fun r30 hr30 => ?_)
          refine lv_goto (tgt := 132) hx hb dX12_begins_128 (by decide) ?_
          refine rc_v hAL hS hA (va_runS (As := [.ref (b jt), .int (nI (rs w k_20)), .int r30]) (rest := []) ⟨hx, hb, hml, hown, noTs⟩ (r_X12_goes l dC dI H.size cs b u20 a hA21 jt (by omega) f1_20 hL20_6 (rs w k_20) r30 (by first | assumption | omega | rfl | (congr 1; omega)) (by first | assumption | omega | rfl | (congr 1; omega)) (by first | assumption | omega | rfl | (congr 1; omega)) (by first | assumption | omega | rfl | (congr 1; omega)) (by first | assumption | omega | rfl | (congr 1; omega))) ⟨cbE 3 (wd_1609 hE) (wd_126 hE) (wd_1607 hE) rfl rfl (by decide +kernel) ⟨Nat.le_of_ble_eq_true rfl, Nat.le_of_ble_eq_true rfl⟩, (wd_1608 hE)⟩ ⟨PR.blind, (r_pre (av := [.ref (b jt), .int (nI (rs w k_20)), .int r30]) hK hP hJ hE)⟩ rfl rfl hl.1 rfl (lv_room (Nat.le_of_ble_eq_true rfl)) dX12_begins_132 ⟨Nat.le_of_ble_eq_true rfl, Nat.le_of_ble_eq_true rfl⟩) (fun u31 H locs hpo31 hP hS => ?_)
          obtain ⟨h31_0, h31_1, h31_2, h31_3, h31_4, h31_5, h31_6, h31_7, hq31⟩ := hpo31
          obtain ⟨w32, hA32⟩ : ∃ g, rA u31 jt = g := ⟨_, rfl⟩
          rw [hA32] at h31_0 h31_1 h31_2 h31_3 h31_4 h31_5 h31_6 h31_7
          have hA33 := (hq31.1 1 (by simp only [List.mem_cons, List.not_mem_nil, or_false, not_or]; omega)).trans hA21
          have hA34 := (hq31.1 jw (by simp only [List.mem_cons, List.not_mem_nil, or_false, not_or]; omega)).trans hA22
          have hfr := FR.step hfr hq31 (by simp) (fun _ h => absurd h List.not_mem_nil) (fun h => rfl)
          have hl31_0 := pg_le h31_0
          have gn := h31_1
          have gx := h31_4
          refine lv_iinc (v := nI (k_20 + 1)) (lv' := [(5, .int (nI (k_20 + 1))), (0, .ref (b 0)), (1, .ref (b jw)), (2, .int (nI i)), (3, .ref (b jt)), (4, .int (nI (rn w)))]) hx hb dX12_begins_135 hl (k := 5) rfl (nI_1 k_20) (by decide) rfl (fun ls hl => ?_)
          refine lv_goto (tgt := 99) hx hb dX12_begins_138 (by decide) ?_
          exact ih20 _ u31 _ _ _ (by omega) ⟨hP, hS, hfr, (k_20 + 1), w32, rfl, (by first | assumption | omega | rfl | (congr 1; omega)), (by first | assumption | omega | rfl | (congr 1; omega)), (by first | assumption | omega | rfl | (congr 1; omega)), (by first | assumption | omega | rfl | (congr 1; omega)), (by rw [vx_s]; omega), (by first | (intro hki; omega) | (intro _; rw [gn]; exact gx)), hA32, lv_sub hl [1, 2, 3, 4, 5, 0] rfl⟩
    · have c19 := mt (b_le (nI_toInt (n := rn w) (by omega)) (nI_toInt (n := k_16) (by omega))).mpr c19
      have hsl := pg_sl hp1 (i := k_16) (by omega)
      have hsv := pg_sv hp1 (i := k_16) (by omega)
      refine lv_aload_n hx hb dX12_begins_43 rfl (lv_at hl 3 rfl) ?_
      refine lv_aload_n hx hb dX12_begins_44 rfl (lv_at hl 1 rfl) ?_
      refine lv_iload hx hb dX12_begins_45 (lv_at hl 5 rfl) ?_
      refine vp_callSi (va_Run.run (va_runS (As := [.ref (b jw), .int (nI k_16)]) (rest := [.ref (b jt)]) ⟨hx, hb, hml, hown, noTs⟩ (r_X12_step l dC dI H.size cs b u16 a hA17 jw (by omega) w hA18 k_16 (by first | assumption | omega | rfl | (congr 1; omega)) (by first | assumption | omega | rfl | (congr 1; omega))) ⟨cbE 2 (wd_1602 hE) (wd_126 hE) (wd_1600 hE) rfl rfl (by decide +kernel) ⟨Nat.le_of_ble_eq_true rfl, Nat.le_of_ble_eq_true rfl⟩, (wd_1601 hE)⟩ ⟨PR.blind, (r_pre (av := [.ref (b jw), .int (nI k_16)]) hK hP hJ hE)⟩ rfl rfl hl.1 rfl (lv_room (Nat.le_of_ble_eq_true rfl)) dX12_begins_47 ⟨Nat.le_of_ble_eq_true rfl, Nat.le_of_ble_eq_true rfl⟩)) (fun r35 hr35 => ?_)
      have hau35 := pg_sl (a := a) (w := w) (i := k_16) (by assumption) (by first | assumption | omega)
      subst hr35
      refine lv_iload hx hb dX12_begins_50 (lv_at hl 5 rfl) ?_
      refine lv_iconst (v := 1) hx hb dX12_begins_52 (by decide) ?_
      refine lv_iadd hx hb dX12_begins_53 ?_
      refine W.eq (g2 := F0 m 54 ls [.int (nI (k_16 + 1)), .int (nI (rs w k_16)), .ref (b jt)]) (congrArg (fun z : Int32 => F0 m 54 ls (.int z :: [.int (nI (rs w k_16)), .ref (b jt)])) (nI_add k_16 1)) ?_
      refine lv_iload hx hb dX12_begins_54 (lv_at hl 4 rfl) ?_
      refine lv_icmp_ge (tgt := 70) hx hb dX12_begins_56 (by decide) (fun c36 => ?_) (fun c36 => ?_)
      · have c36 := (b_le (nI_toInt (n := rn w) (by omega)) (nI_toInt (n := k_16 + 1) (by omega))).mp c36
        refine lv_aload_n hx hb dX12_begins_70 rfl (lv_at hl 0 rfl) ?_
        refine lv_aload_n hx hb dX12_begins_71 rfl (lv_at hl 1 rfl) ?_
        refine lv_iconst (v := 0) hx hb dX12_begins_72 (by decide) ?_
        refine r_iald (j := jw) (k := 0) (n := 200) (x := nI (rb w)) hx hb hK hP (by omega) (rE_row (by omega)) (by decide) (by decide) (by rw [hA18]; exact pg_b hp1) dX12_begins_73 ?_
        refine lv_aload_n hx hb dX12_begins_74 rfl (lv_at hl 1 rfl) ?_
        refine vp_callSi (va_Run.run (va_runS (As := [.ref (b jw)]) (rest := [.int (nI (rb w)), .ref (b 0), .int (nI (rs w k_16)), .ref (b jt)]) ⟨hx, hb, hml, hown, noTs⟩ (r_X12_last l dC dI H.size cs b u16 a hA17 jw (by omega) w hA18 (by first | assumption | omega | rfl | (congr 1; omega))) ⟨cbE 1 (wd_1709 hE) (wd_126 hE) (wd_1707 hE) rfl rfl (by decide +kernel) ⟨Nat.le_of_ble_eq_true rfl, Nat.le_of_ble_eq_true rfl⟩, (wd_1708 hE)⟩ ⟨PR.blind, (r_pre (av := [.ref (b jw)]) hK hP hJ hE)⟩ rfl rfl hl.1 rfl (lv_room (Nat.le_of_ble_eq_true rfl)) dX12_begins_75 ⟨Nat.le_of_ble_eq_true rfl, Nat.le_of_ble_eq_true rfl⟩)) (fun r38 hr38 => ?_)
        refine lv_aload_n hx hb dX12_begins_78 rfl (lv_at hl 1 rfl) ?_
        refine lv_iconst (v := 0) hx hb dX12_begins_79 (by decide) ?_
        refine vp_callSi (va_Run.run (va_runS (As := [.ref (b jw), .int (nI 0)]) (rest := [.int r38, .int (nI (rb w)), .ref (b 0), .int (nI (rs w k_16)), .ref (b jt)]) ⟨hx, hb, hml, hown, noTs⟩ (r_X12_number l dC dI H.size cs b u16 a hA17 jw (by omega) w hA18 0 (by first | assumption | omega | rfl | (congr 1; omega))) ⟨cbE 2 (wd_1664 hE) (wd_126 hE) (wd_1662 hE) rfl rfl (by decide +kernel) ⟨Nat.le_of_ble_eq_true rfl, Nat.le_of_ble_eq_true rfl⟩, (wd_1663 hE)⟩ ⟨PR.blind, (r_pre (av := [.ref (b jw), .int (nI 0)]) hK hP hJ hE)⟩ rfl rfl hl.1 rfl (lv_room (Nat.le_of_ble_eq_true rfl)) dX12_begins_80 ⟨Nat.le_of_ble_eq_true rfl, Nat.le_of_ble_eq_true rfl⟩)) (fun r39 hr39 => ?_)
        refine lv_iadd hx hb dX12_begins_83 ?_
        refine lv_topi (fun x40 ex40 => ?_)
        refine vp_callSi (va_Run.run (va_runV (As := [.int (nI (rb w)), .int x40]) (rest := [.int (nI (rs w k_16)), .ref (b jt)]) ⟨hx, hb, hml, hown, noTs⟩ (r_X12_round l dC dI H.size cs b u16 a hA17 (rb w) x40 (by first | assumption | omega | rfl | (congr 1; omega)) (by first | assumption | omega | rfl | (congr 1; omega))) ⟨cbE 2 (wd_1576 hE) (wd_126 hE) (wd_1573 hE) rfl rfl (by decide +kernel) ⟨Nat.le_of_ble_eq_true rfl, Nat.le_of_ble_eq_true rfl⟩, (wd_1575 hE), (wd_71 hE)⟩ ⟨PR.blind, r_recv hK hP rfl, (r_pre (av := [.ref (b 0), .int (nI (rb w)), .int x40]) hK hP hJ hE)⟩ rfl rfl hl.1 rfl (lv_room (Nat.le_of_ble_eq_true rfl)) dX12_begins_84 ⟨Nat.le_of_ble_eq_true rfl, Nat.le_of_ble_eq_true rfl⟩)) (fun r41 hr41 => ?_)
        have hau41 := (gg_od (a := a) (v := (rb w)) (by assumption) (by first | assumption | omega)).2
        obtain ⟨n41, rfl, hn41_0⟩ := hr41
        refine rc_v hAL hS hA (va_runS (As := [.ref (b jt), .int (nI (rs w k_16)), .int (nI n41)]) (rest := []) ⟨hx, hb, hml, hown, noTs⟩ (r_X12_goes l dC dI H.size cs b u16 a hA17 jt (by omega) f1_16 hL16_6 (rs w k_16) (nI n41) (by first | assumption | omega | rfl | (congr 1; omega)) (by first | assumption | omega | rfl | (congr 1; omega)) (by first | assumption | omega | rfl | (congr 1; omega)) (by first | assumption | omega | rfl | (congr 1; omega)) (by first | assumption | omega | rfl | (congr 1; omega))) ⟨cbE 3 (wd_1609 hE) (wd_126 hE) (wd_1607 hE) rfl rfl (by decide +kernel) ⟨Nat.le_of_ble_eq_true rfl, Nat.le_of_ble_eq_true rfl⟩, (wd_1608 hE)⟩ ⟨PR.blind, (r_pre (av := [.ref (b jt), .int (nI (rs w k_16)), .int (nI n41)]) hK hP hJ hE)⟩ rfl rfl hl.1 rfl (lv_room (Nat.le_of_ble_eq_true rfl)) dX12_begins_87 ⟨Nat.le_of_ble_eq_true rfl, Nat.le_of_ble_eq_true rfl⟩) (fun u42 H locs hpo42 hP hS => ?_)
        obtain ⟨h42_0, h42_1, h42_2, h42_3, h42_4, h42_5, h42_6, h42_7, hq42⟩ := hpo42
        obtain ⟨w43, hA43⟩ : ∃ g, rA u42 jt = g := ⟨_, rfl⟩
        rw [hA43] at h42_0 h42_1 h42_2 h42_3 h42_4 h42_5 h42_6 h42_7
        have hA44 := (hq42.1 1 (by simp only [List.mem_cons, List.not_mem_nil, or_false, not_or]; omega)).trans hA17
        have hA45 := (hq42.1 jw (by simp only [List.mem_cons, List.not_mem_nil, or_false, not_or]; omega)).trans hA18
        have hfr := FR.step hfr hq42 (by simp) (fun _ h => absurd h List.not_mem_nil) (fun h => rfl)
        have hl42_0 := pg_le h42_0
        refine lv_iinc (v := nI (k_16 + 1)) (lv' := [(5, .int (nI (k_16 + 1))), (0, .ref (b 0)), (1, .ref (b jw)), (2, .int (nI i)), (3, .ref (b jt)), (4, .int (nI (rn w)))]) hx hb dX12_begins_90 hl (k := 5) rfl (nI_1 k_16) (by decide) rfl (fun ls hl => ?_)
        refine lv_goto (tgt := 36) hx hb dX12_begins_93 (by decide) ?_
        exact ih16 _ u42 _ _ _ (by omega) ⟨hP, hS, hfr, (k_16 + 1), w43, rfl, (by first | assumption | omega | rfl | (congr 1; omega)), (by first | assumption | omega | rfl | (congr 1; omega)), (by first | assumption | omega | rfl | (congr 1; omega)), (by first | assumption | omega | rfl | (congr 1; omega)), (by first | assumption | omega | rfl | (congr 1; omega)), (by rw [vx_s]; omega), hA43, lv_sub hl [1, 2, 3, 4, 5, 0] rfl⟩
      · have c36 := mt (b_le (nI_toInt (n := rn w) (by omega)) (nI_toInt (n := k_16 + 1) (by omega))).mpr c36
        refine lv_aload_n hx hb dX12_begins_59 rfl (lv_at hl 1 rfl) ?_
        refine lv_iload hx hb dX12_begins_60 (lv_at hl 5 rfl) ?_
        refine lv_iconst (v := 1) hx hb dX12_begins_62 (by decide) ?_
        refine lv_iadd hx hb dX12_begins_63 ?_
        refine W.eq (g2 := F0 m 64 ls [.int (nI (k_16 + 1)), .ref (b jw), .int (nI (rs w k_16)), .ref (b jt)]) (congrArg (fun z : Int32 => F0 m 64 ls (.int z :: [.ref (b jw), .int (nI (rs w k_16)), .ref (b jt)])) (nI_add k_16 1)) ?_
        refine vp_callSi (va_Run.run (va_runS (As := [.ref (b jw), .int (nI (k_16 + 1))]) (rest := [.int (nI (rs w k_16)), .ref (b jt)]) ⟨hx, hb, hml, hown, noTs⟩ (r_X12_number l dC dI H.size cs b u16 a hA17 jw (by omega) w hA18 (k_16 + 1) (by first | assumption | omega | rfl | (congr 1; omega))) ⟨cbE 2 (wd_1664 hE) (wd_126 hE) (wd_1662 hE) rfl rfl (by decide +kernel) ⟨Nat.le_of_ble_eq_true rfl, Nat.le_of_ble_eq_true rfl⟩, (wd_1663 hE)⟩ ⟨PR.blind, (r_pre (av := [.ref (b jw), .int (nI (k_16 + 1))]) hK hP hJ hE)⟩ rfl rfl hl.1 rfl (lv_room (Nat.le_of_ble_eq_true rfl)) dX12_begins_64 ⟨Nat.le_of_ble_eq_true rfl, Nat.le_of_ble_eq_true rfl⟩)) (fun r46 hr46 => ?_)
        refine lv_goto (tgt := 87) hx hb dX12_begins_67 (by decide) ?_
        refine rc_v hAL hS hA (va_runS (As := [.ref (b jt), .int (nI (rs w k_16)), .int r46]) (rest := []) ⟨hx, hb, hml, hown, noTs⟩ (r_X12_goes l dC dI H.size cs b u16 a hA17 jt (by omega) f1_16 hL16_6 (rs w k_16) r46 (by first | assumption | omega | rfl | (congr 1; omega)) (by first | assumption | omega | rfl | (congr 1; omega)) (by first | assumption | omega | rfl | (congr 1; omega)) (by first | assumption | omega | rfl | (congr 1; omega)) (by first | assumption | omega | rfl | (congr 1; omega))) ⟨cbE 3 (wd_1609 hE) (wd_126 hE) (wd_1607 hE) rfl rfl (by decide +kernel) ⟨Nat.le_of_ble_eq_true rfl, Nat.le_of_ble_eq_true rfl⟩, (wd_1608 hE)⟩ ⟨PR.blind, (r_pre (av := [.ref (b jt), .int (nI (rs w k_16)), .int r46]) hK hP hJ hE)⟩ rfl rfl hl.1 rfl (lv_room (Nat.le_of_ble_eq_true rfl)) dX12_begins_87 ⟨Nat.le_of_ble_eq_true rfl, Nat.le_of_ble_eq_true rfl⟩) (fun u47 H locs hpo47 hP hS => ?_)
        obtain ⟨h47_0, h47_1, h47_2, h47_3, h47_4, h47_5, h47_6, h47_7, hq47⟩ := hpo47
        obtain ⟨w48, hA48⟩ : ∃ g, rA u47 jt = g := ⟨_, rfl⟩
        rw [hA48] at h47_0 h47_1 h47_2 h47_3 h47_4 h47_5 h47_6 h47_7
        have hA49 := (hq47.1 1 (by simp only [List.mem_cons, List.not_mem_nil, or_false, not_or]; omega)).trans hA17
        have hA50 := (hq47.1 jw (by simp only [List.mem_cons, List.not_mem_nil, or_false, not_or]; omega)).trans hA18
        have hfr := FR.step hfr hq47 (by simp) (fun _ h => absurd h List.not_mem_nil) (fun h => rfl)
        have hl47_0 := pg_le h47_0
        refine lv_iinc (v := nI (k_16 + 1)) (lv' := [(5, .int (nI (k_16 + 1))), (0, .ref (b 0)), (1, .ref (b jw)), (2, .int (nI i)), (3, .ref (b jt)), (4, .int (nI (rn w)))]) hx hb dX12_begins_90 hl (k := 5) rfl (nI_1 k_16) (by decide) rfl (fun ls hl => ?_)
        refine lv_goto (tgt := 36) hx hb dX12_begins_93 (by decide) ?_
        exact ih16 _ u47 _ _ _ (by omega) ⟨hP, hS, hfr, (k_16 + 1), w48, rfl, (by first | assumption | omega | rfl | (congr 1; omega)), (by first | assumption | omega | rfl | (congr 1; omega)), (by first | assumption | omega | rfl | (congr 1; omega)), (by first | assumption | omega | rfl | (congr 1; omega)), (by first | assumption | omega | rfl | (congr 1; omega)), (by rw [vx_s]; omega), hA48, lv_sub hl [1, 2, 3, 4, 5, 0] rfl⟩
  · have c7 := (b_eq (nI_toInt (n := i) (by omega)) (show Int32.toInt 0 = 0 from rfl)).mp c7
    refine lv_aload_n hx hb dX12_begins_4 rfl (lv_at hl 1 rfl) ?_
    refine lv_aload_n hx hb dX12_begins_5 rfl (lv_at hl 3 rfl) ?_
    refine rc_v hAL hS hA (va_runS (As := [.ref (b jw), .ref (b jt)]) (rest := []) ⟨hx, hb, hml, hown, noTs⟩ (r_X12_lays l dC dI s.heap.size cs b u a hA1 jw (by omega) w hAjw jt (by omega) g hAjt (by first | assumption | omega | rfl | (congr 1; omega)) (by first | assumption | omega | rfl | (congr 1; omega)) (by first | assumption | omega | rfl | (congr 1; omega))) ⟨cbE 2 (wd_1706 hE) (wd_126 hE) (wd_1704 hE) rfl rfl (by decide +kernel) ⟨Nat.le_of_ble_eq_true rfl, Nat.le_of_ble_eq_true rfl⟩, (wd_1705 hE)⟩ ⟨PR.blind, (r_pre (av := [.ref (b jw), .ref (b jt)]) hK hP hJ hE)⟩ rfl rfl hl.1 rfl (lv_room (Nat.le_of_ble_eq_true rfl)) dX12_begins_6 ⟨Nat.le_of_ble_eq_true rfl, Nat.le_of_ble_eq_true rfl⟩) (fun u51 H locs hpo51 hP hS => ?_)
    obtain ⟨h51_0, h51_1, h51_2, h51_3, h51_4, h51_5, hq51⟩ := hpo51
    obtain ⟨w52, hA52⟩ : ∃ g, rA u51 jt = g := ⟨_, rfl⟩
    rw [hA52] at h51_0 h51_1 h51_2 h51_3 h51_4 h51_5
    have hA53 := (hq51.1 1 (by simp only [List.mem_cons, List.not_mem_nil, or_false, not_or]; omega)).trans hA1
    have hA54 := (hq51.1 jw (by simp only [List.mem_cons, List.not_mem_nil, or_false, not_or]; omega)).trans hAjw
    have hfr := FR.step hfr hq51 (by simp) (fun _ h => absurd h List.not_mem_nil) (fun h => rfl)
    have hl51_0 := pg_le h51_0
    exact W.vret hx hb hr (fun t ht hW => ⟨⟨u51, rfl, ⟨(by first | (rw [hA52]; done) | (rw [hA52]; first | assumption | omega | rfl | (congr 1; omega))), (by first | (rw [hA52]; done) | (rw [hA52]; first | assumption | omega | rfl | (congr 1; omega))), (by first | (rw [hA52]; done) | (rw [hA52]; first | assumption | omega | rfl | (congr 1; omega))), (by first | (rw [hA52]; done) | (rw [hA52]; first | assumption | omega | rfl | (congr 1; omega))), hfr⟩, (show va_P (dC, dI) vwCl (rW cs b u51) t.heap by rw [ht]; exact hP)⟩, hS.F ht⟩) hS.2.2 dX12_begins_9
