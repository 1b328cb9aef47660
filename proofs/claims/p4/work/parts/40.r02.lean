set_option maxHeartbeats 4000000 in
set_option maxRecDepth 100000 in
theorem r_X12_joins (l : Launch) (dC : Nat → ClassId) (dI : Nat → Nat → Nat) (sz : Nat) (cs : Nat → ClassId) (b : Nat → Nat) (u : RS) (a : Nat → Int32) (hA1 : rA u 1 = a) (jw : Nat) (hjwr : 3 ≤ jw ∧ jw ≤ 14) (w : Nat → Int32) (hAjw : rA u jw = w) (jx : Nat) (hjxr : 3 ≤ jx ∧ jx ≤ 14) (x : Nat → Int32) (hAjx : rA u jx = x) (jt : Nat) (hjtr : 3 ≤ jt ∧ jt ≤ 14) (g : Nat → Int32) (hAjt : rA u jt = g) (hp0 : GG a) (hp1 : PG a w) (hp2 : LG a w) (hp3 : PG a x) (hp4 : LG a x) (hp5 : rn w + rn x ≤ 98) (hp6 : rb x = vend a w) (hp7 : jw ≠ 13) (hp8 : jx ≠ 13) (hp9 : jt ≠ 13) (hp10 : jw ≠ jt) (hp11 : jx ≠ jt) : Met l yX12_joins [.code yX12_joins cX12_joins 5 none] ({ frames := 5, cells := 0, slots := 0, locals := 200 }) (PR [.ref (b 0), .ref (b jw), .ref (b jx), .ref (b jt)] sz dC dI cs b u) (va_Qv (fun (u' : RS) => (PG a (rA u' jt)) ∧ (LG a (rA u' jt)) ∧ (rn (rA u' jt) ≤ rn w + rn x) ∧ (rb (rA u' jt) = rb w) ∧ (vend a (rA u' jt) = vend a x) ∧ FR [13, jt] [5] false u u') (BR dC dI cs b) (AR b sz)) 0 0 (AR b sz) := by
  refine Met.ofW (cc := cX12_joins) (maxL := 5) (ret := none) (by decide) rfl ?_
  intro p e s m args below meth c s₁ B hml hv
  obtain ⟨rfl, hsz, hP, hK, hJ, hE⟩ := hv
  have hx := B.exec
  have hb := B.bytes
  have hr := B.returns
  have hown : s.vm.findClass RX12 = some m.cls := findClass_of_methodNamed B.named
  have hlocks := B.notSynchronized
  subst hsz
  have hAL : ∀ i, i < 108 → AR b s.heap.size (b i) := fun i h => Or.inl ⟨i, h, rfl⟩
  have hA : ∀ q : Nat, s.heap.size ≤ q → AR b s.heap.size q := fun q h => Or.inr h
  have hS : va_S (AR b s.heap.size) s.heap s.heap [] := va_S.rf
  have hfr : FR [13, jt] [5] false u u := FR.refl
  have hl := lv_entry ([.ref (b 0), .ref (b jw), .ref (b jx), .ref (b jt)]) (n := 5) (Nat.le_of_ble_eq_true rfl)
  rw [lg_entry_eq]
  generalize (lg_sl ([.ref (b 0), .ref (b jw), .ref (b jx), .ref (b jt)]) ++ List.replicate (5 - (lg_sl ([.ref (b 0), .ref (b jw), .ref (b jx), .ref (b jt)])).length) Slot.unset).toArray = ls at hl ⊢
  have hl : lv_has ls 5 [(0, .ref (b 0)), (1, .ref (b jw)), (2, .ref (b jx)), (3, .ref (b jt))] := hl
  have hG := hp0
  have ha1 := gg_le hp0
  have ha2 := pg_le hp1
  have ha4 := pg_le hp3
  have hve := pg_end hG hp1
  have hvo := gg_od hG hve
  refine lv_aload_n hx hb dX12_joins_0 rfl (lv_at hl 1 rfl) ?_
  refine lv_aload_n hx hb dX12_joins_1 rfl (lv_at hl 0 rfl) ?_
  refine r_get (v := .ref (b 13)) hx hb (ly_X12 hE) hown hK hP rfl 6 (by decide) (wd_1387 hE) (fun _ h9 => h9) rfl dX12_joins_2 ?_
  obtain ⟨g13, hg13⟩ : ∃ g, rA u 13 = g := ⟨_, rfl⟩
  refine rc_v hAL hS hA (va_runS (As := [.ref (b jw), .ref (b 13)]) (rest := []) ⟨hx, hb, hml, hown, noTs⟩ (r_X12_lays l dC dI s.heap.size cs b u a hA1 jw (by omega) w hAjw 13 (by decide) g13 hg13 (by first | assumption | omega | rfl | (congr 1; omega)) (by first | assumption | omega | rfl | (congr 1; omega)) (by first | assumption | omega | rfl | (congr 1; omega))) ⟨cbE 2 (wd_1706 hE) (wd_126 hE) (wd_1704 hE) rfl rfl (by decide +kernel) ⟨Nat.le_of_ble_eq_true rfl, Nat.le_of_ble_eq_true rfl⟩, (wd_1705 hE)⟩ ⟨PR.blind, (r_pre (av := [.ref (b jw), .ref (b 13)]) hK hP hJ hE)⟩ rfl rfl hl.1 rfl (lv_room (Nat.le_of_ble_eq_true rfl)) dX12_joins_5 ⟨Nat.le_of_ble_eq_true rfl, Nat.le_of_ble_eq_true rfl⟩) (fun u14 H locs hpo14 hP hS => ?_)
  obtain ⟨h14_0, h14_1, h14_2, h14_3, h14_4, h14_5, hq14⟩ := hpo14
  obtain ⟨w15, hA15⟩ : ∃ g, rA u14 13 = g := ⟨_, rfl⟩
  rw [hA15] at h14_0 h14_1 h14_2 h14_3 h14_4 h14_5
  have hA16 := (hq14.1 1 (by decide)).trans hA1
  have hA17 := (hq14.1 jw (by simp only [List.mem_cons, List.not_mem_nil, or_false, not_or]; omega)).trans hAjw
  have hA18 := (hq14.1 jx (by simp only [List.mem_cons, List.not_mem_nil, or_false, not_or]; omega)).trans hAjx
  have hA19 := (hq14.1 jt (by simp only [List.mem_cons, List.not_mem_nil, or_false, not_or]; omega)).trans hAjt
  have hfr := FR.step hfr hq14 (by simp) (fun _ h => absurd h List.not_mem_nil) (fun h => rfl)
  have hl14_0 := pg_le h14_0
  have PG13 := h14_0
  have E13 := h14_2
  have V13 := h14_4
  refine lv_aload_n hx hb dX12_joins_8 rfl (lv_at hl 0 rfl) ?_
  refine r_get (v := .ref (b 13)) hx hb (ly_X12 hE) hown hK hP rfl 6 (by decide) (wd_1387 hE) (fun _ h9 => h9) rfl dX12_joins_9 ?_
  refine lv_iconst (v := 2) hx hb dX12_joins_12 (by decide) ?_
  refine lv_iconst (v := 2) hx hb dX12_joins_13 (by decide) ?_
  refine lv_aload_n hx hb dX12_joins_14 rfl (lv_at hl 1 rfl) ?_
  refine lv_iconst (v := 1) hx hb dX12_joins_15 (by decide) ?_
  refine r_iald (j := jw) (k := 1) (n := 200) (x := nI (rn w)) hx hb hK hP (by omega) (rE_row (by omega)) (by decide) (by decide) (by rw [hA17]; exact pg_n hp1) dX12_joins_16 ?_
  refine lv_imul hx hb dX12_joins_17 ?_
  refine W.eq (g2 := F0 m 18 ls [.int (nI (2 * (rn w))), .int 2, .ref (b 13)]) (congrArg (fun z : Int32 => F0 m 18 ls (.int z :: [.int 2, .ref (b 13)])) (pk_mul 2 (rn w))) ?_
  refine lv_iadd hx hb dX12_joins_18 ?_
  refine W.eq (g2 := F0 m 19 ls [.int (nI (2 + (2 * (rn w)))), .ref (b 13)]) (congrArg (fun z : Int32 => F0 m 19 ls (.int z :: [.ref (b 13)])) (nI_add 2 (2 * (rn w)))) ?_
  refine lv_aload_n hx hb dX12_joins_19 rfl (lv_at hl 0 rfl) ?_
  refine lv_aload_n hx hb dX12_joins_20 rfl (lv_at hl 0 rfl) ?_
  refine lv_aload_n hx hb dX12_joins_21 rfl (lv_at hl 1 rfl) ?_
  refine vp_callSi (va_Run.run (va_runV (As := [.ref (b jw)]) (rest := [.ref (b 0), .int (nI (2 + (2 * (rn w)))), .ref (b 13)]) ⟨hx, hb, hml, hown, noTs⟩ (r_X12_end l dC dI H.size cs b u14 a hA16 jw (by omega) w hA17 (by first | assumption | omega | rfl | (congr 1; omega)) (by first | assumption | omega | rfl | (congr 1; omega))) ⟨cbE 1 (wd_1599 hE) (wd_126 hE) (wd_1596 hE) rfl rfl (by decide +kernel) ⟨Nat.le_of_ble_eq_true rfl, Nat.le_of_ble_eq_true rfl⟩, (wd_1598 hE), (wd_76 hE)⟩ ⟨PR.blind, r_recv hK hP rfl, (r_pre (av := [.ref (b 0), .ref (b jw)]) hK hP hJ hE)⟩ rfl rfl hl.1 rfl (lv_room (Nat.le_of_ble_eq_true rfl)) dX12_joins_22 ⟨Nat.le_of_ble_eq_true rfl, Nat.le_of_ble_eq_true rfl⟩)) (fun r21 hr21 => ?_)
  have hau21 := pg_end (a := a) (w := w) (by assumption) (by assumption)
  subst hr21
  refine lv_aload_n hx hb dX12_joins_25 rfl (lv_at hl 1 rfl) ?_
  refine vp_callSi (va_Run.run (va_runS (As := [.ref (b jw)]) (rest := [.int (nI (vend a w)), .ref (b 0), .int (nI (2 + (2 * (rn w)))), .ref (b 13)]) ⟨hx, hb, hml, hown, noTs⟩ (r_X12_last l dC dI H.size cs b u14 a hA16 jw (by omega) w hA17 (by first | assumption | omega | rfl | (congr 1; omega))) ⟨cbE 1 (wd_1709 hE) (wd_126 hE) (wd_1707 hE) rfl rfl (by decide +kernel) ⟨Nat.le_of_ble_eq_true rfl, Nat.le_of_ble_eq_true rfl⟩, (wd_1708 hE)⟩ ⟨PR.blind, (r_pre (av := [.ref (b jw)]) hK hP hJ hE)⟩ rfl rfl hl.1 rfl (lv_room (Nat.le_of_ble_eq_true rfl)) dX12_joins_26 ⟨Nat.le_of_ble_eq_true rfl, Nat.le_of_ble_eq_true rfl⟩)) (fun r22 hr22 => ?_)
  refine lv_aload_n hx hb dX12_joins_29 rfl (lv_at hl 2 rfl) ?_
  refine lv_iconst (v := 0) hx hb dX12_joins_30 (by decide) ?_
  refine vp_callSi (va_Run.run (va_runS (As := [.ref (b jx), .int (nI 0)]) (rest := [.int r22, .int (nI (vend a w)), .ref (b 0), .int (nI (2 + (2 * (rn w)))), .ref (b 13)]) ⟨hx, hb, hml, hown, noTs⟩ (r_X12_number l dC dI H.size cs b u14 a hA16 jx (by omega) x hA18 0 (by first | assumption | omega | rfl | (congr 1; omega))) ⟨cbE 2 (wd_1664 hE) (wd_126 hE) (wd_1662 hE) rfl rfl (by decide +kernel) ⟨Nat.le_of_ble_eq_true rfl, Nat.le_of_ble_eq_true rfl⟩, (wd_1663 hE)⟩ ⟨PR.blind, (r_pre (av := [.ref (b jx), .int (nI 0)]) hK hP hJ hE)⟩ rfl rfl hl.1 rfl (lv_room (Nat.le_of_ble_eq_true rfl)) dX12_joins_31 ⟨Nat.le_of_ble_eq_true rfl, Nat.le_of_ble_eq_true rfl⟩)) (fun r23 hr23 => ?_)
  refine lv_iadd hx hb dX12_joins_34 ?_
  refine lv_topi (fun x24 ex24 => ?_)
  refine vp_callSi (va_Run.run (va_runV (As := [.int (nI (vend a w)), .int x24]) (rest := [.int (nI (2 + (2 * (rn w)))), .ref (b 13)]) ⟨hx, hb, hml, hown, noTs⟩ (r_X12_round l dC dI H.size cs b u14 a hA16 (vend a w) x24 (by first | assumption | omega | rfl | (congr 1; omega)) (by first | assumption | omega | rfl | (congr 1; omega))) ⟨cbE 2 (wd_1576 hE) (wd_126 hE) (wd_1573 hE) rfl rfl (by decide +kernel) ⟨Nat.le_of_ble_eq_true rfl, Nat.le_of_ble_eq_true rfl⟩, (wd_1575 hE), (wd_71 hE)⟩ ⟨PR.blind, r_recv hK hP rfl, (r_pre (av := [.ref (b 0), .int (nI (vend a w)), .int x24]) hK hP hJ hE)⟩ rfl rfl hl.1 rfl (lv_room (Nat.le_of_ble_eq_true rfl)) dX12_joins_35 ⟨Nat.le_of_ble_eq_true rfl, Nat.le_of_ble_eq_true rfl⟩)) (fun r25 hr25 => ?_)
  have hau25 := (gg_od (a := a) (v := (vend a w)) (by assumption) (by first | assumption | omega)).2
  obtain ⟨n25, rfl, hn25_0⟩ := hr25
  refine r_iast (j := 13) (k := 2 + (2 * (rn w))) (n := 200) (x := nI n25) hx hb hK hP hJ hAL hS (by decide) (fun _ => rfl) hA15 (by omega) (by decide) dX12_joins_38 (fun u26 H locs hs26 hq26 hP hS => ?_)
  obtain ⟨w26, hw26⟩ : ∃ g, g = upd w15 (2 + (2 * (rn w))) (nI n25) := ⟨_, rfl⟩
  rw [← hw26] at hs26
  have hA27 := (hq26.1 1 (by decide)).trans hA16
  have hA28 := (hq26.1 jw (by simp only [List.mem_cons, List.not_mem_nil, or_false, not_or]; omega)).trans hA17
  have hA29 := (hq26.1 jx (by simp only [List.mem_cons, List.not_mem_nil, or_false, not_or]; omega)).trans hA18
  have hA30 := (hq26.1 jt (by simp only [List.mem_cons, List.not_mem_nil, or_false, not_or]; omega)).trans hA19
  have hfr := FR.step hfr hq26 (by simp) (fun _ h => absurd h List.not_mem_nil) (fun h => rfl)
  obtain ⟨p1, p2, p3, p4, p5⟩ := pg_put hw26 PG13
  have p8 : LG a w26 := lg_mk (n := rn w) (by omega) (v := vend a w) (by omega) (by rw [hw26]; exact pk_us) (by omega) (by omega)
  refine lv_iconst (v := 0) hx hb dX12_joins_39 (by decide) ?_
  refine lv_istore (lv' := [(4, .int 0), (0, .ref (b 0)), (1, .ref (b jw)), (2, .ref (b jx)), (3, .ref (b jt))]) hx hb dX12_joins_40 hl (by decide) rfl (fun ls hl => ?_)
  refine r_ind (I := fun n u_ H locs ls => va_P (dC, dI) vwCl (rW cs b u_) H ∧ va_S (AR b s.heap.size) s.heap H locs ∧ FR [13, jt] [5] false u u_ ∧ ∃ (i_31 : Nat) (f1_31 : Nat → Int32), n = rn x - i_31 ∧ (PG a f1_31) ∧ (i_31 ≤ rn x) ∧ (rn f1_31 = rn w + i_31) ∧ (rb f1_31 = rb w) ∧ (vend a f1_31 = vx a x i_31) ∧ (i_31 = 0 → LG a f1_31) ∧ (0 < i_31 → f1_31 (2 + 2 * rn f1_31) = x (2 + 2 * i_31)) ∧ (rA u_ 13 = f1_31) ∧ lv_has ls 5 [(0, .ref (b 0)), (1, .ref (b jw)), (2, .ref (b jx)), (3, .ref (b jt)), (4, .int (nI i_31))]) (fun n u31 H locs ls hI ih31 => ?_) _ u26 _ _ _ ⟨hP, hS, hfr, 0, w26, rfl, (by first | assumption | omega | rfl | (congr 1; omega)), (by first | assumption | omega | rfl | (congr 1; omega)), (by first | assumption | omega | rfl | (congr 1; omega)), (by first | assumption | omega | rfl | (congr 1; omega)), (by rw [vx_0]; omega), (by exact fun _ => p8), (by omega), hs26, lv_sub hl [1, 2, 3, 4, 0] rfl⟩
  obtain ⟨hP, hS, hfr, i_31, f1_31, hmu31, hL31_0, hL31_1, hL31_2, hL31_3, hL31_4, hL31_5, hL31_6, hL31_7, hl⟩ := hI
  have hA32 := (hfr.1 1 (by simp only [List.mem_cons, List.not_mem_nil, or_false, not_or]; omega)).trans hA1
  have hA33 := (hfr.1 jw (by simp only [List.mem_cons, List.not_mem_nil, or_false, not_or]; omega)).trans hAjw
  have hA34 := (hfr.1 jx (by simp only [List.mem_cons, List.not_mem_nil, or_false, not_or]; omega)).trans hAjx
  subst hmu31
  have hl31_0 := pg_le hL31_0
  refine lv_iload hx hb dX12_joins_42 (lv_at hl 4 rfl) ?_
  refine lv_aload_n hx hb dX12_joins_44 rfl (lv_at hl 2 rfl) ?_
  refine lv_iconst (v := 1) hx hb dX12_joins_45 (by decide) ?_
  refine r_iald (j := jx) (k := 1) (n := 200) (x := nI (rn x)) hx hb hK hP (by omega) (rE_row (by omega)) (by decide) (by decide) (by rw [hA34]; exact pg_n hp3) dX12_joins_46 ?_
  refine lv_icmp_ge (tgt := 77) hx hb dX12_joins_47 (by decide) (fun c36 => ?_) (fun c36 => ?_)
  · have c36 := (b_le (nI_toInt (n := rn x) (by omega)) (nI_toInt (n := i_31) (by omega))).mp c36
    have hie : i_31 = rn x := by omega
    have q4 : vend a f1_31 = vend a x := by rw [hL31_4, hie]; rfl
    have q8 : LG a f1_31 := by
      by_cases z : i_31 = 0
      · exact hL31_5 z
      · have z2 := hL31_6 (by omega)
        rw [hie] at z2
        exact lg_of rfl q4 z2 hp4.1 hp4.2
    refine lv_aload_n hx hb dX12_joins_77 rfl (lv_at hl 0 rfl) ?_
    refine lv_aload_n hx hb dX12_joins_78 rfl (lv_at hl 0 rfl) ?_
    refine r_get (v := .ref (b 13)) hx hb (ly_X12 hE) hown hK hP rfl 6 (by decide) (wd_1387 hE) (fun _ h9 => h9) rfl dX12_joins_79 ?_
    refine lv_aload_n hx hb dX12_joins_82 rfl (lv_at hl 3 rfl) ?_
    obtain ⟨g37, hg37⟩ : ∃ g, rA u31 jt = g := ⟨_, rfl⟩
    refine rc_v hAL hS hA (va_runV (As := [.ref (b 13), .ref (b jt)]) (rest := []) ⟨hx, hb, hml, hown, noTs⟩ (r_X12_forms l dC dI H.size cs b u31 a hA32 13 (by decide) f1_31 hL31_7 jt (by omega) g37 hg37 (by first | assumption | omega | rfl | (congr 1; omega)) (by first | assumption | omega | rfl | (congr 1; omega)) (by first | assumption | omega | rfl | (congr 1; omega)) (by first | assumption | omega | rfl | (congr 1; omega))) ⟨cbE 2 (wd_1661 hE) (wd_126 hE) (wd_1658 hE) rfl rfl (by decide +kernel) ⟨Nat.le_of_ble_eq_true rfl, Nat.le_of_ble_eq_true rfl⟩, (wd_1660 hE), (wd_85 hE)⟩ ⟨PR.blind, r_recv hK hP rfl, (r_pre (av := [.ref (b 0), .ref (b 13), .ref (b jt)]) hK hP hJ hE)⟩ rfl rfl hl.1 rfl (lv_room (Nat.le_of_ble_eq_true rfl)) dX12_joins_83 ⟨Nat.le_of_ble_eq_true rfl, Nat.le_of_ble_eq_true rfl⟩) (fun u38 H locs hpo38 hP hS => ?_)
    obtain ⟨h38_0, h38_1, h38_2, h38_3, h38_4, hq38⟩ := hpo38
    obtain ⟨w39, hA39⟩ : ∃ g, rA u38 jt = g := ⟨_, rfl⟩
    rw [hA39] at h38_0 h38_1 h38_2 h38_3 h38_4
    have hA40 := (hq38.1 1 (by simp only [List.mem_cons, List.not_mem_nil, or_false, not_or]; omega)).trans hA32
    have hA41 := (hq38.1 jw (by simp only [List.mem_cons, List.not_mem_nil, or_false, not_or]; omega)).trans hA33
    have hA42 := (hq38.1 jx (by simp only [List.mem_cons, List.not_mem_nil, or_false, not_or]; omega)).trans hA34
    have hA43 := (hq38.1 13 (by simp only [List.mem_cons, List.not_mem_nil, or_false, not_or]; omega)).trans hL31_7
    have hfr := FR.step hfr hq38 (by simp) (by decide) (fun h => rfl)
    have hl38_0 := pg_le h38_0
    exact W.vret hx hb hr (fun t ht hW => ⟨⟨u38, rfl, ⟨(by first | (rw [hA39]; done) | (rw [hA39]; first | assumption | omega | rfl | (congr 1; omega))), (by first | (rw [hA39]; done) | (rw [hA39]; first | assumption | omega | rfl | (congr 1; omega))), (by first | (rw [hA39]; done) | (rw [hA39]; first | assumption | omega | rfl | (congr 1; omega))), (by first | (rw [hA39]; done) | (rw [hA39]; first | assumption | omega | rfl | (congr 1; omega))), (by first | (rw [hA39]; done) | (rw [hA39]; first | assumption | omega | rfl | (congr 1; omega))), hfr⟩, (show va_P (dC, dI) vwCl (rW cs b u38) t.heap by rw [ht]; exact hP)⟩, hS.F ht⟩) hS.2.2 dX12_joins_86
  · have c36 := mt (b_le (nI_toInt (n := rn x) (by omega)) (nI_toInt (n := i_31) (by omega))).mpr c36
    have hsl := pg_sl hp3 (i := i_31) (by omega)
    have hsv := pg_sv hp3 (i := i_31) (by omega)
    refine lv_aload_n hx hb dX12_joins_50 rfl (lv_at hl 0 rfl) ?_
    refine r_get (v := .ref (b 13)) hx hb (ly_X12 hE) hown hK hP rfl 6 (by decide) (wd_1387 hE) (fun _ h9 => h9) rfl dX12_joins_51 ?_
    refine lv_aload_n hx hb dX12_joins_54 rfl (lv_at hl 2 rfl) ?_
    refine lv_iload hx hb dX12_joins_55 (lv_at hl 4 rfl) ?_
    refine vp_callSi (va_Run.run (va_runS (As := [.ref (b jx), .int (nI i_31)]) (rest := [.ref (b 13)]) ⟨hx, hb, hml, hown, noTs⟩ (r_X12_step l dC dI H.size cs b u31 a hA32 jx (by omega) x hA34 i_31 (by first | assumption | omega | rfl | (congr 1; omega)) (by first | assumption | omega | rfl | (congr 1; omega))) ⟨cbE 2 (wd_1602 hE) (wd_126 hE) (wd_1600 hE) rfl rfl (by decide +kernel) ⟨Nat.le_of_ble_eq_true rfl, Nat.le_of_ble_eq_true rfl⟩, (wd_1601 hE)⟩ ⟨PR.blind, (r_pre (av := [.ref (b jx), .int (nI i_31)]) hK hP hJ hE)⟩ rfl rfl hl.1 rfl (lv_room (Nat.le_of_ble_eq_true rfl)) dX12_joins_57 ⟨Nat.le_of_ble_eq_true rfl, Nat.le_of_ble_eq_true rfl⟩)) (fun r44 hr44 => ?_)
    have hau44 := pg_sl (a := a) (w := x) (i := i_31) (by assumption) (by first | assumption | omega)
    subst hr44
    refine lv_aload_n hx hb dX12_joins_60 rfl (lv_at hl 2 rfl) ?_
    refine lv_iload hx hb dX12_joins_61 (lv_at hl 4 rfl) ?_
    refine lv_iconst (v := 1) hx hb dX12_joins_63 (by decide) ?_
    refine lv_iadd hx hb dX12_joins_64 ?_
    refine W.eq (g2 := F0 m 65 ls [.int (nI (i_31 + 1)), .ref (b jx), .int (nI (rs x i_31)), .ref (b 13)]) (congrArg (fun z : Int32 => F0 m 65 ls (.int z :: [.ref (b jx), .int (nI (rs x i_31)), .ref (b 13)])) (nI_add i_31 1)) ?_
    refine vp_callSi (va_Run.run (va_runS (As := [.ref (b jx), .int (nI (i_31 + 1))]) (rest := [.int (nI (rs x i_31)), .ref (b 13)]) ⟨hx, hb, hml, hown, noTs⟩ (r_X12_number l dC dI H.size cs b u31 a hA32 jx (by omega) x hA34 (i_31 + 1) (by first | assumption | omega | rfl | (congr 1; omega))) ⟨cbE 2 (wd_1664 hE) (wd_126 hE) (wd_1662 hE) rfl rfl (by decide +kernel) ⟨Nat.le_of_ble_eq_true rfl, Nat.le_of_ble_eq_true rfl⟩, (wd_1663 hE)⟩ ⟨PR.blind, (r_pre (av := [.ref (b jx), .int (nI (i_31 + 1))]) hK hP hJ hE)⟩ rfl rfl hl.1 rfl (lv_room (Nat.le_of_ble_eq_true rfl)) dX12_joins_65 ⟨Nat.le_of_ble_eq_true rfl, Nat.le_of_ble_eq_true rfl⟩)) (fun r45 hr45 => ?_)
    have hv1 := hr45
    refine rc_v hAL hS hA (va_runS (As := [.ref (b 13), .int (nI (rs x i_31)), .int r45]) (rest := []) ⟨hx, hb, hml, hown, noTs⟩ (r_X12_goes l dC dI H.size cs b u31 a hA32 13 (by decide) f1_31 hL31_7 (rs x i_31) r45 (by first | assumption | omega | rfl | (congr 1; omega)) (by first | assumption | omega | rfl | (congr 1; omega)) (by first | assumption | omega | rfl | (congr 1; omega)) (by first | assumption | omega | rfl | (congr 1; omega)) (by first | assumption | omega | rfl | (congr 1; omega))) ⟨cbE 3 (wd_1609 hE) (wd_126 hE) (wd_1607 hE) rfl rfl (by decide +kernel) ⟨Nat.le_of_ble_eq_true rfl, Nat.le_of_ble_eq_true rfl⟩, (wd_1608 hE)⟩ ⟨PR.blind, (r_pre (av := [.ref (b 13), .int (nI (rs x i_31)), .int r45]) hK hP hJ hE)⟩ rfl rfl hl.1 rfl (lv_room (Nat.le_of_ble_eq_true rfl)) dX12_joins_68 ⟨Nat.le_of_ble_eq_true rfl, Nat.le_of_ble_eq_true rfl⟩) (fun u46 H locs hpo46 hP hS => ?_)
    obtain ⟨h46_0, h46_1, h46_2, h46_3, h46_4, h46_5, h46_6, h46_7, hq46⟩ := hpo46
    obtain ⟨w47, hA47⟩ : ∃ g, rA u46 13 = g := ⟨_, rfl⟩
    rw [hA47] at h46_0 h46_1 h46_2 h46_3 h46_4 h46_5 h46_6 h46_7
    have hA48 := (hq46.1 1 (by decide)).trans hA32
    have hA49 := (hq46.1 jw (by simp only [List.mem_cons, List.not_mem_nil, or_false, not_or]; omega)).trans hA33
    have hA50 := (hq46.1 jx (by simp only [List.mem_cons, List.not_mem_nil, or_false, not_or]; omega)).trans hA34
    have hfr := FR.step hfr hq46 (by simp) (fun _ h => absurd h List.not_mem_nil) (fun h => rfl)
    have hl46_0 := pg_le h46_0
    have g1 := h46_1
    have g4 := h46_4
    refine lv_iinc (v := nI (i_31 + 1)) (lv' := [(4, .int (nI (i_31 + 1))), (0, .ref (b 0)), (1, .ref (b jw)), (2, .ref (b jx)), (3, .ref (b jt))]) hx hb dX12_joins_71 hl (k := 4) rfl (nI_1 i_31) (by decide) rfl (fun ls hl => ?_)
    refine lv_goto (tgt := 42) hx hb dX12_joins_74 (by decide) ?_
    exact ih31 _ u46 _ _ _ (by omega) ⟨hP, hS, hfr, (i_31 + 1), w47, rfl, (by first | assumption | omega | rfl | (congr 1; omega)), (by first | assumption | omega | rfl | (congr 1; omega)), (by first | assumption | omega | rfl | (congr 1; omega)), (by first | assumption | omega | rfl | (congr 1; omega)), (by rw [vx_s]; omega), (by omega), (by intro _; rw [g1, g4]; exact hv1), hA47, lv_sub hl [1, 2, 3, 4, 0] rfl⟩

set_option maxHeartbeats 4000000 in
set_option maxRecDepth 100000 in
theorem r_X12_turns (l : Launch) (dC : Nat → ClassId) (dI : Nat → Nat → Nat) (sz : Nat) (cs : Nat → ClassId) (b : Nat → Nat) (u : RS) (a : Nat → Int32) (hA1 : rA u 1 = a) (jw : Nat) (hjwr : 3 ≤ jw ∧ jw ≤ 14) (w : Nat → Int32) (hAjw : rA u jw = w) (jt : Nat) (hjtr : 3 ≤ jt ∧ jt ≤ 14) (g : Nat → Int32) (hAjt : rA u jt = g) (hp0 : GG a) (hp1 : PG a w) (hp2 : LG a w) (hp3 : jw ≠ 13) (hp4 : jt ≠ 13) (hp5 : jw ≠ jt) : Met l yX12_turns [.code yX12_turns cX12_turns 6 none] ({ frames := 5, cells := 0, slots := 0, locals := 200 }) (PR [.ref (b 0), .ref (b jw), .ref (b jt)] sz dC dI cs b u) (va_Qv (fun (u' : RS) => (PG a (rA u' jt)) ∧ (LG a (rA u' jt)) ∧ (rn (rA u' jt) ≤ rn w) ∧ (rb (rA u' jt) = vend a w) ∧ (vend a (rA u' jt) = rb w) ∧ FR [13, jt] [5] false u u') (BR dC dI cs b) (AR b sz)) 0 0 (AR b sz) := by
  refine Met.ofW (cc := cX12_turns) (maxL := 6) (ret := none) (by decide) rfl ?_
  intro p e s m args below meth c s₁ B hml hv
  obtain ⟨rfl, hsz, hP, hK, hJ, hE⟩ := hv
  have hx := B.exec
  have hb := B.bytes
  have hr := B.returns
  have hown : s.vm.findClass RX12 = some m.cls := findClass_of_methodNamed B.named
  have hlocks := B.notSynchronized
  subst hsz
  have hAL : ∀ i, i < 108 → AR b s.heap.size (b i) := fun i h => Or.inl ⟨i, h, rfl⟩
  have hA : ∀ q : Nat, s.heap.size ≤ q → AR b s.heap.size q := fun q h => Or.inr h
  have hS : va_S (AR b s.heap.size) s.heap s.heap [] := va_S.rf
  have hfr : FR [13, jt] [5] false u u := FR.refl
  have hl := lv_entry ([.ref (b 0), .ref (b jw), .ref (b jt)]) (n := 6) (Nat.le_of_ble_eq_true rfl)
  rw [lg_entry_eq]
  generalize (lg_sl ([.ref (b 0), .ref (b jw), .ref (b jt)]) ++ List.replicate (6 - (lg_sl ([.ref (b 0), .ref (b jw), .ref (b jt)])).length) Slot.unset).toArray = ls at hl ⊢
  have hl : lv_has ls 6 [(0, .ref (b 0)), (1, .ref (b jw)), (2, .ref (b jt))] := hl
  have hG := hp0
  have ha1 := gg_le hp0
  have ha2 := pg_le hp1
  have hve := pg_end hG hp1
  have hvo := gg_od hG hve
  refine lv_aload_n hx hb dX12_turns_0 rfl (lv_at hl 0 rfl) ?_
  refine lv_aload_n hx hb dX12_turns_1 rfl (lv_at hl 1 rfl) ?_
  refine vp_callSi (va_Run.run (va_runV (As := [.ref (b jw)]) (rest := []) ⟨hx, hb, hml, hown, noTs⟩ (r_X12_end l dC dI s.heap.size cs b u a hA1 jw (by omega) w hAjw (by first | assumption | omega | rfl | (congr 1; omega)) (by first | assumption | omega | rfl | (congr 1; omega))) ⟨cbE 1 (wd_1599 hE) (wd_126 hE) (wd_1596 hE) rfl rfl (by decide +kernel) ⟨Nat.le_of_ble_eq_true rfl, Nat.le_of_ble_eq_true rfl⟩, (wd_1598 hE), (wd_76 hE)⟩ ⟨PR.blind, r_recv hK hP rfl, (r_pre (av := [.ref (b 0), .ref (b jw)]) hK hP hJ hE)⟩ rfl rfl hl.1 rfl (lv_room (Nat.le_of_ble_eq_true rfl)) dX12_turns_2 ⟨Nat.le_of_ble_eq_true rfl, Nat.le_of_ble_eq_true rfl⟩)) (fun r7 hr7 => ?_)
  have hau7 := pg_end (a := a) (w := w) (by assumption) (by assumption)
  subst hr7
  refine lv_istore_n (lv' := [(3, .int (nI (vend a w))), (0, .ref (b 0)), (1, .ref (b jw)), (2, .ref (b jt))]) hx hb dX12_turns_5 rfl hl (by decide) rfl (fun ls hl => ?_)
  refine lv_aload_n hx hb dX12_turns_6 rfl (lv_at hl 1 rfl) ?_
  refine r_get (v := .ref (b 13)) hx hb (ly_X12 hE) hown hK hP rfl 6 (by decide) (wd_1387 hE) (fun _ h9 => h9) rfl dX12_turns_7 ?_
  refine lv_iload_n hx hb dX12_turns_10 rfl (lv_at hl 0 rfl) ?_
  refine lv_aload_n hx hb dX12_turns_11 rfl (lv_at hl 1 rfl) ?_
  refine lv_iload_n hx hb dX12_turns_12 rfl (lv_at hl 0 rfl) ?_
  refine lv_aload_n hx hb dX12_turns_13 rfl (lv_at hl 2 rfl) ?_
  refine vp_callSi (va_Run.run (va_runS (As := [.ref (b jw)]) (rest := [.int (nI (vend a w)), .ref (b 0), .int (nI (vend a w)), .ref (b 13)]) ⟨hx, hb, hml, hown, noTs⟩ (r_X12_last l dC dI s.heap.size cs b u a hA1 jw (by omega) w hAjw (by first | assumption | omega | rfl | (congr 1; omega))) ⟨cbE 1 (wd_1709 hE) (wd_126 hE) (wd_1707 hE) rfl rfl (by decide +kernel) ⟨Nat.le_of_ble_eq_true rfl, Nat.le_of_ble_eq_true rfl⟩, (wd_1708 hE)⟩ ⟨PR.blind, (r_pre (av := [.ref (b jw)]) hK hP hJ hE)⟩ rfl rfl hl.1 rfl (lv_room (Nat.le_of_ble_eq_true rfl)) dX12_turns_14 ⟨Nat.le_of_ble_eq_true rfl, Nat.le_of_ble_eq_true rfl⟩)) (fun r8 hr8 => ?_)
  refine lv_ineg hx hb dX12_turns_17 ?_
  refine lv_topi (fun x9 ex9 => ?_)
  refine vp_callSi (va_Run.run (va_runV (As := [.int (nI (vend a w)), .int x9]) (rest := [.int (nI (vend a w)), .ref (b 13)]) ⟨hx, hb, hml, hown, noTs⟩ (r_X12_round l dC dI s.heap.size cs b u a hA1 (vend a w) x9 (by first | assumption | omega | rfl | (congr 1; omega)) (by first | assumption | omega | rfl | (congr 1; omega))) ⟨cbE 2 (wd_1576 hE) (wd_126 hE) (wd_1573 hE) rfl rfl (by decide +kernel) ⟨Nat.le_of_ble_eq_true rfl, Nat.le_of_ble_eq_true rfl⟩, (wd_1575 hE), (wd_71 hE)⟩ ⟨PR.blind, r_recv hK hP rfl, (r_pre (av := [.ref (b 0), .int (nI (vend a w)), .int x9]) hK hP hJ hE)⟩ rfl rfl hl.1 rfl (lv_room (Nat.le_of_ble_eq_true rfl)) dX12_turns_18 ⟨Nat.le_of_ble_eq_true rfl, Nat.le_of_ble_eq_true rfl⟩)) (fun r10 hr10 => ?_)
  have hau10 := (gg_od (a := a) (v := (vend a w)) (by assumption) (by first | assumption | omega)).2
  obtain ⟨n10, rfl, hn10_0⟩ := hr10
  obtain ⟨g11, hg11⟩ : ∃ g, rA u 13 = g := ⟨_, rfl⟩
  refine rc_v hAL hS hA (va_runS (As := [.ref (b 13), .int (nI (vend a w)), .int (nI n10)]) (rest := []) ⟨hx, hb, hml, hown, noTs⟩ (r_X12_single l dC dI s.heap.size cs b u a hA1 13 (by decide) g11 hg11 (vend a w) (nI n10) (by first | assumption | omega | rfl | (congr 1; omega)) (by first | assumption | omega | rfl | (congr 1; omega))) ⟨cbE 3 (wd_1579 hE) (wd_126 hE) (wd_1577 hE) rfl rfl (by decide +kernel) ⟨Nat.le_of_ble_eq_true rfl, Nat.le_of_ble_eq_true rfl⟩, (wd_1578 hE)⟩ ⟨PR.blind, (r_pre (av := [.ref (b 13), .int (nI (vend a w)), .int (nI n10)]) hK hP hJ hE)⟩ rfl rfl hl.1 rfl (lv_room (Nat.le_of_ble_eq_true rfl)) dX12_turns_21 ⟨Nat.le_of_ble_eq_true rfl, Nat.le_of_ble_eq_true rfl⟩) (fun u12 H locs hpo12 hP hS => ?_)
  obtain ⟨h12_0, h12_1, h12_2, h12_3, h12_4, hq12⟩ := hpo12
  obtain ⟨w13, hA13⟩ : ∃ g, rA u12 13 = g := ⟨_, rfl⟩
  rw [hA13] at h12_0 h12_1 h12_2 h12_3 h12_4
  have hA14 := (hq12.1 1 (by decide)).trans hA1
  have hA15 := (hq12.1 jw (by simp only [List.mem_cons, List.not_mem_nil, or_false, not_or]; omega)).trans hAjw
  have hA16 := (hq12.1 jt (by simp only [List.mem_cons, List.not_mem_nil, or_false, not_or]; omega)).trans hAjt
  have hfr := FR.step hfr hq12 (by simp) (fun _ h => absurd h List.not_mem_nil) (fun h => rfl)
  have hl12_0 := pg_le h12_0
  have q8 : LG a w13 := lg_mk (n := 0) h12_1 h12_3 h12_4 (by omega) (by omega)
  have q7 : vend a w = vx a w (rn w) := rfl
  refine lv_aload_n hx hb dX12_turns_24 rfl (lv_at hl 2 rfl) ?_
  refine lv_iconst (v := 1) hx hb dX12_turns_25 (by decide) ?_
  refine r_iald (j := jw) (k := 1) (n := 200) (x := nI (rn w)) hx hb hK hP (by omega) (rE_row (by omega)) (by decide) (by decide) (by rw [hA15]; exact pg_n hp1) dX12_turns_26 ?_
  refine lv_iconst (v := 1) hx hb dX12_turns_27 (by decide) ?_
  refine lv_isub hx hb dX12_turns_28 ?_
  refine lv_topi (fun x18 ex18 => ?_)
  have hz19 : x18.toInt = ((rn w : Nat) : Int) - (1 : Int) := by rw [ex18]; exact z_sub (nI_toInt (n := rn w) (by omega)) (show Int32.toInt 1 = 1 from rfl) (by omega) (by omega)
  refine lv_istore (lv' := [(4, .int x18), (3, .int (nI (vend a w))), (0, .ref (b 0)), (1, .ref (b jw)), (2, .ref (b jt))]) hx hb dX12_turns_29 hl (by decide) rfl (fun ls hl => ?_)
  refine r_ind (I := fun n u_ H locs ls => va_P (dC, dI) vwCl (rW cs b u_) H ∧ va_S (AR b s.heap.size) s.heap H locs ∧ FR [13, jt] [5] false u u_ ∧ ∃ (k_20 : Nat) (x_20 : Int32) (f1_20 : Nat → Int32), n = 1 + k_20 ∧ (PG a f1_20) ∧ (k_20 ≤ rn w) ∧ (x_20.toInt = (k_20 : Int) - 1) ∧ (rn f1_20 = rn w - k_20) ∧ (rb f1_20 = vend a w) ∧ (vend a f1_20 = vx a w k_20) ∧ (LG a f1_20) ∧ (rA u_ 13 = f1_20) ∧ lv_has ls 6 [(0, .ref (b 0)), (1, .ref (b jw)), (2, .ref (b jt)), (3, .int (nI (vend a w))), (4, .int x_20)]) (fun n u20 H locs ls hI ih20 => ?_) _ u12 _ _ _ ⟨hP, hS, hfr, rn w, x18, w13, rfl, (by first | assumption | omega | rfl | (congr 1; omega)), (by first | assumption | omega | rfl | (congr 1; omega)), (by omega), (by first | assumption | omega | rfl | (congr 1; omega)), (by first | assumption | omega | rfl | (congr 1; omega)), (by omega), (by exact q8), hA13, lv_sub hl [2, 3, 4, 1, 0] rfl⟩
  obtain ⟨hP, hS, hfr, k_20, x_20, f1_20, hmu20, hL20_0, hL20_1, hL20_2, hL20_3, hL20_4, hL20_5, hL20_6, hL20_7, hl⟩ := hI
  have hA21 := (hfr.1 1 (by simp only [List.mem_cons, List.not_mem_nil, or_false, not_or]; omega)).trans hA1
  have hA22 := (hfr.1 jw (by simp only [List.mem_cons, List.not_mem_nil, or_false, not_or]; omega)).trans hAjw
  subst hmu20
  have hl20_0 := pg_le hL20_0
  refine lv_iload hx hb dX12_turns_31 (lv_at hl 4 rfl) ?_
  refine lv_if_lt (tgt := 82) hx hb dX12_turns_33 (by decide) (fun c23 => ?_) (fun c23 => ?_)
  · have c23 := (b_lt (rfl : Int32.toInt x_20 = _) (show Int32.toInt 0 = 0 from rfl)).mp c23
    have hk0 : k_20 = 0 := by omega
    have q4 : vend a f1_20 = rb w := by rw [hL20_5, hk0, vx_0]
    refine lv_aload_n hx hb dX12_turns_82 rfl (lv_at hl 0 rfl) ?_
    refine lv_aload_n hx hb dX12_turns_83 rfl (lv_at hl 0 rfl) ?_
    refine r_get (v := .ref (b 13)) hx hb (ly_X12 hE) hown hK hP rfl 6 (by decide) (wd_1387 hE) (fun _ h9 => h9) rfl dX12_turns_84 ?_
    refine lv_aload_n hx hb dX12_turns_87 rfl (lv_at hl 2 rfl) ?_
    obtain ⟨g24, hg24⟩ : ∃ g, rA u20 jt = g := ⟨_, rfl⟩
    refine rc_v hAL hS hA (va_runV (As := [.ref (b 13), .ref (b jt)]) (rest := []) ⟨hx, hb, hml, hown, noTs⟩ (r_X12_forms l dC dI H.size cs b u20 a hA21 13 (by decide) f1_20 hL20_7 jt (by omega) g24 hg24 (by first | assumption | omega | rfl | (congr 1; omega)) (by first | assumption | omega | rfl | (congr 1; omega)) (by first | assumption | omega | rfl | (congr 1; omega)) (by first | assumption | omega | rfl | (congr 1; omega))) ⟨cbE 2 (wd_1661 hE) (wd_126 hE) (wd_1658 hE) rfl rfl (by decide +kernel) ⟨Nat.le_of_ble_eq_true rfl, Nat.le_of_ble_eq_true rfl⟩, (wd_1660 hE), (wd_85 hE)⟩ ⟨PR.blind, r_recv hK hP rfl, (r_pre (av := [.ref (b 0), .ref (b 13), .ref (b jt)]) hK hP hJ hE)⟩ rfl rfl hl.1 rfl (lv_room (Nat.le_of_ble_eq_true rfl)) dX12_turns_88 ⟨Nat.le_of_ble_eq_true rfl, Nat.le_of_ble_eq_true rfl⟩) (fun u25 H locs hpo25 hP hS => ?_)
    obtain ⟨h25_0, h25_1, h25_2, h25_3, h25_4, hq25⟩ := hpo25
    obtain ⟨w26, hA26⟩ : ∃ g, rA u25 jt = g := ⟨_, rfl⟩
    rw [hA26] at h25_0 h25_1 h25_2 h25_3 h25_4
    have hA27 := (hq25.1 1 (by simp only [List.mem_cons, List.not_mem_nil, or_false, not_or]; omega)).trans hA21
    have hA28 := (hq25.1 jw (by simp only [List.mem_cons, List.not_mem_nil, or_false, not_or]; omega)).trans hA22
    have hA29 := (hq25.1 13 (by simp only [List.mem_cons, List.not_mem_nil, or_false, not_or]; omega)).trans hL20_7
    have hfr := FR.step hfr hq25 (by simp) (by decide) (fun h => rfl)
    have hl25_0 := pg_le h25_0
    exact W.vret hx hb hr (fun t ht hW => ⟨⟨u25, rfl, ⟨(by first | (rw [hA26]; done) | (rw [hA26]; first | assumption | omega | rfl | (congr 1; omega))), (by first | (rw [hA26]; done) | (rw [hA26]; first | assumption | omega | rfl | (congr 1; omega))), (by first | (rw [hA26]; done) | (rw [hA26]; first | assumption | omega | rfl | (congr 1; omega))), (by first | (rw [hA26]; done) | (rw [hA26]; first | assumption | omega | rfl | (congr 1; omega))), (by first | (rw [hA26]; done) | (rw [hA26]; first | assumption | omega | rfl | (congr 1; omega))), hfr⟩, (show va_P (dC, dI) vwCl (rW cs b u25) t.heap by rw [ht]; exact hP)⟩, hS.F ht⟩) hS.2.2 dX12_turns_91
  · have c23 := mt (b_lt (rfl : Int32.toInt x_20 = _) (show Int32.toInt 0 = 0 from rfl)).mpr c23
    have hi30 : x_20 = nI (k_20 - 1) := z_nat hL20_2 (by omega)
    subst hi30
    have hti31 := nI_toInt (n := k_20 - 1) (by omega)
    have hsl := pg_sl hp1 (i := k_20 - 1) (by omega)
    have hsv := pg_sv hp1 (i := k_20 - 1) (by omega)
    have hsd := gg_src hG hsl
    have hso := gg_od hG hsd
    have hvk : vx a w k_20 = dst a (rs w (k_20 - 1)) := vx_p (by omega)
    have hff : dst a (fl (rs w (k_20 - 1))) = src a (rs w (k_20 - 1)) := by unfold dst; rw [fl_fl]
    have hfs : src a (fl (rs w (k_20 - 1))) = dst a (rs w (k_20 - 1)) := rfl
    have hfl := fl_lt hsl
    refine lv_aload_n hx hb dX12_turns_36 rfl (lv_at hl 0 rfl) ?_
    refine lv_aload_n hx hb dX12_turns_37 rfl (lv_at hl 1 rfl) ?_
    refine lv_iload hx hb dX12_turns_38 (lv_at hl 4 rfl) ?_
    refine vp_callSi (va_Run.run (va_runS (As := [.ref (b jw), .int (nI (k_20 - 1))]) (rest := [.ref (b 0)]) ⟨hx, hb, hml, hown, noTs⟩ (r_X12_step l dC dI H.size cs b u20 a hA21 jw (by omega) w hA22 (k_20 - 1) (by first | assumption | omega | rfl | (congr 1; omega)) (by first | assumption | omega | rfl | (congr 1; omega))) ⟨cbE 2 (wd_1602 hE) (wd_126 hE) (wd_1600 hE) rfl rfl (by decide +kernel) ⟨Nat.le_of_ble_eq_true rfl, Nat.le_of_ble_eq_true rfl⟩, (wd_1601 hE)⟩ ⟨PR.blind, (r_pre (av := [.ref (b jw), .int (nI (k_20 - 1))]) hK hP hJ hE)⟩ rfl rfl hl.1 rfl (lv_room (Nat.le_of_ble_eq_true rfl)) dX12_turns_40 ⟨Nat.le_of_ble_eq_true rfl, Nat.le_of_ble_eq_true rfl⟩)) (fun r32 hr32 => ?_)
    have hau32 := pg_sl (a := a) (w := w) (i := (k_20 - 1)) (by assumption) (by first | assumption | omega)
    subst hr32
    refine vp_callSi (va_Run.run (va_runV (As := [.int (nI (rs w (k_20 - 1)))]) (rest := []) ⟨hx, hb, hml, hown, noTs⟩ (r_X12_from l dC dI H.size cs b u20 a hA21 (rs w (k_20 - 1)) (by first | assumption | omega | rfl | (congr 1; omega)) (by first | assumption | omega | rfl | (congr 1; omega))) ⟨cbE 1 (wd_1591 hE) (wd_126 hE) (wd_1588 hE) rfl rfl (by decide +kernel) ⟨Nat.le_of_ble_eq_true rfl, Nat.le_of_ble_eq_true rfl⟩, (wd_1590 hE), (wd_74 hE)⟩ ⟨PR.blind, r_recv hK hP rfl, (r_pre (av := [.ref (b 0), .int (nI (rs w (k_20 - 1)))]) hK hP hJ hE)⟩ rfl rfl hl.1 rfl (lv_room (Nat.le_of_ble_eq_true rfl)) dX12_turns_43 ⟨Nat.le_of_ble_eq_true rfl, Nat.le_of_ble_eq_true rfl⟩)) (fun r33 hr33 => ?_)
    have hau33 := gg_src (a := a) (s := (rs w (k_20 - 1))) (by assumption) (by first | assumption | omega)
    subst hr33
    refine lv_istore (lv' := [(5, .int (nI (src a (rs w (k_20 - 1))))), (0, .ref (b 0)), (1, .ref (b jw)), (2, .ref (b jt)), (3, .int (nI (vend a w))), (4, .int (nI (k_20 - 1)))]) hx hb dX12_turns_46 hl (by decide) rfl (fun ls hl => ?_)
    refine lv_aload_n hx hb dX12_turns_48 rfl (lv_at hl 1 rfl) ?_
    refine r_get (v := .ref (b 13)) hx hb (ly_X12 hE) hown hK hP rfl 6 (by decide) (wd_1387 hE) (fun _ h9 => h9) rfl dX12_turns_49 ?_
    refine lv_aload_n hx hb dX12_turns_52 rfl (lv_at hl 2 rfl) ?_
    refine lv_iload hx hb dX12_turns_53 (lv_at hl 5 rfl) ?_
    refine vp_callSi (va_Run.run (va_runS (As := [.ref (b jw), .int (nI (k_20 - 1))]) (rest := [.ref (b 13)]) ⟨hx, hb, hml, hown, noTs⟩ (r_X12_step l dC dI H.size cs b u20 a hA21 jw (by omega) w hA22 (k_20 - 1) (by first | assumption | omega | rfl | (congr 1; omega)) (by first | assumption | omega | rfl | (congr 1; omega))) ⟨cbE 2 (wd_1602 hE) (wd_126 hE) (wd_1600 hE) rfl rfl (by decide +kernel) ⟨Nat.le_of_ble_eq_true rfl, Nat.le_of_ble_eq_true rfl⟩, (wd_1601 hE)⟩ ⟨PR.blind, (r_pre (av := [.ref (b jw), .int (nI (k_20 - 1))]) hK hP hJ hE)⟩ rfl rfl hl.1 rfl (lv_room (Nat.le_of_ble_eq_true rfl)) dX12_turns_55 ⟨Nat.le_of_ble_eq_true rfl, Nat.le_of_ble_eq_true rfl⟩)) (fun r34 hr34 => ?_)
    have hau34 := pg_sl (a := a) (w := w) (i := (k_20 - 1)) (by assumption) (by first | assumption | omega)
    subst hr34
    refine lv_iconst (v := 1) hx hb dX12_turns_58 (by decide) ?_
    refine lv_ixor hx hb dX12_turns_59 ?_
    refine W.eq (g2 := F0 m 60 ls [.int (nI (fl (rs w (k_20 - 1)))), .ref (b 13)]) (congrArg (fun z : Int32 => F0 m 60 ls (.int z :: [.ref (b 13)])) (nI_fl (s := rs w (k_20 - 1)) (by omega))) ?_
    have hfa35 := fl_half (rs w (k_20 - 1))
    have hfb35 := fl_mod (rs w (k_20 - 1))
    refine lv_aload_n hx hb dX12_turns_60 rfl (lv_at hl 1 rfl) ?_
    refine lv_iload hx hb dX12_turns_61 (lv_at hl 0 rfl) ?_
    refine lv_aload_n hx hb dX12_turns_63 rfl (lv_at hl 2 rfl) ?_
    refine lv_iload hx hb dX12_turns_64 (lv_at hl 5 rfl) ?_
    refine vp_callSi (va_Run.run (va_runS (As := [.ref (b jw), .int (nI (k_20 - 1))]) (rest := [.int (nI (src a (rs w (k_20 - 1)))), .ref (b 0), .int (nI (fl (rs w (k_20 - 1)))), .ref (b 13)]) ⟨hx, hb, hml, hown, noTs⟩ (r_X12_number l dC dI H.size cs b u20 a hA21 jw (by omega) w hA22 (k_20 - 1) (by first | assumption | omega | rfl | (congr 1; omega))) ⟨cbE 2 (wd_1664 hE) (wd_126 hE) (wd_1662 hE) rfl rfl (by decide +kernel) ⟨Nat.le_of_ble_eq_true rfl, Nat.le_of_ble_eq_true rfl⟩, (wd_1663 hE)⟩ ⟨PR.blind, (r_pre (av := [.ref (b jw), .int (nI (k_20 - 1))]) hK hP hJ hE)⟩ rfl rfl hl.1 rfl (lv_room (Nat.le_of_ble_eq_true rfl)) dX12_turns_66 ⟨Nat.le_of_ble_eq_true rfl, Nat.le_of_ble_eq_true rfl⟩)) (fun r36 hr36 => ?_)
    refine lv_ineg hx hb dX12_turns_69 ?_
    refine lv_topi (fun x37 ex37 => ?_)
    refine vp_callSi (va_Run.run (va_runV (As := [.int (nI (src a (rs w (k_20 - 1)))), .int x37]) (rest := [.int (nI (fl (rs w (k_20 - 1)))), .ref (b 13)]) ⟨hx, hb, hml, hown, noTs⟩ (r_X12_round l dC dI H.size cs b u20 a hA21 (src a (rs w (k_20 - 1))) x37 (by first | assumption | omega | rfl | (congr 1; omega)) (by first | assumption | omega | rfl | (congr 1; omega))) ⟨cbE 2 (wd_1576 hE) (wd_126 hE) (wd_1573 hE) rfl rfl (by decide +kernel) ⟨Nat.le_of_ble_eq_true rfl, Nat.le_of_ble_eq_true rfl⟩, (wd_1575 hE), (wd_71 hE)⟩ ⟨PR.blind, r_recv hK hP rfl, (r_pre (av := [.ref (b 0), .int (nI (src a (rs w (k_20 - 1)))), .int x37]) hK hP hJ hE)⟩ rfl rfl hl.1 rfl (lv_room (Nat.le_of_ble_eq_true rfl)) dX12_turns_70 ⟨Nat.le_of_ble_eq_true rfl, Nat.le_of_ble_eq_true rfl⟩)) (fun r38 hr38 => ?_)
    have hau38 := (gg_od (a := a) (v := (src a (rs w (k_20 - 1)))) (by assumption) (by first | assumption | omega)).2
    obtain ⟨n38, rfl, hn38_0⟩ := hr38
    refine rc_v hAL hS hA (va_runS (As := [.ref (b 13), .int (nI (fl (rs w (k_20 - 1)))), .int (nI n38)]) (rest := []) ⟨hx, hb, hml, hown, noTs⟩ (r_X12_goes l dC dI H.size cs b u20 a hA21 13 (by decide) f1_20 hL20_7 (fl (rs w (k_20 - 1))) (nI n38) (by first | assumption | omega | rfl | (congr 1; omega)) (by first | assumption | omega | rfl | (congr 1; omega)) (by first | assumption | omega | rfl | (congr 1; omega)) (by first | assumption | omega | rfl | (congr 1; omega)) (by first | assumption | omega | rfl | (congr 1; omega))) ⟨cbE 3 (wd_1609 hE) (wd_126 hE) (wd_1607 hE) rfl rfl (by decide +kernel) ⟨Nat.le_of_ble_eq_true rfl, Nat.le_of_ble_eq_true rfl⟩, (wd_1608 hE)⟩ ⟨PR.blind, (r_pre (av := [.ref (b 13), .int (nI (fl (rs w (k_20 - 1)))), .int (nI n38)]) hK hP hJ hE)⟩ rfl rfl hl.1 rfl (lv_room (Nat.le_of_ble_eq_true rfl)) dX12_turns_73 ⟨Nat.le_of_ble_eq_true rfl, Nat.le_of_ble_eq_true rfl⟩) (fun u39 H locs hpo39 hP hS => ?_)
    obtain ⟨h39_0, h39_1, h39_2, h39_3, h39_4, h39_5, h39_6, h39_7, hq39⟩ := hpo39
    obtain ⟨w40, hA40⟩ : ∃ g, rA u39 13 = g := ⟨_, rfl⟩
    rw [hA40] at h39_0 h39_1 h39_2 h39_3 h39_4 h39_5 h39_6 h39_7
    have hA41 := (hq39.1 1 (by decide)).trans hA21
    have hA42 := (hq39.1 jw (by simp only [List.mem_cons, List.not_mem_nil, or_false, not_or]; omega)).trans hA22
    have hfr := FR.step hfr hq39 (by simp) (fun _ h => absurd h List.not_mem_nil) (fun h => rfl)
    have hl39_0 := pg_le h39_0
    have q9 : LG a w40 := lg_mk (n := rn f1_20 + 1) h39_1 (h39_3.trans hff) h39_4 (by omega) (by omega)
    obtain ⟨z43, ez43⟩ : ∃ z : Int32, z = (nI (k_20 - 1)) + Int32.ofInt (-1) := ⟨_, rfl⟩
    have hz43 : z43.toInt = ((k_20 - 1 : Nat) : Int) + (-1) := by rw [ez43]; exact z_add (nI_toInt (n := k_20 - 1) (by omega)) (show Int32.toInt (Int32.ofInt (-1)) = -1 from rfl) (by omega) (by omega)
    refine lv_iinc (v := z43) (lv' := [(4, .int z43), (5, .int (nI (src a (rs w (k_20 - 1))))), (0, .ref (b 0)), (1, .ref (b jw)), (2, .ref (b jt)), (3, .int (nI (vend a w)))]) hx hb dX12_turns_76 hl (k := 5) rfl (by rw [ez43]) (by decide) rfl (fun ls hl => ?_)
    refine lv_goto (tgt := 31) hx hb dX12_turns_79 (by decide) ?_
    exact ih20 _ u39 _ _ _ (by omega) ⟨hP, hS, hfr, k_20 - 1, z43, w40, rfl, (by first | assumption | omega | rfl | (congr 1; omega)), (by first | assumption | omega | rfl | (congr 1; omega)), (by omega), (by omega), (by first | assumption | omega | rfl | (congr 1; omega)), (by omega), (by exact q9), hA40, lv_sub hl [2, 3, 4, 5, 0] rfl⟩

set_option maxHeartbeats 4000000 in
set_option maxRecDepth 100000 in
theorem r_X12_isLoop (l : Launch) (dC : Nat → ClassId) (dI : Nat → Nat → Nat) (sz : Nat) (cs : Nat → ClassId) (b : Nat → Nat) (u : RS) (a : Nat → Int32) (hA1 : rA u 1 = a) (wd : Nat) (hp0 : BG a) (hp1 : wd < wN a) : Met l yX12_isLoop [.code yX12_isLoop cX12_isLoop 2 (some .boolean)] ({ frames := 5, cells := 0, slots := 0, locals := 200 }) (PR [.ref (b 0), .int (nI wd)] sz dC dI cs b u) (va_Qi (fun (r : Int32) (u' : RS) => ((r = 1 ∧ (vend a (row a wd) = rb (row a wd))) ∨ (r = 0 ∧ (True))) ∧ FR [12] [] false u u') (BR dC dI cs b) (AR b sz)) 0 0 (AR b sz) := by
  refine Met.ofW (cc := cX12_isLoop) (maxL := 2) (ret := (some .boolean)) (by decide) rfl ?_
  intro p e s m args below meth c s₁ B hml hv
  obtain ⟨rfl, hsz, hP, hK, hJ, hE⟩ := hv
  have hx := B.exec
  have hb := B.bytes
  have hr := B.returns
  have hown : s.vm.findClass RX12 = some m.cls := findClass_of_methodNamed B.named
  have hlocks := B.notSynchronized
  subst hsz
  have hAL : ∀ i, i < 108 → AR b s.heap.size (b i) := fun i h => Or.inl ⟨i, h, rfl⟩
  have hA : ∀ q : Nat, s.heap.size ≤ q → AR b s.heap.size q := fun q h => Or.inr h
  have hS : va_S (AR b s.heap.size) s.heap s.heap [] := va_S.rf
  have hfr : FR [12] [] false u u := FR.refl
  have hl := lv_entry ([.ref (b 0), .int (nI wd)]) (n := 2) (Nat.le_of_ble_eq_true rfl)
  rw [lg_entry_eq]
  generalize (lg_sl ([.ref (b 0), .int (nI wd)]) ++ List.replicate (2 - (lg_sl ([.ref (b 0), .int (nI wd)])).length) Slot.unset).toArray = ls at hl ⊢
  have hl : lv_has ls 2 [(0, .ref (b 0)), (1, .int (nI wd))] := hl
  have hB := hp0
  have hG := bg_g hp0
  have ha1 := gg_le hG
  have ha1b := bg_w hp0
  refine lv_aload_n hx hb dX12_isLoop_0 rfl (lv_at hl 0 rfl) ?_
  refine lv_iload_n hx hb dX12_isLoop_1 rfl (lv_at hl 1 rfl) ?_
  refine lv_aload_n hx hb dX12_isLoop_2 rfl (lv_at hl 0 rfl) ?_
  refine r_get (v := .ref (b 2)) hx hb (ly_X12 hE) hown hK hP rfl 4 (by decide) (wd_1385 hE) (fun _ h9 => h9) rfl dX12_isLoop_3 ?_
  refine lv_bipush (v := 9) hx hb dX12_isLoop_6 (by decide) ?_
  refine r_aald (j := 2) (k := 9) (n := 10) (t0 := 4) (j2 := 12) hx hb hK hP (by decide) rfl rfl (by decide) (by decide) rfl dX12_isLoop_8 ?_
  obtain ⟨g3, hg3⟩ : ∃ g, rA u 12 = g := ⟨_, rfl⟩
  refine rc_v hAL hS hA (va_runV (As := [.int (nI wd), .ref (b 12)]) (rest := []) ⟨hx, hb, hml, hown, noTs⟩ (r_X12_takes l dC dI s.heap.size cs b u a hA1 wd 12 (by decide) g3 hg3 (by first | assumption | omega | rfl | (congr 1; omega)) (by first | assumption | omega | rfl | (congr 1; omega))) ⟨cbE 2 (wd_1657 hE) (wd_126 hE) (wd_1654 hE) rfl rfl (by decide +kernel) ⟨Nat.le_of_ble_eq_true rfl, Nat.le_of_ble_eq_true rfl⟩, (wd_1656 hE), (wd_84 hE)⟩ ⟨PR.blind, r_recv hK hP rfl, (r_pre (av := [.ref (b 0), .int (nI wd), .ref (b 12)]) hK hP hJ hE)⟩ rfl rfl hl.1 rfl (lv_room (Nat.le_of_ble_eq_true rfl)) dX12_isLoop_9 ⟨Nat.le_of_ble_eq_true rfl, Nat.le_of_ble_eq_true rfl⟩) (fun u4 H locs hpo4 hP hS => ?_)
  obtain ⟨h4_0, h4_1, h4_2, h4_3, h4_4, h4_5, hq4⟩ := hpo4
  obtain ⟨w5, hA5⟩ : ∃ g, rA u4 12 = g := ⟨_, rfl⟩
  rw [hA5] at h4_0 h4_1 h4_2 h4_3 h4_4 h4_5
  have hA6 := (hq4.1 1 (by decide)).trans hA1
  have hfr := FR.step hfr hq4 (by decide) (fun _ h => absurd h List.not_mem_nil) (fun h => rfl)
  have hl4_0 := pg_le h4_0
  refine lv_aload_n hx hb dX12_isLoop_12 rfl (lv_at hl 0 rfl) ?_
  refine lv_aload_n hx hb dX12_isLoop_13 rfl (lv_at hl 0 rfl) ?_
  refine r_get (v := .ref (b 2)) hx hb (ly_X12 hE) hown hK hP rfl 4 (by decide) (wd_1385 hE) (fun _ h9 => h9) rfl dX12_isLoop_14 ?_
  refine lv_bipush (v := 9) hx hb dX12_isLoop_17 (by decide) ?_
  refine r_aald (j := 2) (k := 9) (n := 10) (t0 := 4) (j2 := 12) hx hb hK hP (by decide) rfl rfl (by decide) (by decide) rfl dX12_isLoop_19 ?_
  refine vp_callSi (va_Run.run (va_runV (As := [.ref (b 12)]) (rest := []) ⟨hx, hb, hml, hown, noTs⟩ (r_X12_end l dC dI H.size cs b u4 a hA6 12 (by decide) w5 hA5 (by first | assumption | omega | rfl | (congr 1; omega)) (by first | assumption | omega | rfl | (congr 1; omega))) ⟨cbE 1 (wd_1599 hE) (wd_126 hE) (wd_1596 hE) rfl rfl (by decide +kernel) ⟨Nat.le_of_ble_eq_true rfl, Nat.le_of_ble_eq_true rfl⟩, (wd_1598 hE), (wd_76 hE)⟩ ⟨PR.blind, r_recv hK hP rfl, (r_pre (av := [.ref (b 0), .ref (b 12)]) hK hP hJ hE)⟩ rfl rfl hl.1 rfl (lv_room (Nat.le_of_ble_eq_true rfl)) dX12_isLoop_20 ⟨Nat.le_of_ble_eq_true rfl, Nat.le_of_ble_eq_true rfl⟩)) (fun r7 hr7 => ?_)
  have hau7 := pg_end (a := a) (w := w5) (by assumption) (by assumption)
  subst hr7
  refine lv_aload_n hx hb dX12_isLoop_23 rfl (lv_at hl 0 rfl) ?_
  refine r_get (v := .ref (b 2)) hx hb (ly_X12 hE) hown hK hP rfl 4 (by decide) (wd_1385 hE) (fun _ h9 => h9) rfl dX12_isLoop_24 ?_
  refine lv_bipush (v := 9) hx hb dX12_isLoop_27 (by decide) ?_
  refine r_aald (j := 2) (k := 9) (n := 10) (t0 := 4) (j2 := 12) hx hb hK hP (by decide) rfl rfl (by decide) (by decide) rfl dX12_isLoop_29 ?_
  refine lv_iconst (v := 0) hx hb dX12_isLoop_30 (by decide) ?_
  refine r_iald (j := 12) (k := 0) (n := 200) (x := nI (rb w5)) hx hb hK hP (by decide) rfl (by decide) (by decide) (by rw [hA5]; exact pg_b h4_0) dX12_isLoop_31 ?_
  refine lv_icmp_ne (tgt := 39) hx hb dX12_isLoop_32 (by decide) (fun c9 => ?_) (fun c9 => ?_)
  · have c9 := mt (b_eq (nI_toInt (n := vend a w5) (by omega)) (nI_toInt (n := rb w5) (by omega))).mpr c9
    refine lv_iconst (v := 0) hx hb dX12_isLoop_39 (by decide) ?_
    exact W.zret (v := 0) hx hb hr rfl (fun t ht hW => ⟨⟨0, u4, rfl, ⟨Or.inr ⟨rfl, by trivial⟩, hfr⟩, (show va_P (dC, dI) vwCl (rW cs b u4) t.heap by rw [ht]; exact hP)⟩, hS.F ht⟩) hS.2.2 dX12_isLoop_40
  · have c9 := (b_eq (nI_toInt (n := vend a w5) (by omega)) (nI_toInt (n := rb w5) (by omega))).mp c9
    refine lv_iconst (v := 1) hx hb dX12_isLoop_35 (by decide) ?_
    refine lv_goto (tgt := 40) hx hb dX12_isLoop_36 (by decide) ?_
    exact W.zret (v := 1) hx hb hr rfl (fun t ht hW => ⟨⟨1, u4, rfl, ⟨Or.inl ⟨rfl, by first | assumption | omega | rfl | (congr 1; omega)⟩, hfr⟩, (show va_P (dC, dI) vwCl (rW cs b u4) t.heap by rw [ht]; exact hP)⟩, hS.F ht⟩) hS.2.2 dX12_isLoop_40

set_option maxHeartbeats 4000000 in
set_option maxRecDepth 100000 in
theorem r_X12_cores (l : Launch) (dC : Nat → ClassId) (dI : Nat → Nat → Nat) (sz : Nat) (cs : Nat → ClassId) (b : Nat → Nat) (u : RS) (a : Nat → Int32) (hA1 : rA u 1 = a) (jw : Nat) (hjwr : 3 ≤ jw ∧ jw ≤ 14) (w : Nat → Int32) (hAjw : rA u jw = w) (hp0 : GG a) (hp1 : PG a w) (hp2 : LG a w) (hp3 : jw ≠ 13) (hp4 : jw ≠ 14) : Met l yX12_cores [.code yX12_cores cX12_cores 6 none] ({ frames := 5, cells := 0, slots := 0, locals := 200 }) (PR [.ref (b 0), .ref (b jw)] sz dC dI cs b u) (va_Qv (fun (u' : RS) => (PG a (rA u' jw)) ∧ (LG a (rA u' jw)) ∧ (rn (rA u' jw) ≤ rn w) ∧ (vend a w = rb w → vend a (rA u' jw) = rb (rA u' jw)) ∧ FR [13, 14, jw] [5] false u u') (BR dC dI cs b) (AR b sz)) 0 0 (AR b sz) := by
  refine Met.ofW (cc := cX12_cores) (maxL := 6) (ret := none) (by decide) rfl ?_
  intro p e s m args below meth c s₁ B hml hv
  obtain ⟨rfl, hsz, hP, hK, hJ, hE⟩ := hv
  have hx := B.exec
  have hb := B.bytes
  have hr := B.returns
  have hown : s.vm.findClass RX12 = some m.cls := findClass_of_methodNamed B.named
  have hlocks := B.notSynchronized
  subst hsz
  have hAL : ∀ i, i < 108 → AR b s.heap.size (b i) := fun i h => Or.inl ⟨i, h, rfl⟩
  have hA : ∀ q : Nat, s.heap.size ≤ q → AR b s.heap.size q := fun q h => Or.inr h
  have hS : va_S (AR b s.heap.size) s.heap s.heap [] := va_S.rf
  have hfr : FR [13, 14, jw] [5] false u u := FR.refl
  have hl := lv_entry ([.ref (b 0), .ref (b jw)]) (n := 6) (Nat.le_of_ble_eq_true rfl)
  rw [lg_entry_eq]
  generalize (lg_sl ([.ref (b 0), .ref (b jw)]) ++ List.replicate (6 - (lg_sl ([.ref (b 0), .ref (b jw)])).length) Slot.unset).toArray = ls at hl ⊢
  have hl : lv_has ls 6 [(0, .ref (b 0)), (1, .ref (b jw))] := hl
  have hG := hp0
  have ha1 := gg_le hp0
  have ha2 := pg_le hp1
  refine lv_aload_n hx hb dX12_cores_0 rfl (lv_at hl 0 rfl) ?_
  refine lv_aload_n hx hb dX12_cores_1 rfl (lv_at hl 1 rfl) ?_
  refine lv_aload_n hx hb dX12_cores_2 rfl (lv_at hl 0 rfl) ?_
  refine r_get (v := .ref (b 14)) hx hb (ly_X12 hE) hown hK hP rfl 7 (by decide) (wd_1388 hE) (fun _ h9 => h9) rfl dX12_cores_3 ?_
  obtain ⟨g6, hg6⟩ : ∃ g, rA u 14 = g := ⟨_, rfl⟩
  refine rc_v hAL hS hA (va_runV (As := [.ref (b jw), .ref (b 14)]) (rest := []) ⟨hx, hb, hml, hown, noTs⟩ (r_X12_forms l dC dI s.heap.size cs b u a hA1 jw (by omega) w hAjw 14 (by decide) g6 hg6 (by first | assumption | omega | rfl | (congr 1; omega)) (by first | assumption | omega | rfl | (congr 1; omega)) (by first | assumption | omega | rfl | (congr 1; omega)) (by first | assumption | omega | rfl | (congr 1; omega))) ⟨cbE 2 (wd_1661 hE) (wd_126 hE) (wd_1658 hE) rfl rfl (by decide +kernel) ⟨Nat.le_of_ble_eq_true rfl, Nat.le_of_ble_eq_true rfl⟩, (wd_1660 hE), (wd_85 hE)⟩ ⟨PR.blind, r_recv hK hP rfl, (r_pre (av := [.ref (b 0), .ref (b jw), .ref (b 14)]) hK hP hJ hE)⟩ rfl rfl hl.1 rfl (lv_room (Nat.le_of_ble_eq_true rfl)) dX12_cores_6 ⟨Nat.le_of_ble_eq_true rfl, Nat.le_of_ble_eq_true rfl⟩) (fun u7 H locs hpo7 hP hS => ?_)
  obtain ⟨h7_0, h7_1, h7_2, h7_3, h7_4, hq7⟩ := hpo7
  obtain ⟨w8, hA8⟩ : ∃ g, rA u7 14 = g := ⟨_, rfl⟩
  rw [hA8] at h7_0 h7_1 h7_2 h7_3 h7_4
  have hA9 := (hq7.1 1 (by decide)).trans hA1
  have hA10 := (hq7.1 jw (by simp only [List.mem_cons, List.not_mem_nil, or_false, not_or]; omega)).trans hAjw
  have hfr := FR.step hfr hq7 (by simp) (by decide) (fun h => rfl)
  have hl7_0 := pg_le h7_0
  refine lv_aload_n hx hb dX12_cores_9 rfl (lv_at hl 0 rfl) ?_
  refine r_get (v := .ref (b 14)) hx hb (ly_X12 hE) hown hK hP rfl 7 (by decide) (wd_1388 hE) (fun _ h9 => h9) rfl dX12_cores_10 ?_
  refine lv_aload_n hx hb dX12_cores_13 rfl (lv_at hl 1 rfl) ?_
  refine rc_v hAL hS hA (va_runS (As := [.ref (b 14), .ref (b jw)]) (rest := []) ⟨hx, hb, hml, hown, noTs⟩ (r_X12_lays l dC dI H.size cs b u7 a hA9 14 (by decide) w8 hA8 jw (by omega) w hA10 (by first | assumption | omega | rfl | (congr 1; omega)) (by first | assumption | omega | rfl | (congr 1; omega)) (by first | assumption | omega | rfl | (congr 1; omega))) ⟨cbE 2 (wd_1706 hE) (wd_126 hE) (wd_1704 hE) rfl rfl (by decide +kernel) ⟨Nat.le_of_ble_eq_true rfl, Nat.le_of_ble_eq_true rfl⟩, (wd_1705 hE)⟩ ⟨PR.blind, (r_pre (av := [.ref (b 14), .ref (b jw)]) hK hP hJ hE)⟩ rfl rfl hl.1 rfl (lv_room (Nat.le_of_ble_eq_true rfl)) dX12_cores_14 ⟨Nat.le_of_ble_eq_true rfl, Nat.le_of_ble_eq_true rfl⟩) (fun u11 H locs hpo11 hP hS => ?_)
  obtain ⟨h11_0, h11_1, h11_2, h11_3, h11_4, h11_5, hq11⟩ := hpo11
  obtain ⟨w12, hA12⟩ : ∃ g, rA u11 jw = g := ⟨_, rfl⟩
  rw [hA12] at h11_0 h11_1 h11_2 h11_3 h11_4 h11_5
  have hA13 := (hq11.1 1 (by simp only [List.mem_cons, List.not_mem_nil, or_false, not_or]; omega)).trans hA9
  have hA14 := (hq11.1 14 (by simp only [List.mem_cons, List.not_mem_nil, or_false, not_or]; omega)).trans hA8
  have hfr := FR.step hfr hq11 (by simp) (fun _ h => absurd h List.not_mem_nil) (fun h => rfl)
  have hl11_0 := pg_le h11_0
  refine r_ind (I := fun n u_ H locs ls => va_P (dC, dI) vwCl (rW cs b u_) H ∧ va_S (AR b s.heap.size) s.heap H locs ∧ FR [13, 14, jw] [5] false u u_ ∧ ∃ (w1_15 : Nat → Int32), n = rn w1_15 ∧ (PG a w1_15) ∧ (LG a w1_15) ∧ (rn w1_15 ≤ rn w) ∧ (vend a w = rb w → vend a w1_15 = rb w1_15) ∧ (rA u_ jw = w1_15) ∧ lv_has ls 6 [(0, .ref (b 0)), (1, .ref (b jw))]) (fun n u15 H locs ls hI ih15 => ?_) _ u11 _ _ _ ⟨hP, hS, hfr, w12, rfl, (by first | assumption | omega | rfl | (congr 1; omega)), (by first | assumption | omega | rfl | (congr 1; omega)), (by omega), (by omega), hA12, lv_sub hl [0, 1] rfl⟩
  obtain ⟨hP, hS, hfr, w1_15, hmu15, hL15_0, hL15_1, hL15_2, hL15_3, hL15_4, hl⟩ := hI
  have hA16 := (hfr.1 1 (by simp only [List.mem_cons, List.not_mem_nil, or_false, not_or]; omega)).trans hA1
  subst hmu15
  have hl15_0 := pg_le hL15_0
  refine lv_aload_n hx hb dX12_cores_17 rfl (lv_at hl 1 rfl) ?_
  refine lv_iconst (v := 1) hx hb dX12_cores_18 (by decide) ?_
  refine r_iald (j := jw) (k := 1) (n := 200) (x := nI (rn w1_15)) hx hb hK hP (by omega) (rE_row (by omega)) (by decide) (by decide) (by rw [hL15_4]; exact pg_n hL15_0) dX12_cores_19 ?_
  refine lv_iconst (v := 1) hx hb dX12_cores_20 (by decide) ?_
  refine lv_icmp_le (tgt := 195) hx hb dX12_cores_21 (by decide) (fun c18 => ?_) (fun c18 => ?_)
  · have c18 := (b_le (nI_toInt (n := rn w1_15) (by omega)) (show Int32.toInt 1 = 1 from rfl)).mp c18
    exact W.vret hx hb hr (fun t ht hW => ⟨⟨u15, rfl, ⟨(by first | (rw [hL15_4]; done) | (rw [hL15_4]; first | assumption | omega | rfl | (congr 1; omega))), (by first | (rw [hL15_4]; done) | (rw [hL15_4]; first | assumption | omega | rfl | (congr 1; omega))), (by first | (rw [hL15_4]; done) | (rw [hL15_4]; first | assumption | omega | rfl | (congr 1; omega))), (by first | (rw [hL15_4]; done) | (rw [hL15_4]; first | assumption | omega | rfl | (congr 1; omega))), hfr⟩, (show va_P (dC, dI) vwCl (rW cs b u15) t.heap by rw [ht]; exact hP)⟩, hS.F ht⟩) hS.2.2 dX12_cores_195
  · have c18 := mt (b_le (nI_toInt (n := rn w1_15) (by omega)) (show Int32.toInt 1 = 1 from rfl)).mpr c18
    have hsl := pg_sl hL15_0 (i := 0) (by omega)
    have hsi := gg_idx hG hsl
    have hsd := gg_dst hG hsl
    have hso := gg_od hG hsd
    have hbo := gg_od hG (pg_le hL15_0).1
    have hsn := pg_sl hL15_0 (i := rn w1_15 - 1) (by omega)
    have hsw := pg_sv hL15_0 (i := rn w1_15 - 1) (by omega)
    refine lv_aload_n hx hb dX12_cores_24 rfl (lv_at hl 1 rfl) ?_
    refine lv_iconst (v := 0) hx hb dX12_cores_25 (by decide) ?_
    refine vp_callSi (va_Run.run (va_runS (As := [.ref (b jw), .int (nI 0)]) (rest := []) ⟨hx, hb, hml, hown, noTs⟩ (r_X12_step l dC dI H.size cs b u15 a hA16 jw (by omega) w1_15 hL15_4 0 (by first | assumption | omega | rfl | (congr 1; omega)) (by first | assumption | omega | rfl | (congr 1; omega))) ⟨cbE 2 (wd_1602 hE) (wd_126 hE) (wd_1600 hE) rfl rfl (by decide +kernel) ⟨Nat.le_of_ble_eq_true rfl, Nat.le_of_ble_eq_true rfl⟩, (wd_1601 hE)⟩ ⟨PR.blind, (r_pre (av := [.ref (b jw), .int (nI 0)]) hK hP hJ hE)⟩ rfl rfl hl.1 rfl (lv_room (Nat.le_of_ble_eq_true rfl)) dX12_cores_26 ⟨Nat.le_of_ble_eq_true rfl, Nat.le_of_ble_eq_true rfl⟩)) (fun r19 hr19 => ?_)
    have hau19 := pg_sl (a := a) (w := w1_15) (i := 0) (by assumption) (by first | assumption | omega)
    subst hr19
    refine lv_istore_n (lv' := [(2, .int (nI (rs w1_15 0))), (0, .ref (b 0)), (1, .ref (b jw))]) hx hb dX12_cores_29 rfl hl (by decide) rfl (fun ls hl => ?_)
    refine lv_aload_n hx hb dX12_cores_30 rfl (lv_at hl 2 rfl) ?_
    refine lv_iconst (v := 1) hx hb dX12_cores_31 (by decide) ?_
    refine r_iald (j := jw) (k := 1) (n := 200) (x := nI (rn w1_15)) hx hb hK hP (by omega) (rE_row (by omega)) (by decide) (by decide) (by rw [hL15_4]; exact pg_n hL15_0) dX12_cores_32 ?_
    refine lv_istore_n (lv' := [(3, .int (nI (rn w1_15))), (2, .int (nI (rs w1_15 0))), (0, .ref (b 0)), (1, .ref (b jw))]) hx hb dX12_cores_33 rfl hl (by decide) rfl (fun ls hl => ?_)
    refine lv_aload_n hx hb dX12_cores_34 rfl (lv_at hl 2 rfl) ?_
    refine lv_aload_n hx hb dX12_cores_35 rfl (lv_at hl 3 rfl) ?_
    refine lv_iconst (v := 0) hx hb dX12_cores_36 (by decide) ?_
    refine r_iald (j := jw) (k := 0) (n := 200) (x := nI (rb w1_15)) hx hb hK hP (by omega) (rE_row (by omega)) (by decide) (by decide) (by rw [hL15_4]; exact pg_b hL15_0) dX12_cores_37 ?_
    refine lv_aload_n hx hb dX12_cores_38 rfl (lv_at hl 3 rfl) ?_
    refine vp_callSi (va_Run.run (va_runS (As := [.ref (b jw)]) (rest := [.int (nI (rb w1_15)), .ref (b 0)]) ⟨hx, hb, hml, hown, noTs⟩ (r_X12_last l dC dI H.size cs b u15 a hA16 jw (by omega) w1_15 hL15_4 (by first | assumption | omega | rfl | (congr 1; omega))) ⟨cbE 1 (wd_1709 hE) (wd_126 hE) (wd_1707 hE) rfl rfl (by decide +kernel) ⟨Nat.le_of_ble_eq_true rfl, Nat.le_of_ble_eq_true rfl⟩, (wd_1708 hE)⟩ ⟨PR.blind, (r_pre (av := [.ref (b jw)]) hK hP hJ hE)⟩ rfl rfl hl.1 rfl (lv_room (Nat.le_of_ble_eq_true rfl)) dX12_cores_39 ⟨Nat.le_of_ble_eq_true rfl, Nat.le_of_ble_eq_true rfl⟩)) (fun r22 hr22 => ?_)
    refine lv_aload_n hx hb dX12_cores_42 rfl (lv_at hl 3 rfl) ?_
    refine lv_iconst (v := 0) hx hb dX12_cores_43 (by decide) ?_
    refine vp_callSi (va_Run.run (va_runS (As := [.ref (b jw), .int (nI 0)]) (rest := [.int r22, .int (nI (rb w1_15)), .ref (b 0)]) ⟨hx, hb, hml, hown, noTs⟩ (r_X12_number l dC dI H.size cs b u15 a hA16 jw (by omega) w1_15 hL15_4 0 (by first | assumption | omega | rfl | (congr 1; omega))) ⟨cbE 2 (wd_1664 hE) (wd_126 hE) (wd_1662 hE) rfl rfl (by decide +kernel) ⟨Nat.le_of_ble_eq_true rfl, Nat.le_of_ble_eq_true rfl⟩, (wd_1663 hE)⟩ ⟨PR.blind, (r_pre (av := [.ref (b jw), .int (nI 0)]) hK hP hJ hE)⟩ rfl rfl hl.1 rfl (lv_room (Nat.le_of_ble_eq_true rfl)) dX12_cores_44 ⟨Nat.le_of_ble_eq_true rfl, Nat.le_of_ble_eq_true rfl⟩)) (fun r23 hr23 => ?_)
    refine lv_iadd hx hb dX12_cores_47 ?_
    refine lv_topi (fun x24 ex24 => ?_)
    refine vp_callSi (va_Run.run (va_runV (As := [.int (nI (rb w1_15)), .int x24]) (rest := []) ⟨hx, hb, hml, hown, noTs⟩ (r_X12_round l dC dI H.size cs b u15 a hA16 (rb w1_15) x24 (by first | assumption | omega | rfl | (congr 1; omega)) (by first | assumption | omega | rfl | (congr 1; omega))) ⟨cbE 2 (wd_1576 hE) (wd_126 hE) (wd_1573 hE) rfl rfl (by decide +kernel) ⟨Nat.le_of_ble_eq_true rfl, Nat.le_of_ble_eq_true rfl⟩, (wd_1575 hE), (wd_71 hE)⟩ ⟨PR.blind, r_recv hK hP rfl, (r_pre (av := [.ref (b 0), .int (nI (rb w1_15)), .int x24]) hK hP hJ hE)⟩ rfl rfl hl.1 rfl (lv_room (Nat.le_of_ble_eq_true rfl)) dX12_cores_48 ⟨Nat.le_of_ble_eq_true rfl, Nat.le_of_ble_eq_true rfl⟩)) (fun r25 hr25 => ?_)
    have hau25 := (gg_od (a := a) (v := (rb w1_15)) (by assumption) (by first | assumption | omega)).2
    obtain ⟨n25, rfl, hn25_0⟩ := hr25
    refine lv_istore (lv' := [(4, .int (nI n25)), (3, .int (nI (rn w1_15))), (2, .int (nI (rs w1_15 0))), (0, .ref (b 0)), (1, .ref (b jw))]) hx hb dX12_cores_51 hl (by decide) rfl (fun ls hl => ?_)
    refine lv_aload_n hx hb dX12_cores_53 rfl (lv_at hl 4 rfl) ?_
    refine lv_iload_n hx hb dX12_cores_54 rfl (lv_at hl 1 rfl) ?_
    refine lv_iconst (v := 1) hx hb dX12_cores_55 (by decide) ?_
    refine lv_isub hx hb dX12_cores_56 ?_
    refine W.eq (g2 := F0 m 57 ls [.int (nI ((rn w1_15) - 1)), .ref (b jw)]) (congrArg (fun z : Int32 => F0 m 57 ls (.int z :: [.ref (b jw)])) (pk_sub (a := rn w1_15) (b := 1) (by omega))) ?_
    refine vp_callSi (va_Run.run (va_runS (As := [.ref (b jw), .int (nI ((rn w1_15) - 1))]) (rest := []) ⟨hx, hb, hml, hown, noTs⟩ (r_X12_step l dC dI H.size cs b u15 a hA16 jw (by omega) w1_15 hL15_4 ((rn w1_15) - 1) (by first | assumption | omega | rfl | (congr 1; omega)) (by first | assumption | omega | rfl | (congr 1; omega))) ⟨cbE 2 (wd_1602 hE) (wd_126 hE) (wd_1600 hE) rfl rfl (by decide +kernel) ⟨Nat.le_of_ble_eq_true rfl, Nat.le_of_ble_eq_true rfl⟩, (wd_1601 hE)⟩ ⟨PR.blind, (r_pre (av := [.ref (b jw), .int (nI ((rn w1_15) - 1))]) hK hP hJ hE)⟩ rfl rfl hl.1 rfl (lv_room (Nat.le_of_ble_eq_true rfl)) dX12_cores_57 ⟨Nat.le_of_ble_eq_true rfl, Nat.le_of_ble_eq_true rfl⟩)) (fun r26 hr26 => ?_)
    have hau26 := pg_sl (a := a) (w := w1_15) (i := ((rn w1_15) - 1)) (by assumption) (by first | assumption | omega)
    subst hr26
    refine lv_iload_n hx hb dX12_cores_60 rfl (lv_at hl 2 rfl) ?_
    refine lv_iconst (v := 1) hx hb dX12_cores_61 (by decide) ?_
    refine lv_ixor hx hb dX12_cores_62 ?_
    refine W.eq (g2 := F0 m 63 ls [.int (nI (fl (rs w1_15 0))), .int (nI (rs w1_15 ((rn w1_15) - 1)))]) (congrArg (fun z : Int32 => F0 m 63 ls (.int z :: [.int (nI (rs w1_15 ((rn w1_15) - 1)))])) (nI_fl (s := rs w1_15 0) (by omega))) ?_
    have hfa27 := fl_half (rs w1_15 0)
    have hfb27 := fl_mod (rs w1_15 0)
    refine lv_icmp_ne (tgt := 77) hx hb dX12_cores_63 (by decide) (fun c28 => ?_) (fun c28 => ?_)
    · have c28 := mt (b_eq (nI_toInt (n := rs w1_15 ((rn w1_15) - 1)) (by omega)) (nI_toInt (n := fl (rs w1_15 0)) (by omega))).mpr c28
      exact W.vret hx hb hr (fun t ht hW => ⟨⟨u15, rfl, ⟨(by first | (rw [hL15_4]; done) | (rw [hL15_4]; first | assumption | omega | rfl | (congr 1; omega))), (by first | (rw [hL15_4]; done) | (rw [hL15_4]; first | assumption | omega | rfl | (congr 1; omega))), (by first | (rw [hL15_4]; done) | (rw [hL15_4]; first | assumption | omega | rfl | (congr 1; omega))), (by first | (rw [hL15_4]; done) | (rw [hL15_4]; first | assumption | omega | rfl | (congr 1; omega))), hfr⟩, (show va_P (dC, dI) vwCl (rW cs b u15) t.heap by rw [ht]; exact hP)⟩, hS.F ht⟩) hS.2.2 dX12_cores_77
    · have c28 := (b_eq (nI_toInt (n := rs w1_15 ((rn w1_15) - 1)) (by omega)) (nI_toInt (n := fl (rs w1_15 0)) (by omega))).mp c28
      refine lv_iload hx hb dX12_cores_66 (lv_at hl 0 rfl) ?_
      refine lv_aload_n hx hb dX12_cores_68 rfl (lv_at hl 3 rfl) ?_
      refine lv_iload_n hx hb dX12_cores_69 rfl (lv_at hl 2 rfl) ?_
      refine vp_callSi (va_Run.run (va_runV (As := [.int (nI (rs w1_15 0))]) (rest := [.int (nI n25)]) ⟨hx, hb, hml, hown, noTs⟩ (r_X12_by l dC dI H.size cs b u15 a hA16 (rs w1_15 0) (by first | assumption | omega | rfl | (congr 1; omega)) (by first | assumption | omega | rfl | (congr 1; omega))) ⟨cbE 1 (wd_1668 hE) (wd_126 hE) (wd_1665 hE) rfl rfl (by decide +kernel) ⟨Nat.le_of_ble_eq_true rfl, Nat.le_of_ble_eq_true rfl⟩, (wd_1667 hE), (wd_86 hE)⟩ ⟨PR.blind, r_recv hK hP rfl, (r_pre (av := [.ref (b 0), .int (nI (rs w1_15 0))]) hK hP hJ hE)⟩ rfl rfl hl.1 rfl (lv_room (Nat.le_of_ble_eq_true rfl)) dX12_cores_70 ⟨Nat.le_of_ble_eq_true rfl, Nat.le_of_ble_eq_true rfl⟩)) (fun r29 hr29 => ?_)
      have hau29 := gg_idx (a := a) (s := (rs w1_15 0)) (by assumption) (by first | assumption | omega)
      subst hr29
      refine lv_irem hx hb dX12_cores_73 (nI_ne0 (n := idx a (rs w1_15 0)) (by omega) (by omega)) ?_
      refine W.eq (g2 := F0 m 74 ls [.int (nI (n25 % (idx a (rs w1_15 0))))]) (congrArg (fun z : Int32 => F0 m 74 ls (.int z :: [])) (pk_rem (a := n25) (d := idx a (rs w1_15 0)) (by omega) (by omega) (by omega))) ?_
      have hmd30 := Nat.mod_lt n25 (show 0 < idx a (rs w1_15 0) by omega)
      refine lv_if_eq (tgt := 78) hx hb dX12_cores_74 (by decide) (fun c31 => ?_) (fun c31 => ?_)
      · have c31 := (b_eq (nI_toInt (n := n25 % (idx a (rs w1_15 0))) (by omega)) (show Int32.toInt 0 = 0 from rfl)).mp c31
        refine lv_aload_n hx hb dX12_cores_78 rfl (lv_at hl 3 rfl) ?_
        refine r_get (v := .ref (b 13)) hx hb (ly_X12 hE) hown hK hP rfl 6 (by decide) (wd_1387 hE) (fun _ h9 => h9) rfl dX12_cores_79 ?_
        refine lv_aload_n hx hb dX12_cores_82 rfl (lv_at hl 3 rfl) ?_
        refine lv_iload_n hx hb dX12_cores_83 rfl (lv_at hl 2 rfl) ?_
        refine vp_callSi (va_Run.run (va_runV (As := [.int (nI (rs w1_15 0))]) (rest := [.ref (b 13)]) ⟨hx, hb, hml, hown, noTs⟩ (r_X12_to l dC dI H.size cs b u15 a hA16 (rs w1_15 0) (by first | assumption | omega | rfl | (congr 1; omega)) (by first | assumption | omega | rfl | (congr 1; omega))) ⟨cbE 1 (wd_1606 hE) (wd_126 hE) (wd_1603 hE) rfl rfl (by decide +kernel) ⟨Nat.le_of_ble_eq_true rfl, Nat.le_of_ble_eq_true rfl⟩, (wd_1605 hE), (wd_77 hE)⟩ ⟨PR.blind, r_recv hK hP rfl, (r_pre (av := [.ref (b 0), .int (nI (rs w1_15 0))]) hK hP hJ hE)⟩ rfl rfl hl.1 rfl (lv_room (Nat.le_of_ble_eq_true rfl)) dX12_cores_84 ⟨Nat.le_of_ble_eq_true rfl, Nat.le_of_ble_eq_true rfl⟩)) (fun r32 hr32 => ?_)
        have hau32 := gg_dst (a := a) (s := (rs w1_15 0)) (by assumption) (by first | assumption | omega)
        subst hr32
        refine lv_aload_n hx hb dX12_cores_87 rfl (lv_at hl 4 rfl) ?_
        refine lv_iconst (v := 1) hx hb dX12_cores_88 (by decide) ?_
        refine vp_callSi (va_Run.run (va_runS (As := [.ref (b jw), .int (nI 1)]) (rest := [.int (nI (dst a (rs w1_15 0))), .ref (b 13)]) ⟨hx, hb, hml, hown, noTs⟩ (r_X12_number l dC dI H.size cs b u15 a hA16 jw (by omega) w1_15 hL15_4 1 (by first | assumption | omega | rfl | (congr 1; omega))) ⟨cbE 2 (wd_1664 hE) (wd_126 hE) (wd_1662 hE) rfl rfl (by decide +kernel) ⟨Nat.le_of_ble_eq_true rfl, Nat.le_of_ble_eq_true rfl⟩, (wd_1663 hE)⟩ ⟨PR.blind, (r_pre (av := [.ref (b jw), .int (nI 1)]) hK hP hJ hE)⟩ rfl rfl hl.1 rfl (lv_room (Nat.le_of_ble_eq_true rfl)) dX12_cores_89 ⟨Nat.le_of_ble_eq_true rfl, Nat.le_of_ble_eq_true rfl⟩)) (fun r33 hr33 => ?_)
        obtain ⟨g34, hg34⟩ : ∃ g, rA u15 13 = g := ⟨_, rfl⟩
        refine rc_v hAL hS hA (va_runS (As := [.ref (b 13), .int (nI (dst a (rs w1_15 0))), .int r33]) (rest := []) ⟨hx, hb, hml, hown, noTs⟩ (r_X12_single l dC dI H.size cs b u15 a hA16 13 (by decide) g34 hg34 (dst a (rs w1_15 0)) r33 (by first | assumption | omega | rfl | (congr 1; omega)) (by first | assumption | omega | rfl | (congr 1; omega))) ⟨cbE 3 (wd_1579 hE) (wd_126 hE) (wd_1577 hE) rfl rfl (by decide +kernel) ⟨Nat.le_of_ble_eq_true rfl, Nat.le_of_ble_eq_true rfl⟩, (wd_1578 hE)⟩ ⟨PR.blind, (r_pre (av := [.ref (b 13), .int (nI (dst a (rs w1_15 0))), .int r33]) hK hP hJ hE)⟩ rfl rfl hl.1 rfl (lv_room (Nat.le_of_ble_eq_true rfl)) dX12_cores_92 ⟨Nat.le_of_ble_eq_true rfl, Nat.le_of_ble_eq_true rfl⟩) (fun u35 H locs hpo35 hP hS => ?_)
        obtain ⟨h35_0, h35_1, h35_2, h35_3, h35_4, hq35⟩ := hpo35
        obtain ⟨w36, hA36⟩ : ∃ g, rA u35 13 = g := ⟨_, rfl⟩
        rw [hA36] at h35_0 h35_1 h35_2 h35_3 h35_4
        have hA37 := (hq35.1 1 (by decide)).trans hA16
        have hA38 := (hq35.1 jw (by simp only [List.mem_cons, List.not_mem_nil, or_false, not_or]; omega)).trans hL15_4
        have hfr := FR.step hfr hq35 (by simp) (fun _ h => absurd h List.not_mem_nil) (fun h => rfl)
        have hl35_0 := pg_le h35_0
        refine lv_iconst (v := 1) hx hb dX12_cores_95 (by decide) ?_
        refine lv_istore (lv' := [(5, .int 1), (4, .int (nI n25)), (3, .int (nI (rn w1_15))), (2, .int (nI (rs w1_15 0))), (0, .ref (b 0)), (1, .ref (b jw))]) hx hb dX12_cores_96 hl (by decide) rfl (fun ls hl => ?_)
        refine r_ind (I := fun n u_ H locs ls => va_P (dC, dI) vwCl (rW cs b u_) H ∧ va_S (AR b s.heap.size) s.heap H locs ∧ FR [13, 14, jw] [5] false u u_ ∧ ∃ (i_39 : Nat) (f1_39 : Nat → Int32), n = rn w1_15 - i_39 ∧ (PG a f1_39) ∧ (1 ≤ i_39) ∧ (i_39 + 1 ≤ rn w1_15) ∧ (rn f1_39 + 1 = i_39) ∧ (rb f1_39 = dst a (rs w1_15 0)) ∧ (vend a f1_39 = vx a w1_15 i_39) ∧ (rA u_ 13 = f1_39) ∧ (rA u_ jw = w1_15) ∧ lv_has ls 6 [(0, .ref (b 0)), (1, .ref (b jw)), (2, .int (nI (rs w1_15 0))), (3, .int (nI (rn w1_15))), (4, .int (nI n25)), (5, .int (nI i_39))]) (fun n u39 H locs ls hI ih39 => ?_) _ u35 _ _ _ ⟨hP, hS, hfr, 1, w36, rfl, (by first | assumption | omega | rfl | (congr 1; omega)), (by first | assumption | omega | rfl | (congr 1; omega)), (by first | assumption | omega | rfl | (congr 1; omega)), (by omega), (by first | assumption | omega | rfl | (congr 1; omega)), (by rw [vx_s (i := 0)]; omega), hA36, hA38, lv_sub hl [4, 5, 3, 2, 1, 0] rfl⟩
        obtain ⟨hP, hS, hfr, i_39, f1_39, hmu39, hL39_0, hL39_1, hL39_2, hL39_3, hL39_4, hL39_5, hL39_6, hL39_7, hl⟩ := hI
        have hA40 := (hfr.1 1 (by simp only [List.mem_cons, List.not_mem_nil, or_false, not_or]; omega)).trans hA1
        subst hmu39
        have hl39_0 := pg_le hL39_0
        refine lv_iload hx hb dX12_cores_98 (lv_at hl 5 rfl) ?_
        refine lv_iconst (v := 1) hx hb dX12_cores_100 (by decide) ?_
        refine lv_iadd hx hb dX12_cores_101 ?_
        refine W.eq (g2 := F0 m 102 ls [.int (nI (i_39 + 1))]) (congrArg (fun z : Int32 => F0 m 102 ls (.int z :: [])) (nI_add i_39 1)) ?_
        refine lv_iload_n hx hb dX12_cores_102 rfl (lv_at hl 3 rfl) ?_
        refine lv_icmp_ge (tgt := 133) hx hb dX12_cores_103 (by decide) (fun c41 => ?_) (fun c41 => ?_)
        · have c41 := (b_le (nI_toInt (n := rn w1_15) (by omega)) (nI_toInt (n := i_39 + 1) (by omega))).mp c41
          have hie : i_39 = rn w1_15 - 1 := by omega
          have q5 : vend a f1_39 = dst a (rs w1_15 0) := by rw [hL39_5, hie, ← hsw, show rs w1_15 (rn w1_15 - 1) = fl (rs w1_15 0) by omega]; rfl
          refine lv_iconst (v := 2) hx hb dX12_cores_133 (by decide) ?_
          refine lv_iconst (v := 2) hx hb dX12_cores_134 (by decide) ?_
          refine lv_aload_n hx hb dX12_cores_135 rfl (lv_at hl 0 rfl) ?_
          refine r_get (v := .ref (b 13)) hx hb (ly_X12 hE) hown hK hP rfl 6 (by decide) (wd_1387 hE) (fun _ h9 => h9) rfl dX12_cores_136 ?_
          refine lv_iconst (v := 1) hx hb dX12_cores_139 (by decide) ?_
          refine r_iald (j := 13) (k := 1) (n := 200) (x := nI (rn f1_39)) hx hb hK hP (by decide) rfl (by decide) (by decide) (by rw [hL39_6]; exact pg_n hL39_0) dX12_cores_140 ?_
          refine lv_imul hx hb dX12_cores_141 ?_
          refine W.eq (g2 := F0 m 142 ls [.int (nI (2 * (rn f1_39))), .int 2]) (congrArg (fun z : Int32 => F0 m 142 ls (.int z :: [.int 2])) (pk_mul 2 (rn f1_39))) ?_
          refine lv_iadd hx hb dX12_cores_142 ?_
          refine W.eq (g2 := F0 m 143 ls [.int (nI (2 + (2 * (rn f1_39))))]) (congrArg (fun z : Int32 => F0 m 143 ls (.int z :: [])) (nI_add 2 (2 * (rn f1_39)))) ?_
          refine lv_istore (lv' := [(5, .int (nI (2 + (2 * (rn f1_39))))), (0, .ref (b 0)), (1, .ref (b jw)), (2, .int (nI (rs w1_15 0))), (3, .int (nI (rn w1_15))), (4, .int (nI n25))]) hx hb dX12_cores_143 hl (by decide) rfl (fun ls hl => ?_)
          refine lv_aload_n hx hb dX12_cores_145 rfl (lv_at hl 1 rfl) ?_
          refine r_get (v := .ref (b 13)) hx hb (ly_X12 hE) hown hK hP rfl 6 (by decide) (wd_1387 hE) (fun _ h9 => h9) rfl dX12_cores_146 ?_
          refine lv_iload hx hb dX12_cores_149 (lv_at hl 0 rfl) ?_
          refine lv_aload_n hx hb dX12_cores_151 rfl (lv_at hl 1 rfl) ?_
          refine lv_aload_n hx hb dX12_cores_152 rfl (lv_at hl 1 rfl) ?_
          refine lv_iload_n hx hb dX12_cores_153 rfl (lv_at hl 3 rfl) ?_
          refine vp_callSi (va_Run.run (va_runV (As := [.int (nI (rs w1_15 0))]) (rest := [.ref (b 0), .int (nI (2 + (2 * (rn f1_39)))), .ref (b 13)]) ⟨hx, hb, hml, hown, noTs⟩ (r_X12_to l dC dI H.size cs b u39 a hA40 (rs w1_15 0) (by first | assumption | omega | rfl | (congr 1; omega)) (by first | assumption | omega | rfl | (congr 1; omega))) ⟨cbE 1 (wd_1606 hE) (wd_126 hE) (wd_1603 hE) rfl rfl (by decide +kernel) ⟨Nat.le_of_ble_eq_true rfl, Nat.le_of_ble_eq_true rfl⟩, (wd_1605 hE), (wd_77 hE)⟩ ⟨PR.blind, r_recv hK hP rfl, (r_pre (av := [.ref (b 0), .int (nI (rs w1_15 0))]) hK hP hJ hE)⟩ rfl rfl hl.1 rfl (lv_room (Nat.le_of_ble_eq_true rfl)) dX12_cores_154 ⟨Nat.le_of_ble_eq_true rfl, Nat.le_of_ble_eq_true rfl⟩)) (fun r43 hr43 => ?_)
          have hau43 := gg_dst (a := a) (s := (rs w1_15 0)) (by assumption) (by first | assumption | omega)
          subst hr43
          refine lv_aload_n hx hb dX12_cores_157 rfl (lv_at hl 1 rfl) ?_
          refine r_get (v := .ref (b 13)) hx hb (ly_X12 hE) hown hK hP rfl 6 (by decide) (wd_1387 hE) (fun _ h9 => h9) rfl dX12_cores_158 ?_
          refine lv_iload hx hb dX12_cores_161 (lv_at hl 0 rfl) ?_
          refine r_iald (j := 13) (k := 2 + (2 * (rn f1_39))) (n := 200) (x := f1_39 (2 + (2 * (rn f1_39)))) hx hb hK hP (by decide) rfl (by omega) (by decide) (by rw [hL39_6]) dX12_cores_163 ?_
          refine lv_topi (fun x45 ex45 => ?_)
          refine lv_iload hx hb dX12_cores_164 (lv_at hl 5 rfl) ?_
          refine lv_aload_n hx hb dX12_cores_166 rfl (lv_at hl 1 rfl) ?_
          refine lv_iload_n hx hb dX12_cores_167 rfl (lv_at hl 3 rfl) ?_
          refine vp_callSi (va_Run.run (va_runV (As := [.int (nI (rs w1_15 0))]) (rest := [.int (nI n25), .int x45, .int (nI (dst a (rs w1_15 0))), .ref (b 0), .int (nI (2 + (2 * (rn f1_39)))), .ref (b 13)]) ⟨hx, hb, hml, hown, noTs⟩ (r_X12_by l dC dI H.size cs b u39 a hA40 (rs w1_15 0) (by first | assumption | omega | rfl | (congr 1; omega)) (by first | assumption | omega | rfl | (congr 1; omega))) ⟨cbE 1 (wd_1668 hE) (wd_126 hE) (wd_1665 hE) rfl rfl (by decide +kernel) ⟨Nat.le_of_ble_eq_true rfl, Nat.le_of_ble_eq_true rfl⟩, (wd_1667 hE), (wd_86 hE)⟩ ⟨PR.blind, r_recv hK hP rfl, (r_pre (av := [.ref (b 0), .int (nI (rs w1_15 0))]) hK hP hJ hE)⟩ rfl rfl hl.1 rfl (lv_room (Nat.le_of_ble_eq_true rfl)) dX12_cores_168 ⟨Nat.le_of_ble_eq_true rfl, Nat.le_of_ble_eq_true rfl⟩)) (fun r46 hr46 => ?_)
          have hau46 := gg_idx (a := a) (s := (rs w1_15 0)) (by assumption) (by first | assumption | omega)
          subst hr46
          refine lv_idiv hx hb dX12_cores_171 (nI_ne0 (n := idx a (rs w1_15 0)) (by omega) (by omega)) ?_
          refine W.eq (g2 := F0 m 172 ls [.int (nI (n25 / (idx a (rs w1_15 0)))), .int x45, .int (nI (dst a (rs w1_15 0))), .ref (b 0), .int (nI (2 + (2 * (rn f1_39)))), .ref (b 13)]) (congrArg (fun z : Int32 => F0 m 172 ls (.int z :: [.int x45, .int (nI (dst a (rs w1_15 0))), .ref (b 0), .int (nI (2 + (2 * (rn f1_39)))), .ref (b 13)])) (pk_div (a := n25) (d := idx a (rs w1_15 0)) (by omega) (by omega) (by omega))) ?_
          have hmd47 := Nat.div_le_self n25 (idx a (rs w1_15 0))
          refine lv_aload_n hx hb dX12_cores_172 rfl (lv_at hl 1 rfl) ?_
          refine lv_iload_n hx hb dX12_cores_173 rfl (lv_at hl 3 rfl) ?_
          refine vp_callSi (va_Run.run (va_runV (As := [.int (nI (rs w1_15 0))]) (rest := [.int (nI (n25 / (idx a (rs w1_15 0)))), .int x45, .int (nI (dst a (rs w1_15 0))), .ref (b 0), .int (nI (2 + (2 * (rn f1_39)))), .ref (b 13)]) ⟨hx, hb, hml, hown, noTs⟩ (r_X12_into l dC dI H.size cs b u39 a hA40 (rs w1_15 0) (by first | assumption | omega | rfl | (congr 1; omega)) (by first | assumption | omega | rfl | (congr 1; omega))) ⟨cbE 1 (wd_1672 hE) (wd_126 hE) (wd_1669 hE) rfl rfl (by decide +kernel) ⟨Nat.le_of_ble_eq_true rfl, Nat.le_of_ble_eq_true rfl⟩, (wd_1671 hE), (wd_87 hE)⟩ ⟨PR.blind, r_recv hK hP rfl, (r_pre (av := [.ref (b 0), .int (nI (rs w1_15 0))]) hK hP hJ hE)⟩ rfl rfl hl.1 rfl (lv_room (Nat.le_of_ble_eq_true rfl)) dX12_cores_174 ⟨Nat.le_of_ble_eq_true rfl, Nat.le_of_ble_eq_true rfl⟩)) (fun r48 hr48 => ?_)
          have hau48 := gg_jdx (a := a) (s := (rs w1_15 0)) (by assumption) (by first | assumption | omega)
          subst hr48
          refine lv_imul hx hb dX12_cores_177 ?_
          refine W.eq (g2 := F0 m 178 ls [.int (nI ((n25 / (idx a (rs w1_15 0))) * (jdx a (rs w1_15 0)))), .int x45, .int (nI (dst a (rs w1_15 0))), .ref (b 0), .int (nI (2 + (2 * (rn f1_39)))), .ref (b 13)]) (congrArg (fun z : Int32 => F0 m 178 ls (.int z :: [.int x45, .int (nI (dst a (rs w1_15 0))), .ref (b 0), .int (nI (2 + (2 * (rn f1_39)))), .ref (b 13)])) (pk_mul (n25 / (idx a (rs w1_15 0))) (jdx a (rs w1_15 0)))) ?_
          refine lv_iadd hx hb dX12_cores_178 ?_
          refine lv_topi (fun x49 ex49 => ?_)
          refine vp_callSi (va_Run.run (va_runV (As := [.int (nI (dst a (rs w1_15 0))), .int x49]) (rest := [.int (nI (2 + (2 * (rn f1_39)))), .ref (b 13)]) ⟨hx, hb, hml, hown, noTs⟩ (r_X12_round l dC dI H.size cs b u39 a hA40 (dst a (rs w1_15 0)) x49 (by first | assumption | omega | rfl | (congr 1; omega)) (by first | assumption | omega | rfl | (congr 1; omega))) ⟨cbE 2 (wd_1576 hE) (wd_126 hE) (wd_1573 hE) rfl rfl (by decide +kernel) ⟨Nat.le_of_ble_eq_true rfl, Nat.le_of_ble_eq_true rfl⟩, (wd_1575 hE), (wd_71 hE)⟩ ⟨PR.blind, r_recv hK hP rfl, (r_pre (av := [.ref (b 0), .int (nI (dst a (rs w1_15 0))), .int x49]) hK hP hJ hE)⟩ rfl rfl hl.1 rfl (lv_room (Nat.le_of_ble_eq_true rfl)) dX12_cores_179 ⟨Nat.le_of_ble_eq_true rfl, Nat.le_of_ble_eq_true rfl⟩)) (fun r50 hr50 => ?_)
          have hau50 := (gg_od (a := a) (v := (dst a (rs w1_15 0))) (by assumption) (by first | assumption | omega)).2
          obtain ⟨n50, rfl, hn50_0⟩ := hr50
          refine r_iast (j := 13) (k := 2 + (2 * (rn f1_39))) (n := 200) (x := nI n50) hx hb hK hP hJ hAL hS (by decide) (fun _ => rfl) hL39_6 (by omega) (by decide) dX12_cores_182 (fun u51 H locs hs51 hq51 hP hS => ?_)
          obtain ⟨w51, hw51⟩ : ∃ g, g = upd f1_39 (2 + (2 * (rn f1_39))) (nI n50) := ⟨_, rfl⟩
          rw [← hw51] at hs51
          have hA52 := (hq51.1 1 (by decide)).trans hA40
          have hA53 := (hq51.1 jw (by simp only [List.mem_cons, List.not_mem_nil, or_false, not_or]; omega)).trans hL39_7
          have hfr := FR.step hfr hq51 (by simp) (fun _ h => absurd h List.not_mem_nil) (fun h => rfl)
          obtain ⟨p1, p2, p3, p4, p5⟩ := pg_put hw51 hL39_0
          have p8 : LG a w51 := lg_mk (n := rn f1_39) (by omega) (v := dst a (rs w1_15 0)) (by omega) (by rw [hw51]; exact pk_us) (by omega) (by omega)
          refine lv_aload_n hx hb dX12_cores_183 rfl (lv_at hl 1 rfl) ?_
          refine lv_aload_n hx hb dX12_cores_184 rfl (lv_at hl 1 rfl) ?_
          refine r_get (v := .ref (b 13)) hx hb (ly_X12 hE) hown hK hP rfl 6 (by decide) (wd_1387 hE) (fun _ h9 => h9) rfl dX12_cores_185 ?_
          refine lv_aload_n hx hb dX12_cores_188 rfl (lv_at hl 2 rfl) ?_
          refine rc_v hAL hS hA (va_runV (As := [.ref (b 13), .ref (b jw)]) (rest := []) ⟨hx, hb, hml, hown, noTs⟩ (r_X12_forms l dC dI H.size cs b u51 a hA52 13 (by decide) w51 hs51 jw (by omega) w1_15 hA53 (by first | assumption | omega | rfl | (congr 1; omega)) (by first | assumption | omega | rfl | (congr 1; omega)) (by first | assumption | omega | rfl | (congr 1; omega)) (by first | assumption | omega | rfl | (congr 1; omega))) ⟨cbE 2 (wd_1661 hE) (wd_126 hE) (wd_1658 hE) rfl rfl (by decide +kernel) ⟨Nat.le_of_ble_eq_true rfl, Nat.le_of_ble_eq_true rfl⟩, (wd_1660 hE), (wd_85 hE)⟩ ⟨PR.blind, r_recv hK hP rfl, (r_pre (av := [.ref (b 0), .ref (b 13), .ref (b jw)]) hK hP hJ hE)⟩ rfl rfl hl.1 rfl (lv_room (Nat.le_of_ble_eq_true rfl)) dX12_cores_189 ⟨Nat.le_of_ble_eq_true rfl, Nat.le_of_ble_eq_true rfl⟩) (fun u54 H locs hpo54 hP hS => ?_)
          obtain ⟨h54_0, h54_1, h54_2, h54_3, h54_4, hq54⟩ := hpo54
          obtain ⟨w55, hA55⟩ : ∃ g, rA u54 jw = g := ⟨_, rfl⟩
          rw [hA55] at h54_0 h54_1 h54_2 h54_3 h54_4
          have hA56 := (hq54.1 1 (by simp only [List.mem_cons, List.not_mem_nil, or_false, not_or]; omega)).trans hA52
          have hA57 := (hq54.1 13 (by simp only [List.mem_cons, List.not_mem_nil, or_false, not_or]; omega)).trans hs51
          have hfr := FR.step hfr hq54 (by simp) (by decide) (fun h => rfl)
          have hl54_0 := pg_le h54_0
          refine lv_goto (tgt := 17) hx hb dX12_cores_192 (by decide) ?_
          exact ih15 _ u54 _ _ _ (by omega) ⟨hP, hS, hfr, w55, rfl, (by first | assumption | omega | rfl | (congr 1; omega)), (by first | assumption | omega | rfl | (congr 1; omega)), (by omega), (by omega), hA55, lv_sub hl [1, 2] rfl⟩
        · have c41 := mt (b_le (nI_toInt (n := rn w1_15) (by omega)) (nI_toInt (n := i_39 + 1) (by omega))).mpr c41
          have htl := pg_sl hL15_0 (i := i_39) (by omega)
          have htv := pg_sv hL15_0 (i := i_39) (by omega)
          refine lv_aload_n hx hb dX12_cores_106 rfl (lv_at hl 0 rfl) ?_
          refine r_get (v := .ref (b 13)) hx hb (ly_X12 hE) hown hK hP rfl 6 (by decide) (wd_1387 hE) (fun _ h9 => h9) rfl dX12_cores_107 ?_
          refine lv_aload_n hx hb dX12_cores_110 rfl (lv_at hl 1 rfl) ?_
          refine lv_iload hx hb dX12_cores_111 (lv_at hl 5 rfl) ?_
          refine vp_callSi (va_Run.run (va_runS (As := [.ref (b jw), .int (nI i_39)]) (rest := [.ref (b 13)]) ⟨hx, hb, hml, hown, noTs⟩ (r_X12_step l dC dI H.size cs b u39 a hA40 jw (by omega) w1_15 hL39_7 i_39 (by first | assumption | omega | rfl | (congr 1; omega)) (by first | assumption | omega | rfl | (congr 1; omega))) ⟨cbE 2 (wd_1602 hE) (wd_126 hE) (wd_1600 hE) rfl rfl (by decide +kernel) ⟨Nat.le_of_ble_eq_true rfl, Nat.le_of_ble_eq_true rfl⟩, (wd_1601 hE)⟩ ⟨PR.blind, (r_pre (av := [.ref (b jw), .int (nI i_39)]) hK hP hJ hE)⟩ rfl rfl hl.1 rfl (lv_room (Nat.le_of_ble_eq_true rfl)) dX12_cores_113 ⟨Nat.le_of_ble_eq_true rfl, Nat.le_of_ble_eq_true rfl⟩)) (fun r58 hr58 => ?_)
          have hau58 := pg_sl (a := a) (w := w1_15) (i := i_39) (by assumption) (by first | assumption | omega)
          subst hr58
          refine lv_aload_n hx hb dX12_cores_116 rfl (lv_at hl 1 rfl) ?_
          refine lv_iload hx hb dX12_cores_117 (lv_at hl 5 rfl) ?_
          refine lv_iconst (v := 1) hx hb dX12_cores_119 (by decide) ?_
          refine lv_iadd hx hb dX12_cores_120 ?_
          refine W.eq (g2 := F0 m 121 ls [.int (nI (i_39 + 1)), .ref (b jw), .int (nI (rs w1_15 i_39)), .ref (b 13)]) (congrArg (fun z : Int32 => F0 m 121 ls (.int z :: [.ref (b jw), .int (nI (rs w1_15 i_39)), .ref (b 13)])) (nI_add i_39 1)) ?_
          refine vp_callSi (va_Run.run (va_runS (As := [.ref (b jw), .int (nI (i_39 + 1))]) (rest := [.int (nI (rs w1_15 i_39)), .ref (b 13)]) ⟨hx, hb, hml, hown, noTs⟩ (r_X12_number l dC dI H.size cs b u39 a hA40 jw (by omega) w1_15 hL39_7 (i_39 + 1) (by first | assumption | omega | rfl | (congr 1; omega))) ⟨cbE 2 (wd_1664 hE) (wd_126 hE) (wd_1662 hE) rfl rfl (by decide +kernel) ⟨Nat.le_of_ble_eq_true rfl, Nat.le_of_ble_eq_true rfl⟩, (wd_1663 hE)⟩ ⟨PR.blind, (r_pre (av := [.ref (b jw), .int (nI (i_39 + 1))]) hK hP hJ hE)⟩ rfl rfl hl.1 rfl (lv_room (Nat.le_of_ble_eq_true rfl)) dX12_cores_121 ⟨Nat.le_of_ble_eq_true rfl, Nat.le_of_ble_eq_true rfl⟩)) (fun r59 hr59 => ?_)
          refine rc_v hAL hS hA (va_runS (As := [.ref (b 13), .int (nI (rs w1_15 i_39)), .int r59]) (rest := []) ⟨hx, hb, hml, hown, noTs⟩ (r_X12_goes l dC dI H.size cs b u39 a hA40 13 (by decide) f1_39 hL39_6 (rs w1_15 i_39) r59 (by first | assumption | omega | rfl | (congr 1; omega)) (by first | assumption | omega | rfl | (congr 1; omega)) (by first | assumption | omega | rfl | (congr 1; omega)) (by first | assumption | omega | rfl | (congr 1; omega)) (by first | assumption | omega | rfl | (congr 1; omega))) ⟨cbE 3 (wd_1609 hE) (wd_126 hE) (wd_1607 hE) rfl rfl (by decide +kernel) ⟨Nat.le_of_ble_eq_true rfl, Nat.le_of_ble_eq_true rfl⟩, (wd_1608 hE)⟩ ⟨PR.blind, (r_pre (av := [.ref (b 13), .int (nI (rs w1_15 i_39)), .int r59]) hK hP hJ hE)⟩ rfl rfl hl.1 rfl (lv_room (Nat.le_of_ble_eq_true rfl)) dX12_cores_124 ⟨Nat.le_of_ble_eq_true rfl, Nat.le_of_ble_eq_true rfl⟩) (fun u60 H locs hpo60 hP hS => ?_)
          obtain ⟨h60_0, h60_1, h60_2, h60_3, h60_4, h60_5, h60_6, h60_7, hq60⟩ := hpo60
          obtain ⟨w61, hA61⟩ : ∃ g, rA u60 13 = g := ⟨_, rfl⟩
          rw [hA61] at h60_0 h60_1 h60_2 h60_3 h60_4 h60_5 h60_6 h60_7
          have hA62 := (hq60.1 1 (by decide)).trans hA40
          have hA63 := (hq60.1 jw (by simp only [List.mem_cons, List.not_mem_nil, or_false, not_or]; omega)).trans hL39_7
          have hfr := FR.step hfr hq60 (by simp) (fun _ h => absurd h List.not_mem_nil) (fun h => rfl)
          have hl60_0 := pg_le h60_0
          refine lv_iinc (v := nI (i_39 + 1)) (lv' := [(5, .int (nI (i_39 + 1))), (0, .ref (b 0)), (1, .ref (b jw)), (2, .int (nI (rs w1_15 0))), (3, .int (nI (rn w1_15))), (4, .int (nI n25))]) hx hb dX12_cores_127 hl (k := 5) rfl (nI_1 i_39) (by decide) rfl (fun ls hl => ?_)
          refine lv_goto (tgt := 98) hx hb dX12_cores_130 (by decide) ?_
          exact ih39 _ u60 _ _ _ (by omega) ⟨hP, hS, hfr, (i_39 + 1), w61, rfl, (by first | assumption | omega | rfl | (congr 1; omega)), (by first | assumption | omega | rfl | (congr 1; omega)), (by first | assumption | omega | rfl | (congr 1; omega)), (by omega), (by first | assumption | omega | rfl | (congr 1; omega)), (by rw [vx_s]; omega), hA61, hA63, lv_sub hl [1, 2, 3, 4, 5, 0] rfl⟩
      · have c31 := mt (b_eq (nI_toInt (n := n25 % (idx a (rs w1_15 0))) (by omega)) (show Int32.toInt 0 = 0 from rfl)).mpr c31
        exact W.vret hx hb hr (fun t ht hW => ⟨⟨u15, rfl, ⟨(by first | (rw [hL15_4]; done) | (rw [hL15_4]; first | assumption | omega | rfl | (congr 1; omega))), (by first | (rw [hL15_4]; done) | (rw [hL15_4]; first | assumption | omega | rfl | (congr 1; omega))), (by first | (rw [hL15_4]; done) | (rw [hL15_4]; first | assumption | omega | rfl | (congr 1; omega))), (by first | (rw [hL15_4]; done) | (rw [hL15_4]; first | assumption | omega | rfl | (congr 1; omega))), hfr⟩, (show va_P (dC, dI) vwCl (rW cs b u15) t.heap by rw [ht]; exact hP)⟩, hS.F ht⟩) hS.2.2 dX12_cores_77

set_option maxHeartbeats 4000000 in
set_option maxRecDepth 100000 in
theorem r_X12_coreOf (l : Launch) (dC : Nat → ClassId) (dI : Nat → Nat → Nat) (sz : Nat) (cs : Nat → ClassId) (b : Nat → Nat) (u : RS) (a : Nat → Int32) (hA1 : rA u 1 = a) (wd : Nat) (jw : Nat) (hjwr : 3 ≤ jw ∧ jw ≤ 14) (g : Nat → Int32) (hAjw : rA u jw = g) (hp0 : BG a) (hp1 : wd < wN a) (hp2 : jw ≠ 13) (hp3 : jw ≠ 14) : Met l yX12_coreOf [.code yX12_coreOf cX12_coreOf 3 none] ({ frames := 6, cells := 0, slots := 0, locals := 240 }) (PR [.ref (b 0), .int (nI wd), .ref (b jw)] sz dC dI cs b u) (va_Qv (fun (u' : RS) => (PG a (rA u' jw)) ∧ (LG a (rA u' jw)) ∧ (rn (rA u' jw) ≤ 24) ∧ (vend a (row a wd) = rb (row a wd) → vend a (rA u' jw) = rb (rA u' jw)) ∧ FR [13, 14, jw] [5] false u u') (BR dC dI cs b) (AR b sz)) 0 0 (AR b sz) := by
  refine Met.ofW (cc := cX12_coreOf) (maxL := 3) (ret := none) (by decide) rfl ?_
  intro p e s m args below meth c s₁ B hml hv
  obtain ⟨rfl, hsz, hP, hK, hJ, hE⟩ := hv
  have hx := B.exec
  have hb := B.bytes
  have hr := B.returns
  have hown : s.vm.findClass RX12 = some m.cls := findClass_of_methodNamed B.named
  have hlocks := B.notSynchronized
  subst hsz
  have hAL : ∀ i, i < 108 → AR b s.heap.size (b i) := fun i h => Or.inl ⟨i, h, rfl⟩
  have hA : ∀ q : Nat, s.heap.size ≤ q → AR b s.heap.size q := fun q h => Or.inr h
  have hS : va_S (AR b s.heap.size) s.heap s.heap [] := va_S.rf
  have hfr : FR [13, 14, jw] [5] false u u := FR.refl
  have hl := lv_entry ([.ref (b 0), .int (nI wd), .ref (b jw)]) (n := 3) (Nat.le_of_ble_eq_true rfl)
  rw [lg_entry_eq]
  generalize (lg_sl ([.ref (b 0), .int (nI wd), .ref (b jw)]) ++ List.replicate (3 - (lg_sl ([.ref (b 0), .int (nI wd), .ref (b jw)])).length) Slot.unset).toArray = ls at hl ⊢
  have hl : lv_has ls 3 [(0, .ref (b 0)), (1, .int (nI wd)), (2, .ref (b jw))] := hl
  have hB := hp0
  have hG := bg_g hp0
  have ha1 := gg_le hG
  have ha1b := bg_w hp0
  refine lv_aload_n hx hb dX12_coreOf_0 rfl (lv_at hl 0 rfl) ?_
  refine lv_iload_n hx hb dX12_coreOf_1 rfl (lv_at hl 1 rfl) ?_
  refine lv_aload_n hx hb dX12_coreOf_2 rfl (lv_at hl 2 rfl) ?_
  refine rc_v hAL hS hA (va_runV (As := [.int (nI wd), .ref (b jw)]) (rest := []) ⟨hx, hb, hml, hown, noTs⟩ (r_X12_takes l dC dI s.heap.size cs b u a hA1 wd jw (by omega) g hAjw (by first | assumption | omega | rfl | (congr 1; omega)) (by first | assumption | omega | rfl | (congr 1; omega))) ⟨cbE 2 (wd_1657 hE) (wd_126 hE) (wd_1654 hE) rfl rfl (by decide +kernel) ⟨Nat.le_of_ble_eq_true rfl, Nat.le_of_ble_eq_true rfl⟩, (wd_1656 hE), (wd_84 hE)⟩ ⟨PR.blind, r_recv hK hP rfl, (r_pre (av := [.ref (b 0), .int (nI wd), .ref (b jw)]) hK hP hJ hE)⟩ rfl rfl hl.1 rfl (lv_room (Nat.le_of_ble_eq_true rfl)) dX12_coreOf_3 ⟨Nat.le_of_ble_eq_true rfl, Nat.le_of_ble_eq_true rfl⟩) (fun u5 H locs hpo5 hP hS => ?_)
  obtain ⟨h5_0, h5_1, h5_2, h5_3, h5_4, h5_5, hq5⟩ := hpo5
  obtain ⟨w6, hA6⟩ : ∃ g, rA u5 jw = g := ⟨_, rfl⟩
  rw [hA6] at h5_0 h5_1 h5_2 h5_3 h5_4 h5_5
  have hA7 := (hq5.1 1 (by simp only [List.mem_cons, List.not_mem_nil, or_false, not_or]; omega)).trans hA1
  have hfr := FR.step hfr hq5 (by simp) (fun _ h => absurd h List.not_mem_nil) (fun h => rfl)
  have hl5_0 := pg_le h5_0
  refine lv_aload_n hx hb dX12_coreOf_6 rfl (lv_at hl 0 rfl) ?_
  refine lv_aload_n hx hb dX12_coreOf_7 rfl (lv_at hl 2 rfl) ?_
  refine rc_v hAL hS hA (va_runV (As := [.ref (b jw)]) (rest := []) ⟨hx, hb, hml, hown, noTs⟩ (r_X12_cores l dC dI H.size cs b u5 a hA7 jw (by omega) w6 hA6 (by first | assumption | omega | rfl | (congr 1; omega)) (by first | assumption | omega | rfl | (congr 1; omega)) (by first | assumption | omega | rfl | (congr 1; omega)) (by first | assumption | omega | rfl | (congr 1; omega)) (by first | assumption | omega | rfl | (congr 1; omega))) ⟨cbE 1 (wd_1737 hE) (wd_126 hE) (wd_1734 hE) rfl rfl (by decide +kernel) ⟨Nat.le_of_ble_eq_true rfl, Nat.le_of_ble_eq_true rfl⟩, (wd_1736 hE), (wd_93 hE)⟩ ⟨PR.blind, r_recv hK hP rfl, (r_pre (av := [.ref (b 0), .ref (b jw)]) hK hP hJ hE)⟩ rfl rfl hl.1 rfl (lv_room (Nat.le_of_ble_eq_true rfl)) dX12_coreOf_8 ⟨Nat.le_of_ble_eq_true rfl, Nat.le_of_ble_eq_true rfl⟩) (fun u8 H locs hpo8 hP hS => ?_)
  obtain ⟨h8_0, h8_1, h8_2, h8_3, hq8⟩ := hpo8
  obtain ⟨w9, hA9⟩ : ∃ g, rA u8 jw = g := ⟨_, rfl⟩
  rw [hA9] at h8_0 h8_1 h8_2 h8_3
  have hA10 := (hq8.1 1 (by simp only [List.mem_cons, List.not_mem_nil, or_false, not_or]; omega)).trans hA7
  have hfr := FR.step hfr hq8 (by simp) (by decide) (fun h => rfl)
  have hl8_0 := pg_le h8_0
  have h9_3 := h8_3
  exact W.vret hx hb hr (fun t ht hW => ⟨⟨u8, rfl, ⟨(by first | (rw [hA9]; done) | (rw [hA9]; first | assumption | omega | rfl | (congr 1; omega))), (by first | (rw [hA9]; done) | (rw [hA9]; first | assumption | omega | rfl | (congr 1; omega))), (by first | (rw [hA9]; done) | (rw [hA9]; first | assumption | omega | rfl | (congr 1; omega))), (by first | (rw [hA9]; done) | (rw [hA9]; intro hh; exact h9_3 (by omega))), hfr⟩, (show va_P (dC, dI) vwCl (rW cs b u8) t.heap by rw [ht]; exact hP)⟩, hS.F ht⟩) hS.2.2 dX12_coreOf_11
