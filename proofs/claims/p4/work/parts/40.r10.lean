set_option maxHeartbeats 4000000 in
set_option maxRecDepth 100000 in
theorem r_X12_areKin (l : Launch) (dC : Nat → ClassId) (dI : Nat → Nat → Nat) (sz : Nat) (cs : Nat → ClassId) (b : Nat → Nat) (u : RS) (a : Nat → Int32) (hA1 : rA u 1 = a) (wd : Nat) (we : Nat) (hp0 : BG a) (hp1 : wd < wN a) (hp2 : we < wN a) (hp3 : vend a (row a wd) = rb (row a wd)) (hp4 : vend a (row a we) = rb (row a we)) : Met l yX12_areKin [.code yX12_areKin cX12_areKin 5 (some .boolean)] ({ frames := 7, cells := 0, slots := 0, locals := 280 }) (PR [.ref (b 0), .int (nI wd), .int (nI we)] sz dC dI cs b u) (va_Qi (fun (r : Int32) (u' : RS) => ((r = 1 ∧ (True)) ∨ (r = 0 ∧ (True))) ∧ FR [3, 4, 5, 6, 7, 8, 9, 10, 11, 12, 13, 14, 17, 18, 19, 20] [5, 21, 22] false u u') (BR dC dI cs b) (AR b sz)) 0 0 (AR b sz) := by
  refine Met.ofW (cc := cX12_areKin) (maxL := 5) (ret := (some .boolean)) (by decide) rfl ?_
  intro p e s m args below meth c s₁ B hml hv
  obtain ⟨rfl, hsz, hP, hK, hJ, hE⟩ := hv
  have hx := B.exec
  have hb := B.bytes
  have hr := B.returns
  have hown : s.vm.findClass RX12 = some m.cls := findClass_of_methodNamed B.named
  have hlocks := B.notSynchronized
  subst hsz
  have hAL : ∀ i, i < 108 → AR b s.heap.size (b i) := fun i h => Or.inl ⟨i, h, rfl⟩
  have hA : ∀ q : Nat, s.heap.size ≤ q → AR b s.heap.size q := fun q h => Or.inr h
  have hS : va_S (AR b s.heap.size) s.heap s.heap [] := va_S.rf
  have hfr : FR [3, 4, 5, 6, 7, 8, 9, 10, 11, 12, 13, 14, 17, 18, 19, 20] [5, 21, 22] false u u := FR.refl
  have hl := lv_entry ([.ref (b 0), .int (nI wd), .int (nI we)]) (n := 5) (Nat.le_of_ble_eq_true rfl)
  rw [lg_entry_eq]
  generalize (lg_sl ([.ref (b 0), .int (nI wd), .int (nI we)]) ++ List.replicate (5 - (lg_sl ([.ref (b 0), .int (nI wd), .int (nI we)])).length) Slot.unset).toArray = ls at hl ⊢
  have hl : lv_has ls 5 [(0, .ref (b 0)), (1, .int (nI wd)), (2, .int (nI we))] := hl
  have hB := hp0
  have hG := bg_g hp0
  have ha1 := gg_le hG
  have ha1b := bg_w hp0
  refine lv_aload_n hx hb dX12_areKin_0 rfl (lv_at hl 0 rfl) ?_
  refine lv_iload_n hx hb dX12_areKin_1 rfl (lv_at hl 1 rfl) ?_
  refine lv_aload_n hx hb dX12_areKin_2 rfl (lv_at hl 0 rfl) ?_
  refine r_get (v := .ref (b 2)) hx hb (ly_X12 hE) hown hK hP rfl 4 (by decide) (wd_1385 hE) (fun _ h9 => h9) rfl dX12_areKin_3 ?_
  refine lv_iconst (v := 4) hx hb dX12_areKin_6 (by decide) ?_
  refine r_aald (j := 2) (k := 4) (n := 10) (t0 := 4) (j2 := 7) hx hb hK hP (by decide) rfl rfl (by decide) (by decide) rfl dX12_areKin_7 ?_
  obtain ⟨g6, hg6⟩ : ∃ g, rA u 7 = g := ⟨_, rfl⟩
  refine rc_v hAL hS hA (va_runV (As := [.int (nI wd), .ref (b 7)]) (rest := []) ⟨hx, hb, hml, hown, noTs⟩ (r_X12_coreOf l dC dI s.heap.size cs b u a hA1 wd 7 (by decide) g6 hg6 (by first | assumption | omega | rfl | (congr 1; omega)) (by first | assumption | omega | rfl | (congr 1; omega)) (by first | assumption | omega | rfl | (congr 1; omega)) (by first | assumption | omega | rfl | (congr 1; omega))) ⟨cbE 2 (wd_1733 hE) (wd_126 hE) (wd_1730 hE) rfl rfl (by decide +kernel) ⟨Nat.le_of_ble_eq_true rfl, Nat.le_of_ble_eq_true rfl⟩, (wd_1732 hE), (wd_92 hE)⟩ ⟨PR.blind, r_recv hK hP rfl, (r_pre (av := [.ref (b 0), .int (nI wd), .ref (b 7)]) hK hP hJ hE)⟩ rfl rfl hl.1 rfl (lv_room (Nat.le_of_ble_eq_true rfl)) dX12_areKin_8 ⟨Nat.le_of_ble_eq_true rfl, Nat.le_of_ble_eq_true rfl⟩) (fun u7 H locs hpo7 hP hS => ?_)
  obtain ⟨h7_0, h7_1, h7_2, h7_3, hq7⟩ := hpo7
  obtain ⟨w8, hA8⟩ : ∃ g, rA u7 7 = g := ⟨_, rfl⟩
  rw [hA8] at h7_0 h7_1 h7_2 h7_3
  have hA9 := (hq7.1 1 (by decide)).trans hA1
  have hfr := FR.step hfr hq7 (by decide) (by decide) (fun h => rfl)
  have hl7_0 := pg_le h7_0
  have PF := h7_0
  have LF7 := h7_1
  have VF := h7_3 hp3
  have hbF := gg_od hG (pg_le h7_0).1
  refine lv_aload_n hx hb dX12_areKin_11 rfl (lv_at hl 0 rfl) ?_
  refine lv_iload_n hx hb dX12_areKin_12 rfl (lv_at hl 2 rfl) ?_
  refine lv_aload_n hx hb dX12_areKin_13 rfl (lv_at hl 0 rfl) ?_
  refine r_get (v := .ref (b 2)) hx hb (ly_X12 hE) hown hK hP rfl 4 (by decide) (wd_1385 hE) (fun _ h9 => h9) rfl dX12_areKin_14 ?_
  refine lv_iconst (v := 5) hx hb dX12_areKin_17 (by decide) ?_
  refine r_aald (j := 2) (k := 5) (n := 10) (t0 := 4) (j2 := 8) hx hb hK hP (by decide) rfl rfl (by decide) (by decide) rfl dX12_areKin_18 ?_
  obtain ⟨g10, hg10⟩ : ∃ g, rA u7 8 = g := ⟨_, rfl⟩
  refine rc_v hAL hS hA (va_runV (As := [.int (nI we), .ref (b 8)]) (rest := []) ⟨hx, hb, hml, hown, noTs⟩ (r_X12_coreOf l dC dI H.size cs b u7 a hA9 we 8 (by decide) g10 hg10 (by first | assumption | omega | rfl | (congr 1; omega)) (by first | assumption | omega | rfl | (congr 1; omega)) (by first | assumption | omega | rfl | (congr 1; omega)) (by first | assumption | omega | rfl | (congr 1; omega))) ⟨cbE 2 (wd_1733 hE) (wd_126 hE) (wd_1730 hE) rfl rfl (by decide +kernel) ⟨Nat.le_of_ble_eq_true rfl, Nat.le_of_ble_eq_true rfl⟩, (wd_1732 hE), (wd_92 hE)⟩ ⟨PR.blind, r_recv hK hP rfl, (r_pre (av := [.ref (b 0), .int (nI we), .ref (b 8)]) hK hP hJ hE)⟩ rfl rfl hl.1 rfl (lv_room (Nat.le_of_ble_eq_true rfl)) dX12_areKin_19 ⟨Nat.le_of_ble_eq_true rfl, Nat.le_of_ble_eq_true rfl⟩) (fun u11 H locs hpo11 hP hS => ?_)
  obtain ⟨h11_0, h11_1, h11_2, h11_3, hq11⟩ := hpo11
  obtain ⟨w12, hA12⟩ : ∃ g, rA u11 8 = g := ⟨_, rfl⟩
  rw [hA12] at h11_0 h11_1 h11_2 h11_3
  have hA13 := (hq11.1 1 (by decide)).trans hA9
  have hA14 := (hq11.1 7 (by decide)).trans hA8
  have hfr := FR.step hfr hq11 (by decide) (by decide) (fun h => rfl)
  have hl11_0 := pg_le h11_0
  have PQ := h11_0
  have LQ := h11_1
  have VQ := h11_3 hp4
  refine lv_aload_n hx hb dX12_areKin_22 rfl (lv_at hl 0 rfl) ?_
  refine lv_iconst (v := -1) hx hb dX12_areKin_23 (by decide) ?_
  refine r_put (v := -1) hx hb (ly_X12 hE) tyX12 tyX12_ok nmX12 hown hK hP hJ hAL hS rfl 21 (by decide) (wd_1402 hE) (fun _ h9 => h9) rfl (by decide +kernel) rfl (by decide) dX12_areKin_24 (fun u15 H locs hf15 hq15 hP hS => ?_)
  have hA16 := (hq15.1 1 List.not_mem_nil).trans hA13
  have hA17 := (hq15.1 7 List.not_mem_nil).trans hA14
  have hA18 := (hq15.1 8 List.not_mem_nil).trans hA12
  have hfr := FR.step hfr hq15 (fun _ h => absurd h List.not_mem_nil) (by decide) (fun h => rfl)
  refine lv_aload_n hx hb dX12_areKin_27 rfl (lv_at hl 0 rfl) ?_
  refine lv_iconst (v := 0) hx hb dX12_areKin_28 (by decide) ?_
  refine r_put (v := 0) hx hb (ly_X12 hE) tyX12 tyX12_ok nmX12 hown hK hP hJ hAL hS rfl 22 (by decide) (wd_1403 hE) (fun _ h9 => h9) rfl (by decide +kernel) rfl (by decide) dX12_areKin_29 (fun u19 H locs hf19 hq19 hP hS => ?_)
  have hA20 := (hq19.1 1 List.not_mem_nil).trans hA16
  have hA21 := (hq19.1 7 List.not_mem_nil).trans hA17
  have hA22 := (hq19.1 8 List.not_mem_nil).trans hA18
  have hF23x := (hq19.2.1 21 (by decide)).trans hf15
  have hfr := FR.step hfr hq19 (fun _ h => absurd h List.not_mem_nil) (by decide) (fun h => rfl)
  refine lv_aload_n hx hb dX12_areKin_32 rfl (lv_at hl 0 rfl) ?_
  refine r_get (v := .ref (b 2)) hx hb (ly_X12 hE) hown hK hP rfl 4 (by decide) (wd_1385 hE) (fun _ h9 => h9) rfl dX12_areKin_33 ?_
  refine lv_iconst (v := 4) hx hb dX12_areKin_36 (by decide) ?_
  refine r_aald (j := 2) (k := 4) (n := 10) (t0 := 4) (j2 := 7) hx hb hK hP (by decide) rfl rfl (by decide) (by decide) rfl dX12_areKin_37 ?_
  refine lv_iconst (v := 1) hx hb dX12_areKin_38 (by decide) ?_
  refine r_iald (j := 7) (k := 1) (n := 200) (x := nI (rn w8)) hx hb hK hP (by decide) rfl (by decide) (by decide) (by rw [hA21]; exact pg_n h7_0) dX12_areKin_39 ?_
  refine lv_aload_n hx hb dX12_areKin_40 rfl (lv_at hl 0 rfl) ?_
  refine r_get (v := .ref (b 2)) hx hb (ly_X12 hE) hown hK hP rfl 4 (by decide) (wd_1385 hE) (fun _ h9 => h9) rfl dX12_areKin_41 ?_
  refine lv_iconst (v := 5) hx hb dX12_areKin_44 (by decide) ?_
  refine r_aald (j := 2) (k := 5) (n := 10) (t0 := 4) (j2 := 8) hx hb hK hP (by decide) rfl rfl (by decide) (by decide) rfl dX12_areKin_45 ?_
  refine lv_iconst (v := 1) hx hb dX12_areKin_46 (by decide) ?_
  refine r_iald (j := 8) (k := 1) (n := 200) (x := nI (rn w12)) hx hb hK hP (by decide) rfl (by decide) (by decide) (by rw [hA22]; exact pg_n h11_0) dX12_areKin_47 ?_
  refine lv_icmp_eq (tgt := 53) hx hb dX12_areKin_48 (by decide) (fun c26 => ?_) (fun c26 => ?_)
  · have c26 := (b_eq (nI_toInt (n := rn w8) (by omega)) (nI_toInt (n := rn w12) (by omega))).mp c26
    refine lv_aload_n hx hb dX12_areKin_53 rfl (lv_at hl 0 rfl) ?_
    refine r_get (v := .ref (b 2)) hx hb (ly_X12 hE) hown hK hP rfl 4 (by decide) (wd_1385 hE) (fun _ h9 => h9) rfl dX12_areKin_54 ?_
    refine lv_iconst (v := 4) hx hb dX12_areKin_57 (by decide) ?_
    refine r_aald (j := 2) (k := 4) (n := 10) (t0 := 4) (j2 := 7) hx hb hK hP (by decide) rfl rfl (by decide) (by decide) rfl dX12_areKin_58 ?_
    refine lv_iconst (v := 1) hx hb dX12_areKin_59 (by decide) ?_
    refine r_iald (j := 7) (k := 1) (n := 200) (x := nI (rn w8)) hx hb hK hP (by decide) rfl (by decide) (by decide) (by rw [hA21]; exact pg_n h7_0) dX12_areKin_60 ?_
    refine lv_if_ne (tgt := 122) hx hb dX12_areKin_61 (by decide) (fun c28 => ?_) (fun c28 => ?_)
    · have c28 := mt (b_eq (nI_toInt (n := rn w8) (by omega)) (show Int32.toInt 0 = 0 from rfl)).mpr c28
      refine lv_iconst (v := 0) hx hb dX12_areKin_122 (by decide) ?_
      refine lv_istore_n (lv' := [(3, .int 0), (0, .ref (b 0)), (1, .int (nI wd)), (2, .int (nI we))]) hx hb dX12_areKin_123 rfl hl (by decide) rfl (fun ls hl => ?_)
      refine r_ind (I := fun n u_ H locs ls => va_P (dC, dI) vwCl (rW cs b u_) H ∧ va_S (AR b s.heap.size) s.heap H locs ∧ FR [3, 4, 5, 6, 7, 8, 9, 10, 11, 12, 13, 14, 17, 18, 19, 20] [5, 21, 22] false u u_ ∧ ∃ (i_29 : Nat), n = rn w8 - i_29 ∧ (i_29 ≤ rn w8) ∧ (rA u_ 7 = w8) ∧ (rA u_ 8 = w12) ∧ lv_has ls 5 [(0, .ref (b 0)), (1, .int (nI wd)), (2, .int (nI we)), (3, .int (nI i_29))]) (fun n u29 H locs ls hI ih29 => ?_) _ u19 _ _ _ ⟨hP, hS, hfr, 0, rfl, (by first | assumption | omega | rfl | (congr 1; omega)), hA21, hA22, lv_sub hl [1, 2, 3, 0] rfl⟩
      obtain ⟨hP, hS, hfr, i_29, hmu29, hL29_0, hL29_1, hL29_2, hl⟩ := hI
      have hA30 := (hfr.1 1 (by decide)).trans hA1
      subst hmu29
      refine lv_iload_n hx hb dX12_areKin_124 rfl (lv_at hl 3 rfl) ?_
      refine lv_aload_n hx hb dX12_areKin_125 rfl (lv_at hl 0 rfl) ?_
      refine r_get (v := .ref (b 2)) hx hb (ly_X12 hE) hown hK hP rfl 4 (by decide) (wd_1385 hE) (fun _ h9 => h9) rfl dX12_areKin_126 ?_
      refine lv_iconst (v := 4) hx hb dX12_areKin_129 (by decide) ?_
      refine r_aald (j := 2) (k := 4) (n := 10) (t0 := 4) (j2 := 7) hx hb hK hP (by decide) rfl rfl (by decide) (by decide) rfl dX12_areKin_130 ?_
      refine lv_iconst (v := 1) hx hb dX12_areKin_131 (by decide) ?_
      refine r_iald (j := 7) (k := 1) (n := 200) (x := nI (rn w8)) hx hb hK hP (by decide) rfl (by decide) (by decide) (by rw [hL29_1]; exact pg_n h7_0) dX12_areKin_132 ?_
      refine lv_icmp_ge (tgt := 363) hx hb dX12_areKin_133 (by decide) (fun c32 => ?_) (fun c32 => ?_)
      · have c32 := (b_le (nI_toInt (n := rn w8) (by omega)) (nI_toInt (n := i_29) (by omega))).mp c32
        refine lv_iconst (v := 0) hx hb dX12_areKin_363 (by decide) ?_
        exact W.zret (v := 0) hx hb hr rfl (fun t ht hW => ⟨⟨0, u29, rfl, ⟨Or.inr ⟨rfl, by trivial⟩, hfr⟩, (show va_P (dC, dI) vwCl (rW cs b u29) t.heap by rw [ht]; exact hP)⟩, hS.F ht⟩) hS.2.2 dX12_areKin_364
      · have c32 := mt (b_le (nI_toInt (n := rn w8) (by omega)) (nI_toInt (n := i_29) (by omega))).mpr c32
        refine lv_aload_n hx hb dX12_areKin_136 rfl (lv_at hl 0 rfl) ?_
        refine lv_aload_n hx hb dX12_areKin_137 rfl (lv_at hl 0 rfl) ?_
        refine r_get (v := .ref (b 2)) hx hb (ly_X12 hE) hown hK hP rfl 4 (by decide) (wd_1385 hE) (fun _ h9 => h9) rfl dX12_areKin_138 ?_
        refine lv_iconst (v := 4) hx hb dX12_areKin_141 (by decide) ?_
        refine r_aald (j := 2) (k := 4) (n := 10) (t0 := 4) (j2 := 7) hx hb hK hP (by decide) rfl rfl (by decide) (by decide) rfl dX12_areKin_142 ?_
        refine lv_iload_n hx hb dX12_areKin_143 rfl (lv_at hl 3 rfl) ?_
        refine lv_aload_n hx hb dX12_areKin_144 rfl (lv_at hl 0 rfl) ?_
        refine r_get (v := .ref (b 2)) hx hb (ly_X12 hE) hown hK hP rfl 4 (by decide) (wd_1385 hE) (fun _ h9 => h9) rfl dX12_areKin_145 ?_
        refine lv_bipush (v := 6) hx hb dX12_areKin_148 (by decide) ?_
        refine r_aald (j := 2) (k := 6) (n := 10) (t0 := 4) (j2 := 9) hx hb hK hP (by decide) rfl rfl (by decide) (by decide) rfl dX12_areKin_150 ?_
        obtain ⟨g33, hg33⟩ : ∃ g, rA u29 9 = g := ⟨_, rfl⟩
        refine rc_v hAL hS hA (va_runV (As := [.ref (b 7), .int (nI i_29), .ref (b 9)]) (rest := []) ⟨hx, hb, hml, hown, noTs⟩ (r_X12_begins l dC dI H.size cs b u29 a hA30 7 (by decide) w8 hL29_1 i_29 9 (by decide) g33 hg33 (by first | assumption | omega | rfl | (congr 1; omega)) (by first | assumption | omega | rfl | (congr 1; omega)) (by first | assumption | omega | rfl | (congr 1; omega)) (by first | assumption | omega | rfl | (congr 1; omega)) (by first | assumption | omega | rfl | (congr 1; omega)) (by first | assumption | omega | rfl | (congr 1; omega))) ⟨cbE 3 (wd_1812 hE) (wd_126 hE) (wd_1809 hE) rfl rfl (by decide +kernel) ⟨Nat.le_of_ble_eq_true rfl, Nat.le_of_ble_eq_true rfl⟩, (wd_1811 hE), (wd_100 hE)⟩ ⟨PR.blind, r_recv hK hP rfl, (r_pre (av := [.ref (b 0), .ref (b 7), .int (nI i_29), .ref (b 9)]) hK hP hJ hE)⟩ rfl rfl hl.1 rfl (lv_room (Nat.le_of_ble_eq_true rfl)) dX12_areKin_151 ⟨Nat.le_of_ble_eq_true rfl, Nat.le_of_ble_eq_true rfl⟩) (fun u34 H locs hpo34 hP hS => ?_)
        obtain ⟨h34_0, h34_1, h34_2, h34_3, hq34⟩ := hpo34
        obtain ⟨w35, hA35⟩ : ∃ g, rA u34 9 = g := ⟨_, rfl⟩
        rw [hA35] at h34_0 h34_1 h34_2 h34_3
        have hA36 := (hq34.1 1 (by decide)).trans hA30
        have hA37 := (hq34.1 7 (by decide)).trans hL29_1
        have hA38 := (hq34.1 8 (by decide)).trans hL29_2
        have hfr := FR.step hfr hq34 (by decide) (fun _ h => absurd h List.not_mem_nil) (fun h => rfl)
        have hl34_0 := pg_le h34_0
        have PH := h34_0
        have LH := h34_1
        refine lv_aload_n hx hb dX12_areKin_154 rfl (lv_at hl 0 rfl) ?_
        refine r_get (v := .ref (b 2)) hx hb (ly_X12 hE) hown hK hP rfl 4 (by decide) (wd_1385 hE) (fun _ h9 => h9) rfl dX12_areKin_155 ?_
        refine lv_bipush (v := 6) hx hb dX12_areKin_158 (by decide) ?_
        refine r_aald (j := 2) (k := 6) (n := 10) (t0 := 4) (j2 := 9) hx hb hK hP (by decide) rfl rfl (by decide) (by decide) rfl dX12_areKin_160 ?_
        refine lv_iconst (v := 0) hx hb dX12_areKin_161 (by decide) ?_
        refine r_iald (j := 9) (k := 0) (n := 200) (x := nI (rb w35)) hx hb hK hP (by decide) rfl (by decide) (by decide) (by rw [hA35]; exact pg_b h34_0) dX12_areKin_162 ?_
        refine lv_aload_n hx hb dX12_areKin_163 rfl (lv_at hl 0 rfl) ?_
        refine r_get (v := .ref (b 2)) hx hb (ly_X12 hE) hown hK hP rfl 4 (by decide) (wd_1385 hE) (fun _ h9 => h9) rfl dX12_areKin_164 ?_
        refine lv_iconst (v := 5) hx hb dX12_areKin_167 (by decide) ?_
        refine r_aald (j := 2) (k := 5) (n := 10) (t0 := 4) (j2 := 8) hx hb hK hP (by decide) rfl rfl (by decide) (by decide) rfl dX12_areKin_168 ?_
        refine lv_iconst (v := 0) hx hb dX12_areKin_169 (by decide) ?_
        refine r_iald (j := 8) (k := 0) (n := 200) (x := nI (rb w12)) hx hb hK hP (by decide) rfl (by decide) (by decide) (by rw [hA38]; exact pg_b h11_0) dX12_areKin_170 ?_
        refine lv_icmp_eq (tgt := 177) hx hb dX12_areKin_171 (by decide) (fun c41 => ?_) (fun c41 => ?_)
        · have c41 := (b_eq (nI_toInt (n := rb w35) (by omega)) (nI_toInt (n := rb w12) (by omega))).mp c41
          refine lv_iconst (v := 0) hx hb dX12_areKin_177 (by decide) ?_
          refine lv_istore (lv' := [(4, .int 0), (0, .ref (b 0)), (1, .int (nI wd)), (2, .int (nI we)), (3, .int (nI i_29))]) hx hb dX12_areKin_178 hl (by decide) rfl (fun ls hl => ?_)
          refine r_ind (I := fun n u_ H locs ls => va_P (dC, dI) vwCl (rW cs b u_) H ∧ va_S (AR b s.heap.size) s.heap H locs ∧ FR [3, 4, 5, 6, 7, 8, 9, 10, 11, 12, 13, 14, 17, 18, 19, 20] [5, 21, 22] false u u_ ∧ ∃ (k_42 : Nat), n = od a (rb w35) - k_42 ∧ (k_42 ≤ od a (rb w35)) ∧ (rA u_ 7 = w8) ∧ (rA u_ 8 = w12) ∧ (rA u_ 9 = w35) ∧ lv_has ls 5 [(0, .ref (b 0)), (1, .int (nI wd)), (2, .int (nI we)), (3, .int (nI i_29)), (4, .int (nI k_42))]) (fun n u42 H locs ls hI ih42 => ?_) _ u34 _ _ _ ⟨hP, hS, hfr, 0, rfl, (by first | assumption | omega | rfl | (congr 1; omega)), hA37, hA38, hA35, lv_sub hl [1, 2, 3, 4, 0] rfl⟩
          obtain ⟨hP, hS, hfr, k_42, hmu42, hL42_0, hL42_1, hL42_2, hL42_3, hl⟩ := hI
          have hA43 := (hfr.1 1 (by decide)).trans hA1
          subst hmu42
          refine lv_iload hx hb dX12_areKin_180 (lv_at hl 4 rfl) ?_
          refine lv_aload_n hx hb dX12_areKin_182 rfl (lv_at hl 0 rfl) ?_
          refine lv_aload_n hx hb dX12_areKin_183 rfl (lv_at hl 0 rfl) ?_
          refine r_get (v := .ref (b 2)) hx hb (ly_X12 hE) hown hK hP rfl 4 (by decide) (wd_1385 hE) (fun _ h9 => h9) rfl dX12_areKin_184 ?_
          refine lv_bipush (v := 6) hx hb dX12_areKin_187 (by decide) ?_
          refine r_aald (j := 2) (k := 6) (n := 10) (t0 := 4) (j2 := 9) hx hb hK hP (by decide) rfl rfl (by decide) (by decide) rfl dX12_areKin_189 ?_
          refine lv_iconst (v := 0) hx hb dX12_areKin_190 (by decide) ?_
          refine r_iald (j := 9) (k := 0) (n := 200) (x := nI (rb w35)) hx hb hK hP (by decide) rfl (by decide) (by decide) (by rw [hL42_3]; exact pg_b h34_0) dX12_areKin_191 ?_
          refine vp_callSi (va_Run.run (va_runV (As := [.int (nI (rb w35))]) (rest := [.int (nI k_42)]) ⟨hx, hb, hml, hown, noTs⟩ (r_X12_orderAt l dC dI H.size cs b u42 a hA43 (rb w35) (by first | assumption | omega | rfl | (congr 1; omega)) (by first | assumption | omega | rfl | (congr 1; omega))) ⟨cbE 1 (wd_1564 hE) (wd_126 hE) (wd_1561 hE) rfl rfl (by decide +kernel) ⟨Nat.le_of_ble_eq_true rfl, Nat.le_of_ble_eq_true rfl⟩, (wd_1563 hE), (wd_68 hE)⟩ ⟨PR.blind, r_recv hK hP rfl, (r_pre (av := [.ref (b 0), .int (nI (rb w35))]) hK hP hJ hE)⟩ rfl rfl hl.1 rfl (lv_room (Nat.le_of_ble_eq_true rfl)) dX12_areKin_192 ⟨Nat.le_of_ble_eq_true rfl, Nat.le_of_ble_eq_true rfl⟩)) (fun r45 hr45 => ?_)
          have hau45 := (gg_od (a := a) (v := (rb w35)) (by assumption) (by first | assumption | omega)).2
          subst hr45
          refine lv_icmp_ge (tgt := 357) hx hb dX12_areKin_195 (by decide) (fun c46 => ?_) (fun c46 => ?_)
          · have c46 := (b_le (nI_toInt (n := od a (rb w35)) (by omega)) (nI_toInt (n := k_42) (by omega))).mp c46
            refine lv_iinc (v := nI (i_29 + 1)) (lv' := [(3, .int (nI (i_29 + 1))), (0, .ref (b 0)), (1, .int (nI wd)), (2, .int (nI we)), (4, .int (nI k_42))]) hx hb dX12_areKin_357 hl (k := 3) rfl (nI_1 i_29) (by decide) rfl (fun ls hl => ?_)
            refine lv_goto (tgt := 124) hx hb dX12_areKin_360 (by decide) ?_
            exact ih29 _ u42 _ _ _ (by omega) ⟨hP, hS, hfr, (i_29 + 1), rfl, (by first | assumption | omega | rfl | (congr 1; omega)), hL42_1, hL42_2, lv_sub hl [1, 2, 3, 0] rfl⟩
          · have c46 := mt (b_le (nI_toInt (n := od a (rb w35)) (by omega)) (nI_toInt (n := k_42) (by omega))).mpr c46
            refine lv_aload_n hx hb dX12_areKin_198 rfl (lv_at hl 0 rfl) ?_
            refine r_get (v := .ref (b 2)) hx hb (ly_X12 hE) hown hK hP rfl 4 (by decide) (wd_1385 hE) (fun _ h9 => h9) rfl dX12_areKin_199 ?_
            refine lv_bipush (v := 6) hx hb dX12_areKin_202 (by decide) ?_
            refine r_aald (j := 2) (k := 6) (n := 10) (t0 := 4) (j2 := 9) hx hb hK hP (by decide) rfl rfl (by decide) (by decide) rfl dX12_areKin_204 ?_
            refine lv_aload_n hx hb dX12_areKin_205 rfl (lv_at hl 0 rfl) ?_
            refine r_get (v := .ref (b 2)) hx hb (ly_X12 hE) hown hK hP rfl 4 (by decide) (wd_1385 hE) (fun _ h9 => h9) rfl dX12_areKin_206 ?_
            refine lv_bipush (v := 7) hx hb dX12_areKin_209 (by decide) ?_
            refine r_aald (j := 2) (k := 7) (n := 10) (t0 := 4) (j2 := 10) hx hb hK hP (by decide) rfl rfl (by decide) (by decide) rfl dX12_areKin_211 ?_
            obtain ⟨g47, hg47⟩ : ∃ g, rA u42 10 = g := ⟨_, rfl⟩
            refine rc_v hAL hS hA (va_runS (As := [.ref (b 9), .ref (b 10)]) (rest := []) ⟨hx, hb, hml, hown, noTs⟩ (r_X12_lays l dC dI H.size cs b u42 a hA43 9 (by decide) w35 hL42_3 10 (by decide) g47 hg47 (by first | assumption | omega | rfl | (congr 1; omega)) (by first | assumption | omega | rfl | (congr 1; omega)) (by first | assumption | omega | rfl | (congr 1; omega))) ⟨cbE 2 (wd_1706 hE) (wd_126 hE) (wd_1704 hE) rfl rfl (by decide +kernel) ⟨Nat.le_of_ble_eq_true rfl, Nat.le_of_ble_eq_true rfl⟩, (wd_1705 hE)⟩ ⟨PR.blind, (r_pre (av := [.ref (b 9), .ref (b 10)]) hK hP hJ hE)⟩ rfl rfl hl.1 rfl (lv_room (Nat.le_of_ble_eq_true rfl)) dX12_areKin_212 ⟨Nat.le_of_ble_eq_true rfl, Nat.le_of_ble_eq_true rfl⟩) (fun u48 H locs hpo48 hP hS => ?_)
            obtain ⟨h48_0, h48_1, h48_2, h48_3, h48_4, h48_5, hq48⟩ := hpo48
            obtain ⟨w49, hA49⟩ : ∃ g, rA u48 10 = g := ⟨_, rfl⟩
            rw [hA49] at h48_0 h48_1 h48_2 h48_3 h48_4 h48_5
            have hA50 := (hq48.1 1 (by decide)).trans hA43
            have hA51 := (hq48.1 7 (by decide)).trans hL42_1
            have hA52 := (hq48.1 8 (by decide)).trans hL42_2
            have hA53 := (hq48.1 9 (by decide)).trans hL42_3
            have hfr := FR.step hfr hq48 (by decide) (fun _ h => absurd h List.not_mem_nil) (fun h => rfl)
            have hl48_0 := pg_le h48_0
            have PK := h48_0
            refine lv_aload_n hx hb dX12_areKin_215 rfl (lv_at hl 0 rfl) ?_
            refine r_get (v := .ref (b 2)) hx hb (ly_X12 hE) hown hK hP rfl 4 (by decide) (wd_1385 hE) (fun _ h9 => h9) rfl dX12_areKin_216 ?_
            refine lv_bipush (v := 7) hx hb dX12_areKin_219 (by decide) ?_
            refine r_aald (j := 2) (k := 7) (n := 10) (t0 := 4) (j2 := 10) hx hb hK hP (by decide) rfl rfl (by decide) (by decide) rfl dX12_areKin_221 ?_
            refine lv_iconst (v := 2) hx hb dX12_areKin_222 (by decide) ?_
            refine lv_aload_n hx hb dX12_areKin_223 rfl (lv_at hl 0 rfl) ?_
            refine lv_aload_n hx hb dX12_areKin_224 rfl (lv_at hl 0 rfl) ?_
            refine r_get (v := .ref (b 2)) hx hb (ly_X12 hE) hown hK hP rfl 4 (by decide) (wd_1385 hE) (fun _ h9 => h9) rfl dX12_areKin_225 ?_
            refine lv_bipush (v := 6) hx hb dX12_areKin_228 (by decide) ?_
            refine r_aald (j := 2) (k := 6) (n := 10) (t0 := 4) (j2 := 9) hx hb hK hP (by decide) rfl rfl (by decide) (by decide) rfl dX12_areKin_230 ?_
            refine lv_iconst (v := 0) hx hb dX12_areKin_231 (by decide) ?_
            refine r_iald (j := 9) (k := 0) (n := 200) (x := nI (rb w35)) hx hb hK hP (by decide) rfl (by decide) (by decide) (by rw [hA53]; exact pg_b h34_0) dX12_areKin_232 ?_
            refine lv_aload_n hx hb dX12_areKin_233 rfl (lv_at hl 0 rfl) ?_
            refine r_get (v := .ref (b 2)) hx hb (ly_X12 hE) hown hK hP rfl 4 (by decide) (wd_1385 hE) (fun _ h9 => h9) rfl dX12_areKin_234 ?_
            refine lv_bipush (v := 6) hx hb dX12_areKin_237 (by decide) ?_
            refine r_aald (j := 2) (k := 6) (n := 10) (t0 := 4) (j2 := 9) hx hb hK hP (by decide) rfl rfl (by decide) (by decide) rfl dX12_areKin_239 ?_
            refine lv_iconst (v := 0) hx hb dX12_areKin_240 (by decide) ?_
            refine vp_callSi (va_Run.run (va_runS (As := [.ref (b 9), .int (nI 0)]) (rest := [.int (nI (rb w35)), .ref (b 0), .int 2, .ref (b 10)]) ⟨hx, hb, hml, hown, noTs⟩ (r_X12_number l dC dI H.size cs b u48 a hA50 9 (by decide) w35 hA53 0 (by first | assumption | omega | rfl | (congr 1; omega))) ⟨cbE 2 (wd_1664 hE) (wd_126 hE) (wd_1662 hE) rfl rfl (by decide +kernel) ⟨Nat.le_of_ble_eq_true rfl, Nat.le_of_ble_eq_true rfl⟩, (wd_1663 hE)⟩ ⟨PR.blind, (r_pre (av := [.ref (b 9), .int (nI 0)]) hK hP hJ hE)⟩ rfl rfl hl.1 rfl (lv_room (Nat.le_of_ble_eq_true rfl)) dX12_areKin_241 ⟨Nat.le_of_ble_eq_true rfl, Nat.le_of_ble_eq_true rfl⟩)) (fun r55 hr55 => ?_)
            refine lv_iload hx hb dX12_areKin_244 (lv_at hl 4 rfl) ?_
            refine lv_isub hx hb dX12_areKin_246 ?_
            refine lv_topi (fun x56 ex56 => ?_)
            refine vp_callSi (va_Run.run (va_runV (As := [.int (nI (rb w35)), .int x56]) (rest := [.int 2, .ref (b 10)]) ⟨hx, hb, hml, hown, noTs⟩ (r_X12_round l dC dI H.size cs b u48 a hA50 (rb w35) x56 (by first | assumption | omega | rfl | (congr 1; omega)) (by first | assumption | omega | rfl | (congr 1; omega))) ⟨cbE 2 (wd_1576 hE) (wd_126 hE) (wd_1573 hE) rfl rfl (by decide +kernel) ⟨Nat.le_of_ble_eq_true rfl, Nat.le_of_ble_eq_true rfl⟩, (wd_1575 hE), (wd_71 hE)⟩ ⟨PR.blind, r_recv hK hP rfl, (r_pre (av := [.ref (b 0), .int (nI (rb w35)), .int x56]) hK hP hJ hE)⟩ rfl rfl hl.1 rfl (lv_room (Nat.le_of_ble_eq_true rfl)) dX12_areKin_247 ⟨Nat.le_of_ble_eq_true rfl, Nat.le_of_ble_eq_true rfl⟩)) (fun r57 hr57 => ?_)
            have hau57 := (gg_od (a := a) (v := (rb w35)) (by assumption) (by first | assumption | omega)).2
            obtain ⟨n57, rfl, hn57_0⟩ := hr57
            refine r_iast (j := 10) (k := 2) (n := 200) (x := nI n57) hx hb hK hP hJ hAL hS (by decide) (fun _ => rfl) hA49 (by decide) (by decide) dX12_areKin_250 (fun u58 H locs hs58 hq58 hP hS => ?_)
            obtain ⟨w58, hw58⟩ : ∃ g, g = upd w49 2 (nI n57) := ⟨_, rfl⟩
            rw [← hw58] at hs58
            have hA59 := (hq58.1 1 (by decide)).trans hA50
            have hA60 := (hq58.1 7 (by decide)).trans hA51
            have hA61 := (hq58.1 8 (by decide)).trans hA52
            have hA62 := (hq58.1 9 (by decide)).trans hA53
            have hfr := FR.step hfr hq58 (by decide) (fun _ h => absurd h List.not_mem_nil) (fun h => rfl)
            obtain ⟨p1, p2, p3, p4, p5⟩ := pg_put (n := 0) hw58 PK
            refine lv_aload_n hx hb dX12_areKin_251 rfl (lv_at hl 0 rfl) ?_
            refine r_get (v := .ref (b 2)) hx hb (ly_X12 hE) hown hK hP rfl 4 (by decide) (wd_1385 hE) (fun _ h9 => h9) rfl dX12_areKin_252 ?_
            refine lv_bipush (v := 7) hx hb dX12_areKin_255 (by decide) ?_
            refine r_aald (j := 2) (k := 7) (n := 10) (t0 := 4) (j2 := 10) hx hb hK hP (by decide) rfl rfl (by decide) (by decide) rfl dX12_areKin_257 ?_
            refine lv_iconst (v := 2) hx hb dX12_areKin_258 (by decide) ?_
            refine lv_iconst (v := 2) hx hb dX12_areKin_259 (by decide) ?_
            refine lv_aload_n hx hb dX12_areKin_260 rfl (lv_at hl 0 rfl) ?_
            refine r_get (v := .ref (b 2)) hx hb (ly_X12 hE) hown hK hP rfl 4 (by decide) (wd_1385 hE) (fun _ h9 => h9) rfl dX12_areKin_261 ?_
            refine lv_bipush (v := 6) hx hb dX12_areKin_264 (by decide) ?_
            refine r_aald (j := 2) (k := 6) (n := 10) (t0 := 4) (j2 := 9) hx hb hK hP (by decide) rfl rfl (by decide) (by decide) rfl dX12_areKin_266 ?_
            refine lv_iconst (v := 1) hx hb dX12_areKin_267 (by decide) ?_
            refine r_iald (j := 9) (k := 1) (n := 200) (x := nI (rn w35)) hx hb hK hP (by decide) rfl (by decide) (by decide) (by rw [hA62]; exact pg_n h34_0) dX12_areKin_268 ?_
            refine lv_imul hx hb dX12_areKin_269 ?_
            refine W.eq (g2 := F0 m 270 ls [.int (nI (2 * (rn w35))), .int 2, .ref (b 10)]) (congrArg (fun z : Int32 => F0 m 270 ls (.int z :: [.int 2, .ref (b 10)])) (pk_mul 2 (rn w35))) ?_
            refine lv_iadd hx hb dX12_areKin_270 ?_
            refine W.eq (g2 := F0 m 271 ls [.int (nI (2 + (2 * (rn w35)))), .ref (b 10)]) (congrArg (fun z : Int32 => F0 m 271 ls (.int z :: [.ref (b 10)])) (nI_add 2 (2 * (rn w35)))) ?_
            refine lv_aload_n hx hb dX12_areKin_271 rfl (lv_at hl 0 rfl) ?_
            refine lv_aload_n hx hb dX12_areKin_272 rfl (lv_at hl 0 rfl) ?_
            refine r_get (v := .ref (b 2)) hx hb (ly_X12 hE) hown hK hP rfl 4 (by decide) (wd_1385 hE) (fun _ h9 => h9) rfl dX12_areKin_273 ?_
            refine lv_bipush (v := 6) hx hb dX12_areKin_276 (by decide) ?_
            refine r_aald (j := 2) (k := 6) (n := 10) (t0 := 4) (j2 := 9) hx hb hK hP (by decide) rfl rfl (by decide) (by decide) rfl dX12_areKin_278 ?_
            refine lv_iconst (v := 0) hx hb dX12_areKin_279 (by decide) ?_
            refine r_iald (j := 9) (k := 0) (n := 200) (x := nI (rb w35)) hx hb hK hP (by decide) rfl (by decide) (by decide) (by rw [hA62]; exact pg_b h34_0) dX12_areKin_280 ?_
            refine lv_aload_n hx hb dX12_areKin_281 rfl (lv_at hl 0 rfl) ?_
            refine r_get (v := .ref (b 2)) hx hb (ly_X12 hE) hown hK hP rfl 4 (by decide) (wd_1385 hE) (fun _ h9 => h9) rfl dX12_areKin_282 ?_
            refine lv_bipush (v := 6) hx hb dX12_areKin_285 (by decide) ?_
            refine r_aald (j := 2) (k := 6) (n := 10) (t0 := 4) (j2 := 9) hx hb hK hP (by decide) rfl rfl (by decide) (by decide) rfl dX12_areKin_287 ?_
            refine vp_callSi (va_Run.run (va_runS (As := [.ref (b 9)]) (rest := [.int (nI (rb w35)), .ref (b 0), .int (nI (2 + (2 * (rn w35)))), .ref (b 10)]) ⟨hx, hb, hml, hown, noTs⟩ (r_X12_last l dC dI H.size cs b u58 a hA59 9 (by decide) w35 hA62 (by first | assumption | omega | rfl | (congr 1; omega))) ⟨cbE 1 (wd_1709 hE) (wd_126 hE) (wd_1707 hE) rfl rfl (by decide +kernel) ⟨Nat.le_of_ble_eq_true rfl, Nat.le_of_ble_eq_true rfl⟩, (wd_1708 hE)⟩ ⟨PR.blind, (r_pre (av := [.ref (b 9)]) hK hP hJ hE)⟩ rfl rfl hl.1 rfl (lv_room (Nat.le_of_ble_eq_true rfl)) dX12_areKin_288 ⟨Nat.le_of_ble_eq_true rfl, Nat.le_of_ble_eq_true rfl⟩)) (fun r65 hr65 => ?_)
            refine lv_iload hx hb dX12_areKin_291 (lv_at hl 4 rfl) ?_
            refine lv_iadd hx hb dX12_areKin_293 ?_
            refine lv_topi (fun x66 ex66 => ?_)
            refine vp_callSi (va_Run.run (va_runV (As := [.int (nI (rb w35)), .int x66]) (rest := [.int (nI (2 + (2 * (rn w35)))), .ref (b 10)]) ⟨hx, hb, hml, hown, noTs⟩ (r_X12_round l dC dI H.size cs b u58 a hA59 (rb w35) x66 (by first | assumption | omega | rfl | (congr 1; omega)) (by first | assumption | omega | rfl | (congr 1; omega))) ⟨cbE 2 (wd_1576 hE) (wd_126 hE) (wd_1573 hE) rfl rfl (by decide +kernel) ⟨Nat.le_of_ble_eq_true rfl, Nat.le_of_ble_eq_true rfl⟩, (wd_1575 hE), (wd_71 hE)⟩ ⟨PR.blind, r_recv hK hP rfl, (r_pre (av := [.ref (b 0), .int (nI (rb w35)), .int x66]) hK hP hJ hE)⟩ rfl rfl hl.1 rfl (lv_room (Nat.le_of_ble_eq_true rfl)) dX12_areKin_294 ⟨Nat.le_of_ble_eq_true rfl, Nat.le_of_ble_eq_true rfl⟩)) (fun r67 hr67 => ?_)
            have hau67 := (gg_od (a := a) (v := (rb w35)) (by assumption) (by first | assumption | omega)).2
            obtain ⟨n67, rfl, hn67_0⟩ := hr67
            refine r_iast (j := 10) (k := 2 + (2 * (rn w35))) (n := 200) (x := nI n67) hx hb hK hP hJ hAL hS (by decide) (fun _ => rfl) hs58 (by omega) (by decide) dX12_areKin_297 (fun u68 H locs hs68 hq68 hP hS => ?_)
            obtain ⟨w68, hw68⟩ : ∃ g, g = upd w58 (2 + (2 * (rn w35))) (nI n67) := ⟨_, rfl⟩
            rw [← hw68] at hs68
            have hA69 := (hq68.1 1 (by decide)).trans hA59
            have hA70 := (hq68.1 7 (by decide)).trans hA60
            have hA71 := (hq68.1 8 (by decide)).trans hA61
            have hA72 := (hq68.1 9 (by decide)).trans hA62
            have hfr := FR.step hfr hq68 (by decide) (fun _ h => absurd h List.not_mem_nil) (fun h => rfl)
            obtain ⟨o1, o2, o3, o4, o5⟩ := pg_put hw68 p1
            have hbo := gg_od hG (pg_le PH).1
            have q8 : LG a w68 := lg_mk (n := rn w35) (by omega) (v := rb w35) (by omega) (by rw [hw68]; exact pk_us) (by omega) (by omega)
            refine lv_aload_n hx hb dX12_areKin_298 rfl (lv_at hl 0 rfl) ?_
            refine lv_aload_n hx hb dX12_areKin_299 rfl (lv_at hl 0 rfl) ?_
            refine r_get (v := .ref (b 2)) hx hb (ly_X12 hE) hown hK hP rfl 4 (by decide) (wd_1385 hE) (fun _ h9 => h9) rfl dX12_areKin_300 ?_
            refine lv_bipush (v := 7) hx hb dX12_areKin_303 (by decide) ?_
            refine r_aald (j := 2) (k := 7) (n := 10) (t0 := 4) (j2 := 10) hx hb hK hP (by decide) rfl rfl (by decide) (by decide) rfl dX12_areKin_305 ?_
            refine lv_aload_n hx hb dX12_areKin_306 rfl (lv_at hl 0 rfl) ?_
            refine r_get (v := .ref (b 2)) hx hb (ly_X12 hE) hown hK hP rfl 4 (by decide) (wd_1385 hE) (fun _ h9 => h9) rfl dX12_areKin_307 ?_
            refine lv_bipush (v := 8) hx hb dX12_areKin_310 (by decide) ?_
            refine r_aald (j := 2) (k := 8) (n := 10) (t0 := 4) (j2 := 11) hx hb hK hP (by decide) rfl rfl (by decide) (by decide) rfl dX12_areKin_312 ?_
            obtain ⟨g73, hg73⟩ : ∃ g, rA u68 11 = g := ⟨_, rfl⟩
            refine rc_v hAL hS hA (va_runV (As := [.ref (b 10), .ref (b 11)]) (rest := []) ⟨hx, hb, hml, hown, noTs⟩ (r_X12_forms l dC dI H.size cs b u68 a hA69 10 (by decide) w68 hs68 11 (by decide) g73 hg73 (by first | assumption | omega | rfl | (congr 1; omega)) (by first | assumption | omega | rfl | (congr 1; omega)) (by first | assumption | omega | rfl | (congr 1; omega)) (by first | assumption | omega | rfl | (congr 1; omega))) ⟨cbE 2 (wd_1661 hE) (wd_126 hE) (wd_1658 hE) rfl rfl (by decide +kernel) ⟨Nat.le_of_ble_eq_true rfl, Nat.le_of_ble_eq_true rfl⟩, (wd_1660 hE), (wd_85 hE)⟩ ⟨PR.blind, r_recv hK hP rfl, (r_pre (av := [.ref (b 0), .ref (b 10), .ref (b 11)]) hK hP hJ hE)⟩ rfl rfl hl.1 rfl (lv_room (Nat.le_of_ble_eq_true rfl)) dX12_areKin_313 ⟨Nat.le_of_ble_eq_true rfl, Nat.le_of_ble_eq_true rfl⟩) (fun u74 H locs hpo74 hP hS => ?_)
            obtain ⟨h74_0, h74_1, h74_2, h74_3, h74_4, hq74⟩ := hpo74
            obtain ⟨w75, hA75⟩ : ∃ g, rA u74 11 = g := ⟨_, rfl⟩
            rw [hA75] at h74_0 h74_1 h74_2 h74_3 h74_4
            have hA76 := (hq74.1 1 (by decide)).trans hA69
            have hA77 := (hq74.1 7 (by decide)).trans hA70
            have hA78 := (hq74.1 8 (by decide)).trans hA71
            have hA79 := (hq74.1 9 (by decide)).trans hA72
            have hA80 := (hq74.1 10 (by decide)).trans hs68
            have hfr := FR.step hfr hq74 (by decide) (by decide) (fun h => rfl)
            have hl74_0 := pg_le h74_0
            refine lv_aload_n hx hb dX12_areKin_316 rfl (lv_at hl 0 rfl) ?_
            refine r_get (v := .ref (b 2)) hx hb (ly_X12 hE) hown hK hP rfl 4 (by decide) (wd_1385 hE) (fun _ h9 => h9) rfl dX12_areKin_317 ?_
            refine lv_bipush (v := 8) hx hb dX12_areKin_320 (by decide) ?_
            refine r_aald (j := 2) (k := 8) (n := 10) (t0 := 4) (j2 := 11) hx hb hK hP (by decide) rfl rfl (by decide) (by decide) rfl dX12_areKin_322 ?_
            refine lv_aload_n hx hb dX12_areKin_323 rfl (lv_at hl 0 rfl) ?_
            refine r_get (v := .ref (b 2)) hx hb (ly_X12 hE) hown hK hP rfl 4 (by decide) (wd_1385 hE) (fun _ h9 => h9) rfl dX12_areKin_324 ?_
            refine lv_iconst (v := 5) hx hb dX12_areKin_327 (by decide) ?_
            refine r_aald (j := 2) (k := 5) (n := 10) (t0 := 4) (j2 := 8) hx hb hK hP (by decide) rfl rfl (by decide) (by decide) rfl dX12_areKin_328 ?_
            refine vp_callSi (va_Run.run (va_runS (As := [.ref (b 11), .ref (b 8)]) (rest := []) ⟨hx, hb, hml, hown, noTs⟩ (r_X12_isLike l dC dI H.size cs b u74 a hA76 11 (by decide) w75 hA75 8 (by decide) w12 hA78 (by first | assumption | omega | rfl | (congr 1; omega)) (by first | assumption | omega | rfl | (congr 1; omega))) ⟨cbE 2 (wd_1675 hE) (wd_126 hE) (wd_1673 hE) rfl rfl (by decide +kernel) ⟨Nat.le_of_ble_eq_true rfl, Nat.le_of_ble_eq_true rfl⟩, (wd_1674 hE)⟩ ⟨PR.blind, (r_pre (av := [.ref (b 11), .ref (b 8)]) hK hP hJ hE)⟩ rfl rfl hl.1 rfl (lv_room (Nat.le_of_ble_eq_true rfl)) dX12_areKin_329 ⟨Nat.le_of_ble_eq_true rfl, Nat.le_of_ble_eq_true rfl⟩)) (fun r81 hr81 => ?_)
            rcases hr81 with ⟨rfl, hb81⟩ | ⟨rfl, hb81⟩
            · refine lv_if_ne (tgt := 338) hx hb dX12_areKin_332 (by decide) (fun c82 => ?_) (fun c82 => absurd c82 (by decide))
              refine lv_aload_n hx hb dX12_areKin_338 rfl (lv_at hl 0 rfl) ?_
              refine lv_iload_n hx hb dX12_areKin_339 rfl (lv_at hl 3 rfl) ?_
              refine r_put (v := nI i_29) hx hb (ly_X12 hE) tyX12 tyX12_ok nmX12 hown hK hP hJ hAL hS rfl 21 (by decide) (wd_1402 hE) (fun _ h9 => h9) rfl (by decide +kernel) rfl (by decide) dX12_areKin_340 (fun u83 H locs hf83 hq83 hP hS => ?_)
              have hA84 := (hq83.1 1 List.not_mem_nil).trans hA76
              have hA85 := (hq83.1 7 List.not_mem_nil).trans hA77
              have hA86 := (hq83.1 8 List.not_mem_nil).trans hA78
              have hA87 := (hq83.1 9 List.not_mem_nil).trans hA79
              have hA88 := (hq83.1 10 List.not_mem_nil).trans hA80
              have hA89 := (hq83.1 11 List.not_mem_nil).trans hA75
              have hfr := FR.step hfr hq83 (fun _ h => absurd h List.not_mem_nil) (by decide) (fun h => rfl)
              refine lv_aload_n hx hb dX12_areKin_343 rfl (lv_at hl 0 rfl) ?_
              refine lv_iload hx hb dX12_areKin_344 (lv_at hl 4 rfl) ?_
              refine r_put (v := nI k_42) hx hb (ly_X12 hE) tyX12 tyX12_ok nmX12 hown hK hP hJ hAL hS rfl 22 (by decide) (wd_1403 hE) (fun _ h9 => h9) rfl (by decide +kernel) rfl (by decide) dX12_areKin_346 (fun u90 H locs hf90 hq90 hP hS => ?_)
              have hA91 := (hq90.1 1 List.not_mem_nil).trans hA84
              have hA92 := (hq90.1 7 List.not_mem_nil).trans hA85
              have hA93 := (hq90.1 8 List.not_mem_nil).trans hA86
              have hA94 := (hq90.1 9 List.not_mem_nil).trans hA87
              have hA95 := (hq90.1 10 List.not_mem_nil).trans hA88
              have hA96 := (hq90.1 11 List.not_mem_nil).trans hA89
              have hF97x := (hq90.2.1 21 (by decide)).trans hf83
              have hfr := FR.step hfr hq90 (fun _ h => absurd h List.not_mem_nil) (by decide) (fun h => rfl)
              refine lv_iconst (v := 1) hx hb dX12_areKin_349 (by decide) ?_
              exact W.zret (v := 1) hx hb hr rfl (fun t ht hW => ⟨⟨1, u90, rfl, ⟨Or.inl ⟨rfl, by trivial⟩, hfr⟩, (show va_P (dC, dI) vwCl (rW cs b u90) t.heap by rw [ht]; exact hP)⟩, hS.F ht⟩) hS.2.2 dX12_areKin_350
            · refine lv_if_ne (tgt := 338) hx hb dX12_areKin_332 (by decide) (fun c98 => absurd c98 (by decide)) (fun c98 => ?_)
              refine lv_goto (tgt := 351) hx hb dX12_areKin_335 (by decide) ?_
              refine lv_iinc (v := nI (k_42 + 1)) (lv' := [(4, .int (nI (k_42 + 1))), (0, .ref (b 0)), (1, .int (nI wd)), (2, .int (nI we)), (3, .int (nI i_29))]) hx hb dX12_areKin_351 hl (k := 4) rfl (nI_1 k_42) (by decide) rfl (fun ls hl => ?_)
              refine lv_goto (tgt := 180) hx hb dX12_areKin_354 (by decide) ?_
              exact ih42 _ u74 _ _ _ (by omega) ⟨hP, hS, hfr, (k_42 + 1), rfl, (by first | assumption | omega | rfl | (congr 1; omega)), hA77, hA78, hA79, lv_sub hl [1, 2, 3, 4, 0] rfl⟩
        · have c41 := mt (b_eq (nI_toInt (n := rb w35) (by omega)) (nI_toInt (n := rb w12) (by omega))).mpr c41
          refine lv_goto (tgt := 357) hx hb dX12_areKin_174 (by decide) ?_
          refine lv_iinc (v := nI (i_29 + 1)) (lv' := [(3, .int (nI (i_29 + 1))), (0, .ref (b 0)), (1, .int (nI wd)), (2, .int (nI we))]) hx hb dX12_areKin_357 hl (k := 3) rfl (nI_1 i_29) (by decide) rfl (fun ls hl => ?_)
          refine lv_goto (tgt := 124) hx hb dX12_areKin_360 (by decide) ?_
          exact ih29 _ u34 _ _ _ (by omega) ⟨hP, hS, hfr, (i_29 + 1), rfl, (by first | assumption | omega | rfl | (congr 1; omega)), hA37, hA38, lv_sub hl [1, 2, 3, 0] rfl⟩
    · have c28 := (b_eq (nI_toInt (n := rn w8) (by omega)) (show Int32.toInt 0 = 0 from rfl)).mp c28
      refine lv_aload_n hx hb dX12_areKin_64 rfl (lv_at hl 0 rfl) ?_
      refine lv_aload_n hx hb dX12_areKin_65 rfl (lv_at hl 0 rfl) ?_
      refine lv_aload_n hx hb dX12_areKin_66 rfl (lv_at hl 0 rfl) ?_
      refine r_get (v := .ref (b 2)) hx hb (ly_X12 hE) hown hK hP rfl 4 (by decide) (wd_1385 hE) (fun _ h9 => h9) rfl dX12_areKin_67 ?_
      refine lv_iconst (v := 4) hx hb dX12_areKin_70 (by decide) ?_
      refine r_aald (j := 2) (k := 4) (n := 10) (t0 := 4) (j2 := 7) hx hb hK hP (by decide) rfl rfl (by decide) (by decide) rfl dX12_areKin_71 ?_
      refine lv_iconst (v := 0) hx hb dX12_areKin_72 (by decide) ?_
      refine r_iald (j := 7) (k := 0) (n := 200) (x := nI (rb w8)) hx hb hK hP (by decide) rfl (by decide) (by decide) (by rw [hA21]; exact pg_b h7_0) dX12_areKin_73 ?_
      refine lv_aload_n hx hb dX12_areKin_74 rfl (lv_at hl 0 rfl) ?_
      refine r_get (v := .ref (b 2)) hx hb (ly_X12 hE) hown hK hP rfl 4 (by decide) (wd_1385 hE) (fun _ h9 => h9) rfl dX12_areKin_75 ?_
      refine lv_iconst (v := 4) hx hb dX12_areKin_78 (by decide) ?_
      refine r_aald (j := 2) (k := 4) (n := 10) (t0 := 4) (j2 := 7) hx hb hK hP (by decide) rfl rfl (by decide) (by decide) rfl dX12_areKin_79 ?_
      refine lv_iconst (v := 0) hx hb dX12_areKin_80 (by decide) ?_
      refine vp_callSi (va_Run.run (va_runS (As := [.ref (b 7), .int (nI 0)]) (rest := [.int (nI (rb w8)), .ref (b 0), .ref (b 0)]) ⟨hx, hb, hml, hown, noTs⟩ (r_X12_number l dC dI H.size cs b u19 a hA20 7 (by decide) w8 hA21 0 (by first | assumption | omega | rfl | (congr 1; omega))) ⟨cbE 2 (wd_1664 hE) (wd_126 hE) (wd_1662 hE) rfl rfl (by decide +kernel) ⟨Nat.le_of_ble_eq_true rfl, Nat.le_of_ble_eq_true rfl⟩, (wd_1663 hE)⟩ ⟨PR.blind, (r_pre (av := [.ref (b 7), .int (nI 0)]) hK hP hJ hE)⟩ rfl rfl hl.1 rfl (lv_room (Nat.le_of_ble_eq_true rfl)) dX12_areKin_81 ⟨Nat.le_of_ble_eq_true rfl, Nat.le_of_ble_eq_true rfl⟩)) (fun r100 hr100 => ?_)
      have hln := lg_num LF7 (by omega)
      rw [← (show r100 = w8 2 from hr100)] at hln
      obtain ⟨nx101, hi101, hj101⟩ := z_ex (x := r100) (n := od a (rb w8)) (by omega) (by omega)
      subst hi101
      have hti102 := nI_toInt (n := nx101) (by omega)
      refine lv_aload_n hx hb dX12_areKin_84 rfl (lv_at hl 0 rfl) ?_
      refine r_get (v := .ref (b 2)) hx hb (ly_X12 hE) hown hK hP rfl 4 (by decide) (wd_1385 hE) (fun _ h9 => h9) rfl dX12_areKin_85 ?_
      refine lv_iconst (v := 5) hx hb dX12_areKin_88 (by decide) ?_
      refine r_aald (j := 2) (k := 5) (n := 10) (t0 := 4) (j2 := 8) hx hb hK hP (by decide) rfl rfl (by decide) (by decide) rfl dX12_areKin_89 ?_
      refine lv_iconst (v := 0) hx hb dX12_areKin_90 (by decide) ?_
      refine r_iald (j := 8) (k := 0) (n := 200) (x := nI (rb w12)) hx hb hK hP (by decide) rfl (by decide) (by decide) (by rw [hA22]; exact pg_b h11_0) dX12_areKin_91 ?_
      refine lv_aload_n hx hb dX12_areKin_92 rfl (lv_at hl 0 rfl) ?_
      refine r_get (v := .ref (b 2)) hx hb (ly_X12 hE) hown hK hP rfl 4 (by decide) (wd_1385 hE) (fun _ h9 => h9) rfl dX12_areKin_93 ?_
      refine lv_iconst (v := 5) hx hb dX12_areKin_96 (by decide) ?_
      refine r_aald (j := 2) (k := 5) (n := 10) (t0 := 4) (j2 := 8) hx hb hK hP (by decide) rfl rfl (by decide) (by decide) rfl dX12_areKin_97 ?_
      refine lv_iconst (v := 0) hx hb dX12_areKin_98 (by decide) ?_
      refine vp_callSi (va_Run.run (va_runS (As := [.ref (b 8), .int (nI 0)]) (rest := [.int (nI (rb w12)), .int (nI nx101), .int (nI (rb w8)), .ref (b 0), .ref (b 0)]) ⟨hx, hb, hml, hown, noTs⟩ (r_X12_number l dC dI H.size cs b u19 a hA20 8 (by decide) w12 hA22 0 (by first | assumption | omega | rfl | (congr 1; omega))) ⟨cbE 2 (wd_1664 hE) (wd_126 hE) (wd_1662 hE) rfl rfl (by decide +kernel) ⟨Nat.le_of_ble_eq_true rfl, Nat.le_of_ble_eq_true rfl⟩, (wd_1663 hE)⟩ ⟨PR.blind, (r_pre (av := [.ref (b 8), .int (nI 0)]) hK hP hJ hE)⟩ rfl rfl hl.1 rfl (lv_room (Nat.le_of_ble_eq_true rfl)) dX12_areKin_99 ⟨Nat.le_of_ble_eq_true rfl, Nat.le_of_ble_eq_true rfl⟩)) (fun r104 hr104 => ?_)
      refine rc_i hAL hS hA (va_runV (As := [.int (nI (rb w8)), .int (nI nx101), .int (nI (rb w12)), .int r104]) (rest := [.ref (b 0)]) ⟨hx, hb, hml, hown, noTs⟩ (r_X12_along l dC dI H.size cs b u19 a hA20 (rb w8) nx101 (rb w12) r104 (by first | assumption | omega | rfl | (congr 1; omega)) (by first | assumption | omega | rfl | (congr 1; omega)) (by first | assumption | omega | rfl | (congr 1; omega)) (by first | assumption | omega | rfl | (congr 1; omega))) ⟨cbE 4 (wd_1808 hE) (wd_126 hE) (wd_1805 hE) rfl rfl (by decide +kernel) ⟨Nat.le_of_ble_eq_true rfl, Nat.le_of_ble_eq_true rfl⟩, (wd_1807 hE), (wd_99 hE)⟩ ⟨PR.blind, r_recv hK hP rfl, (r_pre (av := [.ref (b 0), .int (nI (rb w8)), .int (nI nx101), .int (nI (rb w12)), .int r104]) hK hP hJ hE)⟩ rfl rfl hl.1 rfl (lv_room (Nat.le_of_ble_eq_true rfl)) dX12_areKin_102 ⟨Nat.le_of_ble_eq_true rfl, Nat.le_of_ble_eq_true rfl⟩) (fun r105 u105 H locs hpo105 hP hS => ?_)
      obtain ⟨hr105, hq105⟩ := hpo105
      have hA106 := (hq105.1 1 (by decide)).trans hA20
      have hA107 := (hq105.1 7 (by decide)).trans hA21
      have hA108 := (hq105.1 8 (by decide)).trans hA22
      have hF109x := (hq105.2.1 21 List.not_mem_nil).trans hF23x
      have hF110x := (hq105.2.1 22 List.not_mem_nil).trans hf19
      have hfr := FR.step hfr hq105 (by decide) (fun _ h => absurd h List.not_mem_nil) (fun h => rfl)
      refine r_put (v := r105) hx hb (ly_X12 hE) tyX12 tyX12_ok nmX12 hown hK hP hJ hAL hS rfl 21 (by decide) (wd_1402 hE) (fun _ h9 => h9) rfl (by decide +kernel) rfl (by decide) dX12_areKin_105 (fun u111 H locs hf111 hq111 hP hS => ?_)
      have hA112 := (hq111.1 1 List.not_mem_nil).trans hA106
      have hA113 := (hq111.1 7 List.not_mem_nil).trans hA107
      have hA114 := (hq111.1 8 List.not_mem_nil).trans hA108
      have hF115x := (hq111.2.1 22 (by decide)).trans hF110x
      have hfr := FR.step hfr hq111 (fun _ h => absurd h List.not_mem_nil) (by decide) (fun h => rfl)
      refine lv_aload_n hx hb dX12_areKin_108 rfl (lv_at hl 0 rfl) ?_
      refine r_get (v := .int r105) hx hb (ly_X12 hE) hown hK hP rfl 21 (by decide) (wd_1402 hE) (fun _ h9 => h9) (congrArg (fun z : Int32 => some (Value.int z)) hf111) dX12_areKin_109 ?_
      refine lv_iconst (v := -1) hx hb dX12_areKin_112 (by decide) ?_
      refine lv_icmp_eq (tgt := 120) hx hb dX12_areKin_113 (by decide) (fun c116 => ?_) (fun c116 => ?_)
      · have c116 := (b_eq (rfl : Int32.toInt r105 = _) (show Int32.toInt (-1) = -1 from rfl)).mp c116
        refine lv_iconst (v := 0) hx hb dX12_areKin_120 (by decide) ?_
        exact W.zret (v := 0) hx hb hr rfl (fun t ht hW => ⟨⟨0, u111, rfl, ⟨Or.inr ⟨rfl, by trivial⟩, hfr⟩, (show va_P (dC, dI) vwCl (rW cs b u111) t.heap by rw [ht]; exact hP)⟩, hS.F ht⟩) hS.2.2 dX12_areKin_121
      · have c116 := mt (b_eq (rfl : Int32.toInt r105 = _) (show Int32.toInt (-1) = -1 from rfl)).mpr c116
        refine lv_iconst (v := 1) hx hb dX12_areKin_116 (by decide) ?_
        refine lv_goto (tgt := 121) hx hb dX12_areKin_117 (by decide) ?_
        exact W.zret (v := 1) hx hb hr rfl (fun t ht hW => ⟨⟨1, u111, rfl, ⟨Or.inl ⟨rfl, by trivial⟩, hfr⟩, (show va_P (dC, dI) vwCl (rW cs b u111) t.heap by rw [ht]; exact hP)⟩, hS.F ht⟩) hS.2.2 dX12_areKin_121
  · have c26 := mt (b_eq (nI_toInt (n := rn w8) (by omega)) (nI_toInt (n := rn w12) (by omega))).mpr c26
    refine lv_iconst (v := 0) hx hb dX12_areKin_51 (by decide) ?_
    exact W.zret (v := 0) hx hb hr rfl (fun t ht hW => ⟨⟨0, u19, rfl, ⟨Or.inr ⟨rfl, by trivial⟩, hfr⟩, (show va_P (dC, dI) vwCl (rW cs b u19) t.heap by rw [ht]; exact hP)⟩, hS.F ht⟩) hS.2.2 dX12_areKin_52

set_option maxHeartbeats 4000000 in
set_option maxRecDepth 100000 in
theorem r_X12_wrongLoops (l : Launch) (dC : Nat → ClassId) (dI : Nat → Nat → Nat) (sz : Nat) (cs : Nat → ClassId) (b : Nat → Nat) (u : RS) (a : Nat → Int32) (hA1 : rA u 1 = a) (x : Int32) (y : Int32) (hp0 : BG a) : Met l yX12_wrongLoops [.code yX12_wrongLoops cX12_wrongLoops 4 (some .int)] ({ frames := 7, cells := 0, slots := 0, locals := 280 }) (PR [.ref (b 0), .int x, .int y] sz dC dI cs b u) (va_Qi (fun (r : Int32) (u' : RS) => ((r = 0 ∧ (∃ n : Nat, x = nI n ∧ ∃ k : Nat, y = nI k ∧ n < wN a ∧ k < wN a ∧ vend a (row a n) = rb (row a n) ∧ vend a (row a k) = rb (row a k))) ∨ (r = 2 ∧ (True)) ∨ (r = 4 ∧ (True))) ∧ FR [12] [] false u u') (BR dC dI cs b) (AR b sz)) 0 0 (AR b sz) := by
  refine Met.ofW (cc := cX12_wrongLoops) (maxL := 4) (ret := (some .int)) (by decide) rfl ?_
  intro p e s m args below meth c s₁ B hml hv
  obtain ⟨rfl, hsz, hP, hK, hJ, hE⟩ := hv
  have hx := B.exec
  have hb := B.bytes
  have hr := B.returns
  have hown : s.vm.findClass RX12 = some m.cls := findClass_of_methodNamed B.named
  have hlocks := B.notSynchronized
  subst hsz
  have hAL : ∀ i, i < 108 → AR b s.heap.size (b i) := fun i h => Or.inl ⟨i, h, rfl⟩
  have hA : ∀ q : Nat, s.heap.size ≤ q → AR b s.heap.size q := fun q h => Or.inr h
  have hS : va_S (AR b s.heap.size) s.heap s.heap [] := va_S.rf
  have hfr : FR [12] [] false u u := FR.refl
  have hl := lv_entry ([.ref (b 0), .int x, .int y]) (n := 4) (Nat.le_of_ble_eq_true rfl)
  rw [lg_entry_eq]
  generalize (lg_sl ([.ref (b 0), .int x, .int y]) ++ List.replicate (4 - (lg_sl ([.ref (b 0), .int x, .int y])).length) Slot.unset).toArray = ls at hl ⊢
  have hl : lv_has ls 4 [(0, .ref (b 0)), (1, .int x), (2, .int y)] := hl
  have hB := hp0
  have hG := bg_g hp0
  have ha1 := gg_le hG
  have ha1b := bg_w hp0
  refine lv_aload_n hx hb dX12_wrongLoops_0 rfl (lv_at hl 0 rfl) ?_
  refine lv_iload_n hx hb dX12_wrongLoops_1 rfl (lv_at hl 1 rfl) ?_
  refine vp_callSi (va_Run.run (va_runV (As := [.int x]) (rest := []) ⟨hx, hb, hml, hown, noTs⟩ (r_X12_isWord l dC dI s.heap.size cs b u a hA1 x (by first | assumption | omega | rfl | (congr 1; omega))) ⟨cbE 1 (wd_1653 hE) (wd_126 hE) (wd_1650 hE) rfl rfl (by decide +kernel) ⟨Nat.le_of_ble_eq_true rfl, Nat.le_of_ble_eq_true rfl⟩, (wd_1652 hE), (wd_83 hE)⟩ ⟨PR.blind, r_recv hK hP rfl, (r_pre (av := [.ref (b 0), .int x]) hK hP hJ hE)⟩ rfl rfl hl.1 rfl (lv_room (Nat.le_of_ble_eq_true rfl)) dX12_wrongLoops_2 ⟨Nat.le_of_ble_eq_true rfl, Nat.le_of_ble_eq_true rfl⟩)) (fun r2 hr2 => ?_)
  rcases hr2 with ⟨rfl, hb2⟩ | ⟨rfl, hb2⟩
  · obtain ⟨n2, hbe2_1, hb2⟩ := hb2
    subst hbe2_1
    have hti3 := nI_toInt (n := n2) (by omega)
    refine lv_if_eq (tgt := 16) hx hb dX12_wrongLoops_5 (by decide) (fun c4 => absurd c4 (by decide)) (fun c4 => ?_)
    refine lv_aload_n hx hb dX12_wrongLoops_8 rfl (lv_at hl 0 rfl) ?_
    refine lv_iload_n hx hb dX12_wrongLoops_9 rfl (lv_at hl 2 rfl) ?_
    refine vp_callSi (va_Run.run (va_runV (As := [.int y]) (rest := []) ⟨hx, hb, hml, hown, noTs⟩ (r_X12_isWord l dC dI s.heap.size cs b u a hA1 y (by first | assumption | omega | rfl | (congr 1; omega))) ⟨cbE 1 (wd_1653 hE) (wd_126 hE) (wd_1650 hE) rfl rfl (by decide +kernel) ⟨Nat.le_of_ble_eq_true rfl, Nat.le_of_ble_eq_true rfl⟩, (wd_1652 hE), (wd_83 hE)⟩ ⟨PR.blind, r_recv hK hP rfl, (r_pre (av := [.ref (b 0), .int y]) hK hP hJ hE)⟩ rfl rfl hl.1 rfl (lv_room (Nat.le_of_ble_eq_true rfl)) dX12_wrongLoops_10 ⟨Nat.le_of_ble_eq_true rfl, Nat.le_of_ble_eq_true rfl⟩)) (fun r5 hr5 => ?_)
    rcases hr5 with ⟨rfl, hb5⟩ | ⟨rfl, hb5⟩
    · obtain ⟨n5, hbe5_1, hb5⟩ := hb5
      subst hbe5_1
      have hti6 := nI_toInt (n := n5) (by omega)
      refine lv_if_ne (tgt := 20) hx hb dX12_wrongLoops_13 (by decide) (fun c7 => ?_) (fun c7 => absurd c7 (by decide))
      refine lv_aload_n hx hb dX12_wrongLoops_20 rfl (lv_at hl 0 rfl) ?_
      refine lv_iload_n hx hb dX12_wrongLoops_21 rfl (lv_at hl 1 rfl) ?_
      refine rc_i hAL hS hA (va_runV (As := [.int (nI n2)]) (rest := []) ⟨hx, hb, hml, hown, noTs⟩ (r_X12_wrongLoop l dC dI s.heap.size cs b u a hA1 (nI n2) (by first | assumption | omega | rfl | (congr 1; omega))) ⟨cbE 1 (wd_1781 hE) (wd_126 hE) (wd_1778 hE) rfl rfl (by decide +kernel) ⟨Nat.le_of_ble_eq_true rfl, Nat.le_of_ble_eq_true rfl⟩, (wd_1780 hE), (wd_95 hE)⟩ ⟨PR.blind, r_recv hK hP rfl, (r_pre (av := [.ref (b 0), .int (nI n2)]) hK hP hJ hE)⟩ rfl rfl hl.1 rfl (lv_room (Nat.le_of_ble_eq_true rfl)) dX12_wrongLoops_22 ⟨Nat.le_of_ble_eq_true rfl, Nat.le_of_ble_eq_true rfl⟩) (fun r8 u8 H locs hpo8 hP hS => ?_)
      obtain ⟨hr8, hq8⟩ := hpo8
      have hA9 := (hq8.1 1 (by decide)).trans hA1
      have hfr := FR.step hfr hq8 (by decide) (fun _ h => absurd h List.not_mem_nil) (fun h => rfl)
      rcases hr8 with ⟨rfl, hb8⟩ | ⟨rfl, hb8⟩ | ⟨rfl, hb8⟩
      · obtain ⟨n8, hbe8_1, hb8⟩ := hb8
        have hbe8_1 := (nI_eq (by omega) (by omega)).mp hbe8_1
        subst hbe8_1
        refine lv_istore_n (lv' := [(3, .int 0), (0, .ref (b 0)), (1, .int (nI n2)), (2, .int (nI n5))]) hx hb dX12_wrongLoops_25 rfl hl (by decide) rfl (fun ls hl => ?_)
        refine lv_iload_n hx hb dX12_wrongLoops_26 rfl (lv_at hl 0 rfl) ?_
        refine lv_if_le (tgt := 34) hx hb dX12_wrongLoops_27 (by decide) (fun c10 => ?_) (fun c10 => absurd c10 (by decide))
        refine lv_aload_n hx hb dX12_wrongLoops_34 rfl (lv_at hl 1 rfl) ?_
        refine lv_iload_n hx hb dX12_wrongLoops_35 rfl (lv_at hl 3 rfl) ?_
        refine rc_i hAL hS hA (va_runV (As := [.int (nI n5)]) (rest := []) ⟨hx, hb, hml, hown, noTs⟩ (r_X12_wrongLoop l dC dI H.size cs b u8 a hA9 (nI n5) (by first | assumption | omega | rfl | (congr 1; omega))) ⟨cbE 1 (wd_1781 hE) (wd_126 hE) (wd_1778 hE) rfl rfl (by decide +kernel) ⟨Nat.le_of_ble_eq_true rfl, Nat.le_of_ble_eq_true rfl⟩, (wd_1780 hE), (wd_95 hE)⟩ ⟨PR.blind, r_recv hK hP rfl, (r_pre (av := [.ref (b 0), .int (nI n5)]) hK hP hJ hE)⟩ rfl rfl hl.1 rfl (lv_room (Nat.le_of_ble_eq_true rfl)) dX12_wrongLoops_36 ⟨Nat.le_of_ble_eq_true rfl, Nat.le_of_ble_eq_true rfl⟩) (fun r11 u11 H locs hpo11 hP hS => ?_)
        obtain ⟨hr11, hq11⟩ := hpo11
        have hA12 := (hq11.1 1 (by decide)).trans hA9
        have hfr := FR.step hfr hq11 (by decide) (fun _ h => absurd h List.not_mem_nil) (fun h => rfl)
        rcases hr11 with ⟨rfl, hb11⟩ | ⟨rfl, hb11⟩ | ⟨rfl, hb11⟩
        · obtain ⟨n11, hbe11_1, hb11⟩ := hb11
          have hbe11_1 := (nI_eq (by omega) (by omega)).mp hbe11_1
          subst hbe11_1
          exact W.iret (v := 0) hx hb hr (fun t ht hW => ⟨⟨0, u11, rfl, ⟨Or.inl ⟨rfl, by refine ⟨_, rfl, _, rfl, ?_, ?_, ?_, ?_⟩ <;> omega⟩, hfr⟩, (show va_P (dC, dI) vwCl (rW cs b u11) t.heap by rw [ht]; exact hP)⟩, hS.F ht⟩) hS.2.2 dX12_wrongLoops_39
        · exact W.iret (v := 2) hx hb hr (fun t ht hW => ⟨⟨2, u11, rfl, ⟨Or.inr (Or.inl ⟨rfl, by trivial⟩), hfr⟩, (show va_P (dC, dI) vwCl (rW cs b u11) t.heap by rw [ht]; exact hP)⟩, hS.F ht⟩) hS.2.2 dX12_wrongLoops_39
        · exact W.iret (v := 4) hx hb hr (fun t ht hW => ⟨⟨4, u11, rfl, ⟨Or.inr (Or.inr (⟨rfl, by trivial⟩)), hfr⟩, (show va_P (dC, dI) vwCl (rW cs b u11) t.heap by rw [ht]; exact hP)⟩, hS.F ht⟩) hS.2.2 dX12_wrongLoops_39
      · refine lv_istore_n (lv' := [(3, .int 2), (0, .ref (b 0)), (1, .int (nI n2)), (2, .int (nI n5))]) hx hb dX12_wrongLoops_25 rfl hl (by decide) rfl (fun ls hl => ?_)
        refine lv_iload_n hx hb dX12_wrongLoops_26 rfl (lv_at hl 0 rfl) ?_
        refine lv_if_le (tgt := 34) hx hb dX12_wrongLoops_27 (by decide) (fun c13 => absurd c13 (by decide)) (fun c13 => ?_)
        refine lv_iload_n hx hb dX12_wrongLoops_30 rfl (lv_at hl 0 rfl) ?_
        refine lv_goto (tgt := 39) hx hb dX12_wrongLoops_31 (by decide) ?_
        exact W.iret (v := 2) hx hb hr (fun t ht hW => ⟨⟨2, u8, rfl, ⟨Or.inr (Or.inl ⟨rfl, by trivial⟩), hfr⟩, (show va_P (dC, dI) vwCl (rW cs b u8) t.heap by rw [ht]; exact hP)⟩, hS.F ht⟩) hS.2.2 dX12_wrongLoops_39
      · refine lv_istore_n (lv' := [(3, .int 4), (0, .ref (b 0)), (1, .int (nI n2)), (2, .int (nI n5))]) hx hb dX12_wrongLoops_25 rfl hl (by decide) rfl (fun ls hl => ?_)
        refine lv_iload_n hx hb dX12_wrongLoops_26 rfl (lv_at hl 0 rfl) ?_
        refine lv_if_le (tgt := 34) hx hb dX12_wrongLoops_27 (by decide) (fun c14 => absurd c14 (by decide)) (fun c14 => ?_)
        refine lv_iload_n hx hb dX12_wrongLoops_30 rfl (lv_at hl 0 rfl) ?_
        refine lv_goto (tgt := 39) hx hb dX12_wrongLoops_31 (by decide) ?_
        exact W.iret (v := 4) hx hb hr (fun t ht hW => ⟨⟨4, u8, rfl, ⟨Or.inr (Or.inr (⟨rfl, by trivial⟩)), hfr⟩, (show va_P (dC, dI) vwCl (rW cs b u8) t.heap by rw [ht]; exact hP)⟩, hS.F ht⟩) hS.2.2 dX12_wrongLoops_39
    · refine lv_if_ne (tgt := 20) hx hb dX12_wrongLoops_13 (by decide) (fun c15 => absurd c15 (by decide)) (fun c15 => ?_)
      refine lv_iconst (v := 2) hx hb dX12_wrongLoops_16 (by decide) ?_
      refine lv_goto (tgt := 25) hx hb dX12_wrongLoops_17 (by decide) ?_
      refine lv_istore_n (lv' := [(3, .int 2), (0, .ref (b 0)), (1, .int (nI n2)), (2, .int y)]) hx hb dX12_wrongLoops_25 rfl hl (by decide) rfl (fun ls hl => ?_)
      refine lv_iload_n hx hb dX12_wrongLoops_26 rfl (lv_at hl 0 rfl) ?_
      refine lv_if_le (tgt := 34) hx hb dX12_wrongLoops_27 (by decide) (fun c16 => absurd c16 (by decide)) (fun c16 => ?_)
      refine lv_iload_n hx hb dX12_wrongLoops_30 rfl (lv_at hl 0 rfl) ?_
      refine lv_goto (tgt := 39) hx hb dX12_wrongLoops_31 (by decide) ?_
      exact W.iret (v := 2) hx hb hr (fun t ht hW => ⟨⟨2, u, rfl, ⟨Or.inr (Or.inl ⟨rfl, by trivial⟩), hfr⟩, (show va_P (dC, dI) vwCl (rW cs b u) t.heap by rw [ht]; exact hP)⟩, hS.F ht⟩) hS.2.2 dX12_wrongLoops_39
  · refine lv_if_eq (tgt := 16) hx hb dX12_wrongLoops_5 (by decide) (fun c17 => ?_) (fun c17 => absurd c17 (by decide))
    refine lv_iconst (v := 2) hx hb dX12_wrongLoops_16 (by decide) ?_
    refine lv_goto (tgt := 25) hx hb dX12_wrongLoops_17 (by decide) ?_
    refine lv_istore_n (lv' := [(3, .int 2), (0, .ref (b 0)), (1, .int x), (2, .int y)]) hx hb dX12_wrongLoops_25 rfl hl (by decide) rfl (fun ls hl => ?_)
    refine lv_iload_n hx hb dX12_wrongLoops_26 rfl (lv_at hl 0 rfl) ?_
    refine lv_if_le (tgt := 34) hx hb dX12_wrongLoops_27 (by decide) (fun c18 => absurd c18 (by decide)) (fun c18 => ?_)
    refine lv_iload_n hx hb dX12_wrongLoops_30 rfl (lv_at hl 0 rfl) ?_
    refine lv_goto (tgt := 39) hx hb dX12_wrongLoops_31 (by decide) ?_
    exact W.iret (v := 2) hx hb hr (fun t ht hW => ⟨⟨2, u, rfl, ⟨Or.inr (Or.inl ⟨rfl, by trivial⟩), hfr⟩, (show va_P (dC, dI) vwCl (rW cs b u) t.heap by rw [ht]; exact hP)⟩, hS.F ht⟩) hS.2.2 dX12_wrongLoops_39

set_option maxHeartbeats 4000000 in
set_option maxRecDepth 100000 in
theorem r_X12_kin (l : Launch) (dC : Nat → ClassId) (dI : Nat → Nat → Nat) (sz : Nat) (cs : Nat → ClassId) (b : Nat → Nat) (u : RS) (a : Nat → Int32) (hA1 : rA u 1 = a) (x : Int32) (y : Int32) (hp0 : BG a) : Met l yX12_kin [.code yX12_kin cX12_kin 4 (some .int)] ({ frames := 8, cells := 0, slots := 0, locals := 320 }) (PR [.ref (b 0), .int x, .int y] sz dC dI cs b u) (va_Qi (fun (r : Int32) (u' : RS) => (True) ∧ FR [3, 4, 5, 6, 7, 8, 9, 10, 11, 12, 13, 14, 17, 18, 19, 20] [1, 5, 21, 22] true u u') (BR dC dI cs b) (AR b sz)) 0 0 (AR b sz) := by
  refine Met.ofW (cc := cX12_kin) (maxL := 4) (ret := (some .int)) (by decide) rfl ?_
  intro p e s m args below meth c s₁ B hml hv
  obtain ⟨rfl, hsz, hP, hK, hJ, hE⟩ := hv
  have hx := B.exec
  have hb := B.bytes
  have hr := B.returns
  have hown : s.vm.findClass RX12 = some m.cls := findClass_of_methodNamed B.named
  have hlocks := B.notSynchronized
  subst hsz
  have hAL : ∀ i, i < 108 → AR b s.heap.size (b i) := fun i h => Or.inl ⟨i, h, rfl⟩
  have hA : ∀ q : Nat, s.heap.size ≤ q → AR b s.heap.size q := fun q h => Or.inr h
  have hS : va_S (AR b s.heap.size) s.heap s.heap [] := va_S.rf
  have hfr : FR [3, 4, 5, 6, 7, 8, 9, 10, 11, 12, 13, 14, 17, 18, 19, 20] [1, 5, 21, 22] true u u := FR.refl
  have hl := lv_entry ([.ref (b 0), .int x, .int y]) (n := 4) (Nat.le_of_ble_eq_true rfl)
  rw [lg_entry_eq]
  generalize (lg_sl ([.ref (b 0), .int x, .int y]) ++ List.replicate (4 - (lg_sl ([.ref (b 0), .int x, .int y])).length) Slot.unset).toArray = ls at hl ⊢
  have hl : lv_has ls 4 [(0, .ref (b 0)), (1, .int x), (2, .int y)] := hl
  have hB := hp0
  have hG := bg_g hp0
  have ha1 := gg_le hG
  have ha1b := bg_w hp0
  refine lv_aload_n hx hb dX12_kin_0 rfl (lv_at hl 0 rfl) ?_
  refine lv_iload_n hx hb dX12_kin_1 rfl (lv_at hl 1 rfl) ?_
  refine lv_iload_n hx hb dX12_kin_2 rfl (lv_at hl 2 rfl) ?_
  refine rc_i hAL hS hA (va_runV (As := [.int x, .int y]) (rest := []) ⟨hx, hb, hml, hown, noTs⟩ (r_X12_wrongLoops l dC dI s.heap.size cs b u a hA1 x y (by first | assumption | omega | rfl | (congr 1; omega))) ⟨cbE 2 (wd_1800 hE) (wd_126 hE) (wd_1797 hE) rfl rfl (by decide +kernel) ⟨Nat.le_of_ble_eq_true rfl, Nat.le_of_ble_eq_true rfl⟩, (wd_1799 hE), (wd_97 hE)⟩ ⟨PR.blind, r_recv hK hP rfl, (r_pre (av := [.ref (b 0), .int x, .int y]) hK hP hJ hE)⟩ rfl rfl hl.1 rfl (lv_room (Nat.le_of_ble_eq_true rfl)) dX12_kin_3 ⟨Nat.le_of_ble_eq_true rfl, Nat.le_of_ble_eq_true rfl⟩) (fun r2 u2 H locs hpo2 hP hS => ?_)
  obtain ⟨hr2, hq2⟩ := hpo2
  have hA3 := (hq2.1 1 (by decide)).trans hA1
  have hfr := FR.step hfr hq2 (by decide) (fun _ h => absurd h List.not_mem_nil) (fun h => rfl)
  rcases hr2 with ⟨rfl, hb2⟩ | ⟨rfl, hb2⟩ | ⟨rfl, hb2⟩
  · obtain ⟨n2, hbe2_1, hb2⟩ := hb2
    subst hbe2_1
    have hti4 := nI_toInt (n := n2) (by omega)
    obtain ⟨n2_2, hbe2_2, hb2⟩ := hb2
    subst hbe2_2
    have hti5 := nI_toInt (n := n2_2) (by omega)
    refine lv_istore_n (lv' := [(3, .int 0), (0, .ref (b 0)), (1, .int (nI n2)), (2, .int (nI n2_2))]) hx hb dX12_kin_6 rfl hl (by decide) rfl (fun ls hl => ?_)
    refine lv_iload_n hx hb dX12_kin_7 rfl (lv_at hl 0 rfl) ?_
    refine lv_if_le (tgt := 19) hx hb dX12_kin_8 (by decide) (fun c6 => ?_) (fun c6 => absurd c6 (by decide))
    refine lv_aload_n hx hb dX12_kin_19 rfl (lv_at hl 1 rfl) ?_
    refine lv_aload_n hx hb dX12_kin_20 rfl (lv_at hl 1 rfl) ?_
    refine lv_iload_n hx hb dX12_kin_21 rfl (lv_at hl 2 rfl) ?_
    refine lv_iload_n hx hb dX12_kin_22 rfl (lv_at hl 3 rfl) ?_
    refine rc_i hAL hS hA (va_runV (As := [.int (nI n2), .int (nI n2_2)]) (rest := [.ref (b 0)]) ⟨hx, hb, hml, hown, noTs⟩ (r_X12_areKin l dC dI H.size cs b u2 a hA3 n2 n2_2 (by first | assumption | omega | rfl | (congr 1; omega)) (by first | assumption | omega | rfl | (congr 1; omega)) (by first | assumption | omega | rfl | (congr 1; omega)) (by first | assumption | omega | rfl | (congr 1; omega)) (by first | assumption | omega | rfl | (congr 1; omega))) ⟨cbE 2 (wd_1804 hE) (wd_126 hE) (wd_1801 hE) rfl rfl (by decide +kernel) ⟨Nat.le_of_ble_eq_true rfl, Nat.le_of_ble_eq_true rfl⟩, (wd_1803 hE), (wd_98 hE)⟩ ⟨PR.blind, r_recv hK hP rfl, (r_pre (av := [.ref (b 0), .int (nI n2), .int (nI n2_2)]) hK hP hJ hE)⟩ rfl rfl hl.1 rfl (lv_room (Nat.le_of_ble_eq_true rfl)) dX12_kin_23 ⟨Nat.le_of_ble_eq_true rfl, Nat.le_of_ble_eq_true rfl⟩) (fun r7 u7 H locs hpo7 hP hS => ?_)
    obtain ⟨hr7, hq7⟩ := hpo7
    have hA8 := (hq7.1 1 (by decide)).trans hA3
    have hfr := FR.step hfr hq7 (by decide) (by decide) (fun h => rfl)
    rcases hr7 with ⟨rfl, hb7⟩ | ⟨rfl, hb7⟩
    · refine lv_if_eq (tgt := 33) hx hb dX12_kin_26 (by decide) (fun c9 => absurd c9 (by decide)) (fun c9 => ?_)
      refine lv_iconst (v := 1) hx hb dX12_kin_29 (by decide) ?_
      refine lv_goto (tgt := 34) hx hb dX12_kin_30 (by decide) ?_
      refine rc_i hAL hS hA (va_runV (As := [.int 1]) (rest := []) ⟨hx, hb, hml, hown, noTs⟩ (r_X12_gives l dC dI H.size cs b u7 a hA8 1) ⟨cbE 1 (wd_1621 hE) (wd_126 hE) (wd_1618 hE) rfl rfl (by decide +kernel) ⟨Nat.le_of_ble_eq_true rfl, Nat.le_of_ble_eq_true rfl⟩, (wd_1620 hE), (wd_80 hE)⟩ ⟨PR.blind, r_recv hK hP rfl, (r_pre (av := [.ref (b 0), .int 1]) hK hP hJ hE)⟩ rfl rfl hl.1 rfl (lv_room (Nat.le_of_ble_eq_true rfl)) dX12_kin_34 ⟨Nat.le_of_ble_eq_true rfl, Nat.le_of_ble_eq_true rfl⟩) (fun r10 u10 H locs hpo10 hP hS => ?_)
      obtain ⟨hr10, hq10⟩ := hpo10
      have hA11 := (hq10.1 1 List.not_mem_nil).trans hA8
      have hfr := FR.step hfr hq10 (fun _ h => absurd h List.not_mem_nil) (by decide) (fun h => rfl)
      subst hr10
      exact W.iret (v := 1) hx hb hr (fun t ht hW => ⟨⟨1, u10, rfl, ⟨trivial, hfr⟩, (show va_P (dC, dI) vwCl (rW cs b u10) t.heap by rw [ht]; exact hP)⟩, hS.F ht⟩) hS.2.2 dX12_kin_37
    · refine lv_if_eq (tgt := 33) hx hb dX12_kin_26 (by decide) (fun c12 => ?_) (fun c12 => absurd c12 (by decide))
      refine lv_iconst (v := 0) hx hb dX12_kin_33 (by decide) ?_
      refine rc_i hAL hS hA (va_runV (As := [.int 0]) (rest := []) ⟨hx, hb, hml, hown, noTs⟩ (r_X12_gives l dC dI H.size cs b u7 a hA8 0) ⟨cbE 1 (wd_1621 hE) (wd_126 hE) (wd_1618 hE) rfl rfl (by decide +kernel) ⟨Nat.le_of_ble_eq_true rfl, Nat.le_of_ble_eq_true rfl⟩, (wd_1620 hE), (wd_80 hE)⟩ ⟨PR.blind, r_recv hK hP rfl, (r_pre (av := [.ref (b 0), .int 0]) hK hP hJ hE)⟩ rfl rfl hl.1 rfl (lv_room (Nat.le_of_ble_eq_true rfl)) dX12_kin_34 ⟨Nat.le_of_ble_eq_true rfl, Nat.le_of_ble_eq_true rfl⟩) (fun r13 u13 H locs hpo13 hP hS => ?_)
      obtain ⟨hr13, hq13⟩ := hpo13
      have hA14 := (hq13.1 1 List.not_mem_nil).trans hA8
      have hfr := FR.step hfr hq13 (fun _ h => absurd h List.not_mem_nil) (by decide) (fun h => rfl)
      subst hr13
      exact W.iret (v := 0) hx hb hr (fun t ht hW => ⟨⟨0, u13, rfl, ⟨trivial, hfr⟩, (show va_P (dC, dI) vwCl (rW cs b u13) t.heap by rw [ht]; exact hP)⟩, hS.F ht⟩) hS.2.2 dX12_kin_37
  · refine lv_istore_n (lv' := [(3, .int 2), (0, .ref (b 0)), (1, .int x), (2, .int y)]) hx hb dX12_kin_6 rfl hl (by decide) rfl (fun ls hl => ?_)
    refine lv_iload_n hx hb dX12_kin_7 rfl (lv_at hl 0 rfl) ?_
    refine lv_if_le (tgt := 19) hx hb dX12_kin_8 (by decide) (fun c15 => absurd c15 (by decide)) (fun c15 => ?_)
    refine lv_aload_n hx hb dX12_kin_11 rfl (lv_at hl 1 rfl) ?_
    refine lv_iload_n hx hb dX12_kin_12 rfl (lv_at hl 0 rfl) ?_
    refine rc_i hAL hS hA (va_runV (As := [.int 2]) (rest := []) ⟨hx, hb, hml, hown, noTs⟩ (r_X12_refuse l dC dI H.size cs b u2 a hA3 2) ⟨cbE 1 (wd_1498 hE) (wd_126 hE) (wd_1495 hE) rfl rfl (by decide +kernel) ⟨Nat.le_of_ble_eq_true rfl, Nat.le_of_ble_eq_true rfl⟩, (wd_1497 hE), (wd_54 hE)⟩ ⟨PR.blind, r_recv hK hP rfl, (r_pre (av := [.ref (b 0), .int 2]) hK hP hJ hE)⟩ rfl rfl hl.1 rfl (lv_room (Nat.le_of_ble_eq_true rfl)) dX12_kin_13 ⟨Nat.le_of_ble_eq_true rfl, Nat.le_of_ble_eq_true rfl⟩) (fun r16 u16 H locs hpo16 hP hS => ?_)
    obtain ⟨hr16, hq16⟩ := hpo16
    have hA17 := (hq16.1 1 List.not_mem_nil).trans hA3
    have hfr := FR.step hfr hq16 (fun _ h => absurd h List.not_mem_nil) (by decide) (fun h => rfl)
    subst hr16
    refine lv_goto (tgt := 37) hx hb dX12_kin_16 (by decide) ?_
    exact W.iret (v := -1) hx hb hr (fun t ht hW => ⟨⟨-1, u16, rfl, ⟨trivial, hfr⟩, (show va_P (dC, dI) vwCl (rW cs b u16) t.heap by rw [ht]; exact hP)⟩, hS.F ht⟩) hS.2.2 dX12_kin_37
  · refine lv_istore_n (lv' := [(3, .int 4), (0, .ref (b 0)), (1, .int x), (2, .int y)]) hx hb dX12_kin_6 rfl hl (by decide) rfl (fun ls hl => ?_)
    refine lv_iload_n hx hb dX12_kin_7 rfl (lv_at hl 0 rfl) ?_
    refine lv_if_le (tgt := 19) hx hb dX12_kin_8 (by decide) (fun c18 => absurd c18 (by decide)) (fun c18 => ?_)
    refine lv_aload_n hx hb dX12_kin_11 rfl (lv_at hl 1 rfl) ?_
    refine lv_iload_n hx hb dX12_kin_12 rfl (lv_at hl 0 rfl) ?_
    refine rc_i hAL hS hA (va_runV (As := [.int 4]) (rest := []) ⟨hx, hb, hml, hown, noTs⟩ (r_X12_refuse l dC dI H.size cs b u2 a hA3 4) ⟨cbE 1 (wd_1498 hE) (wd_126 hE) (wd_1495 hE) rfl rfl (by decide +kernel) ⟨Nat.le_of_ble_eq_true rfl, Nat.le_of_ble_eq_true rfl⟩, (wd_1497 hE), (wd_54 hE)⟩ ⟨PR.blind, r_recv hK hP rfl, (r_pre (av := [.ref (b 0), .int 4]) hK hP hJ hE)⟩ rfl rfl hl.1 rfl (lv_room (Nat.le_of_ble_eq_true rfl)) dX12_kin_13 ⟨Nat.le_of_ble_eq_true rfl, Nat.le_of_ble_eq_true rfl⟩) (fun r19 u19 H locs hpo19 hP hS => ?_)
    obtain ⟨hr19, hq19⟩ := hpo19
    have hA20 := (hq19.1 1 List.not_mem_nil).trans hA3
    have hfr := FR.step hfr hq19 (fun _ h => absurd h List.not_mem_nil) (by decide) (fun h => rfl)
    subst hr19
    refine lv_goto (tgt := 37) hx hb dX12_kin_16 (by decide) ?_
    exact W.iret (v := -1) hx hb hr (fun t ht hW => ⟨⟨-1, u19, rfl, ⟨trivial, hfr⟩, (show va_P (dC, dI) vwCl (rW cs b u19) t.heap by rw [ht]; exact hP)⟩, hS.F ht⟩) hS.2.2 dX12_kin_37

set_option maxHeartbeats 4000000 in
set_option maxRecDepth 100000 in
theorem r_X12_kinBy (l : Launch) (dC : Nat → ClassId) (dI : Nat → Nat → Nat) (sz : Nat) (cs : Nat → ClassId) (b : Nat → Nat) (u : RS) (a : Nat → Int32) (hA1 : rA u 1 = a) (x : Int32) (y : Int32) (z : Int32) (hp0 : BG a) : Met l yX12_kinBy [.code yX12_kinBy cX12_kinBy 5 (some .int)] ({ frames := 8, cells := 0, slots := 0, locals := 320 }) (PR [.ref (b 0), .int x, .int y, .int z] sz dC dI cs b u) (va_Qi (fun (r : Int32) (u' : RS) => (True) ∧ FR [3, 4, 5, 6, 7, 8, 9, 10, 11, 12, 13, 14, 17, 18, 19, 20] [1, 5, 21, 22] true u u') (BR dC dI cs b) (AR b sz)) 0 0 (AR b sz) := by
  refine Met.ofW (cc := cX12_kinBy) (maxL := 5) (ret := (some .int)) (by decide) rfl ?_
  intro p e s m args below meth c s₁ B hml hv
  obtain ⟨rfl, hsz, hP, hK, hJ, hE⟩ := hv
  have hx := B.exec
  have hb := B.bytes
  have hr := B.returns
  have hown : s.vm.findClass RX12 = some m.cls := findClass_of_methodNamed B.named
  have hlocks := B.notSynchronized
  subst hsz
  have hAL : ∀ i, i < 108 → AR b s.heap.size (b i) := fun i h => Or.inl ⟨i, h, rfl⟩
  have hA : ∀ q : Nat, s.heap.size ≤ q → AR b s.heap.size q := fun q h => Or.inr h
  have hS : va_S (AR b s.heap.size) s.heap s.heap [] := va_S.rf
  have hfr : FR [3, 4, 5, 6, 7, 8, 9, 10, 11, 12, 13, 14, 17, 18, 19, 20] [1, 5, 21, 22] true u u := FR.refl
  have hl := lv_entry ([.ref (b 0), .int x, .int y, .int z]) (n := 5) (Nat.le_of_ble_eq_true rfl)
  rw [lg_entry_eq]
  generalize (lg_sl ([.ref (b 0), .int x, .int y, .int z]) ++ List.replicate (5 - (lg_sl ([.ref (b 0), .int x, .int y, .int z])).length) Slot.unset).toArray = ls at hl ⊢
  have hl : lv_has ls 5 [(0, .ref (b 0)), (1, .int x), (2, .int y), (3, .int z)] := hl
  have hB := hp0
  have hG := bg_g hp0
  have ha1 := gg_le hG
  have ha1b := bg_w hp0
  refine lv_iload_n hx hb dX12_kinBy_0 rfl (lv_at hl 3 rfl) ?_
  refine lv_iconst (v := 0) hx hb dX12_kinBy_1 (by decide) ?_
  refine lv_iconst (v := 1) hx hb dX12_kinBy_2 (by decide) ?_
  refine vp_callSi (va_Run.run (va_runS (As := [.int z, .int 0, .int 1]) (rest := []) ⟨hx, hb, hml, hown, noTs⟩ (r_X12_isFrom l dC dI s.heap.size cs b u a hA1 z 0 1 ((0 : Int)) ((1 : Int)) (show Int32.toInt 0 = 0 from rfl) (show Int32.toInt 1 = 1 from rfl)) ⟨cbE 3 (wd_1494 hE) (wd_126 hE) (wd_1492 hE) rfl rfl (by decide +kernel) ⟨Nat.le_of_ble_eq_true rfl, Nat.le_of_ble_eq_true rfl⟩, (wd_1493 hE)⟩ ⟨PR.blind, (r_pre (av := [.int z, .int 0, .int 1]) hK hP hJ hE)⟩ rfl rfl hl.1 rfl (lv_room (Nat.le_of_ble_eq_true rfl)) dX12_kinBy_3 ⟨Nat.le_of_ble_eq_true rfl, Nat.le_of_ble_eq_true rfl⟩)) (fun r2 hr2 => ?_)
  rcases hr2 with ⟨rfl, hb2⟩ | ⟨rfl, hb2⟩
  · refine lv_if_eq (tgt := 18) hx hb dX12_kinBy_6 (by decide) (fun c3 => absurd c3 (by decide)) (fun c3 => ?_)
    refine lv_aload_n hx hb dX12_kinBy_9 rfl (lv_at hl 0 rfl) ?_
    refine lv_iload_n hx hb dX12_kinBy_10 rfl (lv_at hl 1 rfl) ?_
    refine lv_iload_n hx hb dX12_kinBy_11 rfl (lv_at hl 2 rfl) ?_
    refine rc_i hAL hS hA (va_runV (As := [.int x, .int y]) (rest := []) ⟨hx, hb, hml, hown, noTs⟩ (r_X12_wrongLoops l dC dI s.heap.size cs b u a hA1 x y (by first | assumption | omega | rfl | (congr 1; omega))) ⟨cbE 2 (wd_1800 hE) (wd_126 hE) (wd_1797 hE) rfl rfl (by decide +kernel) ⟨Nat.le_of_ble_eq_true rfl, Nat.le_of_ble_eq_true rfl⟩, (wd_1799 hE), (wd_97 hE)⟩ ⟨PR.blind, r_recv hK hP rfl, (r_pre (av := [.ref (b 0), .int x, .int y]) hK hP hJ hE)⟩ rfl rfl hl.1 rfl (lv_room (Nat.le_of_ble_eq_true rfl)) dX12_kinBy_12 ⟨Nat.le_of_ble_eq_true rfl, Nat.le_of_ble_eq_true rfl⟩) (fun r4 u4 H locs hpo4 hP hS => ?_)
    obtain ⟨hr4, hq4⟩ := hpo4
    have hA5 := (hq4.1 1 (by decide)).trans hA1
    have hfr := FR.step hfr hq4 (by decide) (fun _ h => absurd h List.not_mem_nil) (fun h => rfl)
    rcases hr4 with ⟨rfl, hb4⟩ | ⟨rfl, hb4⟩ | ⟨rfl, hb4⟩
    · obtain ⟨n4, hbe4_1, hb4⟩ := hb4
      subst hbe4_1
      have hti6 := nI_toInt (n := n4) (by omega)
      obtain ⟨n4_2, hbe4_2, hb4⟩ := hb4
      subst hbe4_2
      have hti7 := nI_toInt (n := n4_2) (by omega)
      refine lv_goto (tgt := 19) hx hb dX12_kinBy_15 (by decide) ?_
      refine lv_istore (lv' := [(4, .int 0), (0, .ref (b 0)), (1, .int (nI n4)), (2, .int (nI n4_2)), (3, .int z)]) hx hb dX12_kinBy_19 hl (by decide) rfl (fun ls hl => ?_)
      refine lv_iload hx hb dX12_kinBy_21 (lv_at hl 0 rfl) ?_
      refine lv_if_ne (tgt := 38) hx hb dX12_kinBy_23 (by decide) (fun c8 => absurd c8 (by decide)) (fun c8 => ?_)
      refine lv_aload_n hx hb dX12_kinBy_26 rfl (lv_at hl 1 rfl) ?_
      refine lv_iload_n hx hb dX12_kinBy_27 rfl (lv_at hl 2 rfl) ?_
      refine lv_iload_n hx hb dX12_kinBy_28 rfl (lv_at hl 3 rfl) ?_
      refine rc_i hAL hS hA (va_runV (As := [.int (nI n4), .int (nI n4_2)]) (rest := []) ⟨hx, hb, hml, hown, noTs⟩ (r_X12_areKin l dC dI H.size cs b u4 a hA5 n4 n4_2 (by first | assumption | omega | rfl | (congr 1; omega)) (by first | assumption | omega | rfl | (congr 1; omega)) (by first | assumption | omega | rfl | (congr 1; omega)) (by first | assumption | omega | rfl | (congr 1; omega)) (by first | assumption | omega | rfl | (congr 1; omega))) ⟨cbE 2 (wd_1804 hE) (wd_126 hE) (wd_1801 hE) rfl rfl (by decide +kernel) ⟨Nat.le_of_ble_eq_true rfl, Nat.le_of_ble_eq_true rfl⟩, (wd_1803 hE), (wd_98 hE)⟩ ⟨PR.blind, r_recv hK hP rfl, (r_pre (av := [.ref (b 0), .int (nI n4), .int (nI n4_2)]) hK hP hJ hE)⟩ rfl rfl hl.1 rfl (lv_room (Nat.le_of_ble_eq_true rfl)) dX12_kinBy_29 ⟨Nat.le_of_ble_eq_true rfl, Nat.le_of_ble_eq_true rfl⟩) (fun r9 u9 H locs hpo9 hP hS => ?_)
      obtain ⟨hr9, hq9⟩ := hpo9
      have hA10 := (hq9.1 1 (by decide)).trans hA5
      have hfr := FR.step hfr hq9 (by decide) (by decide) (fun h => rfl)
      rcases hr9 with ⟨rfl, hb9⟩ | ⟨rfl, hb9⟩
      · refine lv_if_ne (tgt := 38) hx hb dX12_kinBy_32 (by decide) (fun c11 => ?_) (fun c11 => absurd c11 (by decide))
        refine lv_iload hx hb dX12_kinBy_38 (lv_at hl 0 rfl) ?_
        refine lv_if_le (tgt := 52) hx hb dX12_kinBy_40 (by decide) (fun c12 => ?_) (fun c12 => absurd c12 (by decide))
        refine lv_aload_n hx hb dX12_kinBy_52 rfl (lv_at hl 1 rfl) ?_
        refine lv_iload_n hx hb dX12_kinBy_53 rfl (lv_at hl 4 rfl) ?_
        refine lv_if_ne (tgt := 64) hx hb dX12_kinBy_54 (by decide) (fun c13 => ?_) (fun c13 => ?_)
        · have c13 := mt (b_eq (rfl : Int32.toInt z = _) (show Int32.toInt 0 = 0 from rfl)).mpr c13
          refine lv_aload_n hx hb dX12_kinBy_64 rfl (lv_at hl 1 rfl) ?_
          obtain ⟨y14, hy14⟩ : ∃ z : Int32, rF u9 22 = z := ⟨_, rfl⟩
          refine r_get (v := .int y14) hx hb (ly_X12 hE) hown hK hP rfl 22 (by decide) (wd_1403 hE) (fun _ h9 => h9) (congrArg (fun z : Int32 => some (Value.int z)) hy14) dX12_kinBy_65 ?_
          refine rc_i hAL hS hA (va_runV (As := [.int y14]) (rest := []) ⟨hx, hb, hml, hown, noTs⟩ (r_X12_gives l dC dI H.size cs b u9 a hA10 y14) ⟨cbE 1 (wd_1621 hE) (wd_126 hE) (wd_1618 hE) rfl rfl (by decide +kernel) ⟨Nat.le_of_ble_eq_true rfl, Nat.le_of_ble_eq_true rfl⟩, (wd_1620 hE), (wd_80 hE)⟩ ⟨PR.blind, r_recv hK hP rfl, (r_pre (av := [.ref (b 0), .int y14]) hK hP hJ hE)⟩ rfl rfl hl.1 rfl (lv_room (Nat.le_of_ble_eq_true rfl)) dX12_kinBy_68 ⟨Nat.le_of_ble_eq_true rfl, Nat.le_of_ble_eq_true rfl⟩) (fun r15 u15 H locs hpo15 hP hS => ?_)
          obtain ⟨hr15, hq15⟩ := hpo15
          have hA16 := (hq15.1 1 List.not_mem_nil).trans hA10
          have hF17x := (hq15.2.1 22 (by decide)).trans hy14
          have hfr := FR.step hfr hq15 (fun _ h => absurd h List.not_mem_nil) (by decide) (fun h => rfl)
          refine W.eq (g2 := F0 m 71 ls [.int y14]) (by rw [hr15]) ?_
          exact W.iret (v := y14) hx hb hr (fun t ht hW => ⟨⟨y14, u15, rfl, ⟨trivial, hfr⟩, (show va_P (dC, dI) vwCl (rW cs b u15) t.heap by rw [ht]; exact hP)⟩, hS.F ht⟩) hS.2.2 dX12_kinBy_71
        · have c13 := (b_eq (rfl : Int32.toInt z = _) (show Int32.toInt 0 = 0 from rfl)).mp c13
          refine lv_aload_n hx hb dX12_kinBy_57 rfl (lv_at hl 1 rfl) ?_
          obtain ⟨y18, hy18⟩ : ∃ z : Int32, rF u9 21 = z := ⟨_, rfl⟩
          refine r_get (v := .int y18) hx hb (ly_X12 hE) hown hK hP rfl 21 (by decide) (wd_1402 hE) (fun _ h9 => h9) (congrArg (fun z : Int32 => some (Value.int z)) hy18) dX12_kinBy_58 ?_
          refine lv_goto (tgt := 68) hx hb dX12_kinBy_61 (by decide) ?_
          refine rc_i hAL hS hA (va_runV (As := [.int y18]) (rest := []) ⟨hx, hb, hml, hown, noTs⟩ (r_X12_gives l dC dI H.size cs b u9 a hA10 y18) ⟨cbE 1 (wd_1621 hE) (wd_126 hE) (wd_1618 hE) rfl rfl (by decide +kernel) ⟨Nat.le_of_ble_eq_true rfl, Nat.le_of_ble_eq_true rfl⟩, (wd_1620 hE), (wd_80 hE)⟩ ⟨PR.blind, r_recv hK hP rfl, (r_pre (av := [.ref (b 0), .int y18]) hK hP hJ hE)⟩ rfl rfl hl.1 rfl (lv_room (Nat.le_of_ble_eq_true rfl)) dX12_kinBy_68 ⟨Nat.le_of_ble_eq_true rfl, Nat.le_of_ble_eq_true rfl⟩) (fun r19 u19 H locs hpo19 hP hS => ?_)
          obtain ⟨hr19, hq19⟩ := hpo19
          have hA20 := (hq19.1 1 List.not_mem_nil).trans hA10
          have hF21x := (hq19.2.1 21 (by decide)).trans hy18
          have hfr := FR.step hfr hq19 (fun _ h => absurd h List.not_mem_nil) (by decide) (fun h => rfl)
          refine W.eq (g2 := F0 m 71 ls [.int y18]) (by rw [hr19]) ?_
          exact W.iret (v := y18) hx hb hr (fun t ht hW => ⟨⟨y18, u19, rfl, ⟨trivial, hfr⟩, (show va_P (dC, dI) vwCl (rW cs b u19) t.heap by rw [ht]; exact hP)⟩, hS.F ht⟩) hS.2.2 dX12_kinBy_71
      · refine lv_if_ne (tgt := 38) hx hb dX12_kinBy_32 (by decide) (fun c22 => absurd c22 (by decide)) (fun c22 => ?_)
        refine lv_iconst (v := 5) hx hb dX12_kinBy_35 (by decide) ?_
        refine lv_istore (lv' := [(4, .int 5), (0, .ref (b 0)), (1, .int (nI n4)), (2, .int (nI n4_2)), (3, .int z)]) hx hb dX12_kinBy_36 hl (by decide) rfl (fun ls hl => ?_)
        refine lv_iload hx hb dX12_kinBy_38 (lv_at hl 0 rfl) ?_
        refine lv_if_le (tgt := 52) hx hb dX12_kinBy_40 (by decide) (fun c23 => absurd c23 (by decide)) (fun c23 => ?_)
        refine lv_aload_n hx hb dX12_kinBy_43 rfl (lv_at hl 1 rfl) ?_
        refine lv_iload hx hb dX12_kinBy_44 (lv_at hl 0 rfl) ?_
        refine rc_i hAL hS hA (va_runV (As := [.int 5]) (rest := []) ⟨hx, hb, hml, hown, noTs⟩ (r_X12_refuse l dC dI H.size cs b u9 a hA10 5) ⟨cbE 1 (wd_1498 hE) (wd_126 hE) (wd_1495 hE) rfl rfl (by decide +kernel) ⟨Nat.le_of_ble_eq_true rfl, Nat.le_of_ble_eq_true rfl⟩, (wd_1497 hE), (wd_54 hE)⟩ ⟨PR.blind, r_recv hK hP rfl, (r_pre (av := [.ref (b 0), .int 5]) hK hP hJ hE)⟩ rfl rfl hl.1 rfl (lv_room (Nat.le_of_ble_eq_true rfl)) dX12_kinBy_46 ⟨Nat.le_of_ble_eq_true rfl, Nat.le_of_ble_eq_true rfl⟩) (fun r24 u24 H locs hpo24 hP hS => ?_)
        obtain ⟨hr24, hq24⟩ := hpo24
        have hA25 := (hq24.1 1 List.not_mem_nil).trans hA10
        have hfr := FR.step hfr hq24 (fun _ h => absurd h List.not_mem_nil) (by decide) (fun h => rfl)
        subst hr24
        refine lv_goto (tgt := 71) hx hb dX12_kinBy_49 (by decide) ?_
        exact W.iret (v := -1) hx hb hr (fun t ht hW => ⟨⟨-1, u24, rfl, ⟨trivial, hfr⟩, (show va_P (dC, dI) vwCl (rW cs b u24) t.heap by rw [ht]; exact hP)⟩, hS.F ht⟩) hS.2.2 dX12_kinBy_71
    · refine lv_goto (tgt := 19) hx hb dX12_kinBy_15 (by decide) ?_
      refine lv_istore (lv' := [(4, .int 2), (0, .ref (b 0)), (1, .int x), (2, .int y), (3, .int z)]) hx hb dX12_kinBy_19 hl (by decide) rfl (fun ls hl => ?_)
      refine lv_iload hx hb dX12_kinBy_21 (lv_at hl 0 rfl) ?_
      refine lv_if_ne (tgt := 38) hx hb dX12_kinBy_23 (by decide) (fun c26 => ?_) (fun c26 => absurd c26 (by decide))
      refine lv_iload hx hb dX12_kinBy_38 (lv_at hl 0 rfl) ?_
      refine lv_if_le (tgt := 52) hx hb dX12_kinBy_40 (by decide) (fun c27 => absurd c27 (by decide)) (fun c27 => ?_)
      refine lv_aload_n hx hb dX12_kinBy_43 rfl (lv_at hl 1 rfl) ?_
      refine lv_iload hx hb dX12_kinBy_44 (lv_at hl 0 rfl) ?_
      refine rc_i hAL hS hA (va_runV (As := [.int 2]) (rest := []) ⟨hx, hb, hml, hown, noTs⟩ (r_X12_refuse l dC dI H.size cs b u4 a hA5 2) ⟨cbE 1 (wd_1498 hE) (wd_126 hE) (wd_1495 hE) rfl rfl (by decide +kernel) ⟨Nat.le_of_ble_eq_true rfl, Nat.le_of_ble_eq_true rfl⟩, (wd_1497 hE), (wd_54 hE)⟩ ⟨PR.blind, r_recv hK hP rfl, (r_pre (av := [.ref (b 0), .int 2]) hK hP hJ hE)⟩ rfl rfl hl.1 rfl (lv_room (Nat.le_of_ble_eq_true rfl)) dX12_kinBy_46 ⟨Nat.le_of_ble_eq_true rfl, Nat.le_of_ble_eq_true rfl⟩) (fun r28 u28 H locs hpo28 hP hS => ?_)
      obtain ⟨hr28, hq28⟩ := hpo28
      have hA29 := (hq28.1 1 List.not_mem_nil).trans hA5
      have hfr := FR.step hfr hq28 (fun _ h => absurd h List.not_mem_nil) (by decide) (fun h => rfl)
      subst hr28
      refine lv_goto (tgt := 71) hx hb dX12_kinBy_49 (by decide) ?_
      exact W.iret (v := -1) hx hb hr (fun t ht hW => ⟨⟨-1, u28, rfl, ⟨trivial, hfr⟩, (show va_P (dC, dI) vwCl (rW cs b u28) t.heap by rw [ht]; exact hP)⟩, hS.F ht⟩) hS.2.2 dX12_kinBy_71
    · refine lv_goto (tgt := 19) hx hb dX12_kinBy_15 (by decide) ?_
      refine lv_istore (lv' := [(4, .int 4), (0, .ref (b 0)), (1, .int x), (2, .int y), (3, .int z)]) hx hb dX12_kinBy_19 hl (by decide) rfl (fun ls hl => ?_)
      refine lv_iload hx hb dX12_kinBy_21 (lv_at hl 0 rfl) ?_
      refine lv_if_ne (tgt := 38) hx hb dX12_kinBy_23 (by decide) (fun c30 => ?_) (fun c30 => absurd c30 (by decide))
      refine lv_iload hx hb dX12_kinBy_38 (lv_at hl 0 rfl) ?_
      refine lv_if_le (tgt := 52) hx hb dX12_kinBy_40 (by decide) (fun c31 => absurd c31 (by decide)) (fun c31 => ?_)
      refine lv_aload_n hx hb dX12_kinBy_43 rfl (lv_at hl 1 rfl) ?_
      refine lv_iload hx hb dX12_kinBy_44 (lv_at hl 0 rfl) ?_
      refine rc_i hAL hS hA (va_runV (As := [.int 4]) (rest := []) ⟨hx, hb, hml, hown, noTs⟩ (r_X12_refuse l dC dI H.size cs b u4 a hA5 4) ⟨cbE 1 (wd_1498 hE) (wd_126 hE) (wd_1495 hE) rfl rfl (by decide +kernel) ⟨Nat.le_of_ble_eq_true rfl, Nat.le_of_ble_eq_true rfl⟩, (wd_1497 hE), (wd_54 hE)⟩ ⟨PR.blind, r_recv hK hP rfl, (r_pre (av := [.ref (b 0), .int 4]) hK hP hJ hE)⟩ rfl rfl hl.1 rfl (lv_room (Nat.le_of_ble_eq_true rfl)) dX12_kinBy_46 ⟨Nat.le_of_ble_eq_true rfl, Nat.le_of_ble_eq_true rfl⟩) (fun r32 u32 H locs hpo32 hP hS => ?_)
      obtain ⟨hr32, hq32⟩ := hpo32
      have hA33 := (hq32.1 1 List.not_mem_nil).trans hA5
      have hfr := FR.step hfr hq32 (fun _ h => absurd h List.not_mem_nil) (by decide) (fun h => rfl)
      subst hr32
      refine lv_goto (tgt := 71) hx hb dX12_kinBy_49 (by decide) ?_
      exact W.iret (v := -1) hx hb hr (fun t ht hW => ⟨⟨-1, u32, rfl, ⟨trivial, hfr⟩, (show va_P (dC, dI) vwCl (rW cs b u32) t.heap by rw [ht]; exact hP)⟩, hS.F ht⟩) hS.2.2 dX12_kinBy_71
  · refine lv_if_eq (tgt := 18) hx hb dX12_kinBy_6 (by decide) (fun c34 => ?_) (fun c34 => absurd c34 (by decide))
    refine lv_iconst (v := 1) hx hb dX12_kinBy_18 (by decide) ?_
    refine lv_istore (lv' := [(4, .int 1), (0, .ref (b 0)), (1, .int x), (2, .int y), (3, .int z)]) hx hb dX12_kinBy_19 hl (by decide) rfl (fun ls hl => ?_)
    refine lv_iload hx hb dX12_kinBy_21 (lv_at hl 0 rfl) ?_
    refine lv_if_ne (tgt := 38) hx hb dX12_kinBy_23 (by decide) (fun c35 => ?_) (fun c35 => absurd c35 (by decide))
    refine lv_iload hx hb dX12_kinBy_38 (lv_at hl 0 rfl) ?_
    refine lv_if_le (tgt := 52) hx hb dX12_kinBy_40 (by decide) (fun c36 => absurd c36 (by decide)) (fun c36 => ?_)
    refine lv_aload_n hx hb dX12_kinBy_43 rfl (lv_at hl 1 rfl) ?_
    refine lv_iload hx hb dX12_kinBy_44 (lv_at hl 0 rfl) ?_
    refine rc_i hAL hS hA (va_runV (As := [.int 1]) (rest := []) ⟨hx, hb, hml, hown, noTs⟩ (r_X12_refuse l dC dI s.heap.size cs b u a hA1 1) ⟨cbE 1 (wd_1498 hE) (wd_126 hE) (wd_1495 hE) rfl rfl (by decide +kernel) ⟨Nat.le_of_ble_eq_true rfl, Nat.le_of_ble_eq_true rfl⟩, (wd_1497 hE), (wd_54 hE)⟩ ⟨PR.blind, r_recv hK hP rfl, (r_pre (av := [.ref (b 0), .int 1]) hK hP hJ hE)⟩ rfl rfl hl.1 rfl (lv_room (Nat.le_of_ble_eq_true rfl)) dX12_kinBy_46 ⟨Nat.le_of_ble_eq_true rfl, Nat.le_of_ble_eq_true rfl⟩) (fun r37 u37 H locs hpo37 hP hS => ?_)
    obtain ⟨hr37, hq37⟩ := hpo37
    have hA38 := (hq37.1 1 List.not_mem_nil).trans hA1
    have hfr := FR.step hfr hq37 (fun _ h => absurd h List.not_mem_nil) (by decide) (fun h => rfl)
    subst hr37
    refine lv_goto (tgt := 71) hx hb dX12_kinBy_49 (by decide) ?_
    exact W.iret (v := -1) hx hb hr (fun t ht hW => ⟨⟨-1, u37, rfl, ⟨trivial, hfr⟩, (show va_P (dC, dI) vwCl (rW cs b u37) t.heap by rw [ht]; exact hP)⟩, hS.F ht⟩) hS.2.2 dX12_kinBy_71

set_option maxHeartbeats 4000000 in
set_option maxRecDepth 100000 in
theorem r_X12_kins (l : Launch) (dC : Nat → ClassId) (dI : Nat → Nat → Nat) (sz : Nat) (cs : Nat → ClassId) (b : Nat → Nat) (u : RS) (a : Nat → Int32) (hA1 : rA u 1 = a) (x : Int32) (hp0 : BG a) : Met l yX12_kins [.code yX12_kins cX12_kins 5 (some .int)] ({ frames := 8, cells := 0, slots := 0, locals := 320 }) (PR [.ref (b 0), .int x] sz dC dI cs b u) (va_Qi (fun (r : Int32) (u' : RS) => (True) ∧ FR [3, 4, 5, 6, 7, 8, 9, 10, 11, 12, 13, 14, 17, 18, 19, 20] [1, 5, 21, 22] true u u') (BR dC dI cs b) (AR b sz)) 0 0 (AR b sz) := by
  refine Met.ofW (cc := cX12_kins) (maxL := 5) (ret := (some .int)) (by decide) rfl ?_
  intro p e s m args below meth c s₁ B hml hv
  obtain ⟨rfl, hsz, hP, hK, hJ, hE⟩ := hv
  have hx := B.exec
  have hb := B.bytes
  have hr := B.returns
  have hown : s.vm.findClass RX12 = some m.cls := findClass_of_methodNamed B.named
  have hlocks := B.notSynchronized
  subst hsz
  have hAL : ∀ i, i < 108 → AR b s.heap.size (b i) := fun i h => Or.inl ⟨i, h, rfl⟩
  have hA : ∀ q : Nat, s.heap.size ≤ q → AR b s.heap.size q := fun q h => Or.inr h
  have hS : va_S (AR b s.heap.size) s.heap s.heap [] := va_S.rf
  have hfr : FR [3, 4, 5, 6, 7, 8, 9, 10, 11, 12, 13, 14, 17, 18, 19, 20] [1, 5, 21, 22] true u u := FR.refl
  have hl := lv_entry ([.ref (b 0), .int x]) (n := 5) (Nat.le_of_ble_eq_true rfl)
  rw [lg_entry_eq]
  generalize (lg_sl ([.ref (b 0), .int x]) ++ List.replicate (5 - (lg_sl ([.ref (b 0), .int x])).length) Slot.unset).toArray = ls at hl ⊢
  have hl : lv_has ls 5 [(0, .ref (b 0)), (1, .int x)] := hl
  have hB := hp0
  have hG := bg_g hp0
  have ha1 := gg_le hG
  have ha1b := bg_w hp0
  refine lv_aload_n hx hb dX12_kins_0 rfl (lv_at hl 0 rfl) ?_
  refine lv_iload_n hx hb dX12_kins_1 rfl (lv_at hl 1 rfl) ?_
  refine rc_i hAL hS hA (va_runV (As := [.int x]) (rest := []) ⟨hx, hb, hml, hown, noTs⟩ (r_X12_wrongLoop l dC dI s.heap.size cs b u a hA1 x (by first | assumption | omega | rfl | (congr 1; omega))) ⟨cbE 1 (wd_1781 hE) (wd_126 hE) (wd_1778 hE) rfl rfl (by decide +kernel) ⟨Nat.le_of_ble_eq_true rfl, Nat.le_of_ble_eq_true rfl⟩, (wd_1780 hE), (wd_95 hE)⟩ ⟨PR.blind, r_recv hK hP rfl, (r_pre (av := [.ref (b 0), .int x]) hK hP hJ hE)⟩ rfl rfl hl.1 rfl (lv_room (Nat.le_of_ble_eq_true rfl)) dX12_kins_2 ⟨Nat.le_of_ble_eq_true rfl, Nat.le_of_ble_eq_true rfl⟩) (fun r2 u2 H locs hpo2 hP hS => ?_)
  obtain ⟨hr2, hq2⟩ := hpo2
  have hA3 := (hq2.1 1 (by decide)).trans hA1
  have hfr := FR.step hfr hq2 (by decide) (fun _ h => absurd h List.not_mem_nil) (fun h => rfl)
  rcases hr2 with ⟨rfl, hb2⟩ | ⟨rfl, hb2⟩ | ⟨rfl, hb2⟩
  · obtain ⟨n2, hbe2_1, hb2⟩ := hb2
    subst hbe2_1
    have hti4 := nI_toInt (n := n2) (by omega)
    refine lv_istore_n (lv' := [(2, .int 0), (0, .ref (b 0)), (1, .int (nI n2))]) hx hb dX12_kins_5 rfl hl (by decide) rfl (fun ls hl => ?_)
    refine lv_iload_n hx hb dX12_kins_6 rfl (lv_at hl 0 rfl) ?_
    refine lv_if_le (tgt := 16) hx hb dX12_kins_7 (by decide) (fun c5 => ?_) (fun c5 => absurd c5 (by decide))
    refine lv_iconst (v := 0) hx hb dX12_kins_16 (by decide) ?_
    refine lv_istore_n (lv' := [(3, .int 0), (2, .int 0), (0, .ref (b 0)), (1, .int (nI n2))]) hx hb dX12_kins_17 rfl hl (by decide) rfl (fun ls hl => ?_)
    refine lv_iconst (v := 0) hx hb dX12_kins_18 (by decide) ?_
    refine lv_istore (lv' := [(4, .int 0), (3, .int 0), (2, .int 0), (0, .ref (b 0)), (1, .int (nI n2))]) hx hb dX12_kins_19 hl (by decide) rfl (fun ls hl => ?_)
    refine r_ind (I := fun n u_ H locs ls => va_P (dC, dI) vwCl (rW cs b u_) H ∧ va_S (AR b s.heap.size) s.heap H locs ∧ FR [3, 4, 5, 6, 7, 8, 9, 10, 11, 12, 13, 14, 17, 18, 19, 20] [1, 5, 21, 22] true u u_ ∧ ∃ (k_6 : Nat) (x1_6 : Int32), n = wN a - k_6 ∧ (k_6 ≤ wN a) ∧ lv_has ls 5 [(0, .ref (b 0)), (1, .int (nI n2)), (2, .int 0), (3, .int x1_6), (4, .int (nI k_6))]) (fun n u6 H locs ls hI ih6 => ?_) _ u2 _ _ _ ⟨hP, hS, hfr, 0, 0, rfl, (by first | assumption | omega | rfl | (congr 1; omega)), lv_sub hl [3, 4, 2, 1, 0] rfl⟩
    obtain ⟨hP, hS, hfr, k_6, x1_6, hmu6, hL6_0, hl⟩ := hI
    have hA7 := (hfr.1 1 (by decide)).trans hA1
    subst hmu6
    refine lv_iload hx hb dX12_kins_21 (lv_at hl 4 rfl) ?_
    refine lv_aload_n hx hb dX12_kins_23 rfl (lv_at hl 0 rfl) ?_
    refine lv_iconst (v := 2) hx hb dX12_kins_24 (by decide) ?_
    refine vp_callSi (va_Run.run (va_runV (As := [.int (nI 2)]) (rest := [.int (nI k_6)]) ⟨hx, hb, hml, hown, noTs⟩ (r_X12_of l dC dI H.size cs b u6 a hA7 2 (by first | assumption | omega | rfl | (congr 1; omega))) ⟨cbE 1 (wd_1536 hE) (wd_126 hE) (wd_1533 hE) rfl rfl (by decide +kernel) ⟨Nat.le_of_ble_eq_true rfl, Nat.le_of_ble_eq_true rfl⟩, (wd_1535 hE), (wd_61 hE)⟩ ⟨PR.blind, r_recv hK hP rfl, (r_pre (av := [.ref (b 0), .int (nI 2)]) hK hP hJ hE)⟩ rfl rfl hl.1 rfl (lv_room (Nat.le_of_ble_eq_true rfl)) dX12_kins_25 ⟨Nat.le_of_ble_eq_true rfl, Nat.le_of_ble_eq_true rfl⟩)) (fun r8 hr8 => ?_)
    have hr8 := hr8.trans ((bg_w hB).1)
    subst hr8
    refine lv_icmp_ge (tgt := 67) hx hb dX12_kins_28 (by decide) (fun c9 => ?_) (fun c9 => ?_)
    · have c9 := (b_le (nI_toInt (n := wN a) (by omega)) (nI_toInt (n := k_6) (by omega))).mp c9
      refine lv_aload_n hx hb dX12_kins_67 rfl (lv_at hl 0 rfl) ?_
      refine lv_iload_n hx hb dX12_kins_68 rfl (lv_at hl 3 rfl) ?_
      refine rc_i hAL hS hA (va_runV (As := [.int x1_6]) (rest := []) ⟨hx, hb, hml, hown, noTs⟩ (r_X12_gives l dC dI H.size cs b u6 a hA7 x1_6) ⟨cbE 1 (wd_1621 hE) (wd_126 hE) (wd_1618 hE) rfl rfl (by decide +kernel) ⟨Nat.le_of_ble_eq_true rfl, Nat.le_of_ble_eq_true rfl⟩, (wd_1620 hE), (wd_80 hE)⟩ ⟨PR.blind, r_recv hK hP rfl, (r_pre (av := [.ref (b 0), .int x1_6]) hK hP hJ hE)⟩ rfl rfl hl.1 rfl (lv_room (Nat.le_of_ble_eq_true rfl)) dX12_kins_69 ⟨Nat.le_of_ble_eq_true rfl, Nat.le_of_ble_eq_true rfl⟩) (fun r10 u10 H locs hpo10 hP hS => ?_)
      obtain ⟨hr10, hq10⟩ := hpo10
      have hA11 := (hq10.1 1 List.not_mem_nil).trans hA7
      have hfr := FR.step hfr hq10 (fun _ h => absurd h List.not_mem_nil) (by decide) (fun h => rfl)
      refine W.eq (g2 := F0 m 72 ls [.int x1_6]) (by rw [hr10]) ?_
      exact W.iret (v := x1_6) hx hb hr (fun t ht hW => ⟨⟨x1_6, u10, rfl, ⟨trivial, hfr⟩, (show va_P (dC, dI) vwCl (rW cs b u10) t.heap by rw [ht]; exact hP)⟩, hS.F ht⟩) hS.2.2 dX12_kins_72
    · have c9 := mt (b_le (nI_toInt (n := wN a) (by omega)) (nI_toInt (n := k_6) (by omega))).mpr c9
      refine lv_iload_n hx hb dX12_kins_31 rfl (lv_at hl 3 rfl) ?_
      refine lv_aload_n hx hb dX12_kins_32 rfl (lv_at hl 0 rfl) ?_
      refine lv_iload hx hb dX12_kins_33 (lv_at hl 4 rfl) ?_
      refine rc_i hAL hS hA (va_runV (As := [.int (nI k_6)]) (rest := [.int x1_6]) ⟨hx, hb, hml, hown, noTs⟩ (r_X12_isLoop l dC dI H.size cs b u6 a hA7 k_6 (by first | assumption | omega | rfl | (congr 1; omega)) (by first | assumption | omega | rfl | (congr 1; omega))) ⟨cbE 1 (wd_1725 hE) (wd_126 hE) (wd_1722 hE) rfl rfl (by decide +kernel) ⟨Nat.le_of_ble_eq_true rfl, Nat.le_of_ble_eq_true rfl⟩, (wd_1724 hE), (wd_91 hE)⟩ ⟨PR.blind, r_recv hK hP rfl, (r_pre (av := [.ref (b 0), .int (nI k_6)]) hK hP hJ hE)⟩ rfl rfl hl.1 rfl (lv_room (Nat.le_of_ble_eq_true rfl)) dX12_kins_35 ⟨Nat.le_of_ble_eq_true rfl, Nat.le_of_ble_eq_true rfl⟩) (fun r12 u12 H locs hpo12 hP hS => ?_)
      obtain ⟨hr12, hq12⟩ := hpo12
      have hA13 := (hq12.1 1 (by decide)).trans hA7
      have hfr := FR.step hfr hq12 (by decide) (fun _ h => absurd h List.not_mem_nil) (fun h => rfl)
      rcases hr12 with ⟨rfl, hb12⟩ | ⟨rfl, hb12⟩
      · refine lv_if_eq (tgt := 58) hx hb dX12_kins_38 (by decide) (fun c14 => absurd c14 (by decide)) (fun c14 => ?_)
        refine lv_aload_n hx hb dX12_kins_41 rfl (lv_at hl 0 rfl) ?_
        refine lv_iload_n hx hb dX12_kins_42 rfl (lv_at hl 1 rfl) ?_
        refine lv_iload hx hb dX12_kins_43 (lv_at hl 4 rfl) ?_
        refine rc_i hAL hS hA (va_runV (As := [.int (nI n2), .int (nI k_6)]) (rest := [.int x1_6]) ⟨hx, hb, hml, hown, noTs⟩ (r_X12_areKin l dC dI H.size cs b u12 a hA13 n2 k_6 (by first | assumption | omega | rfl | (congr 1; omega)) (by first | assumption | omega | rfl | (congr 1; omega)) (by first | assumption | omega | rfl | (congr 1; omega)) (by first | assumption | omega | rfl | (congr 1; omega)) (by first | assumption | omega | rfl | (congr 1; omega))) ⟨cbE 2 (wd_1804 hE) (wd_126 hE) (wd_1801 hE) rfl rfl (by decide +kernel) ⟨Nat.le_of_ble_eq_true rfl, Nat.le_of_ble_eq_true rfl⟩, (wd_1803 hE), (wd_98 hE)⟩ ⟨PR.blind, r_recv hK hP rfl, (r_pre (av := [.ref (b 0), .int (nI n2), .int (nI k_6)]) hK hP hJ hE)⟩ rfl rfl hl.1 rfl (lv_room (Nat.le_of_ble_eq_true rfl)) dX12_kins_45 ⟨Nat.le_of_ble_eq_true rfl, Nat.le_of_ble_eq_true rfl⟩) (fun r15 u15 H locs hpo15 hP hS => ?_)
        obtain ⟨hr15, hq15⟩ := hpo15
        have hA16 := (hq15.1 1 (by decide)).trans hA13
        have hfr := FR.step hfr hq15 (by decide) (by decide) (fun h => rfl)
        rcases hr15 with ⟨rfl, hb15⟩ | ⟨rfl, hb15⟩
        · refine lv_if_eq (tgt := 58) hx hb dX12_kins_48 (by decide) (fun c17 => absurd c17 (by decide)) (fun c17 => ?_)
          refine lv_iconst (v := 1) hx hb dX12_kins_51 (by decide) ?_
          refine lv_iload hx hb dX12_kins_52 (lv_at hl 4 rfl) ?_
          refine lv_ishl hx hb dX12_kins_54 ?_
          refine lv_topi (fun x18 ex18 => ?_)
          refine lv_goto (tgt := 59) hx hb dX12_kins_55 (by decide) ?_
          refine lv_ior hx hb dX12_kins_59 ?_
          refine lv_topi (fun x19 ex19 => ?_)
          refine lv_istore_n (lv' := [(3, .int x19), (0, .ref (b 0)), (1, .int (nI n2)), (2, .int 0), (4, .int (nI k_6))]) hx hb dX12_kins_60 rfl hl (by decide) rfl (fun ls hl => ?_)
          refine lv_iinc (v := nI (k_6 + 1)) (lv' := [(4, .int (nI (k_6 + 1))), (3, .int x19), (0, .ref (b 0)), (1, .int (nI n2)), (2, .int 0)]) hx hb dX12_kins_61 hl (k := 4) rfl (nI_1 k_6) (by decide) rfl (fun ls hl => ?_)
          refine lv_goto (tgt := 21) hx hb dX12_kins_64 (by decide) ?_
          exact ih6 _ u15 _ _ _ (by omega) ⟨hP, hS, hfr, (k_6 + 1), x19, rfl, (by first | assumption | omega | rfl | (congr 1; omega)), lv_sub hl [2, 3, 4, 1, 0] rfl⟩
        · refine lv_if_eq (tgt := 58) hx hb dX12_kins_48 (by decide) (fun c20 => ?_) (fun c20 => absurd c20 (by decide))
          refine lv_iconst (v := 0) hx hb dX12_kins_58 (by decide) ?_
          refine lv_ior hx hb dX12_kins_59 ?_
          refine lv_topi (fun x21 ex21 => ?_)
          refine lv_istore_n (lv' := [(3, .int x21), (0, .ref (b 0)), (1, .int (nI n2)), (2, .int 0), (4, .int (nI k_6))]) hx hb dX12_kins_60 rfl hl (by decide) rfl (fun ls hl => ?_)
          refine lv_iinc (v := nI (k_6 + 1)) (lv' := [(4, .int (nI (k_6 + 1))), (3, .int x21), (0, .ref (b 0)), (1, .int (nI n2)), (2, .int 0)]) hx hb dX12_kins_61 hl (k := 4) rfl (nI_1 k_6) (by decide) rfl (fun ls hl => ?_)
          refine lv_goto (tgt := 21) hx hb dX12_kins_64 (by decide) ?_
          exact ih6 _ u15 _ _ _ (by omega) ⟨hP, hS, hfr, (k_6 + 1), x21, rfl, (by first | assumption | omega | rfl | (congr 1; omega)), lv_sub hl [2, 3, 4, 1, 0] rfl⟩
      · refine lv_if_eq (tgt := 58) hx hb dX12_kins_38 (by decide) (fun c22 => ?_) (fun c22 => absurd c22 (by decide))
        refine lv_iconst (v := 0) hx hb dX12_kins_58 (by decide) ?_
        refine lv_ior hx hb dX12_kins_59 ?_
        refine lv_topi (fun x23 ex23 => ?_)
        refine lv_istore_n (lv' := [(3, .int x23), (0, .ref (b 0)), (1, .int (nI n2)), (2, .int 0), (4, .int (nI k_6))]) hx hb dX12_kins_60 rfl hl (by decide) rfl (fun ls hl => ?_)
        refine lv_iinc (v := nI (k_6 + 1)) (lv' := [(4, .int (nI (k_6 + 1))), (3, .int x23), (0, .ref (b 0)), (1, .int (nI n2)), (2, .int 0)]) hx hb dX12_kins_61 hl (k := 4) rfl (nI_1 k_6) (by decide) rfl (fun ls hl => ?_)
        refine lv_goto (tgt := 21) hx hb dX12_kins_64 (by decide) ?_
        exact ih6 _ u12 _ _ _ (by omega) ⟨hP, hS, hfr, (k_6 + 1), x23, rfl, (by first | assumption | omega | rfl | (congr 1; omega)), lv_sub hl [2, 3, 4, 1, 0] rfl⟩
  · refine lv_istore_n (lv' := [(2, .int 2), (0, .ref (b 0)), (1, .int x)]) hx hb dX12_kins_5 rfl hl (by decide) rfl (fun ls hl => ?_)
    refine lv_iload_n hx hb dX12_kins_6 rfl (lv_at hl 0 rfl) ?_
    refine lv_if_le (tgt := 16) hx hb dX12_kins_7 (by decide) (fun c24 => absurd c24 (by decide)) (fun c24 => ?_)
    refine lv_aload_n hx hb dX12_kins_10 rfl (lv_at hl 1 rfl) ?_
    refine lv_iload_n hx hb dX12_kins_11 rfl (lv_at hl 0 rfl) ?_
    refine rc_i hAL hS hA (va_runV (As := [.int 2]) (rest := []) ⟨hx, hb, hml, hown, noTs⟩ (r_X12_refuse l dC dI H.size cs b u2 a hA3 2) ⟨cbE 1 (wd_1498 hE) (wd_126 hE) (wd_1495 hE) rfl rfl (by decide +kernel) ⟨Nat.le_of_ble_eq_true rfl, Nat.le_of_ble_eq_true rfl⟩, (wd_1497 hE), (wd_54 hE)⟩ ⟨PR.blind, r_recv hK hP rfl, (r_pre (av := [.ref (b 0), .int 2]) hK hP hJ hE)⟩ rfl rfl hl.1 rfl (lv_room (Nat.le_of_ble_eq_true rfl)) dX12_kins_12 ⟨Nat.le_of_ble_eq_true rfl, Nat.le_of_ble_eq_true rfl⟩) (fun r25 u25 H locs hpo25 hP hS => ?_)
    obtain ⟨hr25, hq25⟩ := hpo25
    have hA26 := (hq25.1 1 List.not_mem_nil).trans hA3
    have hfr := FR.step hfr hq25 (fun _ h => absurd h List.not_mem_nil) (by decide) (fun h => rfl)
    subst hr25
    exact W.iret (v := -1) hx hb hr (fun t ht hW => ⟨⟨-1, u25, rfl, ⟨trivial, hfr⟩, (show va_P (dC, dI) vwCl (rW cs b u25) t.heap by rw [ht]; exact hP)⟩, hS.F ht⟩) hS.2.2 dX12_kins_15
  · refine lv_istore_n (lv' := [(2, .int 4), (0, .ref (b 0)), (1, .int x)]) hx hb dX12_kins_5 rfl hl (by decide) rfl (fun ls hl => ?_)
    refine lv_iload_n hx hb dX12_kins_6 rfl (lv_at hl 0 rfl) ?_
    refine lv_if_le (tgt := 16) hx hb dX12_kins_7 (by decide) (fun c27 => absurd c27 (by decide)) (fun c27 => ?_)
    refine lv_aload_n hx hb dX12_kins_10 rfl (lv_at hl 1 rfl) ?_
    refine lv_iload_n hx hb dX12_kins_11 rfl (lv_at hl 0 rfl) ?_
    refine rc_i hAL hS hA (va_runV (As := [.int 4]) (rest := []) ⟨hx, hb, hml, hown, noTs⟩ (r_X12_refuse l dC dI H.size cs b u2 a hA3 4) ⟨cbE 1 (wd_1498 hE) (wd_126 hE) (wd_1495 hE) rfl rfl (by decide +kernel) ⟨Nat.le_of_ble_eq_true rfl, Nat.le_of_ble_eq_true rfl⟩, (wd_1497 hE), (wd_54 hE)⟩ ⟨PR.blind, r_recv hK hP rfl, (r_pre (av := [.ref (b 0), .int 4]) hK hP hJ hE)⟩ rfl rfl hl.1 rfl (lv_room (Nat.le_of_ble_eq_true rfl)) dX12_kins_12 ⟨Nat.le_of_ble_eq_true rfl, Nat.le_of_ble_eq_true rfl⟩) (fun r28 u28 H locs hpo28 hP hS => ?_)
    obtain ⟨hr28, hq28⟩ := hpo28
    have hA29 := (hq28.1 1 List.not_mem_nil).trans hA3
    have hfr := FR.step hfr hq28 (fun _ h => absurd h List.not_mem_nil) (by decide) (fun h => rfl)
    subst hr28
    exact W.iret (v := -1) hx hb hr (fun t ht hW => ⟨⟨-1, u28, rfl, ⟨trivial, hfr⟩, (show va_P (dC, dI) vwCl (rW cs b u28) t.heap by rw [ht]; exact hP)⟩, hS.F ht⟩) hS.2.2 dX12_kins_15

set_option maxHeartbeats 4000000 in
set_option maxRecDepth 100000 in
theorem r_X12_net (l : Launch) (dC : Nat → ClassId) (dI : Nat → Nat → Nat) (sz : Nat) (cs : Nat → ClassId) (b : Nat → Nat) (u : RS) (a : Nat → Int32) (hA1 : rA u 1 = a) (x : Int32) (y : Int32) (hp0 : BG a) : Met l yX12_net [.code yX12_net cX12_net 5 (some .int)] ({ frames := 2, cells := 0, slots := 0, locals := 80 }) (PR [.ref (b 0), .int x, .int y] sz dC dI cs b u) (va_Qi (fun (r : Int32) (u' : RS) => (True) ∧ FR [3, 4, 5, 6, 7, 8, 9, 10, 11, 12, 13, 14, 17, 18, 19, 20] [1, 5, 21, 22] true u u') (BR dC dI cs b) (AR b sz)) 0 0 (AR b sz) := by
  refine Met.ofW (cc := cX12_net) (maxL := 5) (ret := (some .int)) (by decide) rfl ?_
  intro p e s m args below meth c s₁ B hml hv
  obtain ⟨rfl, hsz, hP, hK, hJ, hE⟩ := hv
  have hx := B.exec
  have hb := B.bytes
  have hr := B.returns
  have hown : s.vm.findClass RX12 = some m.cls := findClass_of_methodNamed B.named
  have hlocks := B.notSynchronized
  subst hsz
  have hAL : ∀ i, i < 108 → AR b s.heap.size (b i) := fun i h => Or.inl ⟨i, h, rfl⟩
  have hA : ∀ q : Nat, s.heap.size ≤ q → AR b s.heap.size q := fun q h => Or.inr h
  have hS : va_S (AR b s.heap.size) s.heap s.heap [] := va_S.rf
  have hfr : FR [3, 4, 5, 6, 7, 8, 9, 10, 11, 12, 13, 14, 17, 18, 19, 20] [1, 5, 21, 22] true u u := FR.refl
  have hl := lv_entry ([.ref (b 0), .int x, .int y]) (n := 5) (Nat.le_of_ble_eq_true rfl)
  rw [lg_entry_eq]
  generalize (lg_sl ([.ref (b 0), .int x, .int y]) ++ List.replicate (5 - (lg_sl ([.ref (b 0), .int x, .int y])).length) Slot.unset).toArray = ls at hl ⊢
  have hl : lv_has ls 5 [(0, .ref (b 0)), (1, .int x), (2, .int y)] := hl
  have hB := hp0
  have hG := bg_g hp0
  have ha1 := gg_le hG
  have ha1b := bg_w hp0
  refine lv_aload_n hx hb dX12_net_0 rfl (lv_at hl 0 rfl) ?_
  refine lv_iload_n hx hb dX12_net_1 rfl (lv_at hl 1 rfl) ?_
  refine vp_callSi (va_Run.run (va_runV (As := [.int x]) (rest := []) ⟨hx, hb, hml, hown, noTs⟩ (r_X12_isWord l dC dI s.heap.size cs b u a hA1 x (by first | assumption | omega | rfl | (congr 1; omega))) ⟨cbE 1 (wd_1653 hE) (wd_126 hE) (wd_1650 hE) rfl rfl (by decide +kernel) ⟨Nat.le_of_ble_eq_true rfl, Nat.le_of_ble_eq_true rfl⟩, (wd_1652 hE), (wd_83 hE)⟩ ⟨PR.blind, r_recv hK hP rfl, (r_pre (av := [.ref (b 0), .int x]) hK hP hJ hE)⟩ rfl rfl hl.1 rfl (lv_room (Nat.le_of_ble_eq_true rfl)) dX12_net_2 ⟨Nat.le_of_ble_eq_true rfl, Nat.le_of_ble_eq_true rfl⟩)) (fun r2 hr2 => ?_)
  rcases hr2 with ⟨rfl, hb2⟩ | ⟨rfl, hb2⟩
  · obtain ⟨n2, hbe2_1, hb2⟩ := hb2
    subst hbe2_1
    have hti3 := nI_toInt (n := n2) (by omega)
    refine lv_if_eq (tgt := 16) hx hb dX12_net_5 (by decide) (fun c4 => absurd c4 (by decide)) (fun c4 => ?_)
    refine lv_aload_n hx hb dX12_net_8 rfl (lv_at hl 0 rfl) ?_
    refine lv_iload_n hx hb dX12_net_9 rfl (lv_at hl 2 rfl) ?_
    refine vp_callSi (va_Run.run (va_runV (As := [.int y]) (rest := []) ⟨hx, hb, hml, hown, noTs⟩ (r_X12_isEdge l dC dI s.heap.size cs b u a hA1 y (by first | assumption | omega | rfl | (congr 1; omega))) ⟨cbE 1 (wd_1587 hE) (wd_126 hE) (wd_1584 hE) rfl rfl (by decide +kernel) ⟨Nat.le_of_ble_eq_true rfl, Nat.le_of_ble_eq_true rfl⟩, (wd_1586 hE), (wd_73 hE)⟩ ⟨PR.blind, r_recv hK hP rfl, (r_pre (av := [.ref (b 0), .int y]) hK hP hJ hE)⟩ rfl rfl hl.1 rfl (lv_room (Nat.le_of_ble_eq_true rfl)) dX12_net_10 ⟨Nat.le_of_ble_eq_true rfl, Nat.le_of_ble_eq_true rfl⟩)) (fun r5 hr5 => ?_)
    rcases hr5 with ⟨rfl, hb5⟩ | ⟨rfl, hb5⟩
    · obtain ⟨n5, hbe5_1, hb5⟩ := hb5
      subst hbe5_1
      have hti6 := nI_toInt (n := n5) (by omega)
      refine lv_if_ne (tgt := 22) hx hb dX12_net_13 (by decide) (fun c7 => ?_) (fun c7 => absurd c7 (by decide))
      refine lv_iconst (v := 0) hx hb dX12_net_22 (by decide) ?_
      refine lv_istore_n (lv' := [(3, .int 0), (0, .ref (b 0)), (1, .int (nI n2)), (2, .int (nI n5))]) hx hb dX12_net_23 rfl hl (by decide) rfl (fun ls hl => ?_)
      refine lv_aload_n hx hb dX12_net_24 rfl (lv_at hl 1 rfl) ?_
      refine lv_iload_n hx hb dX12_net_25 rfl (lv_at hl 2 rfl) ?_
      refine lv_aload_n hx hb dX12_net_26 rfl (lv_at hl 1 rfl) ?_
      refine r_get (v := .ref (b 2)) hx hb (ly_X12 hE) hown hK hP rfl 4 (by decide) (wd_1385 hE) (fun _ h9 => h9) rfl dX12_net_27 ?_
      refine lv_iconst (v := 0) hx hb dX12_net_30 (by decide) ?_
      refine r_aald (j := 2) (k := 0) (n := 10) (t0 := 4) (j2 := 3) hx hb hK hP (by decide) rfl rfl (by decide) (by decide) rfl dX12_net_31 ?_
      obtain ⟨g8, hg8⟩ : ∃ g, rA u 3 = g := ⟨_, rfl⟩
      refine rc_v hAL hS hA (va_runV (As := [.int (nI n2), .ref (b 3)]) (rest := []) ⟨hx, hb, hml, hown, noTs⟩ (r_X12_takes l dC dI s.heap.size cs b u a hA1 n2 3 (by decide) g8 hg8 (by first | assumption | omega | rfl | (congr 1; omega)) (by first | assumption | omega | rfl | (congr 1; omega))) ⟨cbE 2 (wd_1657 hE) (wd_126 hE) (wd_1654 hE) rfl rfl (by decide +kernel) ⟨Nat.le_of_ble_eq_true rfl, Nat.le_of_ble_eq_true rfl⟩, (wd_1656 hE), (wd_84 hE)⟩ ⟨PR.blind, r_recv hK hP rfl, (r_pre (av := [.ref (b 0), .int (nI n2), .ref (b 3)]) hK hP hJ hE)⟩ rfl rfl hl.1 rfl (lv_room (Nat.le_of_ble_eq_true rfl)) dX12_net_32 ⟨Nat.le_of_ble_eq_true rfl, Nat.le_of_ble_eq_true rfl⟩) (fun u9 H locs hpo9 hP hS => ?_)
      obtain ⟨h9_0, h9_1, h9_2, h9_3, h9_4, h9_5, hq9⟩ := hpo9
      obtain ⟨w10, hA10⟩ : ∃ g, rA u9 3 = g := ⟨_, rfl⟩
      rw [hA10] at h9_0 h9_1 h9_2 h9_3 h9_4 h9_5
      have hA11 := (hq9.1 1 (by decide)).trans hA1
      have hfr := FR.step hfr hq9 (by decide) (fun _ h => absurd h List.not_mem_nil) (fun h => rfl)
      have hl9_0 := pg_le h9_0
      refine lv_iconst (v := 0) hx hb dX12_net_35 (by decide) ?_
      refine lv_istore (lv' := [(4, .int 0), (3, .int 0), (0, .ref (b 0)), (1, .int (nI n2)), (2, .int (nI n5))]) hx hb dX12_net_36 hl (by decide) rfl (fun ls hl => ?_)
      refine r_ind (I := fun n u_ H locs ls => va_P (dC, dI) vwCl (rW cs b u_) H ∧ va_S (AR b s.heap.size) s.heap H locs ∧ FR [3, 4, 5, 6, 7, 8, 9, 10, 11, 12, 13, 14, 17, 18, 19, 20] [1, 5, 21, 22] true u u_ ∧ ∃ (k_12 : Nat) (x1_12 : Int32), n = rn w10 - k_12 ∧ (k_12 ≤ rn w10) ∧ (rA u_ 3 = w10) ∧ lv_has ls 5 [(0, .ref (b 0)), (1, .int (nI n2)), (2, .int (nI n5)), (3, .int x1_12), (4, .int (nI k_12))]) (fun n u12 H locs ls hI ih12 => ?_) _ u9 _ _ _ ⟨hP, hS, hfr, 0, 0, rfl, (by first | assumption | omega | rfl | (congr 1; omega)), hA10, lv_sub hl [2, 3, 4, 1, 0] rfl⟩
      obtain ⟨hP, hS, hfr, k_12, x1_12, hmu12, hL12_0, hL12_1, hl⟩ := hI
      have hA13 := (hfr.1 1 (by decide)).trans hA1
      subst hmu12
      refine lv_iload hx hb dX12_net_38 (lv_at hl 4 rfl) ?_
      refine lv_aload_n hx hb dX12_net_40 rfl (lv_at hl 0 rfl) ?_
      refine r_get (v := .ref (b 2)) hx hb (ly_X12 hE) hown hK hP rfl 4 (by decide) (wd_1385 hE) (fun _ h9 => h9) rfl dX12_net_41 ?_
      refine lv_iconst (v := 0) hx hb dX12_net_44 (by decide) ?_
      refine r_aald (j := 2) (k := 0) (n := 10) (t0 := 4) (j2 := 3) hx hb hK hP (by decide) rfl rfl (by decide) (by decide) rfl dX12_net_45 ?_
      refine lv_iconst (v := 1) hx hb dX12_net_46 (by decide) ?_
      refine r_iald (j := 3) (k := 1) (n := 200) (x := nI (rn w10)) hx hb hK hP (by decide) rfl (by decide) (by decide) (by rw [hL12_1]; exact pg_n h9_0) dX12_net_47 ?_
      refine lv_icmp_ge (tgt := 102) hx hb dX12_net_48 (by decide) (fun c15 => ?_) (fun c15 => ?_)
      · have c15 := (b_le (nI_toInt (n := rn w10) (by omega)) (nI_toInt (n := k_12) (by omega))).mp c15
        refine lv_aload_n hx hb dX12_net_102 rfl (lv_at hl 0 rfl) ?_
        refine lv_iload_n hx hb dX12_net_103 rfl (lv_at hl 3 rfl) ?_
        refine rc_i hAL hS hA (va_runV (As := [.int x1_12]) (rest := []) ⟨hx, hb, hml, hown, noTs⟩ (r_X12_gives l dC dI H.size cs b u12 a hA13 x1_12) ⟨cbE 1 (wd_1621 hE) (wd_126 hE) (wd_1618 hE) rfl rfl (by decide +kernel) ⟨Nat.le_of_ble_eq_true rfl, Nat.le_of_ble_eq_true rfl⟩, (wd_1620 hE), (wd_80 hE)⟩ ⟨PR.blind, r_recv hK hP rfl, (r_pre (av := [.ref (b 0), .int x1_12]) hK hP hJ hE)⟩ rfl rfl hl.1 rfl (lv_room (Nat.le_of_ble_eq_true rfl)) dX12_net_104 ⟨Nat.le_of_ble_eq_true rfl, Nat.le_of_ble_eq_true rfl⟩) (fun r16 u16 H locs hpo16 hP hS => ?_)
        obtain ⟨hr16, hq16⟩ := hpo16
        have hA17 := (hq16.1 1 List.not_mem_nil).trans hA13
        have hA18 := (hq16.1 3 List.not_mem_nil).trans hL12_1
        have hfr := FR.step hfr hq16 (fun _ h => absurd h List.not_mem_nil) (by decide) (fun h => rfl)
        refine W.eq (g2 := F0 m 107 ls [.int x1_12]) (by rw [hr16]) ?_
        exact W.iret (v := x1_12) hx hb hr (fun t ht hW => ⟨⟨x1_12, u16, rfl, ⟨trivial, hfr⟩, (show va_P (dC, dI) vwCl (rW cs b u16) t.heap by rw [ht]; exact hP)⟩, hS.F ht⟩) hS.2.2 dX12_net_107
      · have c15 := mt (b_le (nI_toInt (n := rn w10) (by omega)) (nI_toInt (n := k_12) (by omega))).mpr c15
        refine lv_iload_n hx hb dX12_net_51 rfl (lv_at hl 3 rfl) ?_
        refine lv_aload_n hx hb dX12_net_52 rfl (lv_at hl 0 rfl) ?_
        refine r_get (v := .ref (b 2)) hx hb (ly_X12 hE) hown hK hP rfl 4 (by decide) (wd_1385 hE) (fun _ h9 => h9) rfl dX12_net_53 ?_
        refine lv_iconst (v := 0) hx hb dX12_net_56 (by decide) ?_
        refine r_aald (j := 2) (k := 0) (n := 10) (t0 := 4) (j2 := 3) hx hb hK hP (by decide) rfl rfl (by decide) (by decide) rfl dX12_net_57 ?_
        refine lv_iload hx hb dX12_net_58 (lv_at hl 4 rfl) ?_
        refine vp_callSi (va_Run.run (va_runS (As := [.ref (b 3), .int (nI k_12)]) (rest := [.int x1_12]) ⟨hx, hb, hml, hown, noTs⟩ (r_X12_step l dC dI H.size cs b u12 a hA13 3 (by decide) w10 hL12_1 k_12 (by first | assumption | omega | rfl | (congr 1; omega)) (by first | assumption | omega | rfl | (congr 1; omega))) ⟨cbE 2 (wd_1602 hE) (wd_126 hE) (wd_1600 hE) rfl rfl (by decide +kernel) ⟨Nat.le_of_ble_eq_true rfl, Nat.le_of_ble_eq_true rfl⟩, (wd_1601 hE)⟩ ⟨PR.blind, (r_pre (av := [.ref (b 3), .int (nI k_12)]) hK hP hJ hE)⟩ rfl rfl hl.1 rfl (lv_room (Nat.le_of_ble_eq_true rfl)) dX12_net_60 ⟨Nat.le_of_ble_eq_true rfl, Nat.le_of_ble_eq_true rfl⟩)) (fun r19 hr19 => ?_)
        have hau19 := pg_sl (a := a) (w := w10) (i := k_12) (by assumption) (by first | assumption | omega)
        subst hr19
        refine lv_iconst (v := 2) hx hb dX12_net_63 (by decide) ?_
        refine lv_idiv hx hb dX12_net_64 (by decide) ?_
        refine W.eq (g2 := F0 m 65 ls [.int (nI ((rs w10 k_12) / 2)), .int x1_12]) (congrArg (fun z : Int32 => F0 m 65 ls (.int z :: [.int x1_12])) (pk_div (a := rs w10 k_12) (d := 2) (by omega) (by omega) (by omega))) ?_
        refine lv_iload_n hx hb dX12_net_65 rfl (lv_at hl 2 rfl) ?_
        refine lv_icmp_eq (tgt := 73) hx hb dX12_net_66 (by decide) (fun c20 => ?_) (fun c20 => ?_)
        · have c20 := (b_eq (nI_toInt (n := (rs w10 k_12) / 2) (by omega)) (nI_toInt (n := n5) (by omega))).mp c20
          refine lv_aload_n hx hb dX12_net_73 rfl (lv_at hl 0 rfl) ?_
          refine r_get (v := .ref (b 2)) hx hb (ly_X12 hE) hown hK hP rfl 4 (by decide) (wd_1385 hE) (fun _ h9 => h9) rfl dX12_net_74 ?_
          refine lv_iconst (v := 0) hx hb dX12_net_77 (by decide) ?_
          refine r_aald (j := 2) (k := 0) (n := 10) (t0 := 4) (j2 := 3) hx hb hK hP (by decide) rfl rfl (by decide) (by decide) rfl dX12_net_78 ?_
          refine lv_iload hx hb dX12_net_79 (lv_at hl 4 rfl) ?_
          refine vp_callSi (va_Run.run (va_runS (As := [.ref (b 3), .int (nI k_12)]) (rest := [.int x1_12]) ⟨hx, hb, hml, hown, noTs⟩ (r_X12_step l dC dI H.size cs b u12 a hA13 3 (by decide) w10 hL12_1 k_12 (by first | assumption | omega | rfl | (congr 1; omega)) (by first | assumption | omega | rfl | (congr 1; omega))) ⟨cbE 2 (wd_1602 hE) (wd_126 hE) (wd_1600 hE) rfl rfl (by decide +kernel) ⟨Nat.le_of_ble_eq_true rfl, Nat.le_of_ble_eq_true rfl⟩, (wd_1601 hE)⟩ ⟨PR.blind, (r_pre (av := [.ref (b 3), .int (nI k_12)]) hK hP hJ hE)⟩ rfl rfl hl.1 rfl (lv_room (Nat.le_of_ble_eq_true rfl)) dX12_net_81 ⟨Nat.le_of_ble_eq_true rfl, Nat.le_of_ble_eq_true rfl⟩)) (fun r21 hr21 => ?_)
          have hau21 := pg_sl (a := a) (w := w10) (i := k_12) (by assumption) (by first | assumption | omega)
          subst hr21
          refine lv_iconst (v := 2) hx hb dX12_net_84 (by decide) ?_
          refine lv_irem hx hb dX12_net_85 (by decide) ?_
          refine W.eq (g2 := F0 m 86 ls [.int (nI ((rs w10 k_12) % 2)), .int x1_12]) (congrArg (fun z : Int32 => F0 m 86 ls (.int z :: [.int x1_12])) (pk_rem (a := rs w10 k_12) (d := 2) (by omega) (by omega) (by omega))) ?_
          refine lv_if_ne (tgt := 93) hx hb dX12_net_86 (by decide) (fun c22 => ?_) (fun c22 => ?_)
          · have c22 := mt (b_eq (nI_toInt (n := (rs w10 k_12) % 2) (by omega)) (show Int32.toInt 0 = 0 from rfl)).mpr c22
            refine lv_iconst (v := -1) hx hb dX12_net_93 (by decide) ?_
            refine lv_iadd hx hb dX12_net_94 ?_
            refine lv_topi (fun x23 ex23 => ?_)
            refine lv_istore_n (lv' := [(3, .int x23), (0, .ref (b 0)), (1, .int (nI n2)), (2, .int (nI n5)), (4, .int (nI k_12))]) hx hb dX12_net_95 rfl hl (by decide) rfl (fun ls hl => ?_)
            refine lv_iinc (v := nI (k_12 + 1)) (lv' := [(4, .int (nI (k_12 + 1))), (3, .int x23), (0, .ref (b 0)), (1, .int (nI n2)), (2, .int (nI n5))]) hx hb dX12_net_96 hl (k := 4) rfl (nI_1 k_12) (by decide) rfl (fun ls hl => ?_)
            refine lv_goto (tgt := 38) hx hb dX12_net_99 (by decide) ?_
            exact ih12 _ u12 _ _ _ (by omega) ⟨hP, hS, hfr, (k_12 + 1), x23, rfl, (by first | assumption | omega | rfl | (congr 1; omega)), hL12_1, lv_sub hl [2, 3, 4, 1, 0] rfl⟩
          · have c22 := (b_eq (nI_toInt (n := (rs w10 k_12) % 2) (by omega)) (show Int32.toInt 0 = 0 from rfl)).mp c22
            refine lv_iconst (v := 1) hx hb dX12_net_89 (by decide) ?_
            refine lv_goto (tgt := 94) hx hb dX12_net_90 (by decide) ?_
            refine lv_iadd hx hb dX12_net_94 ?_
            refine lv_topi (fun x24 ex24 => ?_)
            refine lv_istore_n (lv' := [(3, .int x24), (0, .ref (b 0)), (1, .int (nI n2)), (2, .int (nI n5)), (4, .int (nI k_12))]) hx hb dX12_net_95 rfl hl (by decide) rfl (fun ls hl => ?_)
            refine lv_iinc (v := nI (k_12 + 1)) (lv' := [(4, .int (nI (k_12 + 1))), (3, .int x24), (0, .ref (b 0)), (1, .int (nI n2)), (2, .int (nI n5))]) hx hb dX12_net_96 hl (k := 4) rfl (nI_1 k_12) (by decide) rfl (fun ls hl => ?_)
            refine lv_goto (tgt := 38) hx hb dX12_net_99 (by decide) ?_
            exact ih12 _ u12 _ _ _ (by omega) ⟨hP, hS, hfr, (k_12 + 1), x24, rfl, (by first | assumption | omega | rfl | (congr 1; omega)), hL12_1, lv_sub hl [2, 3, 4, 1, 0] rfl⟩
        · have c20 := mt (b_eq (nI_toInt (n := (rs w10 k_12) / 2) (by omega)) (nI_toInt (n := n5) (by omega))).mpr c20
          refine lv_iconst (v := 0) hx hb dX12_net_69 (by decide) ?_
          refine lv_goto (tgt := 94) hx hb dX12_net_70 (by decide) ?_
          refine lv_iadd hx hb dX12_net_94 ?_
          refine lv_topi (fun x25 ex25 => ?_)
          refine lv_istore_n (lv' := [(3, .int x25), (0, .ref (b 0)), (1, .int (nI n2)), (2, .int (nI n5)), (4, .int (nI k_12))]) hx hb dX12_net_95 rfl hl (by decide) rfl (fun ls hl => ?_)
          refine lv_iinc (v := nI (k_12 + 1)) (lv' := [(4, .int (nI (k_12 + 1))), (3, .int x25), (0, .ref (b 0)), (1, .int (nI n2)), (2, .int (nI n5))]) hx hb dX12_net_96 hl (k := 4) rfl (nI_1 k_12) (by decide) rfl (fun ls hl => ?_)
          refine lv_goto (tgt := 38) hx hb dX12_net_99 (by decide) ?_
          exact ih12 _ u12 _ _ _ (by omega) ⟨hP, hS, hfr, (k_12 + 1), x25, rfl, (by first | assumption | omega | rfl | (congr 1; omega)), hL12_1, lv_sub hl [2, 3, 4, 1, 0] rfl⟩
    · refine lv_if_ne (tgt := 22) hx hb dX12_net_13 (by decide) (fun c26 => absurd c26 (by decide)) (fun c26 => ?_)
      refine lv_aload_n hx hb dX12_net_16 rfl (lv_at hl 0 rfl) ?_
      refine lv_iconst (v := 2) hx hb dX12_net_17 (by decide) ?_
      refine rc_i hAL hS hA (va_runV (As := [.int 2]) (rest := []) ⟨hx, hb, hml, hown, noTs⟩ (r_X12_refuse l dC dI s.heap.size cs b u a hA1 2) ⟨cbE 1 (wd_1498 hE) (wd_126 hE) (wd_1495 hE) rfl rfl (by decide +kernel) ⟨Nat.le_of_ble_eq_true rfl, Nat.le_of_ble_eq_true rfl⟩, (wd_1497 hE), (wd_54 hE)⟩ ⟨PR.blind, r_recv hK hP rfl, (r_pre (av := [.ref (b 0), .int 2]) hK hP hJ hE)⟩ rfl rfl hl.1 rfl (lv_room (Nat.le_of_ble_eq_true rfl)) dX12_net_18 ⟨Nat.le_of_ble_eq_true rfl, Nat.le_of_ble_eq_true rfl⟩) (fun r27 u27 H locs hpo27 hP hS => ?_)
      obtain ⟨hr27, hq27⟩ := hpo27
      have hA28 := (hq27.1 1 List.not_mem_nil).trans hA1
      have hfr := FR.step hfr hq27 (fun _ h => absurd h List.not_mem_nil) (by decide) (fun h => rfl)
      subst hr27
      exact W.iret (v := -1) hx hb hr (fun t ht hW => ⟨⟨-1, u27, rfl, ⟨trivial, hfr⟩, (show va_P (dC, dI) vwCl (rW cs b u27) t.heap by rw [ht]; exact hP)⟩, hS.F ht⟩) hS.2.2 dX12_net_21
  · refine lv_if_eq (tgt := 16) hx hb dX12_net_5 (by decide) (fun c29 => ?_) (fun c29 => absurd c29 (by decide))
    refine lv_aload_n hx hb dX12_net_16 rfl (lv_at hl 0 rfl) ?_
    refine lv_iconst (v := 2) hx hb dX12_net_17 (by decide) ?_
    refine rc_i hAL hS hA (va_runV (As := [.int 2]) (rest := []) ⟨hx, hb, hml, hown, noTs⟩ (r_X12_refuse l dC dI s.heap.size cs b u a hA1 2) ⟨cbE 1 (wd_1498 hE) (wd_126 hE) (wd_1495 hE) rfl rfl (by decide +kernel) ⟨Nat.le_of_ble_eq_true rfl, Nat.le_of_ble_eq_true rfl⟩, (wd_1497 hE), (wd_54 hE)⟩ ⟨PR.blind, r_recv hK hP rfl, (r_pre (av := [.ref (b 0), .int 2]) hK hP hJ hE)⟩ rfl rfl hl.1 rfl (lv_room (Nat.le_of_ble_eq_true rfl)) dX12_net_18 ⟨Nat.le_of_ble_eq_true rfl, Nat.le_of_ble_eq_true rfl⟩) (fun r30 u30 H locs hpo30 hP hS => ?_)
    obtain ⟨hr30, hq30⟩ := hpo30
    have hA31 := (hq30.1 1 List.not_mem_nil).trans hA1
    have hfr := FR.step hfr hq30 (fun _ h => absurd h List.not_mem_nil) (by decide) (fun h => rfl)
    subst hr30
    exact W.iret (v := -1) hx hb hr (fun t ht hW => ⟨⟨-1, u30, rfl, ⟨trivial, hfr⟩, (show va_P (dC, dI) vwCl (rW cs b u30) t.heap by rw [ht]; exact hP)⟩, hS.F ht⟩) hS.2.2 dX12_net_21
