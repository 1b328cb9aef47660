set_option maxHeartbeats 4000000 in
set_option maxRecDepth 100000 in
theorem r_X12_forms (l : Launch) (dC : Nat → ClassId) (dI : Nat → Nat → Nat) (sz : Nat) (cs : Nat → ClassId) (b : Nat → Nat) (u : RS) (a : Nat → Int32) (hA1 : rA u 1 = a) (jw : Nat) (hjwr : 3 ≤ jw ∧ jw ≤ 14) (w : Nat → Int32) (hAjw : rA u jw = w) (jf : Nat) (hjfr : 3 ≤ jf ∧ jf ≤ 14) (f : Nat → Int32) (hAjf : rA u jf = f) (hp0 : GG a) (hp1 : PG a w) (hp2 : LG a w) (hp3 : jw ≠ jf) : Met l yX12_forms [.code yX12_forms cX12_forms 9 none] ({ frames := 4, cells := 0, slots := 0, locals := 160 }) (PR [.ref (b 0), .ref (b jw), .ref (b jf)] sz dC dI cs b u) (va_Qv (fun (u' : RS) => (PG a (rA u' jf)) ∧ (LG a (rA u' jf)) ∧ (rn (rA u' jf) ≤ rn w) ∧ (rb (rA u' jf) = rb w) ∧ (vend a (rA u' jf) = vend a w) ∧ FR [jf] [5] false u u') (BR dC dI cs b) (AR b sz)) 0 0 (AR b sz) := by
  refine Met.ofW (cc := cX12_forms) (maxL := 9) (ret := none) (by decide) rfl ?_
  intro p e s m args below meth c s₁ B hml hv
  obtain ⟨rfl, hsz, hP, hK, hJ, hE⟩ := hv
  have hx := B.exec
  have hb := B.bytes
  have hr := B.returns
  have hown : s.vm.findClass RX12 = some m.cls := findClass_of_methodNamed B.named
  have hlocks := B.notSynchronized
  subst hsz
  have hAL : ∀ i, i < 108 → AR b s.heap.size (b i) := fun i h => Or.inl ⟨i, h, rfl⟩
  have hA : ∀ q : Nat, s.heap.size ≤ q → AR b s.heap.size q := fun q h => Or.inr h
  have hS : va_S (AR b s.heap.size) s.heap s.heap [] := va_S.rf
  have hfr : FR [jf] [5] false u u := FR.refl
  have hl := lv_entry ([.ref (b 0), .ref (b jw), .ref (b jf)]) (n := 9) (Nat.le_of_ble_eq_true rfl)
  rw [lg_entry_eq]
  generalize (lg_sl ([.ref (b 0), .ref (b jw), .ref (b jf)]) ++ List.replicate (9 - (lg_sl ([.ref (b 0), .ref (b jw), .ref (b jf)])).length) Slot.unset).toArray = ls at hl ⊢
  have hl : lv_has ls 9 [(0, .ref (b 0)), (1, .ref (b jw)), (2, .ref (b jf))] := hl
  have hG := hp0
  have ha1 := gg_le hp0
  have ha2 := pg_le hp1
  refine lv_aload_n hx hb dX12_forms_0 rfl (lv_at hl 1 rfl) ?_
  refine lv_iconst (v := 0) hx hb dX12_forms_1 (by decide) ?_
  refine vp_callSi (va_Run.run (va_runS (As := [.ref (b jw), .int (nI 0)]) (rest := []) ⟨hx, hb, hml, hown, noTs⟩ (r_X12_number l dC dI s.heap.size cs b u a hA1 jw (by omega) w hAjw 0 (by first | assumption | omega | rfl | (congr 1; omega))) ⟨cbE 2 (wd_1664 hE) (wd_126 hE) (wd_1662 hE) rfl rfl (by decide +kernel) ⟨Nat.le_of_ble_eq_true rfl, Nat.le_of_ble_eq_true rfl⟩, (wd_1663 hE)⟩ ⟨PR.blind, (r_pre (av := [.ref (b jw), .int (nI 0)]) hK hP hJ hE)⟩ rfl rfl hl.1 rfl (lv_room (Nat.le_of_ble_eq_true rfl)) dX12_forms_2 ⟨Nat.le_of_ble_eq_true rfl, Nat.le_of_ble_eq_true rfl⟩)) (fun r5 hr5 => ?_)
  have hn0 := hr5
  refine lv_istore_n (lv' := [(3, .int r5), (0, .ref (b 0)), (1, .ref (b jw)), (2, .ref (b jf))]) hx hb dX12_forms_5 rfl hl (by decide) rfl (fun ls hl => ?_)
  refine lv_aload_n hx hb dX12_forms_6 rfl (lv_at hl 2 rfl) ?_
  refine lv_iconst (v := 0) hx hb dX12_forms_7 (by decide) ?_
  refine r_iald (j := jw) (k := 0) (n := 200) (x := nI (rb w)) hx hb hK hP (by omega) (rE_row (by omega)) (by decide) (by decide) (by rw [hAjw]; exact pg_b hp1) dX12_forms_8 ?_
  refine lv_istore (lv' := [(4, .int (nI (rb w))), (3, .int r5), (0, .ref (b 0)), (1, .ref (b jw)), (2, .ref (b jf))]) hx hb dX12_forms_9 hl (by decide) rfl (fun ls hl => ?_)
  refine lv_aload_n hx hb dX12_forms_11 rfl (lv_at hl 2 rfl) ?_
  refine lv_iconst (v := 0) hx hb dX12_forms_12 (by decide) ?_
  refine r_put (v := 0) hx hb (ly_X12 hE) tyX12 tyX12_ok nmX12 hown hK hP hJ hAL hS rfl 5 (by decide) (wd_1386 hE) (fun _ h9 => h9) rfl (by decide +kernel) rfl (by decide) dX12_forms_13 (fun u7 H locs hf7 hq7 hP hS => ?_)
  have hA8 := (hq7.1 1 List.not_mem_nil).trans hA1
  have hA9 := (hq7.1 jw List.not_mem_nil).trans hAjw
  have hA10 := (hq7.1 jf List.not_mem_nil).trans hAjf
  have hfr := FR.step hfr hq7 (fun _ h => absurd h List.not_mem_nil) (by decide) (fun h => rfl)
  refine lv_aload_n hx hb dX12_forms_16 rfl (lv_at hl 4 rfl) ?_
  refine lv_iload hx hb dX12_forms_17 (lv_at hl 0 rfl) ?_
  refine lv_iconst (v := 0) hx hb dX12_forms_19 (by decide) ?_
  refine rc_v hAL hS hA (va_runS (As := [.ref (b jf), .int (nI (rb w)), .int 0]) (rest := []) ⟨hx, hb, hml, hown, noTs⟩ (r_X12_single l dC dI H.size cs b u7 a hA8 jf (by omega) f hA10 (rb w) 0 (by first | assumption | omega | rfl | (congr 1; omega)) (by first | assumption | omega | rfl | (congr 1; omega))) ⟨cbE 3 (wd_1579 hE) (wd_126 hE) (wd_1577 hE) rfl rfl (by decide +kernel) ⟨Nat.le_of_ble_eq_true rfl, Nat.le_of_ble_eq_true rfl⟩, (wd_1578 hE)⟩ ⟨PR.blind, (r_pre (av := [.ref (b jf), .int (nI (rb w)), .int 0]) hK hP hJ hE)⟩ rfl rfl hl.1 rfl (lv_room (Nat.le_of_ble_eq_true rfl)) dX12_forms_20 ⟨Nat.le_of_ble_eq_true rfl, Nat.le_of_ble_eq_true rfl⟩) (fun u11 H locs hpo11 hP hS => ?_)
  obtain ⟨h11_0, h11_1, h11_2, h11_3, h11_4, hq11⟩ := hpo11
  obtain ⟨w12, hA12⟩ : ∃ g, rA u11 jf = g := ⟨_, rfl⟩
  rw [hA12] at h11_0 h11_1 h11_2 h11_3 h11_4
  have hA13 := (hq11.1 1 (by simp only [List.mem_cons, List.not_mem_nil, or_false, not_or]; omega)).trans hA8
  have hA14 := (hq11.1 jw (by simp only [List.mem_cons, List.not_mem_nil, or_false, not_or]; omega)).trans hA9
  have hF15x := (hq11.2.1 5 List.not_mem_nil).trans hf7
  have hfr := FR.step hfr hq11 (by simp) (fun _ h => absurd h List.not_mem_nil) (fun h => rfl)
  have hl11_0 := pg_le h11_0
  refine lv_iconst (v := 0) hx hb dX12_forms_23 (by decide) ?_
  refine lv_istore (lv' := [(5, .int 0), (4, .int (nI (rb w))), (3, .int r5), (0, .ref (b 0)), (1, .ref (b jw)), (2, .ref (b jf))]) hx hb dX12_forms_24 hl (by decide) rfl (fun ls hl => ?_)
  refine r_ind (I := fun n u_ H locs ls => va_P (dC, dI) vwCl (rW cs b u_) H ∧ va_S (AR b s.heap.size) s.heap H locs ∧ FR [jf] [5] false u u_ ∧ ∃ (i_16 : Nat) (v_16 : Nat) (x_16 : Int32) (f1_16 : Nat → Int32), n = rn w - i_16 ∧ (PG a f1_16) ∧ (i_16 ≤ rn w) ∧ (v_16 = vx a w i_16) ∧ (rn f1_16 ≤ i_16) ∧ (rb f1_16 = rb w) ∧ (vend a f1_16 = vx a w i_16) ∧ ((i_16 = 0 ∧ x_16 = w 2) ∨ (0 ≤ x_16.toInt ∧ x_16.toInt < od a (vx a w i_16))) ∧ (rA u_ jf = f1_16) ∧ lv_has ls 9 [(0, .ref (b 0)), (1, .ref (b jw)), (2, .ref (b jf)), (3, .int x_16), (4, .int (nI v_16)), (5, .int (nI i_16))]) (fun n u16 H locs ls hI ih16 => ?_) _ u11 _ _ _ ⟨hP, hS, hfr, 0, (rb w), r5, w12, rfl, (by first | assumption | omega | rfl | (congr 1; omega)), (by first | assumption | omega | rfl | (congr 1; omega)), (by exact vx_0.symm), (by omega), (by omega), (by rw [vx_0]; omega), (by exact Or.inl ⟨rfl, hn0⟩), hA12, lv_sub hl [3, 4, 5, 2, 1, 0] rfl⟩
  obtain ⟨hP, hS, hfr, i_16, v_16, x_16, f1_16, hmu16, hL16_0, hL16_1, hL16_2, hL16_3, hL16_4, hL16_5, hL16_6, hL16_7, hl⟩ := hI
  have hA17 := (hfr.1 1 (by simp only [List.mem_cons, List.not_mem_nil, or_false, not_or]; omega)).trans hA1
  have hA18 := (hfr.1 jw (by simp only [List.mem_cons, List.not_mem_nil, or_false, not_or]; omega)).trans hAjw
  subst hmu16
  have hl16_0 := pg_le hL16_0
  refine lv_iload hx hb dX12_forms_26 (lv_at hl 5 rfl) ?_
  refine lv_aload_n hx hb dX12_forms_28 rfl (lv_at hl 1 rfl) ?_
  refine lv_iconst (v := 1) hx hb dX12_forms_29 (by decide) ?_
  refine r_iald (j := jw) (k := 1) (n := 200) (x := nI (rn w)) hx hb hK hP (by omega) (rE_row (by omega)) (by decide) (by decide) (by rw [hA18]; exact pg_n hp1) dX12_forms_30 ?_
  refine lv_icmp_ge (tgt := 203) hx hb dX12_forms_31 (by decide) (fun c20 => ?_) (fun c20 => ?_)
  · have c20 := (b_le (nI_toInt (n := rn w) (by omega)) (nI_toInt (n := i_16) (by omega))).mp c20
    have hie : i_16 = rn w := by omega
    refine lv_aload_n hx hb dX12_forms_203 rfl (lv_at hl 2 rfl) ?_
    refine lv_iconst (v := 2) hx hb dX12_forms_204 (by decide) ?_
    refine lv_iconst (v := 2) hx hb dX12_forms_205 (by decide) ?_
    refine lv_aload_n hx hb dX12_forms_206 rfl (lv_at hl 2 rfl) ?_
    refine lv_iconst (v := 1) hx hb dX12_forms_207 (by decide) ?_
    refine r_iald (j := jf) (k := 1) (n := 200) (x := nI (rn f1_16)) hx hb hK hP (by omega) (rE_row (by omega)) (by decide) (by decide) (by rw [hL16_7]; exact pg_n hL16_0) dX12_forms_208 ?_
    refine lv_imul hx hb dX12_forms_209 ?_
    refine W.eq (g2 := F0 m 210 ls [.int (nI (2 * (rn f1_16))), .int 2, .ref (b jf)]) (congrArg (fun z : Int32 => F0 m 210 ls (.int z :: [.int 2, .ref (b jf)])) (pk_mul 2 (rn f1_16))) ?_
    refine lv_iadd hx hb dX12_forms_210 ?_
    refine W.eq (g2 := F0 m 211 ls [.int (nI (2 + (2 * (rn f1_16)))), .ref (b jf)]) (congrArg (fun z : Int32 => F0 m 211 ls (.int z :: [.ref (b jf)])) (nI_add 2 (2 * (rn f1_16)))) ?_
    refine lv_iload_n hx hb dX12_forms_211 rfl (lv_at hl 3 rfl) ?_
    refine r_iast (j := jf) (k := 2 + (2 * (rn f1_16))) (n := 200) (x := x_16) hx hb hK hP hJ hAL hS (by omega) (fun _ => (rE_row (by omega))) hL16_7 (by omega) (by decide) dX12_forms_212 (fun u22 H locs hs22 hq22 hP hS => ?_)
    obtain ⟨w22, hw22⟩ : ∃ g, g = upd f1_16 (2 + (2 * (rn f1_16))) x_16 := ⟨_, rfl⟩
    rw [← hw22] at hs22
    have hA23 := (hq22.1 1 (by simp only [List.mem_cons, List.not_mem_nil, or_false, not_or]; omega)).trans hA17
    have hA24 := (hq22.1 jw (by simp only [List.mem_cons, List.not_mem_nil, or_false, not_or]; omega)).trans hA18
    have hfr := FR.step hfr hq22 (by simp) (fun _ h => absurd h List.not_mem_nil) (fun h => rfl)
    obtain ⟨p1, p2, p3, p4, p5⟩ := pg_put hw22 hL16_0
    have p6 : w22 (2 + 2 * rn f1_16) = x_16 := by rw [hw22]; exact pk_us
    have p7 : vend a w22 = vend a w := by rw [p4, hL16_5, hie]; rfl
    have p8 : LG a w22 := by
        rcases hL16_6 with ⟨z1, z2⟩ | ⟨z1, z2⟩
        · rw [z2] at p6
          have hz : rn w = 0 := by omega
          have hL := hp2
          unfold LG at hL
          rw [hz] at hL
          exact lg_of p3 p7 p6 hL.1 hL.2
        · rw [hie] at z2
          exact lg_of p3 p7 p6 z1 z2
    exact W.vret hx hb hr (fun t ht hW => ⟨⟨u22, rfl, ⟨(by first | (rw [hs22]; done) | (rw [hs22]; first | assumption | omega | rfl | (congr 1; omega))), (by first | (rw [hs22]; done) | (rw [hs22]; first | assumption | omega | rfl | (congr 1; omega))), (by first | (rw [hs22]; done) | (rw [hs22]; first | assumption | omega | rfl | (congr 1; omega))), (by first | (rw [hs22]; done) | (rw [hs22]; first | assumption | omega | rfl | (congr 1; omega))), (by first | (rw [hs22]; done) | (rw [hs22]; first | assumption | omega | rfl | (congr 1; omega))), hfr⟩, (show va_P (dC, dI) vwCl (rW cs b u22) t.heap by rw [ht]; exact hP)⟩, hS.F ht⟩) hS.2.2 dX12_forms_213
  · have c20 := mt (b_le (nI_toInt (n := rn w) (by omega)) (nI_toInt (n := i_16) (by omega))).mpr c20
    have hsl := pg_sl hp1 (i := i_16) (by omega)
    have hsv := pg_sv hp1 (i := i_16) (by omega)
    have hix := gg_idx hG hsl
    have hdv := gg_dst hG hsl
    have hov := gg_od hG hdv
    refine lv_aload_n hx hb dX12_forms_34 rfl (lv_at hl 1 rfl) ?_
    refine lv_iload hx hb dX12_forms_35 (lv_at hl 5 rfl) ?_
    refine vp_callSi (va_Run.run (va_runS (As := [.ref (b jw), .int (nI i_16)]) (rest := []) ⟨hx, hb, hml, hown, noTs⟩ (r_X12_step l dC dI H.size cs b u16 a hA17 jw (by omega) w hA18 i_16 (by first | assumption | omega | rfl | (congr 1; omega)) (by first | assumption | omega | rfl | (congr 1; omega))) ⟨cbE 2 (wd_1602 hE) (wd_126 hE) (wd_1600 hE) rfl rfl (by decide +kernel) ⟨Nat.le_of_ble_eq_true rfl, Nat.le_of_ble_eq_true rfl⟩, (wd_1601 hE)⟩ ⟨PR.blind, (r_pre (av := [.ref (b jw), .int (nI i_16)]) hK hP hJ hE)⟩ rfl rfl hl.1 rfl (lv_room (Nat.le_of_ble_eq_true rfl)) dX12_forms_37 ⟨Nat.le_of_ble_eq_true rfl, Nat.le_of_ble_eq_true rfl⟩)) (fun r25 hr25 => ?_)
    have hau25 := pg_sl (a := a) (w := w) (i := i_16) (by assumption) (by first | assumption | omega)
    subst hr25
    refine lv_istore (lv' := [(6, .int (nI (rs w i_16))), (0, .ref (b 0)), (1, .ref (b jw)), (2, .ref (b jf)), (3, .int x_16), (4, .int (nI v_16)), (5, .int (nI i_16))]) hx hb dX12_forms_40 hl (by decide) rfl (fun ls hl => ?_)
    refine lv_aload_n hx hb dX12_forms_42 rfl (lv_at hl 3 rfl) ?_
    refine lv_iconst (v := 1) hx hb dX12_forms_43 (by decide) ?_
    refine r_iald (j := jf) (k := 1) (n := 200) (x := nI (rn f1_16)) hx hb hK hP (by omega) (rE_row (by omega)) (by decide) (by decide) (by rw [hL16_7]; exact pg_n hL16_0) dX12_forms_44 ?_
    refine lv_istore (lv' := [(7, .int (nI (rn f1_16))), (6, .int (nI (rs w i_16))), (0, .ref (b 0)), (1, .ref (b jw)), (2, .ref (b jf)), (3, .int x_16), (4, .int (nI v_16)), (5, .int (nI i_16))]) hx hb dX12_forms_45 hl (by decide) rfl (fun ls hl => ?_)
    refine lv_iload hx hb dX12_forms_47 (lv_at hl 0 rfl) ?_
    refine lv_if_le (tgt := 133) hx hb dX12_forms_49 (by decide) (fun c27 => ?_) (fun c27 => ?_)
    · have c27 := (b_le (nI_toInt (n := rn f1_16) (by omega)) (show Int32.toInt 0 = 0 from rfl)).mp c27
      refine lv_aload_n hx hb dX12_forms_133 rfl (lv_at hl 4 rfl) ?_
      refine lv_iconst (v := 2) hx hb dX12_forms_134 (by decide) ?_
      refine lv_iconst (v := 2) hx hb dX12_forms_135 (by decide) ?_
      refine lv_iload hx hb dX12_forms_136 (lv_at hl 0 rfl) ?_
      refine lv_imul hx hb dX12_forms_138 ?_
      refine W.eq (g2 := F0 m 139 ls [.int (nI (2 * (rn f1_16))), .int 2, .ref (b jf)]) (congrArg (fun z : Int32 => F0 m 139 ls (.int z :: [.int 2, .ref (b jf)])) (pk_mul 2 (rn f1_16))) ?_
      refine lv_iadd hx hb dX12_forms_139 ?_
      refine W.eq (g2 := F0 m 140 ls [.int (nI (2 + (2 * (rn f1_16)))), .ref (b jf)]) (congrArg (fun z : Int32 => F0 m 140 ls (.int z :: [.ref (b jf)])) (nI_add 2 (2 * (rn f1_16)))) ?_
      refine lv_iload_n hx hb dX12_forms_140 rfl (lv_at hl 5 rfl) ?_
      refine lv_aload_n hx hb dX12_forms_141 rfl (lv_at hl 2 rfl) ?_
      refine lv_iload hx hb dX12_forms_142 (lv_at hl 1 rfl) ?_
      refine vp_callSi (va_Run.run (va_runV (As := [.int (nI (rs w i_16))]) (rest := [.int x_16, .int (nI (2 + (2 * (rn f1_16)))), .ref (b jf)]) ⟨hx, hb, hml, hown, noTs⟩ (r_X12_by l dC dI H.size cs b u16 a hA17 (rs w i_16) (by first | assumption | omega | rfl | (congr 1; omega)) (by first | assumption | omega | rfl | (congr 1; omega))) ⟨cbE 1 (wd_1668 hE) (wd_126 hE) (wd_1665 hE) rfl rfl (by decide +kernel) ⟨Nat.le_of_ble_eq_true rfl, Nat.le_of_ble_eq_true rfl⟩, (wd_1667 hE), (wd_86 hE)⟩ ⟨PR.blind, r_recv hK hP rfl, (r_pre (av := [.ref (b 0), .int (nI (rs w i_16))]) hK hP hJ hE)⟩ rfl rfl hl.1 rfl (lv_room (Nat.le_of_ble_eq_true rfl)) dX12_forms_144 ⟨Nat.le_of_ble_eq_true rfl, Nat.le_of_ble_eq_true rfl⟩)) (fun r28 hr28 => ?_)
      have hau28 := gg_idx (a := a) (s := (rs w i_16)) (by assumption) (by first | assumption | omega)
      subst hr28
      refine lv_irem hx hb dX12_forms_147 (nI_ne0 (n := idx a (rs w i_16)) (by omega) (by omega)) ?_
      refine lv_topi (fun x29 ex29 => ?_)
      refine r_iast (j := jf) (k := 2 + (2 * (rn f1_16))) (n := 200) (x := x29) hx hb hK hP hJ hAL hS (by omega) (fun _ => (rE_row (by omega))) hL16_7 (by omega) (by decide) dX12_forms_148 (fun u30 H locs hs30 hq30 hP hS => ?_)
      obtain ⟨w30, hw30⟩ : ∃ g, g = upd f1_16 (2 + (2 * (rn f1_16))) x29 := ⟨_, rfl⟩
      rw [← hw30] at hs30
      have hA31 := (hq30.1 1 (by simp only [List.mem_cons, List.not_mem_nil, or_false, not_or]; omega)).trans hA17
      have hA32 := (hq30.1 jw (by simp only [List.mem_cons, List.not_mem_nil, or_false, not_or]; omega)).trans hA18
      have hfr := FR.step hfr hq30 (by simp) (fun _ h => absurd h List.not_mem_nil) (fun h => rfl)
      obtain ⟨p1, p2, p3, p4, p5⟩ := pg_put hw30 hL16_0
      refine lv_aload_n hx hb dX12_forms_149 rfl (lv_at hl 4 rfl) ?_
      refine lv_iload hx hb dX12_forms_150 (lv_at hl 1 rfl) ?_
      refine lv_iconst (v := 0) hx hb dX12_forms_152 (by decide) ?_
      refine rc_v hAL hS hA (va_runS (As := [.ref (b jf), .int (nI (rs w i_16)), .int 0]) (rest := []) ⟨hx, hb, hml, hown, noTs⟩ (r_X12_goes l dC dI H.size cs b u30 a hA31 jf (by omega) w30 hs30 (rs w i_16) 0 (by first | assumption | omega | rfl | (congr 1; omega)) (by first | assumption | omega | rfl | (congr 1; omega)) (by first | assumption | omega | rfl | (congr 1; omega)) (by first | assumption | omega | rfl | (congr 1; omega)) (by omega)) ⟨cbE 3 (wd_1609 hE) (wd_126 hE) (wd_1607 hE) rfl rfl (by decide +kernel) ⟨Nat.le_of_ble_eq_true rfl, Nat.le_of_ble_eq_true rfl⟩, (wd_1608 hE)⟩ ⟨PR.blind, (r_pre (av := [.ref (b jf), .int (nI (rs w i_16)), .int 0]) hK hP hJ hE)⟩ rfl rfl hl.1 rfl (lv_room (Nat.le_of_ble_eq_true rfl)) dX12_forms_153 ⟨Nat.le_of_ble_eq_true rfl, Nat.le_of_ble_eq_true rfl⟩) (fun u33 H locs hpo33 hP hS => ?_)
      obtain ⟨h33_0, h33_1, h33_2, h33_3, h33_4, h33_5, h33_6, h33_7, hq33⟩ := hpo33
      obtain ⟨w34, hA34⟩ : ∃ g, rA u33 jf = g := ⟨_, rfl⟩
      rw [hA34] at h33_0 h33_1 h33_2 h33_3 h33_4 h33_5 h33_6 h33_7
      have hA35 := (hq33.1 1 (by simp only [List.mem_cons, List.not_mem_nil, or_false, not_or]; omega)).trans hA31
      have hA36 := (hq33.1 jw (by simp only [List.mem_cons, List.not_mem_nil, or_false, not_or]; omega)).trans hA32
      have hfr := FR.step hfr hq33 (by simp) (fun _ h => absurd h List.not_mem_nil) (fun h => rfl)
      have hl33_0 := pg_le h33_0
      refine lv_aload_n hx hb dX12_forms_156 rfl (lv_at hl 2 rfl) ?_
      refine lv_iload hx hb dX12_forms_157 (lv_at hl 1 rfl) ?_
      refine vp_callSi (va_Run.run (va_runV (As := [.int (nI (rs w i_16))]) (rest := []) ⟨hx, hb, hml, hown, noTs⟩ (r_X12_into l dC dI H.size cs b u33 a hA35 (rs w i_16) (by first | assumption | omega | rfl | (congr 1; omega)) (by first | assumption | omega | rfl | (congr 1; omega))) ⟨cbE 1 (wd_1672 hE) (wd_126 hE) (wd_1669 hE) rfl rfl (by decide +kernel) ⟨Nat.le_of_ble_eq_true rfl, Nat.le_of_ble_eq_true rfl⟩, (wd_1671 hE), (wd_87 hE)⟩ ⟨PR.blind, r_recv hK hP rfl, (r_pre (av := [.ref (b 0), .int (nI (rs w i_16))]) hK hP hJ hE)⟩ rfl rfl hl.1 rfl (lv_room (Nat.le_of_ble_eq_true rfl)) dX12_forms_159 ⟨Nat.le_of_ble_eq_true rfl, Nat.le_of_ble_eq_true rfl⟩)) (fun r37 hr37 => ?_)
      have hau37 := gg_jdx (a := a) (s := (rs w i_16)) (by assumption) (by first | assumption | omega)
      subst hr37
      refine lv_iload_n hx hb dX12_forms_162 rfl (lv_at hl 5 rfl) ?_
      refine lv_aload_n hx hb dX12_forms_163 rfl (lv_at hl 2 rfl) ?_
      refine lv_iload hx hb dX12_forms_164 (lv_at hl 1 rfl) ?_
      refine vp_callSi (va_Run.run (va_runV (As := [.int (nI (rs w i_16))]) (rest := [.int x_16, .int (nI (jdx a (rs w i_16)))]) ⟨hx, hb, hml, hown, noTs⟩ (r_X12_by l dC dI H.size cs b u33 a hA35 (rs w i_16) (by first | assumption | omega | rfl | (congr 1; omega)) (by first | assumption | omega | rfl | (congr 1; omega))) ⟨cbE 1 (wd_1668 hE) (wd_126 hE) (wd_1665 hE) rfl rfl (by decide +kernel) ⟨Nat.le_of_ble_eq_true rfl, Nat.le_of_ble_eq_true rfl⟩, (wd_1667 hE), (wd_86 hE)⟩ ⟨PR.blind, r_recv hK hP rfl, (r_pre (av := [.ref (b 0), .int (nI (rs w i_16))]) hK hP hJ hE)⟩ rfl rfl hl.1 rfl (lv_room (Nat.le_of_ble_eq_true rfl)) dX12_forms_166 ⟨Nat.le_of_ble_eq_true rfl, Nat.le_of_ble_eq_true rfl⟩)) (fun r38 hr38 => ?_)
      have hau38 := gg_idx (a := a) (s := (rs w i_16)) (by assumption) (by first | assumption | omega)
      subst hr38
      refine lv_idiv hx hb dX12_forms_169 (nI_ne0 (n := idx a (rs w i_16)) (by omega) (by omega)) ?_
      refine lv_topi (fun x39 ex39 => ?_)
      refine lv_imul hx hb dX12_forms_170 ?_
      refine lv_topi (fun x40 ex40 => ?_)
      refine lv_istore_n (lv' := [(3, .int x40), (7, .int (nI (rn f1_16))), (6, .int (nI (rs w i_16))), (0, .ref (b 0)), (1, .ref (b jw)), (2, .ref (b jf)), (4, .int (nI v_16)), (5, .int (nI i_16))]) hx hb dX12_forms_171 rfl hl (by decide) rfl (fun ls hl => ?_)
      refine lv_aload_n hx hb dX12_forms_172 rfl (lv_at hl 3 rfl) ?_
      refine lv_iload hx hb dX12_forms_173 (lv_at hl 2 rfl) ?_
      refine vp_callSi (va_Run.run (va_runV (As := [.int (nI (rs w i_16))]) (rest := []) ⟨hx, hb, hml, hown, noTs⟩ (r_X12_to l dC dI H.size cs b u33 a hA35 (rs w i_16) (by first | assumption | omega | rfl | (congr 1; omega)) (by first | assumption | omega | rfl | (congr 1; omega))) ⟨cbE 1 (wd_1606 hE) (wd_126 hE) (wd_1603 hE) rfl rfl (by decide +kernel) ⟨Nat.le_of_ble_eq_true rfl, Nat.le_of_ble_eq_true rfl⟩, (wd_1605 hE), (wd_77 hE)⟩ ⟨PR.blind, r_recv hK hP rfl, (r_pre (av := [.ref (b 0), .int (nI (rs w i_16))]) hK hP hJ hE)⟩ rfl rfl hl.1 rfl (lv_room (Nat.le_of_ble_eq_true rfl)) dX12_forms_175 ⟨Nat.le_of_ble_eq_true rfl, Nat.le_of_ble_eq_true rfl⟩)) (fun r41 hr41 => ?_)
      have hau41 := gg_dst (a := a) (s := (rs w i_16)) (by assumption) (by first | assumption | omega)
      subst hr41
      refine lv_istore (lv' := [(4, .int (nI (dst a (rs w i_16)))), (3, .int x40), (7, .int (nI (rn f1_16))), (6, .int (nI (rs w i_16))), (0, .ref (b 0)), (1, .ref (b jw)), (2, .ref (b jf)), (5, .int (nI i_16))]) hx hb dX12_forms_178 hl (by decide) rfl (fun ls hl => ?_)
      refine lv_aload_n hx hb dX12_forms_180 rfl (lv_at hl 4 rfl) ?_
      refine lv_iload hx hb dX12_forms_181 (lv_at hl 0 rfl) ?_
      refine lv_iload_n hx hb dX12_forms_183 rfl (lv_at hl 1 rfl) ?_
      refine lv_aload_n hx hb dX12_forms_184 rfl (lv_at hl 5 rfl) ?_
      refine lv_iload hx hb dX12_forms_185 (lv_at hl 7 rfl) ?_
      refine lv_iconst (v := 1) hx hb dX12_forms_187 (by decide) ?_
      refine lv_iadd hx hb dX12_forms_188 ?_
      refine W.eq (g2 := F0 m 189 ls [.int (nI (i_16 + 1)), .ref (b jw), .int x40, .int (nI (dst a (rs w i_16))), .ref (b 0)]) (congrArg (fun z : Int32 => F0 m 189 ls (.int z :: [.ref (b jw), .int x40, .int (nI (dst a (rs w i_16))), .ref (b 0)])) (nI_add i_16 1)) ?_
      refine vp_callSi (va_Run.run (va_runS (As := [.ref (b jw), .int (nI (i_16 + 1))]) (rest := [.int x40, .int (nI (dst a (rs w i_16))), .ref (b 0)]) ⟨hx, hb, hml, hown, noTs⟩ (r_X12_number l dC dI H.size cs b u33 a hA35 jw (by omega) w hA36 (i_16 + 1) (by first | assumption | omega | rfl | (congr 1; omega))) ⟨cbE 2 (wd_1664 hE) (wd_126 hE) (wd_1662 hE) rfl rfl (by decide +kernel) ⟨Nat.le_of_ble_eq_true rfl, Nat.le_of_ble_eq_true rfl⟩, (wd_1663 hE)⟩ ⟨PR.blind, (r_pre (av := [.ref (b jw), .int (nI (i_16 + 1))]) hK hP hJ hE)⟩ rfl rfl hl.1 rfl (lv_room (Nat.le_of_ble_eq_true rfl)) dX12_forms_189 ⟨Nat.le_of_ble_eq_true rfl, Nat.le_of_ble_eq_true rfl⟩)) (fun r42 hr42 => ?_)
      refine lv_iadd hx hb dX12_forms_192 ?_
      refine lv_topi (fun x43 ex43 => ?_)
      refine vp_callSi (va_Run.run (va_runV (As := [.int (nI (dst a (rs w i_16))), .int x43]) (rest := []) ⟨hx, hb, hml, hown, noTs⟩ (r_X12_round l dC dI H.size cs b u33 a hA35 (dst a (rs w i_16)) x43 (by first | assumption | omega | rfl | (congr 1; omega)) (by first | assumption | omega | rfl | (congr 1; omega))) ⟨cbE 2 (wd_1576 hE) (wd_126 hE) (wd_1573 hE) rfl rfl (by decide +kernel) ⟨Nat.le_of_ble_eq_true rfl, Nat.le_of_ble_eq_true rfl⟩, (wd_1575 hE), (wd_71 hE)⟩ ⟨PR.blind, r_recv hK hP rfl, (r_pre (av := [.ref (b 0), .int (nI (dst a (rs w i_16))), .int x43]) hK hP hJ hE)⟩ rfl rfl hl.1 rfl (lv_room (Nat.le_of_ble_eq_true rfl)) dX12_forms_193 ⟨Nat.le_of_ble_eq_true rfl, Nat.le_of_ble_eq_true rfl⟩)) (fun r44 hr44 => ?_)
      have hau44 := (gg_od (a := a) (v := (dst a (rs w i_16))) (by assumption) (by first | assumption | omega)).2
      obtain ⟨n44, rfl, hn44_0⟩ := hr44
      refine lv_istore_n (lv' := [(3, .int (nI n44)), (4, .int (nI (dst a (rs w i_16)))), (7, .int (nI (rn f1_16))), (6, .int (nI (rs w i_16))), (0, .ref (b 0)), (1, .ref (b jw)), (2, .ref (b jf)), (5, .int (nI i_16))]) hx hb dX12_forms_196 rfl hl (by decide) rfl (fun ls hl => ?_)
      refine lv_iinc (v := nI (i_16 + 1)) (lv' := [(5, .int (nI (i_16 + 1))), (3, .int (nI n44)), (4, .int (nI (dst a (rs w i_16)))), (7, .int (nI (rn f1_16))), (6, .int (nI (rs w i_16))), (0, .ref (b 0)), (1, .ref (b jw)), (2, .ref (b jf))]) hx hb dX12_forms_197 hl (k := 7) rfl (nI_1 i_16) (by decide) rfl (fun ls hl => ?_)
      refine lv_goto (tgt := 26) hx hb dX12_forms_200 (by decide) ?_
      exact ih16 _ u33 _ _ _ (by omega) ⟨hP, hS, hfr, (i_16 + 1), (dst a (rs w i_16)), (nI n44), w34, rfl, (by first | assumption | omega | rfl | (congr 1; omega)), (by first | assumption | omega | rfl | (congr 1; omega)), (by exact vx_s.symm), (by omega), (by omega), (by rw [vx_s]; omega), (by refine Or.inr ⟨?_, ?_⟩ <;> (first | rw [vx_s] | skip) <;> rw [nI_toInt (by omega)] <;> omega), hA34, lv_sub hl [5, 6, 7, 1, 2, 0] rfl⟩
    · have c27 := mt (b_le (nI_toInt (n := rn f1_16) (by omega)) (show Int32.toInt 0 = 0 from rfl)).mpr c27
      refine lv_aload_n hx hb dX12_forms_52 rfl (lv_at hl 4 rfl) ?_
      refine lv_iload hx hb dX12_forms_53 (lv_at hl 0 rfl) ?_
      refine lv_iconst (v := 1) hx hb dX12_forms_55 (by decide) ?_
      refine lv_isub hx hb dX12_forms_56 ?_
      refine W.eq (g2 := F0 m 57 ls [.int (nI ((rn f1_16) - 1)), .ref (b jf)]) (congrArg (fun z : Int32 => F0 m 57 ls (.int z :: [.ref (b jf)])) (pk_sub (a := rn f1_16) (b := 1) (by omega))) ?_
      refine vp_callSi (va_Run.run (va_runS (As := [.ref (b jf), .int (nI ((rn f1_16) - 1))]) (rest := []) ⟨hx, hb, hml, hown, noTs⟩ (r_X12_step l dC dI H.size cs b u16 a hA17 jf (by omega) f1_16 hL16_7 ((rn f1_16) - 1) (by first | assumption | omega | rfl | (congr 1; omega)) (by first | assumption | omega | rfl | (congr 1; omega))) ⟨cbE 2 (wd_1602 hE) (wd_126 hE) (wd_1600 hE) rfl rfl (by decide +kernel) ⟨Nat.le_of_ble_eq_true rfl, Nat.le_of_ble_eq_true rfl⟩, (wd_1601 hE)⟩ ⟨PR.blind, (r_pre (av := [.ref (b jf), .int (nI ((rn f1_16) - 1))]) hK hP hJ hE)⟩ rfl rfl hl.1 rfl (lv_room (Nat.le_of_ble_eq_true rfl)) dX12_forms_57 ⟨Nat.le_of_ble_eq_true rfl, Nat.le_of_ble_eq_true rfl⟩)) (fun r45 hr45 => ?_)
      have hau45 := pg_sl (a := a) (w := f1_16) (i := ((rn f1_16) - 1)) (by assumption) (by first | assumption | omega)
      subst hr45
      have hbl := pg_sl hL16_0 (i := rn f1_16 - 1) (by omega)
      have hbv := pg_sv hL16_0 (i := rn f1_16 - 1) (by omega)
      have hbi := gg_idx hG hbl
      refine lv_iload hx hb dX12_forms_60 (lv_at hl 1 rfl) ?_
      refine lv_iconst (v := 1) hx hb dX12_forms_62 (by decide) ?_
      refine lv_ixor hx hb dX12_forms_63 ?_
      refine W.eq (g2 := F0 m 64 ls [.int (nI (fl (rs w i_16))), .int (nI (rs f1_16 ((rn f1_16) - 1)))]) (congrArg (fun z : Int32 => F0 m 64 ls (.int z :: [.int (nI (rs f1_16 ((rn f1_16) - 1)))])) (nI_fl (s := rs w i_16) (by omega))) ?_
      have hfa46 := fl_half (rs w i_16)
      have hfb46 := fl_mod (rs w i_16)
      refine lv_icmp_ne (tgt := 133) hx hb dX12_forms_64 (by decide) (fun c47 => ?_) (fun c47 => ?_)
      · have c47 := mt (b_eq (nI_toInt (n := rs f1_16 ((rn f1_16) - 1)) (by omega)) (nI_toInt (n := fl (rs w i_16)) (by omega))).mpr c47
        refine lv_aload_n hx hb dX12_forms_133 rfl (lv_at hl 4 rfl) ?_
        refine lv_iconst (v := 2) hx hb dX12_forms_134 (by decide) ?_
        refine lv_iconst (v := 2) hx hb dX12_forms_135 (by decide) ?_
        refine lv_iload hx hb dX12_forms_136 (lv_at hl 0 rfl) ?_
        refine lv_imul hx hb dX12_forms_138 ?_
        refine W.eq (g2 := F0 m 139 ls [.int (nI (2 * (rn f1_16))), .int 2, .ref (b jf)]) (congrArg (fun z : Int32 => F0 m 139 ls (.int z :: [.int 2, .ref (b jf)])) (pk_mul 2 (rn f1_16))) ?_
        refine lv_iadd hx hb dX12_forms_139 ?_
        refine W.eq (g2 := F0 m 140 ls [.int (nI (2 + (2 * (rn f1_16)))), .ref (b jf)]) (congrArg (fun z : Int32 => F0 m 140 ls (.int z :: [.ref (b jf)])) (nI_add 2 (2 * (rn f1_16)))) ?_
        refine lv_iload_n hx hb dX12_forms_140 rfl (lv_at hl 5 rfl) ?_
        refine lv_aload_n hx hb dX12_forms_141 rfl (lv_at hl 2 rfl) ?_
        refine lv_iload hx hb dX12_forms_142 (lv_at hl 1 rfl) ?_
        refine vp_callSi (va_Run.run (va_runV (As := [.int (nI (rs w i_16))]) (rest := [.int x_16, .int (nI (2 + (2 * (rn f1_16)))), .ref (b jf)]) ⟨hx, hb, hml, hown, noTs⟩ (r_X12_by l dC dI H.size cs b u16 a hA17 (rs w i_16) (by first | assumption | omega | rfl | (congr 1; omega)) (by first | assumption | omega | rfl | (congr 1; omega))) ⟨cbE 1 (wd_1668 hE) (wd_126 hE) (wd_1665 hE) rfl rfl (by decide +kernel) ⟨Nat.le_of_ble_eq_true rfl, Nat.le_of_ble_eq_true rfl⟩, (wd_1667 hE), (wd_86 hE)⟩ ⟨PR.blind, r_recv hK hP rfl, (r_pre (av := [.ref (b 0), .int (nI (rs w i_16))]) hK hP hJ hE)⟩ rfl rfl hl.1 rfl (lv_room (Nat.le_of_ble_eq_true rfl)) dX12_forms_144 ⟨Nat.le_of_ble_eq_true rfl, Nat.le_of_ble_eq_true rfl⟩)) (fun r48 hr48 => ?_)
        have hau48 := gg_idx (a := a) (s := (rs w i_16)) (by assumption) (by first | assumption | omega)
        subst hr48
        refine lv_irem hx hb dX12_forms_147 (nI_ne0 (n := idx a (rs w i_16)) (by omega) (by omega)) ?_
        refine lv_topi (fun x49 ex49 => ?_)
        refine r_iast (j := jf) (k := 2 + (2 * (rn f1_16))) (n := 200) (x := x49) hx hb hK hP hJ hAL hS (by omega) (fun _ => (rE_row (by omega))) hL16_7 (by omega) (by decide) dX12_forms_148 (fun u50 H locs hs50 hq50 hP hS => ?_)
        obtain ⟨w50, hw50⟩ : ∃ g, g = upd f1_16 (2 + (2 * (rn f1_16))) x49 := ⟨_, rfl⟩
        rw [← hw50] at hs50
        have hA51 := (hq50.1 1 (by simp only [List.mem_cons, List.not_mem_nil, or_false, not_or]; omega)).trans hA17
        have hA52 := (hq50.1 jw (by simp only [List.mem_cons, List.not_mem_nil, or_false, not_or]; omega)).trans hA18
        have hfr := FR.step hfr hq50 (by simp) (fun _ h => absurd h List.not_mem_nil) (fun h => rfl)
        obtain ⟨p1, p2, p3, p4, p5⟩ := pg_put hw50 hL16_0
        refine lv_aload_n hx hb dX12_forms_149 rfl (lv_at hl 4 rfl) ?_
        refine lv_iload hx hb dX12_forms_150 (lv_at hl 1 rfl) ?_
        refine lv_iconst (v := 0) hx hb dX12_forms_152 (by decide) ?_
        refine rc_v hAL hS hA (va_runS (As := [.ref (b jf), .int (nI (rs w i_16)), .int 0]) (rest := []) ⟨hx, hb, hml, hown, noTs⟩ (r_X12_goes l dC dI H.size cs b u50 a hA51 jf (by omega) w50 hs50 (rs w i_16) 0 (by first | assumption | omega | rfl | (congr 1; omega)) (by first | assumption | omega | rfl | (congr 1; omega)) (by first | assumption | omega | rfl | (congr 1; omega)) (by first | assumption | omega | rfl | (congr 1; omega)) (by omega)) ⟨cbE 3 (wd_1609 hE) (wd_126 hE) (wd_1607 hE) rfl rfl (by decide +kernel) ⟨Nat.le_of_ble_eq_true rfl, Nat.le_of_ble_eq_true rfl⟩, (wd_1608 hE)⟩ ⟨PR.blind, (r_pre (av := [.ref (b jf), .int (nI (rs w i_16)), .int 0]) hK hP hJ hE)⟩ rfl rfl hl.1 rfl (lv_room (Nat.le_of_ble_eq_true rfl)) dX12_forms_153 ⟨Nat.le_of_ble_eq_true rfl, Nat.le_of_ble_eq_true rfl⟩) (fun u53 H locs hpo53 hP hS => ?_)
        obtain ⟨h53_0, h53_1, h53_2, h53_3, h53_4, h53_5, h53_6, h53_7, hq53⟩ := hpo53
        obtain ⟨w54, hA54⟩ : ∃ g, rA u53 jf = g := ⟨_, rfl⟩
        rw [hA54] at h53_0 h53_1 h53_2 h53_3 h53_4 h53_5 h53_6 h53_7
        have hA55 := (hq53.1 1 (by simp only [List.mem_cons, List.not_mem_nil, or_false, not_or]; omega)).trans hA51
        have hA56 := (hq53.1 jw (by simp only [List.mem_cons, List.not_mem_nil, or_false, not_or]; omega)).trans hA52
        have hfr := FR.step hfr hq53 (by simp) (fun _ h => absurd h List.not_mem_nil) (fun h => rfl)
        have hl53_0 := pg_le h53_0
        refine lv_aload_n hx hb dX12_forms_156 rfl (lv_at hl 2 rfl) ?_
        refine lv_iload hx hb dX12_forms_157 (lv_at hl 1 rfl) ?_
        refine vp_callSi (va_Run.run (va_runV (As := [.int (nI (rs w i_16))]) (rest := []) ⟨hx, hb, hml, hown, noTs⟩ (r_X12_into l dC dI H.size cs b u53 a hA55 (rs w i_16) (by first | assumption | omega | rfl | (congr 1; omega)) (by first | assumption | omega | rfl | (congr 1; omega))) ⟨cbE 1 (wd_1672 hE) (wd_126 hE) (wd_1669 hE) rfl rfl (by decide +kernel) ⟨Nat.le_of_ble_eq_true rfl, Nat.le_of_ble_eq_true rfl⟩, (wd_1671 hE), (wd_87 hE)⟩ ⟨PR.blind, r_recv hK hP rfl, (r_pre (av := [.ref (b 0), .int (nI (rs w i_16))]) hK hP hJ hE)⟩ rfl rfl hl.1 rfl (lv_room (Nat.le_of_ble_eq_true rfl)) dX12_forms_159 ⟨Nat.le_of_ble_eq_true rfl, Nat.le_of_ble_eq_true rfl⟩)) (fun r57 hr57 => ?_)
        have hau57 := gg_jdx (a := a) (s := (rs w i_16)) (by assumption) (by first | assumption | omega)
        subst hr57
        refine lv_iload_n hx hb dX12_forms_162 rfl (lv_at hl 5 rfl) ?_
        refine lv_aload_n hx hb dX12_forms_163 rfl (lv_at hl 2 rfl) ?_
        refine lv_iload hx hb dX12_forms_164 (lv_at hl 1 rfl) ?_
        refine vp_callSi (va_Run.run (va_runV (As := [.int (nI (rs w i_16))]) (rest := [.int x_16, .int (nI (jdx a (rs w i_16)))]) ⟨hx, hb, hml, hown, noTs⟩ (r_X12_by l dC dI H.size cs b u53 a hA55 (rs w i_16) (by first | assumption | omega | rfl | (congr 1; omega)) (by first | assumption | omega | rfl | (congr 1; omega))) ⟨cbE 1 (wd_1668 hE) (wd_126 hE) (wd_1665 hE) rfl rfl (by decide +kernel) ⟨Nat.le_of_ble_eq_true rfl, Nat.le_of_ble_eq_true rfl⟩, (wd_1667 hE), (wd_86 hE)⟩ ⟨PR.blind, r_recv hK hP rfl, (r_pre (av := [.ref (b 0), .int (nI (rs w i_16))]) hK hP hJ hE)⟩ rfl rfl hl.1 rfl (lv_room (Nat.le_of_ble_eq_true rfl)) dX12_forms_166 ⟨Nat.le_of_ble_eq_true rfl, Nat.le_of_ble_eq_true rfl⟩)) (fun r58 hr58 => ?_)
        have hau58 := gg_idx (a := a) (s := (rs w i_16)) (by assumption) (by first | assumption | omega)
        subst hr58
        refine lv_idiv hx hb dX12_forms_169 (nI_ne0 (n := idx a (rs w i_16)) (by omega) (by omega)) ?_
        refine lv_topi (fun x59 ex59 => ?_)
        refine lv_imul hx hb dX12_forms_170 ?_
        refine lv_topi (fun x60 ex60 => ?_)
        refine lv_istore_n (lv' := [(3, .int x60), (7, .int (nI (rn f1_16))), (6, .int (nI (rs w i_16))), (0, .ref (b 0)), (1, .ref (b jw)), (2, .ref (b jf)), (4, .int (nI v_16)), (5, .int (nI i_16))]) hx hb dX12_forms_171 rfl hl (by decide) rfl (fun ls hl => ?_)
        refine lv_aload_n hx hb dX12_forms_172 rfl (lv_at hl 3 rfl) ?_
        refine lv_iload hx hb dX12_forms_173 (lv_at hl 2 rfl) ?_
        refine vp_callSi (va_Run.run (va_runV (As := [.int (nI (rs w i_16))]) (rest := []) ⟨hx, hb, hml, hown, noTs⟩ (r_X12_to l dC dI H.size cs b u53 a hA55 (rs w i_16) (by first | assumption | omega | rfl | (congr 1; omega)) (by first | assumption | omega | rfl | (congr 1; omega))) ⟨cbE 1 (wd_1606 hE) (wd_126 hE) (wd_1603 hE) rfl rfl (by decide +kernel) ⟨Nat.le_of_ble_eq_true rfl, Nat.le_of_ble_eq_true rfl⟩, (wd_1605 hE), (wd_77 hE)⟩ ⟨PR.blind, r_recv hK hP rfl, (r_pre (av := [.ref (b 0), .int (nI (rs w i_16))]) hK hP hJ hE)⟩ rfl rfl hl.1 rfl (lv_room (Nat.le_of_ble_eq_true rfl)) dX12_forms_175 ⟨Nat.le_of_ble_eq_true rfl, Nat.le_of_ble_eq_true rfl⟩)) (fun r61 hr61 => ?_)
        have hau61 := gg_dst (a := a) (s := (rs w i_16)) (by assumption) (by first | assumption | omega)
        subst hr61
        refine lv_istore (lv' := [(4, .int (nI (dst a (rs w i_16)))), (3, .int x60), (7, .int (nI (rn f1_16))), (6, .int (nI (rs w i_16))), (0, .ref (b 0)), (1, .ref (b jw)), (2, .ref (b jf)), (5, .int (nI i_16))]) hx hb dX12_forms_178 hl (by decide) rfl (fun ls hl => ?_)
        refine lv_aload_n hx hb dX12_forms_180 rfl (lv_at hl 4 rfl) ?_
        refine lv_iload hx hb dX12_forms_181 (lv_at hl 0 rfl) ?_
        refine lv_iload_n hx hb dX12_forms_183 rfl (lv_at hl 1 rfl) ?_
        refine lv_aload_n hx hb dX12_forms_184 rfl (lv_at hl 5 rfl) ?_
        refine lv_iload hx hb dX12_forms_185 (lv_at hl 7 rfl) ?_
        refine lv_iconst (v := 1) hx hb dX12_forms_187 (by decide) ?_
        refine lv_iadd hx hb dX12_forms_188 ?_
        refine W.eq (g2 := F0 m 189 ls [.int (nI (i_16 + 1)), .ref (b jw), .int x60, .int (nI (dst a (rs w i_16))), .ref (b 0)]) (congrArg (fun z : Int32 => F0 m 189 ls (.int z :: [.ref (b jw), .int x60, .int (nI (dst a (rs w i_16))), .ref (b 0)])) (nI_add i_16 1)) ?_
        refine vp_callSi (va_Run.run (va_runS (As := [.ref (b jw), .int (nI (i_16 + 1))]) (rest := [.int x60, .int (nI (dst a (rs w i_16))), .ref (b 0)]) ⟨hx, hb, hml, hown, noTs⟩ (r_X12_number l dC dI H.size cs b u53 a hA55 jw (by omega) w hA56 (i_16 + 1) (by first | assumption | omega | rfl | (congr 1; omega))) ⟨cbE 2 (wd_1664 hE) (wd_126 hE) (wd_1662 hE) rfl rfl (by decide +kernel) ⟨Nat.le_of_ble_eq_true rfl, Nat.le_of_ble_eq_true rfl⟩, (wd_1663 hE)⟩ ⟨PR.blind, (r_pre (av := [.ref (b jw), .int (nI (i_16 + 1))]) hK hP hJ hE)⟩ rfl rfl hl.1 rfl (lv_room (Nat.le_of_ble_eq_true rfl)) dX12_forms_189 ⟨Nat.le_of_ble_eq_true rfl, Nat.le_of_ble_eq_true rfl⟩)) (fun r62 hr62 => ?_)
        refine lv_iadd hx hb dX12_forms_192 ?_
        refine lv_topi (fun x63 ex63 => ?_)
        refine vp_callSi (va_Run.run (va_runV (As := [.int (nI (dst a (rs w i_16))), .int x63]) (rest := []) ⟨hx, hb, hml, hown, noTs⟩ (r_X12_round l dC dI H.size cs b u53 a hA55 (dst a (rs w i_16)) x63 (by first | assumption | omega | rfl | (congr 1; omega)) (by first | assumption | omega | rfl | (congr 1; omega))) ⟨cbE 2 (wd_1576 hE) (wd_126 hE) (wd_1573 hE) rfl rfl (by decide +kernel) ⟨Nat.le_of_ble_eq_true rfl, Nat.le_of_ble_eq_true rfl⟩, (wd_1575 hE), (wd_71 hE)⟩ ⟨PR.blind, r_recv hK hP rfl, (r_pre (av := [.ref (b 0), .int (nI (dst a (rs w i_16))), .int x63]) hK hP hJ hE)⟩ rfl rfl hl.1 rfl (lv_room (Nat.le_of_ble_eq_true rfl)) dX12_forms_193 ⟨Nat.le_of_ble_eq_true rfl, Nat.le_of_ble_eq_true rfl⟩)) (fun r64 hr64 => ?_)
        have hau64 := (gg_od (a := a) (v := (dst a (rs w i_16))) (by assumption) (by first | assumption | omega)).2
        obtain ⟨n64, rfl, hn64_0⟩ := hr64
        refine lv_istore_n (lv' := [(3, .int (nI n64)), (4, .int (nI (dst a (rs w i_16)))), (7, .int (nI (rn f1_16))), (6, .int (nI (rs w i_16))), (0, .ref (b 0)), (1, .ref (b jw)), (2, .ref (b jf)), (5, .int (nI i_16))]) hx hb dX12_forms_196 rfl hl (by decide) rfl (fun ls hl => ?_)
        refine lv_iinc (v := nI (i_16 + 1)) (lv' := [(5, .int (nI (i_16 + 1))), (3, .int (nI n64)), (4, .int (nI (dst a (rs w i_16)))), (7, .int (nI (rn f1_16))), (6, .int (nI (rs w i_16))), (0, .ref (b 0)), (1, .ref (b jw)), (2, .ref (b jf))]) hx hb dX12_forms_197 hl (k := 7) rfl (nI_1 i_16) (by decide) rfl (fun ls hl => ?_)
        refine lv_goto (tgt := 26) hx hb dX12_forms_200 (by decide) ?_
        exact ih16 _ u53 _ _ _ (by omega) ⟨hP, hS, hfr, (i_16 + 1), (dst a (rs w i_16)), (nI n64), w54, rfl, (by first | assumption | omega | rfl | (congr 1; omega)), (by first | assumption | omega | rfl | (congr 1; omega)), (by exact vx_s.symm), (by omega), (by omega), (by rw [vx_s]; omega), (by refine Or.inr ⟨?_, ?_⟩ <;> (first | rw [vx_s] | skip) <;> rw [nI_toInt (by omega)] <;> omega), hA54, lv_sub hl [5, 6, 7, 1, 2, 0] rfl⟩
      · have c47 := (b_eq (nI_toInt (n := rs f1_16 ((rn f1_16) - 1)) (by omega)) (nI_toInt (n := fl (rs w i_16)) (by omega))).mp c47
        refine lv_iload_n hx hb dX12_forms_67 rfl (lv_at hl 5 rfl) ?_
        refine lv_aload_n hx hb dX12_forms_68 rfl (lv_at hl 2 rfl) ?_
        refine lv_iload hx hb dX12_forms_69 (lv_at hl 1 rfl) ?_
        refine vp_callSi (va_Run.run (va_runV (As := [.int (nI (rs w i_16))]) (rest := [.int x_16]) ⟨hx, hb, hml, hown, noTs⟩ (r_X12_by l dC dI H.size cs b u16 a hA17 (rs w i_16) (by first | assumption | omega | rfl | (congr 1; omega)) (by first | assumption | omega | rfl | (congr 1; omega))) ⟨cbE 1 (wd_1668 hE) (wd_126 hE) (wd_1665 hE) rfl rfl (by decide +kernel) ⟨Nat.le_of_ble_eq_true rfl, Nat.le_of_ble_eq_true rfl⟩, (wd_1667 hE), (wd_86 hE)⟩ ⟨PR.blind, r_recv hK hP rfl, (r_pre (av := [.ref (b 0), .int (nI (rs w i_16))]) hK hP hJ hE)⟩ rfl rfl hl.1 rfl (lv_room (Nat.le_of_ble_eq_true rfl)) dX12_forms_71 ⟨Nat.le_of_ble_eq_true rfl, Nat.le_of_ble_eq_true rfl⟩)) (fun r65 hr65 => ?_)
        have hau65 := gg_idx (a := a) (s := (rs w i_16)) (by assumption) (by first | assumption | omega)
        subst hr65
        refine lv_irem hx hb dX12_forms_74 (nI_ne0 (n := idx a (rs w i_16)) (by omega) (by omega)) ?_
        refine lv_topi (fun x66 ex66 => ?_)
        refine lv_if_ne (tgt := 133) hx hb dX12_forms_75 (by decide) (fun c67 => ?_) (fun c67 => ?_)
        · have c67 := mt (b_eq (rfl : Int32.toInt x66 = _) (show Int32.toInt 0 = 0 from rfl)).mpr c67
          refine lv_aload_n hx hb dX12_forms_133 rfl (lv_at hl 4 rfl) ?_
          refine lv_iconst (v := 2) hx hb dX12_forms_134 (by decide) ?_
          refine lv_iconst (v := 2) hx hb dX12_forms_135 (by decide) ?_
          refine lv_iload hx hb dX12_forms_136 (lv_at hl 0 rfl) ?_
          refine lv_imul hx hb dX12_forms_138 ?_
          refine W.eq (g2 := F0 m 139 ls [.int (nI (2 * (rn f1_16))), .int 2, .ref (b jf)]) (congrArg (fun z : Int32 => F0 m 139 ls (.int z :: [.int 2, .ref (b jf)])) (pk_mul 2 (rn f1_16))) ?_
          refine lv_iadd hx hb dX12_forms_139 ?_
          refine W.eq (g2 := F0 m 140 ls [.int (nI (2 + (2 * (rn f1_16)))), .ref (b jf)]) (congrArg (fun z : Int32 => F0 m 140 ls (.int z :: [.ref (b jf)])) (nI_add 2 (2 * (rn f1_16)))) ?_
          refine lv_iload_n hx hb dX12_forms_140 rfl (lv_at hl 5 rfl) ?_
          refine lv_aload_n hx hb dX12_forms_141 rfl (lv_at hl 2 rfl) ?_
          refine lv_iload hx hb dX12_forms_142 (lv_at hl 1 rfl) ?_
          refine vp_callSi (va_Run.run (va_runV (As := [.int (nI (rs w i_16))]) (rest := [.int x_16, .int (nI (2 + (2 * (rn f1_16)))), .ref (b jf)]) ⟨hx, hb, hml, hown, noTs⟩ (r_X12_by l dC dI H.size cs b u16 a hA17 (rs w i_16) (by first | assumption | omega | rfl | (congr 1; omega)) (by first | assumption | omega | rfl | (congr 1; omega))) ⟨cbE 1 (wd_1668 hE) (wd_126 hE) (wd_1665 hE) rfl rfl (by decide +kernel) ⟨Nat.le_of_ble_eq_true rfl, Nat.le_of_ble_eq_true rfl⟩, (wd_1667 hE), (wd_86 hE)⟩ ⟨PR.blind, r_recv hK hP rfl, (r_pre (av := [.ref (b 0), .int (nI (rs w i_16))]) hK hP hJ hE)⟩ rfl rfl hl.1 rfl (lv_room (Nat.le_of_ble_eq_true rfl)) dX12_forms_144 ⟨Nat.le_of_ble_eq_true rfl, Nat.le_of_ble_eq_true rfl⟩)) (fun r68 hr68 => ?_)
          have hau68 := gg_idx (a := a) (s := (rs w i_16)) (by assumption) (by first | assumption | omega)
          subst hr68
          refine lv_irem hx hb dX12_forms_147 (nI_ne0 (n := idx a (rs w i_16)) (by omega) (by omega)) ?_
          refine lv_topi (fun x69 ex69 => ?_)
          refine r_iast (j := jf) (k := 2 + (2 * (rn f1_16))) (n := 200) (x := x69) hx hb hK hP hJ hAL hS (by omega) (fun _ => (rE_row (by omega))) hL16_7 (by omega) (by decide) dX12_forms_148 (fun u70 H locs hs70 hq70 hP hS => ?_)
          obtain ⟨w70, hw70⟩ : ∃ g, g = upd f1_16 (2 + (2 * (rn f1_16))) x69 := ⟨_, rfl⟩
          rw [← hw70] at hs70
          have hA71 := (hq70.1 1 (by simp only [List.mem_cons, List.not_mem_nil, or_false, not_or]; omega)).trans hA17
          have hA72 := (hq70.1 jw (by simp only [List.mem_cons, List.not_mem_nil, or_false, not_or]; omega)).trans hA18
          have hfr := FR.step hfr hq70 (by simp) (fun _ h => absurd h List.not_mem_nil) (fun h => rfl)
          obtain ⟨p1, p2, p3, p4, p5⟩ := pg_put hw70 hL16_0
          refine lv_aload_n hx hb dX12_forms_149 rfl (lv_at hl 4 rfl) ?_
          refine lv_iload hx hb dX12_forms_150 (lv_at hl 1 rfl) ?_
          refine lv_iconst (v := 0) hx hb dX12_forms_152 (by decide) ?_
          refine rc_v hAL hS hA (va_runS (As := [.ref (b jf), .int (nI (rs w i_16)), .int 0]) (rest := []) ⟨hx, hb, hml, hown, noTs⟩ (r_X12_goes l dC dI H.size cs b u70 a hA71 jf (by omega) w70 hs70 (rs w i_16) 0 (by first | assumption | omega | rfl | (congr 1; omega)) (by first | assumption | omega | rfl | (congr 1; omega)) (by first | assumption | omega | rfl | (congr 1; omega)) (by first | assumption | omega | rfl | (congr 1; omega)) (by omega)) ⟨cbE 3 (wd_1609 hE) (wd_126 hE) (wd_1607 hE) rfl rfl (by decide +kernel) ⟨Nat.le_of_ble_eq_true rfl, Nat.le_of_ble_eq_true rfl⟩, (wd_1608 hE)⟩ ⟨PR.blind, (r_pre (av := [.ref (b jf), .int (nI (rs w i_16)), .int 0]) hK hP hJ hE)⟩ rfl rfl hl.1 rfl (lv_room (Nat.le_of_ble_eq_true rfl)) dX12_forms_153 ⟨Nat.le_of_ble_eq_true rfl, Nat.le_of_ble_eq_true rfl⟩) (fun u73 H locs hpo73 hP hS => ?_)
          obtain ⟨h73_0, h73_1, h73_2, h73_3, h73_4, h73_5, h73_6, h73_7, hq73⟩ := hpo73
          obtain ⟨w74, hA74⟩ : ∃ g, rA u73 jf = g := ⟨_, rfl⟩
          rw [hA74] at h73_0 h73_1 h73_2 h73_3 h73_4 h73_5 h73_6 h73_7
          have hA75 := (hq73.1 1 (by simp only [List.mem_cons, List.not_mem_nil, or_false, not_or]; omega)).trans hA71
          have hA76 := (hq73.1 jw (by simp only [List.mem_cons, List.not_mem_nil, or_false, not_or]; omega)).trans hA72
          have hfr := FR.step hfr hq73 (by simp) (fun _ h => absurd h List.not_mem_nil) (fun h => rfl)
          have hl73_0 := pg_le h73_0
          refine lv_aload_n hx hb dX12_forms_156 rfl (lv_at hl 2 rfl) ?_
          refine lv_iload hx hb dX12_forms_157 (lv_at hl 1 rfl) ?_
          refine vp_callSi (va_Run.run (va_runV (As := [.int (nI (rs w i_16))]) (rest := []) ⟨hx, hb, hml, hown, noTs⟩ (r_X12_into l dC dI H.size cs b u73 a hA75 (rs w i_16) (by first | assumption | omega | rfl | (congr 1; omega)) (by first | assumption | omega | rfl | (congr 1; omega))) ⟨cbE 1 (wd_1672 hE) (wd_126 hE) (wd_1669 hE) rfl rfl (by decide +kernel) ⟨Nat.le_of_ble_eq_true rfl, Nat.le_of_ble_eq_true rfl⟩, (wd_1671 hE), (wd_87 hE)⟩ ⟨PR.blind, r_recv hK hP rfl, (r_pre (av := [.ref (b 0), .int (nI (rs w i_16))]) hK hP hJ hE)⟩ rfl rfl hl.1 rfl (lv_room (Nat.le_of_ble_eq_true rfl)) dX12_forms_159 ⟨Nat.le_of_ble_eq_true rfl, Nat.le_of_ble_eq_true rfl⟩)) (fun r77 hr77 => ?_)
          have hau77 := gg_jdx (a := a) (s := (rs w i_16)) (by assumption) (by first | assumption | omega)
          subst hr77
          refine lv_iload_n hx hb dX12_forms_162 rfl (lv_at hl 5 rfl) ?_
          refine lv_aload_n hx hb dX12_forms_163 rfl (lv_at hl 2 rfl) ?_
          refine lv_iload hx hb dX12_forms_164 (lv_at hl 1 rfl) ?_
          refine vp_callSi (va_Run.run (va_runV (As := [.int (nI (rs w i_16))]) (rest := [.int x_16, .int (nI (jdx a (rs w i_16)))]) ⟨hx, hb, hml, hown, noTs⟩ (r_X12_by l dC dI H.size cs b u73 a hA75 (rs w i_16) (by first | assumption | omega | rfl | (congr 1; omega)) (by first | assumption | omega | rfl | (congr 1; omega))) ⟨cbE 1 (wd_1668 hE) (wd_126 hE) (wd_1665 hE) rfl rfl (by decide +kernel) ⟨Nat.le_of_ble_eq_true rfl, Nat.le_of_ble_eq_true rfl⟩, (wd_1667 hE), (wd_86 hE)⟩ ⟨PR.blind, r_recv hK hP rfl, (r_pre (av := [.ref (b 0), .int (nI (rs w i_16))]) hK hP hJ hE)⟩ rfl rfl hl.1 rfl (lv_room (Nat.le_of_ble_eq_true rfl)) dX12_forms_166 ⟨Nat.le_of_ble_eq_true rfl, Nat.le_of_ble_eq_true rfl⟩)) (fun r78 hr78 => ?_)
          have hau78 := gg_idx (a := a) (s := (rs w i_16)) (by assumption) (by first | assumption | omega)
          subst hr78
          refine lv_idiv hx hb dX12_forms_169 (nI_ne0 (n := idx a (rs w i_16)) (by omega) (by omega)) ?_
          refine lv_topi (fun x79 ex79 => ?_)
          refine lv_imul hx hb dX12_forms_170 ?_
          refine lv_topi (fun x80 ex80 => ?_)
          refine lv_istore_n (lv' := [(3, .int x80), (7, .int (nI (rn f1_16))), (6, .int (nI (rs w i_16))), (0, .ref (b 0)), (1, .ref (b jw)), (2, .ref (b jf)), (4, .int (nI v_16)), (5, .int (nI i_16))]) hx hb dX12_forms_171 rfl hl (by decide) rfl (fun ls hl => ?_)
          refine lv_aload_n hx hb dX12_forms_172 rfl (lv_at hl 3 rfl) ?_
          refine lv_iload hx hb dX12_forms_173 (lv_at hl 2 rfl) ?_
          refine vp_callSi (va_Run.run (va_runV (As := [.int (nI (rs w i_16))]) (rest := []) ⟨hx, hb, hml, hown, noTs⟩ (r_X12_to l dC dI H.size cs b u73 a hA75 (rs w i_16) (by first | assumption | omega | rfl | (congr 1; omega)) (by first | assumption | omega | rfl | (congr 1; omega))) ⟨cbE 1 (wd_1606 hE) (wd_126 hE) (wd_1603 hE) rfl rfl (by decide +kernel) ⟨Nat.le_of_ble_eq_true rfl, Nat.le_of_ble_eq_true rfl⟩, (wd_1605 hE), (wd_77 hE)⟩ ⟨PR.blind, r_recv hK hP rfl, (r_pre (av := [.ref (b 0), .int (nI (rs w i_16))]) hK hP hJ hE)⟩ rfl rfl hl.1 rfl (lv_room (Nat.le_of_ble_eq_true rfl)) dX12_forms_175 ⟨Nat.le_of_ble_eq_true rfl, Nat.le_of_ble_eq_true rfl⟩)) (fun r81 hr81 => ?_)
          have hau81 := gg_dst (a := a) (s := (rs w i_16)) (by assumption) (by first | assumption | omega)
          subst hr81
          refine lv_istore (lv' := [(4, .int (nI (dst a (rs w i_16)))), (3, .int x80), (7, .int (nI (rn f1_16))), (6, .int (nI (rs w i_16))), (0, .ref (b 0)), (1, .ref (b jw)), (2, .ref (b jf)), (5, .int (nI i_16))]) hx hb dX12_forms_178 hl (by decide) rfl (fun ls hl => ?_)
          refine lv_aload_n hx hb dX12_forms_180 rfl (lv_at hl 4 rfl) ?_
          refine lv_iload hx hb dX12_forms_181 (lv_at hl 0 rfl) ?_
          refine lv_iload_n hx hb dX12_forms_183 rfl (lv_at hl 1 rfl) ?_
          refine lv_aload_n hx hb dX12_forms_184 rfl (lv_at hl 5 rfl) ?_
          refine lv_iload hx hb dX12_forms_185 (lv_at hl 7 rfl) ?_
          refine lv_iconst (v := 1) hx hb dX12_forms_187 (by decide) ?_
          refine lv_iadd hx hb dX12_forms_188 ?_
          refine W.eq (g2 := F0 m 189 ls [.int (nI (i_16 + 1)), .ref (b jw), .int x80, .int (nI (dst a (rs w i_16))), .ref (b 0)]) (congrArg (fun z : Int32 => F0 m 189 ls (.int z :: [.ref (b jw), .int x80, .int (nI (dst a (rs w i_16))), .ref (b 0)])) (nI_add i_16 1)) ?_
          refine vp_callSi (va_Run.run (va_runS (As := [.ref (b jw), .int (nI (i_16 + 1))]) (rest := [.int x80, .int (nI (dst a (rs w i_16))), .ref (b 0)]) ⟨hx, hb, hml, hown, noTs⟩ (r_X12_number l dC dI H.size cs b u73 a hA75 jw (by omega) w hA76 (i_16 + 1) (by first | assumption | omega | rfl | (congr 1; omega))) ⟨cbE 2 (wd_1664 hE) (wd_126 hE) (wd_1662 hE) rfl rfl (by decide +kernel) ⟨Nat.le_of_ble_eq_true rfl, Nat.le_of_ble_eq_true rfl⟩, (wd_1663 hE)⟩ ⟨PR.blind, (r_pre (av := [.ref (b jw), .int (nI (i_16 + 1))]) hK hP hJ hE)⟩ rfl rfl hl.1 rfl (lv_room (Nat.le_of_ble_eq_true rfl)) dX12_forms_189 ⟨Nat.le_of_ble_eq_true rfl, Nat.le_of_ble_eq_true rfl⟩)) (fun r82 hr82 => ?_)
          refine lv_iadd hx hb dX12_forms_192 ?_
          refine lv_topi (fun x83 ex83 => ?_)
          refine vp_callSi (va_Run.run (va_runV (As := [.int (nI (dst a (rs w i_16))), .int x83]) (rest := []) ⟨hx, hb, hml, hown, noTs⟩ (r_X12_round l dC dI H.size cs b u73 a hA75 (dst a (rs w i_16)) x83 (by first | assumption | omega | rfl | (congr 1; omega)) (by first | assumption | omega | rfl | (congr 1; omega))) ⟨cbE 2 (wd_1576 hE) (wd_126 hE) (wd_1573 hE) rfl rfl (by decide +kernel) ⟨Nat.le_of_ble_eq_true rfl, Nat.le_of_ble_eq_true rfl⟩, (wd_1575 hE), (wd_71 hE)⟩ ⟨PR.blind, r_recv hK hP rfl, (r_pre (av := [.ref (b 0), .int (nI (dst a (rs w i_16))), .int x83]) hK hP hJ hE)⟩ rfl rfl hl.1 rfl (lv_room (Nat.le_of_ble_eq_true rfl)) dX12_forms_193 ⟨Nat.le_of_ble_eq_true rfl, Nat.le_of_ble_eq_true rfl⟩)) (fun r84 hr84 => ?_)
          have hau84 := (gg_od (a := a) (v := (dst a (rs w i_16))) (by assumption) (by first | assumption | omega)).2
          obtain ⟨n84, rfl, hn84_0⟩ := hr84
          refine lv_istore_n (lv' := [(3, .int (nI n84)), (4, .int (nI (dst a (rs w i_16)))), (7, .int (nI (rn f1_16))), (6, .int (nI (rs w i_16))), (0, .ref (b 0)), (1, .ref (b jw)), (2, .ref (b jf)), (5, .int (nI i_16))]) hx hb dX12_forms_196 rfl hl (by decide) rfl (fun ls hl => ?_)
          refine lv_iinc (v := nI (i_16 + 1)) (lv' := [(5, .int (nI (i_16 + 1))), (3, .int (nI n84)), (4, .int (nI (dst a (rs w i_16)))), (7, .int (nI (rn f1_16))), (6, .int (nI (rs w i_16))), (0, .ref (b 0)), (1, .ref (b jw)), (2, .ref (b jf))]) hx hb dX12_forms_197 hl (k := 7) rfl (nI_1 i_16) (by decide) rfl (fun ls hl => ?_)
          refine lv_goto (tgt := 26) hx hb dX12_forms_200 (by decide) ?_
          exact ih16 _ u73 _ _ _ (by omega) ⟨hP, hS, hfr, (i_16 + 1), (dst a (rs w i_16)), (nI n84), w74, rfl, (by first | assumption | omega | rfl | (congr 1; omega)), (by first | assumption | omega | rfl | (congr 1; omega)), (by exact vx_s.symm), (by omega), (by omega), (by rw [vx_s]; omega), (by refine Or.inr ⟨?_, ?_⟩ <;> (first | rw [vx_s] | skip) <;> rw [nI_toInt (by omega)] <;> omega), hA74, lv_sub hl [5, 6, 7, 1, 2, 0] rfl⟩
        · have c67 := (b_eq (rfl : Int32.toInt x66 = _) (show Int32.toInt 0 = 0 from rfl)).mp c67
          refine lv_aload_n hx hb dX12_forms_78 rfl (lv_at hl 4 rfl) ?_
          refine lv_iload hx hb dX12_forms_79 (lv_at hl 0 rfl) ?_
          refine lv_iconst (v := 1) hx hb dX12_forms_81 (by decide) ?_
          refine lv_isub hx hb dX12_forms_82 ?_
          refine W.eq (g2 := F0 m 83 ls [.int (nI ((rn f1_16) - 1)), .ref (b jf)]) (congrArg (fun z : Int32 => F0 m 83 ls (.int z :: [.ref (b jf)])) (pk_sub (a := rn f1_16) (b := 1) (by omega))) ?_
          refine vp_callSi (va_Run.run (va_runS (As := [.ref (b jf), .int (nI ((rn f1_16) - 1))]) (rest := []) ⟨hx, hb, hml, hown, noTs⟩ (r_X12_step l dC dI H.size cs b u16 a hA17 jf (by omega) f1_16 hL16_7 ((rn f1_16) - 1) (by first | assumption | omega | rfl | (congr 1; omega)) (by first | assumption | omega | rfl | (congr 1; omega))) ⟨cbE 2 (wd_1602 hE) (wd_126 hE) (wd_1600 hE) rfl rfl (by decide +kernel) ⟨Nat.le_of_ble_eq_true rfl, Nat.le_of_ble_eq_true rfl⟩, (wd_1601 hE)⟩ ⟨PR.blind, (r_pre (av := [.ref (b jf), .int (nI ((rn f1_16) - 1))]) hK hP hJ hE)⟩ rfl rfl hl.1 rfl (lv_room (Nat.le_of_ble_eq_true rfl)) dX12_forms_83 ⟨Nat.le_of_ble_eq_true rfl, Nat.le_of_ble_eq_true rfl⟩)) (fun r85 hr85 => ?_)
          have hau85 := pg_sl (a := a) (w := f1_16) (i := ((rn f1_16) - 1)) (by assumption) (by first | assumption | omega)
          subst hr85
          refine lv_istore (lv' := [(8, .int (nI (rs f1_16 ((rn f1_16) - 1)))), (7, .int (nI (rn f1_16))), (6, .int (nI (rs w i_16))), (0, .ref (b 0)), (1, .ref (b jw)), (2, .ref (b jf)), (3, .int x_16), (4, .int (nI v_16)), (5, .int (nI i_16))]) hx hb dX12_forms_86 hl (by decide) rfl (fun ls hl => ?_)
          refine lv_aload_n hx hb dX12_forms_88 rfl (lv_at hl 5 rfl) ?_
          refine lv_iconst (v := 1) hx hb dX12_forms_89 (by decide) ?_
          refine lv_dup2_11 hx hb dX12_forms_90 rfl rfl ?_
          refine r_iald (j := jf) (k := 1) (n := 200) (x := nI (rn f1_16)) hx hb hK hP (by omega) (rE_row (by omega)) (by decide) (by decide) (by rw [hL16_7]; exact pg_n hL16_0) dX12_forms_91 ?_
          refine lv_iconst (v := 1) hx hb dX12_forms_92 (by decide) ?_
          refine lv_isub hx hb dX12_forms_93 ?_
          refine W.eq (g2 := F0 m 94 ls [.int (nI ((rn f1_16) - 1)), .int 1, .ref (b jf)]) (congrArg (fun z : Int32 => F0 m 94 ls (.int z :: [.int 1, .ref (b jf)])) (pk_sub (a := rn f1_16) (b := 1) (by omega))) ?_
          refine r_iast (j := jf) (k := 1) (n := 200) (x := nI ((rn f1_16) - 1)) hx hb hK hP hJ hAL hS (by omega) (fun _ => (rE_row (by omega))) hL16_7 (by decide) (by decide) dX12_forms_94 (fun u87 H locs hs87 hq87 hP hS => ?_)
          obtain ⟨w87, hw87⟩ : ∃ g, g = upd f1_16 1 (nI ((rn f1_16) - 1)) := ⟨_, rfl⟩
          rw [← hw87] at hs87
          have hA88 := (hq87.1 1 (by simp only [List.mem_cons, List.not_mem_nil, or_false, not_or]; omega)).trans hA17
          have hA89 := (hq87.1 jw (by simp only [List.mem_cons, List.not_mem_nil, or_false, not_or]; omega)).trans hA18
          have hfr := FR.step hfr hq87 (by simp) (fun _ h => absurd h List.not_mem_nil) (fun h => rfl)
          obtain ⟨p1, p2, p3, p4, p5⟩ := pg_cut (n := rn f1_16 - 1) hL16_0 (by omega) (show w87 0 = _ by rw [hw87, pk_un (by omega)]) (by rw [hw87]; exact pk_us) (fun i _ => by rw [hw87, pk_un (by omega)])
          have p6 : vend a w87 = dst a (rs w i_16) := by rw [p4, show rs f1_16 (rn f1_16 - 1) = fl (rs w i_16) by omega]; rfl
          refine lv_aload_n hx hb dX12_forms_95 rfl (lv_at hl 5 rfl) ?_
          refine lv_iload hx hb dX12_forms_96 (lv_at hl 1 rfl) ?_
          refine lv_iconst (v := 1) hx hb dX12_forms_98 (by decide) ?_
          refine lv_isub hx hb dX12_forms_99 ?_
          refine W.eq (g2 := F0 m 100 ls [.int (nI ((rn f1_16) - 1)), .ref (b jf)]) (congrArg (fun z : Int32 => F0 m 100 ls (.int z :: [.ref (b jf)])) (pk_sub (a := rn f1_16) (b := 1) (by omega))) ?_
          refine vp_callSi (va_Run.run (va_runS (As := [.ref (b jf), .int (nI ((rn f1_16) - 1))]) (rest := []) ⟨hx, hb, hml, hown, noTs⟩ (r_X12_number l dC dI H.size cs b u87 a hA88 jf (by omega) w87 hs87 ((rn f1_16) - 1) (by first | assumption | omega | rfl | (congr 1; omega))) ⟨cbE 2 (wd_1664 hE) (wd_126 hE) (wd_1662 hE) rfl rfl (by decide +kernel) ⟨Nat.le_of_ble_eq_true rfl, Nat.le_of_ble_eq_true rfl⟩, (wd_1663 hE)⟩ ⟨PR.blind, (r_pre (av := [.ref (b jf), .int (nI ((rn f1_16) - 1))]) hK hP hJ hE)⟩ rfl rfl hl.1 rfl (lv_room (Nat.le_of_ble_eq_true rfl)) dX12_forms_100 ⟨Nat.le_of_ble_eq_true rfl, Nat.le_of_ble_eq_true rfl⟩)) (fun r90 hr90 => ?_)
          refine lv_iload_n hx hb dX12_forms_103 rfl (lv_at hl 6 rfl) ?_
          refine lv_aload_n hx hb dX12_forms_104 rfl (lv_at hl 3 rfl) ?_
          refine lv_iload hx hb dX12_forms_105 (lv_at hl 2 rfl) ?_
          refine vp_callSi (va_Run.run (va_runV (As := [.int (nI (rs w i_16))]) (rest := [.int x_16, .int r90]) ⟨hx, hb, hml, hown, noTs⟩ (r_X12_by l dC dI H.size cs b u87 a hA88 (rs w i_16) (by first | assumption | omega | rfl | (congr 1; omega)) (by first | assumption | omega | rfl | (congr 1; omega))) ⟨cbE 1 (wd_1668 hE) (wd_126 hE) (wd_1665 hE) rfl rfl (by decide +kernel) ⟨Nat.le_of_ble_eq_true rfl, Nat.le_of_ble_eq_true rfl⟩, (wd_1667 hE), (wd_86 hE)⟩ ⟨PR.blind, r_recv hK hP rfl, (r_pre (av := [.ref (b 0), .int (nI (rs w i_16))]) hK hP hJ hE)⟩ rfl rfl hl.1 rfl (lv_room (Nat.le_of_ble_eq_true rfl)) dX12_forms_107 ⟨Nat.le_of_ble_eq_true rfl, Nat.le_of_ble_eq_true rfl⟩)) (fun r91 hr91 => ?_)
          have hau91 := gg_idx (a := a) (s := (rs w i_16)) (by assumption) (by first | assumption | omega)
          subst hr91
          refine lv_idiv hx hb dX12_forms_110 (nI_ne0 (n := idx a (rs w i_16)) (by omega) (by omega)) ?_
          refine lv_topi (fun x92 ex92 => ?_)
          refine lv_aload_n hx hb dX12_forms_111 rfl (lv_at hl 3 rfl) ?_
          refine lv_iload hx hb dX12_forms_112 (lv_at hl 0 rfl) ?_
          refine vp_callSi (va_Run.run (va_runV (As := [.int (nI (rs f1_16 ((rn f1_16) - 1)))]) (rest := [.int x92, .int r90]) ⟨hx, hb, hml, hown, noTs⟩ (r_X12_by l dC dI H.size cs b u87 a hA88 (rs f1_16 ((rn f1_16) - 1)) (by first | assumption | omega | rfl | (congr 1; omega)) (by first | assumption | omega | rfl | (congr 1; omega))) ⟨cbE 1 (wd_1668 hE) (wd_126 hE) (wd_1665 hE) rfl rfl (by decide +kernel) ⟨Nat.le_of_ble_eq_true rfl, Nat.le_of_ble_eq_true rfl⟩, (wd_1667 hE), (wd_86 hE)⟩ ⟨PR.blind, r_recv hK hP rfl, (r_pre (av := [.ref (b 0), .int (nI (rs f1_16 ((rn f1_16) - 1)))]) hK hP hJ hE)⟩ rfl rfl hl.1 rfl (lv_room (Nat.le_of_ble_eq_true rfl)) dX12_forms_114 ⟨Nat.le_of_ble_eq_true rfl, Nat.le_of_ble_eq_true rfl⟩)) (fun r93 hr93 => ?_)
          have hau93 := gg_idx (a := a) (s := (rs f1_16 ((rn f1_16) - 1))) (by assumption) (by first | assumption | omega)
          subst hr93
          refine lv_imul hx hb dX12_forms_117 ?_
          refine lv_topi (fun x94 ex94 => ?_)
          refine lv_iadd hx hb dX12_forms_118 ?_
          refine lv_topi (fun x95 ex95 => ?_)
          refine lv_istore_n (lv' := [(3, .int x95), (8, .int (nI (rs f1_16 ((rn f1_16) - 1)))), (7, .int (nI (rn f1_16))), (6, .int (nI (rs w i_16))), (0, .ref (b 0)), (1, .ref (b jw)), (2, .ref (b jf)), (4, .int (nI v_16)), (5, .int (nI i_16))]) hx hb dX12_forms_119 rfl hl (by decide) rfl (fun ls hl => ?_)
          refine lv_aload_n hx hb dX12_forms_120 rfl (lv_at hl 4 rfl) ?_
          refine lv_dup hx hb dX12_forms_121 rfl ?_
          obtain ⟨y96, hy96⟩ : ∃ z : Int32, rF u87 5 = z := ⟨_, rfl⟩
          refine r_get (v := .int y96) hx hb (ly_X12 hE) hown hK hP rfl 5 (by decide) (wd_1386 hE) (fun _ h9 => h9) (congrArg (fun z : Int32 => some (Value.int z)) hy96) dX12_forms_122 ?_
          refine lv_iconst (v := 1) hx hb dX12_forms_125 (by decide) ?_
          refine lv_iadd hx hb dX12_forms_126 ?_
          refine lv_topi (fun x97 ex97 => ?_)
          refine r_put (v := x97) hx hb (ly_X12 hE) tyX12 tyX12_ok nmX12 hown hK hP hJ hAL hS rfl 5 (by decide) (wd_1386 hE) (fun _ h9 => h9) rfl (by decide +kernel) rfl (by decide) dX12_forms_127 (fun u98 H locs hf98 hq98 hP hS => ?_)
          have hA99 := (hq98.1 1 List.not_mem_nil).trans hA88
          have hA100 := (hq98.1 jw List.not_mem_nil).trans hA89
          have hA101 := (hq98.1 jf List.not_mem_nil).trans hs87
          have hfr := FR.step hfr hq98 (fun _ h => absurd h List.not_mem_nil) (by decide) (fun h => rfl)
          refine lv_goto (tgt := 172) hx hb dX12_forms_130 (by decide) ?_
          refine lv_aload_n hx hb dX12_forms_172 rfl (lv_at hl 4 rfl) ?_
          refine lv_iload hx hb dX12_forms_173 (lv_at hl 3 rfl) ?_
          refine vp_callSi (va_Run.run (va_runV (As := [.int (nI (rs w i_16))]) (rest := []) ⟨hx, hb, hml, hown, noTs⟩ (r_X12_to l dC dI H.size cs b u98 a hA99 (rs w i_16) (by first | assumption | omega | rfl | (congr 1; omega)) (by first | assumption | omega | rfl | (congr 1; omega))) ⟨cbE 1 (wd_1606 hE) (wd_126 hE) (wd_1603 hE) rfl rfl (by decide +kernel) ⟨Nat.le_of_ble_eq_true rfl, Nat.le_of_ble_eq_true rfl⟩, (wd_1605 hE), (wd_77 hE)⟩ ⟨PR.blind, r_recv hK hP rfl, (r_pre (av := [.ref (b 0), .int (nI (rs w i_16))]) hK hP hJ hE)⟩ rfl rfl hl.1 rfl (lv_room (Nat.le_of_ble_eq_true rfl)) dX12_forms_175 ⟨Nat.le_of_ble_eq_true rfl, Nat.le_of_ble_eq_true rfl⟩)) (fun r102 hr102 => ?_)
          have hau102 := gg_dst (a := a) (s := (rs w i_16)) (by assumption) (by first | assumption | omega)
          subst hr102
          refine lv_istore (lv' := [(4, .int (nI (dst a (rs w i_16)))), (3, .int x95), (8, .int (nI (rs f1_16 ((rn f1_16) - 1)))), (7, .int (nI (rn f1_16))), (6, .int (nI (rs w i_16))), (0, .ref (b 0)), (1, .ref (b jw)), (2, .ref (b jf)), (5, .int (nI i_16))]) hx hb dX12_forms_178 hl (by decide) rfl (fun ls hl => ?_)
          refine lv_aload_n hx hb dX12_forms_180 rfl (lv_at hl 5 rfl) ?_
          refine lv_iload hx hb dX12_forms_181 (lv_at hl 0 rfl) ?_
          refine lv_iload_n hx hb dX12_forms_183 rfl (lv_at hl 1 rfl) ?_
          refine lv_aload_n hx hb dX12_forms_184 rfl (lv_at hl 6 rfl) ?_
          refine lv_iload hx hb dX12_forms_185 (lv_at hl 8 rfl) ?_
          refine lv_iconst (v := 1) hx hb dX12_forms_187 (by decide) ?_
          refine lv_iadd hx hb dX12_forms_188 ?_
          refine W.eq (g2 := F0 m 189 ls [.int (nI (i_16 + 1)), .ref (b jw), .int x95, .int (nI (dst a (rs w i_16))), .ref (b 0)]) (congrArg (fun z : Int32 => F0 m 189 ls (.int z :: [.ref (b jw), .int x95, .int (nI (dst a (rs w i_16))), .ref (b 0)])) (nI_add i_16 1)) ?_
          refine vp_callSi (va_Run.run (va_runS (As := [.ref (b jw), .int (nI (i_16 + 1))]) (rest := [.int x95, .int (nI (dst a (rs w i_16))), .ref (b 0)]) ⟨hx, hb, hml, hown, noTs⟩ (r_X12_number l dC dI H.size cs b u98 a hA99 jw (by omega) w hA100 (i_16 + 1) (by first | assumption | omega | rfl | (congr 1; omega))) ⟨cbE 2 (wd_1664 hE) (wd_126 hE) (wd_1662 hE) rfl rfl (by decide +kernel) ⟨Nat.le_of_ble_eq_true rfl, Nat.le_of_ble_eq_true rfl⟩, (wd_1663 hE)⟩ ⟨PR.blind, (r_pre (av := [.ref (b jw), .int (nI (i_16 + 1))]) hK hP hJ hE)⟩ rfl rfl hl.1 rfl (lv_room (Nat.le_of_ble_eq_true rfl)) dX12_forms_189 ⟨Nat.le_of_ble_eq_true rfl, Nat.le_of_ble_eq_true rfl⟩)) (fun r103 hr103 => ?_)
          refine lv_iadd hx hb dX12_forms_192 ?_
          refine lv_topi (fun x104 ex104 => ?_)
          refine vp_callSi (va_Run.run (va_runV (As := [.int (nI (dst a (rs w i_16))), .int x104]) (rest := []) ⟨hx, hb, hml, hown, noTs⟩ (r_X12_round l dC dI H.size cs b u98 a hA99 (dst a (rs w i_16)) x104 (by first | assumption | omega | rfl | (congr 1; omega)) (by first | assumption | omega | rfl | (congr 1; omega))) ⟨cbE 2 (wd_1576 hE) (wd_126 hE) (wd_1573 hE) rfl rfl (by decide +kernel) ⟨Nat.le_of_ble_eq_true rfl, Nat.le_of_ble_eq_true rfl⟩, (wd_1575 hE), (wd_71 hE)⟩ ⟨PR.blind, r_recv hK hP rfl, (r_pre (av := [.ref (b 0), .int (nI (dst a (rs w i_16))), .int x104]) hK hP hJ hE)⟩ rfl rfl hl.1 rfl (lv_room (Nat.le_of_ble_eq_true rfl)) dX12_forms_193 ⟨Nat.le_of_ble_eq_true rfl, Nat.le_of_ble_eq_true rfl⟩)) (fun r105 hr105 => ?_)
          have hau105 := (gg_od (a := a) (v := (dst a (rs w i_16))) (by assumption) (by first | assumption | omega)).2
          obtain ⟨n105, rfl, hn105_0⟩ := hr105
          refine lv_istore_n (lv' := [(3, .int (nI n105)), (4, .int (nI (dst a (rs w i_16)))), (8, .int (nI (rs f1_16 ((rn f1_16) - 1)))), (7, .int (nI (rn f1_16))), (6, .int (nI (rs w i_16))), (0, .ref (b 0)), (1, .ref (b jw)), (2, .ref (b jf)), (5, .int (nI i_16))]) hx hb dX12_forms_196 rfl hl (by decide) rfl (fun ls hl => ?_)
          refine lv_iinc (v := nI (i_16 + 1)) (lv' := [(5, .int (nI (i_16 + 1))), (3, .int (nI n105)), (4, .int (nI (dst a (rs w i_16)))), (8, .int (nI (rs f1_16 ((rn f1_16) - 1)))), (7, .int (nI (rn f1_16))), (6, .int (nI (rs w i_16))), (0, .ref (b 0)), (1, .ref (b jw)), (2, .ref (b jf))]) hx hb dX12_forms_197 hl (k := 8) rfl (nI_1 i_16) (by decide) rfl (fun ls hl => ?_)
          refine lv_goto (tgt := 26) hx hb dX12_forms_200 (by decide) ?_
          exact ih16 _ u98 _ _ _ (by omega) ⟨hP, hS, hfr, (i_16 + 1), (dst a (rs w i_16)), (nI n105), w87, rfl, (by first | assumption | omega | rfl | (congr 1; omega)), (by first | assumption | omega | rfl | (congr 1; omega)), (by exact vx_s.symm), (by omega), (by omega), (by rw [vx_s]; omega), (by refine Or.inr ⟨?_, ?_⟩ <;> (first | rw [vx_s] | skip) <;> rw [nI_toInt (by omega)] <;> omega), hA101, lv_sub hl [6, 7, 8, 1, 2, 0] rfl⟩
