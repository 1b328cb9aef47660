set_option maxHeartbeats 4000000 in
set_option maxRecDepth 100000 in
theorem x_X12_key (l : Launch) (dC : Nat → ClassId) (dI : Nat → Nat → Nat) (sz : Nat) (cs : Nat → ClassId) (b : Nat → Nat) (u : RS) (adK adV : Nat → Nat) (tx : Nat → Int32) (hAc16 : rA u 16 = tx) (sz1 : Nat) (p0 : Nat) (hF11 : rF u 11 = nI sz1) (hp0 : TE u tx sz1 p0) (hp1 : sz1 ≤ 700) : Met l yX12_key [.code yX12_key cX12_key 6 (some .int)] ({ frames := 4, cells := 0, slots := 0, locals := 160 }) (PRX [.ref (b 0)] sz dC dI cs b u adK adV) (vp_Si (fun (r : Int32) => (r = 0 ∧ (kd tx sz1 p0 = 3)) ∨ (r = 1 ∧ (kd tx sz1 p0 = 4)) ∨ (r = 2 ∧ (kd tx sz1 p0 = 5)) ∨ (r = -1 ∧ (kd tx sz1 p0 ≠ 3 ∧ kd tx sz1 p0 ≠ 4 ∧ kd tx sz1 p0 ≠ 5)))) 0 0 (fun _ => False) := by
  refine Met.ofW (cc := cX12_key) (maxL := 6) (ret := (some .int)) (by decide) rfl ?_
  intro p e s m args below meth c s₁ B hml hv
  obtain ⟨rfl, hsz, hP, hK, hJ, hE, hX, hZ⟩ := hv
  have hx := B.exec
  have hb := B.bytes
  have hr := B.returns
  have hown : s.vm.findClass RX12 = some m.cls := findClass_of_methodNamed B.named
  have hlocks := B.notSynchronized
  subst hsz
  have hS : va_S (AR b s.heap.size) s.heap s.heap [] := va_S.rf
  have hl := lv_entry ([.ref (b 0)]) (n := 6) (Nat.le_of_ble_eq_true rfl)
  rw [lg_entry_eq]
  generalize (lg_sl ([.ref (b 0)]) ++ List.replicate (6 - (lg_sl ([.ref (b 0)])).length) Slot.unset).toArray = ls at hl ⊢
  have hl : lv_has ls 6 [(0, .ref (b 0))] := hl
  have hte2 : TE u tx sz1 p0 := hp0
  obtain ⟨te13_2, te14_2, te12_2, tep2, tv2, tvl2, te15_2, tvv2⟩ := hte2
  have tkf2 := kd_f tx sz1 p0
  have tna2 := tnd_le (tx := tx) tep2
  have tnb2 := fun h : p0 < sz1 => tnd_gt (tx := tx) h
  refine lv_aload_n hx hb dX12_key_0 rfl (lv_at hl 0 rfl) ?_
  refine r_get (v := .int (nI (tkr (kd tx sz1 p0)))) hx hb (ly_X12 hE) hown hK hP rfl 12 (by decide) (wd_1393 hE) (fun _ h9 => h9) (congrArg (fun z : Int32 => some (Value.int z)) te12_2) dX12_key_1 ?_
  refine lv_iconst (v := 2) hx hb dX12_key_4 (by decide) ?_
  refine lv_icmp_eq (tgt := 10) hx hb dX12_key_5 (by decide) (fun c4 => ?_) (fun c4 => ?_)
  · have c4 := (b_eq (nI_toInt (n := tkr (kd tx sz1 p0)) (by omega)) (show Int32.toInt 2 = 2 from rfl)).mp c4
    refine lv_iconst (v := 0) hx hb dX12_key_10 (by decide) ?_
    refine lv_istore_n (lv' := [(1, .int 0), (0, .ref (b 0))]) hx hb dX12_key_11 rfl hl (by decide) rfl (fun ls hl => ?_)
    refine lv_iconst (v := 1) hx hb dX12_key_12 (by decide) ?_
    refine lv_istore_n (lv' := [(2, .int 1), (1, .int 0), (0, .ref (b 0))]) hx hb dX12_key_13 rfl hl (by decide) rfl (fun ls hl => ?_)
    refine lv_iload_n hx hb dX12_key_14 rfl (lv_at hl 0 rfl) ?_
    refine va_ldcS hx hb hown hZ dX12_key_15 ?_
    refine vp_callSi (va_Run.run (va_runV (As := []) (rest := [.int 1]) ⟨hx, hb, hml, hown, noTs⟩ (s_J0_length l adK adV 3 (by decide)) ⟨cbE 0 (wd_488 hE) (wd_129 hE) (wd_1527 hE) rfl rfl (by decide +kernel) ⟨Nat.le_of_ble_eq_true rfl, Nat.le_of_ble_eq_true rfl⟩, (wd_486 hE), (wd_487 hE)⟩ ⟨PS.blind, vk_recv hX.1 (by decide) hS, ps_pre (av := [.ref (adK 3)]) hX hS hE⟩ rfl rfl hl.1 rfl (lv_room (Nat.le_of_ble_eq_true rfl)) dX12_key_17 ⟨Nat.le_of_ble_eq_true rfl, Nat.le_of_ble_eq_true rfl⟩)) (fun r5 hr5 => ?_)
    have hr5 : r5 = 18 := hr5
    subst hr5
    refine lv_icmp_ge (tgt := 133) hx hb dX12_key_20 (by decide) (fun c6 => absurd c6 (by decide)) (fun c6 => ?_)
    refine lv_iload_n hx hb dX12_key_23 rfl (lv_at hl 0 rfl) ?_
    refine lv_istore_n (lv' := [(3, .int 1), (2, .int 1), (1, .int 0), (0, .ref (b 0))]) hx hb dX12_key_24 rfl hl (by decide) rfl (fun ls hl => ?_)
    refine va_ldcS hx hb hown hZ dX12_key_25 ?_
    refine lv_iload_n hx hb dX12_key_27 rfl (lv_at hl 0 rfl) ?_
    refine vp_callSi (va_Run.run (va_runV (As := [.int (nI 1)]) (rest := []) ⟨hx, hb, hml, hown, noTs⟩ (s_J0_charAt l adK adV 3 1 (by decide) (by show _ < 18; omega)) ⟨cbE 1 (wd_498 hE) (wd_129 hE) (wd_1528 hE) rfl rfl (by decide +kernel) ⟨Nat.le_of_ble_eq_true rfl, Nat.le_of_ble_eq_true rfl⟩, (wd_496 hE), (wd_497 hE)⟩ ⟨PS.blind, vk_recv hX.1 (by decide) hS, ps_pre (av := [.ref (adK 3), .int (nI 1)]) hX hS hE⟩ rfl rfl hl.1 rfl (lv_room (Nat.le_of_ble_eq_true rfl)) dX12_key_28 ⟨Nat.le_of_ble_eq_true rfl, Nat.le_of_ble_eq_true rfl⟩)) (fun r7 hr7 => ?_)
    have hr7 : r7 = 118 := hr7.trans (by decide)
    subst hr7
    refine lv_bipush (v := 32) hx hb dX12_key_31 (by decide) ?_
    refine lv_icmp_eq (tgt := 42) hx hb dX12_key_33 (by decide) (fun c8 => absurd c8 (by decide)) (fun c8 => ?_)
    refine lv_iinc (v := 2) (lv' := [(3, .int 2), (2, .int 1), (1, .int 0), (0, .ref (b 0))]) hx hb dX12_key_36 hl (k := 0) rfl (by decide) (by decide) rfl (fun ls hl => ?_)
    refine lv_goto (tgt := 25) hx hb dX12_key_39 (by decide) ?_
    refine va_ldcS hx hb hown hZ dX12_key_25 ?_
    refine lv_iload_n hx hb dX12_key_27 rfl (lv_at hl 0 rfl) ?_
    refine vp_callSi (va_Run.run (va_runV (As := [.int (nI 2)]) (rest := []) ⟨hx, hb, hml, hown, noTs⟩ (s_J0_charAt l adK adV 3 2 (by decide) (by show _ < 18; omega)) ⟨cbE 1 (wd_498 hE) (wd_129 hE) (wd_1528 hE) rfl rfl (by decide +kernel) ⟨Nat.le_of_ble_eq_true rfl, Nat.le_of_ble_eq_true rfl⟩, (wd_496 hE), (wd_497 hE)⟩ ⟨PS.blind, vk_recv hX.1 (by decide) hS, ps_pre (av := [.ref (adK 3), .int (nI 2)]) hX hS hE⟩ rfl rfl hl.1 rfl (lv_room (Nat.le_of_ble_eq_true rfl)) dX12_key_28 ⟨Nat.le_of_ble_eq_true rfl, Nat.le_of_ble_eq_true rfl⟩)) (fun r9 hr9 => ?_)
    have hr9 : r9 = 101 := hr9.trans (by decide)
    subst hr9
    refine lv_bipush (v := 32) hx hb dX12_key_31 (by decide) ?_
    refine lv_icmp_eq (tgt := 42) hx hb dX12_key_33 (by decide) (fun c10 => absurd c10 (by decide)) (fun c10 => ?_)
    refine lv_iinc (v := 3) (lv' := [(3, .int 3), (2, .int 1), (1, .int 0), (0, .ref (b 0))]) hx hb dX12_key_36 hl (k := 0) rfl (by decide) (by decide) rfl (fun ls hl => ?_)
    refine lv_goto (tgt := 25) hx hb dX12_key_39 (by decide) ?_
    refine va_ldcS hx hb hown hZ dX12_key_25 ?_
    refine lv_iload_n hx hb dX12_key_27 rfl (lv_at hl 0 rfl) ?_
    refine vp_callSi (va_Run.run (va_runV (As := [.int (nI 3)]) (rest := []) ⟨hx, hb, hml, hown, noTs⟩ (s_J0_charAt l adK adV 3 3 (by decide) (by show _ < 18; omega)) ⟨cbE 1 (wd_498 hE) (wd_129 hE) (wd_1528 hE) rfl rfl (by decide +kernel) ⟨Nat.le_of_ble_eq_true rfl, Nat.le_of_ble_eq_true rfl⟩, (wd_496 hE), (wd_497 hE)⟩ ⟨PS.blind, vk_recv hX.1 (by decide) hS, ps_pre (av := [.ref (adK 3), .int (nI 3)]) hX hS hE⟩ rfl rfl hl.1 rfl (lv_room (Nat.le_of_ble_eq_true rfl)) dX12_key_28 ⟨Nat.le_of_ble_eq_true rfl, Nat.le_of_ble_eq_true rfl⟩)) (fun r11 hr11 => ?_)
    have hr11 : r11 = 114 := hr11.trans (by decide)
    subst hr11
    refine lv_bipush (v := 32) hx hb dX12_key_31 (by decide) ?_
    refine lv_icmp_eq (tgt := 42) hx hb dX12_key_33 (by decide) (fun c12 => absurd c12 (by decide)) (fun c12 => ?_)
    refine lv_iinc (v := 4) (lv' := [(3, .int 4), (2, .int 1), (1, .int 0), (0, .ref (b 0))]) hx hb dX12_key_36 hl (k := 0) rfl (by decide) (by decide) rfl (fun ls hl => ?_)
    refine lv_goto (tgt := 25) hx hb dX12_key_39 (by decide) ?_
    refine va_ldcS hx hb hown hZ dX12_key_25 ?_
    refine lv_iload_n hx hb dX12_key_27 rfl (lv_at hl 0 rfl) ?_
    refine vp_callSi (va_Run.run (va_runV (As := [.int (nI 4)]) (rest := []) ⟨hx, hb, hml, hown, noTs⟩ (s_J0_charAt l adK adV 3 4 (by decide) (by show _ < 18; omega)) ⟨cbE 1 (wd_498 hE) (wd_129 hE) (wd_1528 hE) rfl rfl (by decide +kernel) ⟨Nat.le_of_ble_eq_true rfl, Nat.le_of_ble_eq_true rfl⟩, (wd_496 hE), (wd_497 hE)⟩ ⟨PS.blind, vk_recv hX.1 (by decide) hS, ps_pre (av := [.ref (adK 3), .int (nI 4)]) hX hS hE⟩ rfl rfl hl.1 rfl (lv_room (Nat.le_of_ble_eq_true rfl)) dX12_key_28 ⟨Nat.le_of_ble_eq_true rfl, Nat.le_of_ble_eq_true rfl⟩)) (fun r13 hr13 => ?_)
    have hr13 : r13 = 116 := hr13.trans (by decide)
    subst hr13
    refine lv_bipush (v := 32) hx hb dX12_key_31 (by decide) ?_
    refine lv_icmp_eq (tgt := 42) hx hb dX12_key_33 (by decide) (fun c14 => absurd c14 (by decide)) (fun c14 => ?_)
    refine lv_iinc (v := 5) (lv' := [(3, .int 5), (2, .int 1), (1, .int 0), (0, .ref (b 0))]) hx hb dX12_key_36 hl (k := 0) rfl (by decide) (by decide) rfl (fun ls hl => ?_)
    refine lv_goto (tgt := 25) hx hb dX12_key_39 (by decide) ?_
    refine va_ldcS hx hb hown hZ dX12_key_25 ?_
    refine lv_iload_n hx hb dX12_key_27 rfl (lv_at hl 0 rfl) ?_
    refine vp_callSi (va_Run.run (va_runV (As := [.int (nI 5)]) (rest := []) ⟨hx, hb, hml, hown, noTs⟩ (s_J0_charAt l adK adV 3 5 (by decide) (by show _ < 18; omega)) ⟨cbE 1 (wd_498 hE) (wd_129 hE) (wd_1528 hE) rfl rfl (by decide +kernel) ⟨Nat.le_of_ble_eq_true rfl, Nat.le_of_ble_eq_true rfl⟩, (wd_496 hE), (wd_497 hE)⟩ ⟨PS.blind, vk_recv hX.1 (by decide) hS, ps_pre (av := [.ref (adK 3), .int (nI 5)]) hX hS hE⟩ rfl rfl hl.1 rfl (lv_room (Nat.le_of_ble_eq_true rfl)) dX12_key_28 ⟨Nat.le_of_ble_eq_true rfl, Nat.le_of_ble_eq_true rfl⟩)) (fun r15 hr15 => ?_)
    have hr15 : r15 = 101 := hr15.trans (by decide)
    subst hr15
    refine lv_bipush (v := 32) hx hb dX12_key_31 (by decide) ?_
    refine lv_icmp_eq (tgt := 42) hx hb dX12_key_33 (by decide) (fun c16 => absurd c16 (by decide)) (fun c16 => ?_)
    refine lv_iinc (v := 6) (lv' := [(3, .int 6), (2, .int 1), (1, .int 0), (0, .ref (b 0))]) hx hb dX12_key_36 hl (k := 0) rfl (by decide) (by decide) rfl (fun ls hl => ?_)
    refine lv_goto (tgt := 25) hx hb dX12_key_39 (by decide) ?_
    refine va_ldcS hx hb hown hZ dX12_key_25 ?_
    refine lv_iload_n hx hb dX12_key_27 rfl (lv_at hl 0 rfl) ?_
    refine vp_callSi (va_Run.run (va_runV (As := [.int (nI 6)]) (rest := []) ⟨hx, hb, hml, hown, noTs⟩ (s_J0_charAt l adK adV 3 6 (by decide) (by show _ < 18; omega)) ⟨cbE 1 (wd_498 hE) (wd_129 hE) (wd_1528 hE) rfl rfl (by decide +kernel) ⟨Nat.le_of_ble_eq_true rfl, Nat.le_of_ble_eq_true rfl⟩, (wd_496 hE), (wd_497 hE)⟩ ⟨PS.blind, vk_recv hX.1 (by decide) hS, ps_pre (av := [.ref (adK 3), .int (nI 6)]) hX hS hE⟩ rfl rfl hl.1 rfl (lv_room (Nat.le_of_ble_eq_true rfl)) dX12_key_28 ⟨Nat.le_of_ble_eq_true rfl, Nat.le_of_ble_eq_true rfl⟩)) (fun r17 hr17 => ?_)
    have hr17 : r17 = 120 := hr17.trans (by decide)
    subst hr17
    refine lv_bipush (v := 32) hx hb dX12_key_31 (by decide) ?_
    refine lv_icmp_eq (tgt := 42) hx hb dX12_key_33 (by decide) (fun c18 => absurd c18 (by decide)) (fun c18 => ?_)
    refine lv_iinc (v := 7) (lv' := [(3, .int 7), (2, .int 1), (1, .int 0), (0, .ref (b 0))]) hx hb dX12_key_36 hl (k := 0) rfl (by decide) (by decide) rfl (fun ls hl => ?_)
    refine lv_goto (tgt := 25) hx hb dX12_key_39 (by decide) ?_
    refine va_ldcS hx hb hown hZ dX12_key_25 ?_
    refine lv_iload_n hx hb dX12_key_27 rfl (lv_at hl 0 rfl) ?_
    refine vp_callSi (va_Run.run (va_runV (As := [.int (nI 7)]) (rest := []) ⟨hx, hb, hml, hown, noTs⟩ (s_J0_charAt l adK adV 3 7 (by decide) (by show _ < 18; omega)) ⟨cbE 1 (wd_498 hE) (wd_129 hE) (wd_1528 hE) rfl rfl (by decide +kernel) ⟨Nat.le_of_ble_eq_true rfl, Nat.le_of_ble_eq_true rfl⟩, (wd_496 hE), (wd_497 hE)⟩ ⟨PS.blind, vk_recv hX.1 (by decide) hS, ps_pre (av := [.ref (adK 3), .int (nI 7)]) hX hS hE⟩ rfl rfl hl.1 rfl (lv_room (Nat.le_of_ble_eq_true rfl)) dX12_key_28 ⟨Nat.le_of_ble_eq_true rfl, Nat.le_of_ble_eq_true rfl⟩)) (fun r19 hr19 => ?_)
    have hr19 : r19 = 32 := hr19.trans (by decide)
    subst hr19
    refine lv_bipush (v := 32) hx hb dX12_key_31 (by decide) ?_
    refine lv_icmp_eq (tgt := 42) hx hb dX12_key_33 (by decide) (fun c20 => ?_) (fun c20 => absurd c20 (by decide))
    refine lv_iload_n hx hb dX12_key_42 rfl (lv_at hl 0 rfl) ?_
    refine lv_iload_n hx hb dX12_key_43 rfl (lv_at hl 1 rfl) ?_
    refine lv_isub hx hb dX12_key_44 ?_
    refine W.eq (g2 := F0 m 45 ls [.int 6]) rfl ?_
    refine lv_aload_n hx hb dX12_key_45 rfl (lv_at hl 3 rfl) ?_
    refine r_get (v := .int (nI (tnd tx sz1 p0))) hx hb (ly_X12 hE) hown hK hP rfl 14 (by decide) (wd_1395 hE) (fun _ h9 => h9) (congrArg (fun z : Int32 => some (Value.int z)) te14_2) dX12_key_46 ?_
    refine lv_aload_n hx hb dX12_key_49 rfl (lv_at hl 3 rfl) ?_
    refine r_get (v := .int (nI p0)) hx hb (ly_X12 hE) hown hK hP rfl 13 (by decide) (wd_1394 hE) (fun _ h9 => h9) (congrArg (fun z : Int32 => some (Value.int z)) te13_2) dX12_key_50 ?_
    refine lv_isub hx hb dX12_key_53 ?_
    refine W.eq (g2 := F0 m 54 ls [.int (nI ((tnd tx sz1 p0) - p0)), .int 6]) (congrArg (fun z : Int32 => F0 m 54 ls (.int z :: [.int 6])) (pk_sub (a := tnd tx sz1 p0) (b := p0) (by omega))) ?_
    refine lv_icmp_ne (tgt := 61) hx hb dX12_key_54 (by decide) (fun c21 => ?_) (fun c21 => ?_)
    · have c21 := mt (b_eq (show Int32.toInt 6 = 6 from rfl) (nI_toInt (n := (tnd tx sz1 p0) - p0) (by omega))).mpr c21
      refine lv_iconst (v := 0) hx hb dX12_key_61 (by decide) ?_
      refine lv_istore (lv' := [(4, .int 0), (3, .int 7), (2, .int 1), (1, .int 0), (0, .ref (b 0))]) hx hb dX12_key_62 hl (by decide) rfl (fun ls hl => ?_)
      refine lv_iconst (v := 0) hx hb dX12_key_64 (by decide) ?_
      refine lv_istore (lv' := [(5, .int 0), (4, .int 0), (3, .int 7), (2, .int 1), (1, .int 0), (0, .ref (b 0))]) hx hb dX12_key_65 hl (by decide) rfl (fun ls hl => ?_)
      refine r_indP (I := fun n ls => ∃ (i_22 : Nat) (x1_22 : Int32), n = 7 - 1 - i_22 ∧ (i_22 ≤ 7 - 1) ∧ (x1_22 = 0 ∨ x1_22 = 1) ∧ (x1_22 = 1 → tnd tx sz1 p0 - p0 = 7 - 1 ∧ ∀ q, q < i_22 → bA tx sz1 (p0 + q) = (kW 1).getD q 0) ∧ (x1_22 = 0 → eqw tx sz1 (kW 1) p0 = false) ∧ lv_has ls 6 [(0, .ref (b 0)), (1, .int 0), (2, .int 1), (3, .int 7), (4, .int x1_22), (5, .int (nI i_22))]) (fun n ls hI ih22 => ?_) _ _ ⟨0, 0, rfl, (by first | assumption | omega | rfl | (congr 1; omega)), (by first | exact Or.inl rfl | exact Or.inr rfl), (by first | (intro _; exact ⟨by omega, fun q hq => absurd hq (by omega)⟩) | (intro h; exact absurd h (by decide))), (by first | (intro h; exact absurd h (by decide)) | (intro _; exact eqw_len (w := kW 1) (l := 7 - 1) rfl (by omega))), lv_sub hl [5, 4, 3, 2, 1, 0] rfl⟩
      obtain ⟨i_22, x1_22, hmu22, hL22_0, hL22_1, hL22_2, hL22_3, hl⟩ := hI
      subst hmu22
      refine lv_iload hx hb dX12_key_67 (lv_at hl 5 rfl) ?_
      refine lv_iload_n hx hb dX12_key_69 rfl (lv_at hl 3 rfl) ?_
      refine lv_iload_n hx hb dX12_key_70 rfl (lv_at hl 2 rfl) ?_
      refine lv_isub hx hb dX12_key_71 ?_
      refine W.eq (g2 := F0 m 72 ls [.int 6, .int (nI i_22)]) rfl ?_
      refine lv_icmp_ge (tgt := 116) hx hb dX12_key_72 (by decide) (fun c23 => ?_) (fun c23 => ?_)
      · have c23 := (b_le (show Int32.toInt 6 = 6 from rfl) (nI_toInt (n := i_22) (by omega))).mp c23
        refine lv_iload hx hb dX12_key_116 (lv_at hl 4 rfl) ?_
        refine lv_if_eq (tgt := 123) hx hb dX12_key_118 (by decide) (fun c24 => ?_) (fun c24 => ?_)
        · have c24 := (b_eq (rfl : Int32.toInt x1_22 = _) (show Int32.toInt 0 = 0 from rfl)).mp c24
          have EW1 : eqw tx sz1 (kW 1) p0 = false := hL22_3 (i0_of (by omega))
          refine lv_iinc (v := 1) (lv' := [(1, .int 1), (0, .ref (b 0)), (2, .int 1), (3, .int 7), (4, .int x1_22), (5, .int (nI i_22))]) hx hb dX12_key_123 hl (k := 1) rfl (by decide) (by decide) rfl (fun ls hl => ?_)
          refine lv_iload_n hx hb dX12_key_126 rfl (lv_at hl 3 rfl) ?_
          refine lv_iconst (v := 1) hx hb dX12_key_127 (by decide) ?_
          refine lv_iadd hx hb dX12_key_128 ?_
          refine W.eq (g2 := F0 m 129 ls [.int 8]) rfl ?_
          refine lv_istore_n (lv' := [(2, .int 8), (1, .int 1), (0, .ref (b 0)), (3, .int 7), (4, .int x1_22), (5, .int (nI i_22))]) hx hb dX12_key_129 rfl hl (by decide) rfl (fun ls hl => ?_)
          refine lv_goto (tgt := 14) hx hb dX12_key_130 (by decide) ?_
          refine lv_iload_n hx hb dX12_key_14 rfl (lv_at hl 0 rfl) ?_
          refine va_ldcS hx hb hown hZ dX12_key_15 ?_
          refine vp_callSi (va_Run.run (va_runV (As := []) (rest := [.int 8]) ⟨hx, hb, hml, hown, noTs⟩ (s_J0_length l adK adV 3 (by decide)) ⟨cbE 0 (wd_488 hE) (wd_129 hE) (wd_1527 hE) rfl rfl (by decide +kernel) ⟨Nat.le_of_ble_eq_true rfl, Nat.le_of_ble_eq_true rfl⟩, (wd_486 hE), (wd_487 hE)⟩ ⟨PS.blind, vk_recv hX.1 (by decide) hS, ps_pre (av := [.ref (adK 3)]) hX hS hE⟩ rfl rfl hl.1 rfl (lv_room (Nat.le_of_ble_eq_true rfl)) dX12_key_17 ⟨Nat.le_of_ble_eq_true rfl, Nat.le_of_ble_eq_true rfl⟩)) (fun r25 hr25 => ?_)
          have hr25 : r25 = 18 := hr25
          subst hr25
          refine lv_icmp_ge (tgt := 133) hx hb dX12_key_20 (by decide) (fun c26 => absurd c26 (by decide)) (fun c26 => ?_)
          refine lv_iload_n hx hb dX12_key_23 rfl (lv_at hl 0 rfl) ?_
          refine lv_istore_n (lv' := [(3, .int 8), (2, .int 8), (1, .int 1), (0, .ref (b 0)), (4, .int x1_22), (5, .int (nI i_22))]) hx hb dX12_key_24 rfl hl (by decide) rfl (fun ls hl => ?_)
          refine va_ldcS hx hb hown hZ dX12_key_25 ?_
          refine lv_iload_n hx hb dX12_key_27 rfl (lv_at hl 0 rfl) ?_
          refine vp_callSi (va_Run.run (va_runV (As := [.int (nI 8)]) (rest := []) ⟨hx, hb, hml, hown, noTs⟩ (s_J0_charAt l adK adV 3 8 (by decide) (by show _ < 18; omega)) ⟨cbE 1 (wd_498 hE) (wd_129 hE) (wd_1528 hE) rfl rfl (by decide +kernel) ⟨Nat.le_of_ble_eq_true rfl, Nat.le_of_ble_eq_true rfl⟩, (wd_496 hE), (wd_497 hE)⟩ ⟨PS.blind, vk_recv hX.1 (by decide) hS, ps_pre (av := [.ref (adK 3), .int (nI 8)]) hX hS hE⟩ rfl rfl hl.1 rfl (lv_room (Nat.le_of_ble_eq_true rfl)) dX12_key_28 ⟨Nat.le_of_ble_eq_true rfl, Nat.le_of_ble_eq_true rfl⟩)) (fun r27 hr27 => ?_)
          have hr27 : r27 = 101 := hr27.trans (by decide)
          subst hr27
          refine lv_bipush (v := 32) hx hb dX12_key_31 (by decide) ?_
          refine lv_icmp_eq (tgt := 42) hx hb dX12_key_33 (by decide) (fun c28 => absurd c28 (by decide)) (fun c28 => ?_)
          refine lv_iinc (v := 9) (lv' := [(3, .int 9), (2, .int 8), (1, .int 1), (0, .ref (b 0)), (4, .int x1_22), (5, .int (nI i_22))]) hx hb dX12_key_36 hl (k := 0) rfl (by decide) (by decide) rfl (fun ls hl => ?_)
          refine lv_goto (tgt := 25) hx hb dX12_key_39 (by decide) ?_
          refine va_ldcS hx hb hown hZ dX12_key_25 ?_
          refine lv_iload_n hx hb dX12_key_27 rfl (lv_at hl 0 rfl) ?_
          refine vp_callSi (va_Run.run (va_runV (As := [.int (nI 9)]) (rest := []) ⟨hx, hb, hml, hown, noTs⟩ (s_J0_charAt l adK adV 3 9 (by decide) (by show _ < 18; omega)) ⟨cbE 1 (wd_498 hE) (wd_129 hE) (wd_1528 hE) rfl rfl (by decide +kernel) ⟨Nat.le_of_ble_eq_true rfl, Nat.le_of_ble_eq_true rfl⟩, (wd_496 hE), (wd_497 hE)⟩ ⟨PS.blind, vk_recv hX.1 (by decide) hS, ps_pre (av := [.ref (adK 3), .int (nI 9)]) hX hS hE⟩ rfl rfl hl.1 rfl (lv_room (Nat.le_of_ble_eq_true rfl)) dX12_key_28 ⟨Nat.le_of_ble_eq_true rfl, Nat.le_of_ble_eq_true rfl⟩)) (fun r29 hr29 => ?_)
          have hr29 : r29 = 100 := hr29.trans (by decide)
          subst hr29
          refine lv_bipush (v := 32) hx hb dX12_key_31 (by decide) ?_
          refine lv_icmp_eq (tgt := 42) hx hb dX12_key_33 (by decide) (fun c30 => absurd c30 (by decide)) (fun c30 => ?_)
          refine lv_iinc (v := 10) (lv' := [(3, .int 10), (2, .int 8), (1, .int 1), (0, .ref (b 0)), (4, .int x1_22), (5, .int (nI i_22))]) hx hb dX12_key_36 hl (k := 0) rfl (by decide) (by decide) rfl (fun ls hl => ?_)
          refine lv_goto (tgt := 25) hx hb dX12_key_39 (by decide) ?_
          refine va_ldcS hx hb hown hZ dX12_key_25 ?_
          refine lv_iload_n hx hb dX12_key_27 rfl (lv_at hl 0 rfl) ?_
          refine vp_callSi (va_Run.run (va_runV (As := [.int (nI 10)]) (rest := []) ⟨hx, hb, hml, hown, noTs⟩ (s_J0_charAt l adK adV 3 10 (by decide) (by show _ < 18; omega)) ⟨cbE 1 (wd_498 hE) (wd_129 hE) (wd_1528 hE) rfl rfl (by decide +kernel) ⟨Nat.le_of_ble_eq_true rfl, Nat.le_of_ble_eq_true rfl⟩, (wd_496 hE), (wd_497 hE)⟩ ⟨PS.blind, vk_recv hX.1 (by decide) hS, ps_pre (av := [.ref (adK 3), .int (nI 10)]) hX hS hE⟩ rfl rfl hl.1 rfl (lv_room (Nat.le_of_ble_eq_true rfl)) dX12_key_28 ⟨Nat.le_of_ble_eq_true rfl, Nat.le_of_ble_eq_true rfl⟩)) (fun r31 hr31 => ?_)
          have hr31 : r31 = 103 := hr31.trans (by decide)
          subst hr31
          refine lv_bipush (v := 32) hx hb dX12_key_31 (by decide) ?_
          refine lv_icmp_eq (tgt := 42) hx hb dX12_key_33 (by decide) (fun c32 => absurd c32 (by decide)) (fun c32 => ?_)
          refine lv_iinc (v := 11) (lv' := [(3, .int 11), (2, .int 8), (1, .int 1), (0, .ref (b 0)), (4, .int x1_22), (5, .int (nI i_22))]) hx hb dX12_key_36 hl (k := 0) rfl (by decide) (by decide) rfl (fun ls hl => ?_)
          refine lv_goto (tgt := 25) hx hb dX12_key_39 (by decide) ?_
          refine va_ldcS hx hb hown hZ dX12_key_25 ?_
          refine lv_iload_n hx hb dX12_key_27 rfl (lv_at hl 0 rfl) ?_
          refine vp_callSi (va_Run.run (va_runV (As := [.int (nI 11)]) (rest := []) ⟨hx, hb, hml, hown, noTs⟩ (s_J0_charAt l adK adV 3 11 (by decide) (by show _ < 18; omega)) ⟨cbE 1 (wd_498 hE) (wd_129 hE) (wd_1528 hE) rfl rfl (by decide +kernel) ⟨Nat.le_of_ble_eq_true rfl, Nat.le_of_ble_eq_true rfl⟩, (wd_496 hE), (wd_497 hE)⟩ ⟨PS.blind, vk_recv hX.1 (by decide) hS, ps_pre (av := [.ref (adK 3), .int (nI 11)]) hX hS hE⟩ rfl rfl hl.1 rfl (lv_room (Nat.le_of_ble_eq_true rfl)) dX12_key_28 ⟨Nat.le_of_ble_eq_true rfl, Nat.le_of_ble_eq_true rfl⟩)) (fun r33 hr33 => ?_)
          have hr33 : r33 = 101 := hr33.trans (by decide)
          subst hr33
          refine lv_bipush (v := 32) hx hb dX12_key_31 (by decide) ?_
          refine lv_icmp_eq (tgt := 42) hx hb dX12_key_33 (by decide) (fun c34 => absurd c34 (by decide)) (fun c34 => ?_)
          refine lv_iinc (v := 12) (lv' := [(3, .int 12), (2, .int 8), (1, .int 1), (0, .ref (b 0)), (4, .int x1_22), (5, .int (nI i_22))]) hx hb dX12_key_36 hl (k := 0) rfl (by decide) (by decide) rfl (fun ls hl => ?_)
          refine lv_goto (tgt := 25) hx hb dX12_key_39 (by decide) ?_
          refine va_ldcS hx hb hown hZ dX12_key_25 ?_
          refine lv_iload_n hx hb dX12_key_27 rfl (lv_at hl 0 rfl) ?_
          refine vp_callSi (va_Run.run (va_runV (As := [.int (nI 12)]) (rest := []) ⟨hx, hb, hml, hown, noTs⟩ (s_J0_charAt l adK adV 3 12 (by decide) (by show _ < 18; omega)) ⟨cbE 1 (wd_498 hE) (wd_129 hE) (wd_1528 hE) rfl rfl (by decide +kernel) ⟨Nat.le_of_ble_eq_true rfl, Nat.le_of_ble_eq_true rfl⟩, (wd_496 hE), (wd_497 hE)⟩ ⟨PS.blind, vk_recv hX.1 (by decide) hS, ps_pre (av := [.ref (adK 3), .int (nI 12)]) hX hS hE⟩ rfl rfl hl.1 rfl (lv_room (Nat.le_of_ble_eq_true rfl)) dX12_key_28 ⟨Nat.le_of_ble_eq_true rfl, Nat.le_of_ble_eq_true rfl⟩)) (fun r35 hr35 => ?_)
          have hr35 : r35 = 32 := hr35.trans (by decide)
          subst hr35
          refine lv_bipush (v := 32) hx hb dX12_key_31 (by decide) ?_
          refine lv_icmp_eq (tgt := 42) hx hb dX12_key_33 (by decide) (fun c36 => ?_) (fun c36 => absurd c36 (by decide))
          refine lv_iload_n hx hb dX12_key_42 rfl (lv_at hl 0 rfl) ?_
          refine lv_iload_n hx hb dX12_key_43 rfl (lv_at hl 1 rfl) ?_
          refine lv_isub hx hb dX12_key_44 ?_
          refine W.eq (g2 := F0 m 45 ls [.int 4]) rfl ?_
          refine lv_aload_n hx hb dX12_key_45 rfl (lv_at hl 3 rfl) ?_
          refine r_get (v := .int (nI (tnd tx sz1 p0))) hx hb (ly_X12 hE) hown hK hP rfl 14 (by decide) (wd_1395 hE) (fun _ h9 => h9) (congrArg (fun z : Int32 => some (Value.int z)) te14_2) dX12_key_46 ?_
          refine lv_aload_n hx hb dX12_key_49 rfl (lv_at hl 3 rfl) ?_
          refine r_get (v := .int (nI p0)) hx hb (ly_X12 hE) hown hK hP rfl 13 (by decide) (wd_1394 hE) (fun _ h9 => h9) (congrArg (fun z : Int32 => some (Value.int z)) te13_2) dX12_key_50 ?_
          refine lv_isub hx hb dX12_key_53 ?_
          refine W.eq (g2 := F0 m 54 ls [.int (nI ((tnd tx sz1 p0) - p0)), .int 4]) (congrArg (fun z : Int32 => F0 m 54 ls (.int z :: [.int 4])) (pk_sub (a := tnd tx sz1 p0) (b := p0) (by omega))) ?_
          refine lv_icmp_ne (tgt := 61) hx hb dX12_key_54 (by decide) (fun c37 => ?_) (fun c37 => ?_)
          · have c37 := mt (b_eq (show Int32.toInt 4 = 4 from rfl) (nI_toInt (n := (tnd tx sz1 p0) - p0) (by omega))).mpr c37
            refine lv_iconst (v := 0) hx hb dX12_key_61 (by decide) ?_
            refine lv_istore (lv' := [(4, .int 0), (3, .int 12), (2, .int 8), (1, .int 1), (0, .ref (b 0)), (5, .int (nI i_22))]) hx hb dX12_key_62 hl (by decide) rfl (fun ls hl => ?_)
            refine lv_iconst (v := 0) hx hb dX12_key_64 (by decide) ?_
            refine lv_istore (lv' := [(5, .int 0), (4, .int 0), (3, .int 12), (2, .int 8), (1, .int 1), (0, .ref (b 0))]) hx hb dX12_key_65 hl (by decide) rfl (fun ls hl => ?_)
            refine r_indP (I := fun n ls => ∃ (i_38 : Nat) (x1_38 : Int32), n = 12 - 8 - i_38 ∧ (i_38 ≤ 12 - 8) ∧ (x1_38 = 0 ∨ x1_38 = 1) ∧ (x1_38 = 1 → tnd tx sz1 p0 - p0 = 12 - 8 ∧ ∀ q, q < i_38 → bA tx sz1 (p0 + q) = (kW 8).getD q 0) ∧ (x1_38 = 0 → eqw tx sz1 (kW 8) p0 = false) ∧ lv_has ls 6 [(0, .ref (b 0)), (1, .int 1), (2, .int 8), (3, .int 12), (4, .int x1_38), (5, .int (nI i_38))]) (fun n ls hI ih38 => ?_) _ _ ⟨0, 0, rfl, (by first | assumption | omega | rfl | (congr 1; omega)), (by first | exact Or.inl rfl | exact Or.inr rfl), (by first | (intro _; exact ⟨by omega, fun q hq => absurd hq (by omega)⟩) | (intro h; exact absurd h (by decide))), (by first | (intro h; exact absurd h (by decide)) | (intro _; exact eqw_len (w := kW 8) (l := 12 - 8) rfl (by omega))), lv_sub hl [5, 4, 3, 2, 1, 0] rfl⟩
            obtain ⟨i_38, x1_38, hmu38, hL38_0, hL38_1, hL38_2, hL38_3, hl⟩ := hI
            subst hmu38
            refine lv_iload hx hb dX12_key_67 (lv_at hl 5 rfl) ?_
            refine lv_iload_n hx hb dX12_key_69 rfl (lv_at hl 3 rfl) ?_
            refine lv_iload_n hx hb dX12_key_70 rfl (lv_at hl 2 rfl) ?_
            refine lv_isub hx hb dX12_key_71 ?_
            refine W.eq (g2 := F0 m 72 ls [.int 4, .int (nI i_38)]) rfl ?_
            refine lv_icmp_ge (tgt := 116) hx hb dX12_key_72 (by decide) (fun c39 => ?_) (fun c39 => ?_)
            · have c39 := (b_le (show Int32.toInt 4 = 4 from rfl) (nI_toInt (n := i_38) (by omega))).mp c39
              refine lv_iload hx hb dX12_key_116 (lv_at hl 4 rfl) ?_
              refine lv_if_eq (tgt := 123) hx hb dX12_key_118 (by decide) (fun c40 => ?_) (fun c40 => ?_)
              · have c40 := (b_eq (rfl : Int32.toInt x1_38 = _) (show Int32.toInt 0 = 0 from rfl)).mp c40
                have EW8 : eqw tx sz1 (kW 8) p0 = false := hL38_3 (i0_of (by omega))
                refine lv_iinc (v := 2) (lv' := [(1, .int 2), (0, .ref (b 0)), (2, .int 8), (3, .int 12), (4, .int x1_38), (5, .int (nI i_38))]) hx hb dX12_key_123 hl (k := 1) rfl (by decide) (by decide) rfl (fun ls hl => ?_)
                refine lv_iload_n hx hb dX12_key_126 rfl (lv_at hl 3 rfl) ?_
                refine lv_iconst (v := 1) hx hb dX12_key_127 (by decide) ?_
                refine lv_iadd hx hb dX12_key_128 ?_
                refine W.eq (g2 := F0 m 129 ls [.int 13]) rfl ?_
                refine lv_istore_n (lv' := [(2, .int 13), (1, .int 2), (0, .ref (b 0)), (3, .int 12), (4, .int x1_38), (5, .int (nI i_38))]) hx hb dX12_key_129 rfl hl (by decide) rfl (fun ls hl => ?_)
                refine lv_goto (tgt := 14) hx hb dX12_key_130 (by decide) ?_
                refine lv_iload_n hx hb dX12_key_14 rfl (lv_at hl 0 rfl) ?_
                refine va_ldcS hx hb hown hZ dX12_key_15 ?_
                refine vp_callSi (va_Run.run (va_runV (As := []) (rest := [.int 13]) ⟨hx, hb, hml, hown, noTs⟩ (s_J0_length l adK adV 3 (by decide)) ⟨cbE 0 (wd_488 hE) (wd_129 hE) (wd_1527 hE) rfl rfl (by decide +kernel) ⟨Nat.le_of_ble_eq_true rfl, Nat.le_of_ble_eq_true rfl⟩, (wd_486 hE), (wd_487 hE)⟩ ⟨PS.blind, vk_recv hX.1 (by decide) hS, ps_pre (av := [.ref (adK 3)]) hX hS hE⟩ rfl rfl hl.1 rfl (lv_room (Nat.le_of_ble_eq_true rfl)) dX12_key_17 ⟨Nat.le_of_ble_eq_true rfl, Nat.le_of_ble_eq_true rfl⟩)) (fun r41 hr41 => ?_)
                have hr41 : r41 = 18 := hr41
                subst hr41
                refine lv_icmp_ge (tgt := 133) hx hb dX12_key_20 (by decide) (fun c42 => absurd c42 (by decide)) (fun c42 => ?_)
                refine lv_iload_n hx hb dX12_key_23 rfl (lv_at hl 0 rfl) ?_
                refine lv_istore_n (lv' := [(3, .int 13), (2, .int 13), (1, .int 2), (0, .ref (b 0)), (4, .int x1_38), (5, .int (nI i_38))]) hx hb dX12_key_24 rfl hl (by decide) rfl (fun ls hl => ?_)
                refine va_ldcS hx hb hown hZ dX12_key_25 ?_
                refine lv_iload_n hx hb dX12_key_27 rfl (lv_at hl 0 rfl) ?_
                refine vp_callSi (va_Run.run (va_runV (As := [.int (nI 13)]) (rest := []) ⟨hx, hb, hml, hown, noTs⟩ (s_J0_charAt l adK adV 3 13 (by decide) (by show _ < 18; omega)) ⟨cbE 1 (wd_498 hE) (wd_129 hE) (wd_1528 hE) rfl rfl (by decide +kernel) ⟨Nat.le_of_ble_eq_true rfl, Nat.le_of_ble_eq_true rfl⟩, (wd_496 hE), (wd_497 hE)⟩ ⟨PS.blind, vk_recv hX.1 (by decide) hS, ps_pre (av := [.ref (adK 3), .int (nI 13)]) hX hS hE⟩ rfl rfl hl.1 rfl (lv_room (Nat.le_of_ble_eq_true rfl)) dX12_key_28 ⟨Nat.le_of_ble_eq_true rfl, Nat.le_of_ble_eq_true rfl⟩)) (fun r43 hr43 => ?_)
                have hr43 : r43 = 119 := hr43.trans (by decide)
                subst hr43
                refine lv_bipush (v := 32) hx hb dX12_key_31 (by decide) ?_
                refine lv_icmp_eq (tgt := 42) hx hb dX12_key_33 (by decide) (fun c44 => absurd c44 (by decide)) (fun c44 => ?_)
                refine lv_iinc (v := 14) (lv' := [(3, .int 14), (2, .int 13), (1, .int 2), (0, .ref (b 0)), (4, .int x1_38), (5, .int (nI i_38))]) hx hb dX12_key_36 hl (k := 0) rfl (by decide) (by decide) rfl (fun ls hl => ?_)
                refine lv_goto (tgt := 25) hx hb dX12_key_39 (by decide) ?_
                refine va_ldcS hx hb hown hZ dX12_key_25 ?_
                refine lv_iload_n hx hb dX12_key_27 rfl (lv_at hl 0 rfl) ?_
                refine vp_callSi (va_Run.run (va_runV (As := [.int (nI 14)]) (rest := []) ⟨hx, hb, hml, hown, noTs⟩ (s_J0_charAt l adK adV 3 14 (by decide) (by show _ < 18; omega)) ⟨cbE 1 (wd_498 hE) (wd_129 hE) (wd_1528 hE) rfl rfl (by decide +kernel) ⟨Nat.le_of_ble_eq_true rfl, Nat.le_of_ble_eq_true rfl⟩, (wd_496 hE), (wd_497 hE)⟩ ⟨PS.blind, vk_recv hX.1 (by decide) hS, ps_pre (av := [.ref (adK 3), .int (nI 14)]) hX hS hE⟩ rfl rfl hl.1 rfl (lv_room (Nat.le_of_ble_eq_true rfl)) dX12_key_28 ⟨Nat.le_of_ble_eq_true rfl, Nat.le_of_ble_eq_true rfl⟩)) (fun r45 hr45 => ?_)
                have hr45 : r45 = 111 := hr45.trans (by decide)
                subst hr45
                refine lv_bipush (v := 32) hx hb dX12_key_31 (by decide) ?_
                refine lv_icmp_eq (tgt := 42) hx hb dX12_key_33 (by decide) (fun c46 => absurd c46 (by decide)) (fun c46 => ?_)
                refine lv_iinc (v := 15) (lv' := [(3, .int 15), (2, .int 13), (1, .int 2), (0, .ref (b 0)), (4, .int x1_38), (5, .int (nI i_38))]) hx hb dX12_key_36 hl (k := 0) rfl (by decide) (by decide) rfl (fun ls hl => ?_)
                refine lv_goto (tgt := 25) hx hb dX12_key_39 (by decide) ?_
                refine va_ldcS hx hb hown hZ dX12_key_25 ?_
                refine lv_iload_n hx hb dX12_key_27 rfl (lv_at hl 0 rfl) ?_
                refine vp_callSi (va_Run.run (va_runV (As := [.int (nI 15)]) (rest := []) ⟨hx, hb, hml, hown, noTs⟩ (s_J0_charAt l adK adV 3 15 (by decide) (by show _ < 18; omega)) ⟨cbE 1 (wd_498 hE) (wd_129 hE) (wd_1528 hE) rfl rfl (by decide +kernel) ⟨Nat.le_of_ble_eq_true rfl, Nat.le_of_ble_eq_true rfl⟩, (wd_496 hE), (wd_497 hE)⟩ ⟨PS.blind, vk_recv hX.1 (by decide) hS, ps_pre (av := [.ref (adK 3), .int (nI 15)]) hX hS hE⟩ rfl rfl hl.1 rfl (lv_room (Nat.le_of_ble_eq_true rfl)) dX12_key_28 ⟨Nat.le_of_ble_eq_true rfl, Nat.le_of_ble_eq_true rfl⟩)) (fun r47 hr47 => ?_)
                have hr47 : r47 = 114 := hr47.trans (by decide)
                subst hr47
                refine lv_bipush (v := 32) hx hb dX12_key_31 (by decide) ?_
                refine lv_icmp_eq (tgt := 42) hx hb dX12_key_33 (by decide) (fun c48 => absurd c48 (by decide)) (fun c48 => ?_)
                refine lv_iinc (v := 16) (lv' := [(3, .int 16), (2, .int 13), (1, .int 2), (0, .ref (b 0)), (4, .int x1_38), (5, .int (nI i_38))]) hx hb dX12_key_36 hl (k := 0) rfl (by decide) (by decide) rfl (fun ls hl => ?_)
                refine lv_goto (tgt := 25) hx hb dX12_key_39 (by decide) ?_
                refine va_ldcS hx hb hown hZ dX12_key_25 ?_
                refine lv_iload_n hx hb dX12_key_27 rfl (lv_at hl 0 rfl) ?_
                refine vp_callSi (va_Run.run (va_runV (As := [.int (nI 16)]) (rest := []) ⟨hx, hb, hml, hown, noTs⟩ (s_J0_charAt l adK adV 3 16 (by decide) (by show _ < 18; omega)) ⟨cbE 1 (wd_498 hE) (wd_129 hE) (wd_1528 hE) rfl rfl (by decide +kernel) ⟨Nat.le_of_ble_eq_true rfl, Nat.le_of_ble_eq_true rfl⟩, (wd_496 hE), (wd_497 hE)⟩ ⟨PS.blind, vk_recv hX.1 (by decide) hS, ps_pre (av := [.ref (adK 3), .int (nI 16)]) hX hS hE⟩ rfl rfl hl.1 rfl (lv_room (Nat.le_of_ble_eq_true rfl)) dX12_key_28 ⟨Nat.le_of_ble_eq_true rfl, Nat.le_of_ble_eq_true rfl⟩)) (fun r49 hr49 => ?_)
                have hr49 : r49 = 100 := hr49.trans (by decide)
                subst hr49
                refine lv_bipush (v := 32) hx hb dX12_key_31 (by decide) ?_
                refine lv_icmp_eq (tgt := 42) hx hb dX12_key_33 (by decide) (fun c50 => absurd c50 (by decide)) (fun c50 => ?_)
                refine lv_iinc (v := 17) (lv' := [(3, .int 17), (2, .int 13), (1, .int 2), (0, .ref (b 0)), (4, .int x1_38), (5, .int (nI i_38))]) hx hb dX12_key_36 hl (k := 0) rfl (by decide) (by decide) rfl (fun ls hl => ?_)
                refine lv_goto (tgt := 25) hx hb dX12_key_39 (by decide) ?_
                refine va_ldcS hx hb hown hZ dX12_key_25 ?_
                refine lv_iload_n hx hb dX12_key_27 rfl (lv_at hl 0 rfl) ?_
                refine vp_callSi (va_Run.run (va_runV (As := [.int (nI 17)]) (rest := []) ⟨hx, hb, hml, hown, noTs⟩ (s_J0_charAt l adK adV 3 17 (by decide) (by show _ < 18; omega)) ⟨cbE 1 (wd_498 hE) (wd_129 hE) (wd_1528 hE) rfl rfl (by decide +kernel) ⟨Nat.le_of_ble_eq_true rfl, Nat.le_of_ble_eq_true rfl⟩, (wd_496 hE), (wd_497 hE)⟩ ⟨PS.blind, vk_recv hX.1 (by decide) hS, ps_pre (av := [.ref (adK 3), .int (nI 17)]) hX hS hE⟩ rfl rfl hl.1 rfl (lv_room (Nat.le_of_ble_eq_true rfl)) dX12_key_28 ⟨Nat.le_of_ble_eq_true rfl, Nat.le_of_ble_eq_true rfl⟩)) (fun r51 hr51 => ?_)
                have hr51 : r51 = 32 := hr51.trans (by decide)
                subst hr51
                refine lv_bipush (v := 32) hx hb dX12_key_31 (by decide) ?_
                refine lv_icmp_eq (tgt := 42) hx hb dX12_key_33 (by decide) (fun c52 => ?_) (fun c52 => absurd c52 (by decide))
                refine lv_iload_n hx hb dX12_key_42 rfl (lv_at hl 0 rfl) ?_
                refine lv_iload_n hx hb dX12_key_43 rfl (lv_at hl 1 rfl) ?_
                refine lv_isub hx hb dX12_key_44 ?_
                refine W.eq (g2 := F0 m 45 ls [.int 4]) rfl ?_
                refine lv_aload_n hx hb dX12_key_45 rfl (lv_at hl 3 rfl) ?_
                refine r_get (v := .int (nI (tnd tx sz1 p0))) hx hb (ly_X12 hE) hown hK hP rfl 14 (by decide) (wd_1395 hE) (fun _ h9 => h9) (congrArg (fun z : Int32 => some (Value.int z)) te14_2) dX12_key_46 ?_
                refine lv_aload_n hx hb dX12_key_49 rfl (lv_at hl 3 rfl) ?_
                refine r_get (v := .int (nI p0)) hx hb (ly_X12 hE) hown hK hP rfl 13 (by decide) (wd_1394 hE) (fun _ h9 => h9) (congrArg (fun z : Int32 => some (Value.int z)) te13_2) dX12_key_50 ?_
                refine lv_isub hx hb dX12_key_53 ?_
                refine W.eq (g2 := F0 m 54 ls [.int (nI ((tnd tx sz1 p0) - p0)), .int 4]) (congrArg (fun z : Int32 => F0 m 54 ls (.int z :: [.int 4])) (pk_sub (a := tnd tx sz1 p0) (b := p0) (by omega))) ?_
                refine lv_icmp_ne (tgt := 61) hx hb dX12_key_54 (by decide) (fun c53 => ?_) (fun c53 => ?_)
                · have c53 := mt (b_eq (show Int32.toInt 4 = 4 from rfl) (nI_toInt (n := (tnd tx sz1 p0) - p0) (by omega))).mpr c53
                  refine lv_iconst (v := 0) hx hb dX12_key_61 (by decide) ?_
                  refine lv_istore (lv' := [(4, .int 0), (3, .int 17), (2, .int 13), (1, .int 2), (0, .ref (b 0)), (5, .int (nI i_38))]) hx hb dX12_key_62 hl (by decide) rfl (fun ls hl => ?_)
                  refine lv_iconst (v := 0) hx hb dX12_key_64 (by decide) ?_
                  refine lv_istore (lv' := [(5, .int 0), (4, .int 0), (3, .int 17), (2, .int 13), (1, .int 2), (0, .ref (b 0))]) hx hb dX12_key_65 hl (by decide) rfl (fun ls hl => ?_)
                  refine r_indP (I := fun n ls => ∃ (i_54 : Nat) (x1_54 : Int32), n = 17 - 13 - i_54 ∧ (i_54 ≤ 17 - 13) ∧ (x1_54 = 0 ∨ x1_54 = 1) ∧ (x1_54 = 1 → tnd tx sz1 p0 - p0 = 17 - 13 ∧ ∀ q, q < i_54 → bA tx sz1 (p0 + q) = (kW 13).getD q 0) ∧ (x1_54 = 0 → eqw tx sz1 (kW 13) p0 = false) ∧ lv_has ls 6 [(0, .ref (b 0)), (1, .int 2), (2, .int 13), (3, .int 17), (4, .int x1_54), (5, .int (nI i_54))]) (fun n ls hI ih54 => ?_) _ _ ⟨0, 0, rfl, (by first | assumption | omega | rfl | (congr 1; omega)), (by first | exact Or.inl rfl | exact Or.inr rfl), (by first | (intro _; exact ⟨by omega, fun q hq => absurd hq (by omega)⟩) | (intro h; exact absurd h (by decide))), (by first | (intro h; exact absurd h (by decide)) | (intro _; exact eqw_len (w := kW 13) (l := 17 - 13) rfl (by omega))), lv_sub hl [5, 4, 3, 2, 1, 0] rfl⟩
                  obtain ⟨i_54, x1_54, hmu54, hL54_0, hL54_1, hL54_2, hL54_3, hl⟩ := hI
                  subst hmu54
                  refine lv_iload hx hb dX12_key_67 (lv_at hl 5 rfl) ?_
                  refine lv_iload_n hx hb dX12_key_69 rfl (lv_at hl 3 rfl) ?_
                  refine lv_iload_n hx hb dX12_key_70 rfl (lv_at hl 2 rfl) ?_
                  refine lv_isub hx hb dX12_key_71 ?_
                  refine W.eq (g2 := F0 m 72 ls [.int 4, .int (nI i_54)]) rfl ?_
                  refine lv_icmp_ge (tgt := 116) hx hb dX12_key_72 (by decide) (fun c55 => ?_) (fun c55 => ?_)
                  · have c55 := (b_le (show Int32.toInt 4 = 4 from rfl) (nI_toInt (n := i_54) (by omega))).mp c55
                    refine lv_iload hx hb dX12_key_116 (lv_at hl 4 rfl) ?_
                    refine lv_if_eq (tgt := 123) hx hb dX12_key_118 (by decide) (fun c56 => ?_) (fun c56 => ?_)
                    · have c56 := (b_eq (rfl : Int32.toInt x1_54 = _) (show Int32.toInt 0 = 0 from rfl)).mp c56
                      have EW13 : eqw tx sz1 (kW 13) p0 = false := hL54_3 (i0_of (by omega))
                      refine lv_iinc (v := 3) (lv' := [(1, .int 3), (0, .ref (b 0)), (2, .int 13), (3, .int 17), (4, .int x1_54), (5, .int (nI i_54))]) hx hb dX12_key_123 hl (k := 1) rfl (by decide) (by decide) rfl (fun ls hl => ?_)
                      refine lv_iload_n hx hb dX12_key_126 rfl (lv_at hl 3 rfl) ?_
                      refine lv_iconst (v := 1) hx hb dX12_key_127 (by decide) ?_
                      refine lv_iadd hx hb dX12_key_128 ?_
                      refine W.eq (g2 := F0 m 129 ls [.int 18]) rfl ?_
                      refine lv_istore_n (lv' := [(2, .int 18), (1, .int 3), (0, .ref (b 0)), (3, .int 17), (4, .int x1_54), (5, .int (nI i_54))]) hx hb dX12_key_129 rfl hl (by decide) rfl (fun ls hl => ?_)
                      refine lv_goto (tgt := 14) hx hb dX12_key_130 (by decide) ?_
                      refine lv_iload_n hx hb dX12_key_14 rfl (lv_at hl 0 rfl) ?_
                      refine va_ldcS hx hb hown hZ dX12_key_15 ?_
                      refine vp_callSi (va_Run.run (va_runV (As := []) (rest := [.int 18]) ⟨hx, hb, hml, hown, noTs⟩ (s_J0_length l adK adV 3 (by decide)) ⟨cbE 0 (wd_488 hE) (wd_129 hE) (wd_1527 hE) rfl rfl (by decide +kernel) ⟨Nat.le_of_ble_eq_true rfl, Nat.le_of_ble_eq_true rfl⟩, (wd_486 hE), (wd_487 hE)⟩ ⟨PS.blind, vk_recv hX.1 (by decide) hS, ps_pre (av := [.ref (adK 3)]) hX hS hE⟩ rfl rfl hl.1 rfl (lv_room (Nat.le_of_ble_eq_true rfl)) dX12_key_17 ⟨Nat.le_of_ble_eq_true rfl, Nat.le_of_ble_eq_true rfl⟩)) (fun r57 hr57 => ?_)
                      have hr57 : r57 = 18 := hr57
                      subst hr57
                      refine lv_icmp_ge (tgt := 133) hx hb dX12_key_20 (by decide) (fun c58 => ?_) (fun c58 => absurd c58 (by decide))
                      refine lv_iconst (v := -1) hx hb dX12_key_133 (by decide) ?_
                      exact W.iret (v := -1) hx hb hr (fun t ht hW => ⟨-1, rfl, Or.inr (Or.inr (Or.inr (⟨rfl, by first | omega | (have q := (kd_word (tx := tx) (n := sz1) (p := p0) (by omega)).trans ((if_neg (by rw [show eqw tx sz1 wVx p0 = false from EW1]; decide)).trans ((if_neg (by rw [show eqw tx sz1 wEd p0 = false from EW8]; decide)).trans (if_neg (by rw [show eqw tx sz1 wWo p0 = false from EW13]; decide)))); omega)⟩))), ht⟩) (fun _ h => absurd h List.not_mem_nil) dX12_key_134
                    · have c56 := mt (b_eq (rfl : Int32.toInt x1_54 = _) (show Int32.toInt 0 = 0 from rfl)).mpr c56
                      have X2 : x1_54 = 1 := i1_of hL54_1 (by omega)
                      have EW13 : eqw tx sz1 (kW 13) p0 = true := by first | exact eqw_t.mpr ⟨(hL54_2 X2).1.trans rfl, fun q hq => (hL54_2 X2).2 q (by have : (kW 13).length = 17 - 13 := rfl; omega)⟩ | (exfalso; omega)
                      refine lv_iload_n hx hb dX12_key_121 rfl (lv_at hl 1 rfl) ?_
                      exact W.iret (v := 2) hx hb hr (fun t ht hW => ⟨2, rfl, Or.inr (Or.inr (Or.inl ⟨rfl, by exact (kd_word (by omega)).trans ((if_neg (by rw [show eqw tx sz1 wVx p0 = false from EW1]; decide)).trans ((if_neg (by rw [show eqw tx sz1 wEd p0 = false from EW8]; decide)).trans (if_pos EW13)))⟩)), ht⟩) (fun _ h => absurd h List.not_mem_nil) dX12_key_122
                  · have c55 := mt (b_le (show Int32.toInt 4 = 4 from rfl) (nI_toInt (n := i_54) (by omega))).mpr c55
                    refine lv_iload hx hb dX12_key_75 (lv_at hl 4 rfl) ?_
                    refine lv_if_eq (tgt := 116) hx hb dX12_key_77 (by decide) (fun c59 => ?_) (fun c59 => ?_)
                    · have c59 := (b_eq (rfl : Int32.toInt x1_54 = _) (show Int32.toInt 0 = 0 from rfl)).mp c59
                      refine lv_iload hx hb dX12_key_116 (lv_at hl 4 rfl) ?_
                      refine lv_if_eq (tgt := 123) hx hb dX12_key_118 (by decide) (fun c60 => ?_) (fun c60 => ?_)
                      · have c60 := (b_eq (rfl : Int32.toInt x1_54 = _) (show Int32.toInt 0 = 0 from rfl)).mp c60
                        have EW13 : eqw tx sz1 (kW 13) p0 = false := hL54_3 (i0_of (by omega))
                        refine lv_iinc (v := 3) (lv' := [(1, .int 3), (0, .ref (b 0)), (2, .int 13), (3, .int 17), (4, .int x1_54), (5, .int (nI i_54))]) hx hb dX12_key_123 hl (k := 1) rfl (by decide) (by decide) rfl (fun ls hl => ?_)
                        refine lv_iload_n hx hb dX12_key_126 rfl (lv_at hl 3 rfl) ?_
                        refine lv_iconst (v := 1) hx hb dX12_key_127 (by decide) ?_
                        refine lv_iadd hx hb dX12_key_128 ?_
                        refine W.eq (g2 := F0 m 129 ls [.int 18]) rfl ?_
                        refine lv_istore_n (lv' := [(2, .int 18), (1, .int 3), (0, .ref (b 0)), (3, .int 17), (4, .int x1_54), (5, .int (nI i_54))]) hx hb dX12_key_129 rfl hl (by decide) rfl (fun ls hl => ?_)
                        refine lv_goto (tgt := 14) hx hb dX12_key_130 (by decide) ?_
                        refine lv_iload_n hx hb dX12_key_14 rfl (lv_at hl 0 rfl) ?_
                        refine va_ldcS hx hb hown hZ dX12_key_15 ?_
                        refine vp_callSi (va_Run.run (va_runV (As := []) (rest := [.int 18]) ⟨hx, hb, hml, hown, noTs⟩ (s_J0_length l adK adV 3 (by decide)) ⟨cbE 0 (wd_488 hE) (wd_129 hE) (wd_1527 hE) rfl rfl (by decide +kernel) ⟨Nat.le_of_ble_eq_true rfl, Nat.le_of_ble_eq_true rfl⟩, (wd_486 hE), (wd_487 hE)⟩ ⟨PS.blind, vk_recv hX.1 (by decide) hS, ps_pre (av := [.ref (adK 3)]) hX hS hE⟩ rfl rfl hl.1 rfl (lv_room (Nat.le_of_ble_eq_true rfl)) dX12_key_17 ⟨Nat.le_of_ble_eq_true rfl, Nat.le_of_ble_eq_true rfl⟩)) (fun r61 hr61 => ?_)
                        have hr61 : r61 = 18 := hr61
                        subst hr61
                        refine lv_icmp_ge (tgt := 133) hx hb dX12_key_20 (by decide) (fun c62 => ?_) (fun c62 => absurd c62 (by decide))
                        refine lv_iconst (v := -1) hx hb dX12_key_133 (by decide) ?_
                        exact W.iret (v := -1) hx hb hr (fun t ht hW => ⟨-1, rfl, Or.inr (Or.inr (Or.inr (⟨rfl, by first | omega | (have q := (kd_word (tx := tx) (n := sz1) (p := p0) (by omega)).trans ((if_neg (by rw [show eqw tx sz1 wVx p0 = false from EW1]; decide)).trans ((if_neg (by rw [show eqw tx sz1 wEd p0 = false from EW8]; decide)).trans (if_neg (by rw [show eqw tx sz1 wWo p0 = false from EW13]; decide)))); omega)⟩))), ht⟩) (fun _ h => absurd h List.not_mem_nil) dX12_key_134
                      · have c60 := mt (b_eq (rfl : Int32.toInt x1_54 = _) (show Int32.toInt 0 = 0 from rfl)).mpr c60
                        have X2 : x1_54 = 1 := i1_of hL54_1 (by omega)
                        have EW13 : eqw tx sz1 (kW 13) p0 = true := by first | exact eqw_t.mpr ⟨(hL54_2 X2).1.trans rfl, fun q hq => (hL54_2 X2).2 q (by have : (kW 13).length = 17 - 13 := rfl; omega)⟩ | (exfalso; omega)
                        refine lv_iload_n hx hb dX12_key_121 rfl (lv_at hl 1 rfl) ?_
                        exact W.iret (v := 2) hx hb hr (fun t ht hW => ⟨2, rfl, Or.inr (Or.inr (Or.inl ⟨rfl, by exact (kd_word (by omega)).trans ((if_neg (by rw [show eqw tx sz1 wVx p0 = false from EW1]; decide)).trans ((if_neg (by rw [show eqw tx sz1 wEd p0 = false from EW8]; decide)).trans (if_pos EW13)))⟩)), ht⟩) (fun _ h => absurd h List.not_mem_nil) dX12_key_122
                    · have c59 := mt (b_eq (rfl : Int32.toInt x1_54 = _) (show Int32.toInt 0 = 0 from rfl)).mpr c59
                      have X1 : x1_54 = 1 := i1_of hL54_1 (by omega)
                      refine va_ldcS hx hb hown hZ dX12_key_80 ?_
                      refine lv_iload_n hx hb dX12_key_82 rfl (lv_at hl 2 rfl) ?_
                      refine lv_iload hx hb dX12_key_83 (lv_at hl 5 rfl) ?_
                      refine lv_iadd hx hb dX12_key_85 ?_
                      refine W.eq (g2 := F0 m 86 ls [.int (nI (13 + i_54)), .ref (adK 3)]) (congrArg (fun z : Int32 => F0 m 86 ls (.int z :: [.ref (adK 3)])) (nI_add 13 i_54)) ?_
                      refine vp_callSi (va_Run.run (va_runV (As := [.int (nI (13 + i_54))]) (rest := []) ⟨hx, hb, hml, hown, noTs⟩ (s_J0_charAt l adK adV 3 (13 + i_54) (by decide) (by show _ < 18; omega)) ⟨cbE 1 (wd_498 hE) (wd_129 hE) (wd_1528 hE) rfl rfl (by decide +kernel) ⟨Nat.le_of_ble_eq_true rfl, Nat.le_of_ble_eq_true rfl⟩, (wd_496 hE), (wd_497 hE)⟩ ⟨PS.blind, vk_recv hX.1 (by decide) hS, ps_pre (av := [.ref (adK 3), .int (nI (13 + i_54))]) hX hS hE⟩ rfl rfl hl.1 rfl (lv_room (Nat.le_of_ble_eq_true rfl)) dX12_key_86 ⟨Nat.le_of_ble_eq_true rfl, Nat.le_of_ble_eq_true rfl⟩)) (fun r63 hr63 => ?_)
                      refine lv_aload_n hx hb dX12_key_89 rfl (lv_at hl 0 rfl) ?_
                      refine lv_aload_n hx hb dX12_key_90 rfl (lv_at hl 0 rfl) ?_
                      refine r_get (v := .int (nI p0)) hx hb (ly_X12 hE) hown hK hP rfl 13 (by decide) (wd_1394 hE) (fun _ h9 => h9) (congrArg (fun z : Int32 => some (Value.int z)) te13_2) dX12_key_91 ?_
                      refine lv_iload hx hb dX12_key_94 (lv_at hl 5 rfl) ?_
                      refine lv_iadd hx hb dX12_key_96 ?_
                      refine W.eq (g2 := F0 m 97 ls [.int (nI (p0 + i_54)), .ref (b 0), .int r63]) (congrArg (fun z : Int32 => F0 m 97 ls (.int z :: [.ref (b 0), .int r63])) (nI_add p0 i_54)) ?_
                      refine vp_callSi (va_Run.run (va_runV (As := [.int (nI (p0 + i_54))]) (rest := [.int r63]) ⟨hx, hb, hml, hown, noTs⟩ (r_X12_byteAt l dC dI s.heap.size cs b u tx hAc16 (p0 + i_54) sz1 hF11 (by first | assumption | omega | rfl | (congr 1; omega)) (by first | assumption | omega | rfl | (congr 1; omega))) ⟨cbE 1 (wd_1510 hE) (wd_126 hE) (wd_1507 hE) rfl rfl (by decide +kernel) ⟨Nat.le_of_ble_eq_true rfl, Nat.le_of_ble_eq_true rfl⟩, (wd_1509 hE), (wd_57 hE)⟩ ⟨PR.blind, r_recv hK hP rfl, (r_pre (av := [.ref (b 0), .int (nI (p0 + i_54))]) hK hP hJ hE)⟩ rfl rfl hl.1 rfl (lv_room (Nat.le_of_ble_eq_true rfl)) dX12_key_97 ⟨Nat.le_of_ble_eq_true rfl, Nat.le_of_ble_eq_true rfl⟩)) (fun r64 hr64 => ?_)
                      subst hr64
                      have htf64 := bA_f tx sz1 (p0 + i_54)
                      have HRC := hr63
                      have RCH := ch_13 i_54 (by omega)
                      refine lv_icmp_ne (tgt := 107) hx hb dX12_key_100 (by decide) (fun c65 => ?_) (fun c65 => ?_)
                      · have c65 := mt (b_eq (rfl : Int32.toInt r63 = _) (rfl : Int32.toInt (bA tx sz1 (p0 + i_54)) = _)).mpr c65
                        have NE : bA tx sz1 (p0 + i_54) ≠ (kW 13).getD i_54 0 := by rw [← RCH, ← HRC]; intro e; have := congrArg Int32.toInt e; omega
                        refine lv_iconst (v := 0) hx hb dX12_key_107 (by decide) ?_
                        refine lv_istore (lv' := [(4, .int 0), (0, .ref (b 0)), (1, .int 2), (2, .int 13), (3, .int 17), (5, .int (nI i_54))]) hx hb dX12_key_108 hl (by decide) rfl (fun ls hl => ?_)
                        refine lv_iinc (v := nI (i_54 + 1)) (lv' := [(5, .int (nI (i_54 + 1))), (4, .int 0), (0, .ref (b 0)), (1, .int 2), (2, .int 13), (3, .int 17)]) hx hb dX12_key_110 hl (k := 5) rfl (nI_1 i_54) (by decide) rfl (fun ls hl => ?_)
                        refine lv_goto (tgt := 67) hx hb dX12_key_113 (by decide) ?_
                        exact ih54 _ _ (by omega) ⟨(i_54 + 1), 0, rfl, (by first | assumption | omega | rfl | (congr 1; omega)), (by first | exact Or.inl rfl | exact Or.inr rfl), (by first | (intro _; exact ⟨(hL54_2 X1).1, fun q hq => by rcases Nat.lt_or_ge q i_54 with h | h; (exact (hL54_2 X1).2 q h); (obtain rfl : q = i_54 := by omega); exact EQ⟩) | (intro h; exact absurd h (by decide))), (by first | (intro h; exact absurd h (by decide)) | (intro _; exact eqw_at (w := kW 13) (by have : (kW 13).length = 17 - 13 := rfl; omega) NE)), lv_sub hl [2, 3, 4, 5, 1, 0] rfl⟩
                      · have c65 := (b_eq (rfl : Int32.toInt r63 = _) (rfl : Int32.toInt (bA tx sz1 (p0 + i_54)) = _)).mp c65
                        have EQ : bA tx sz1 (p0 + i_54) = (kW 13).getD i_54 0 := by rw [← RCH, ← HRC]; exact Int32.toInt_inj.mp (by omega)
                        refine lv_iconst (v := 1) hx hb dX12_key_103 (by decide) ?_
                        refine lv_goto (tgt := 108) hx hb dX12_key_104 (by decide) ?_
                        refine lv_istore (lv' := [(4, .int 1), (0, .ref (b 0)), (1, .int 2), (2, .int 13), (3, .int 17), (5, .int (nI i_54))]) hx hb dX12_key_108 hl (by decide) rfl (fun ls hl => ?_)
                        refine lv_iinc (v := nI (i_54 + 1)) (lv' := [(5, .int (nI (i_54 + 1))), (4, .int 1), (0, .ref (b 0)), (1, .int 2), (2, .int 13), (3, .int 17)]) hx hb dX12_key_110 hl (k := 5) rfl (nI_1 i_54) (by decide) rfl (fun ls hl => ?_)
                        refine lv_goto (tgt := 67) hx hb dX12_key_113 (by decide) ?_
                        exact ih54 _ _ (by omega) ⟨(i_54 + 1), 1, rfl, (by first | assumption | omega | rfl | (congr 1; omega)), (by first | exact Or.inl rfl | exact Or.inr rfl), (by first | (intro _; exact ⟨(hL54_2 X1).1, fun q hq => by rcases Nat.lt_or_ge q i_54 with h | h; (exact (hL54_2 X1).2 q h); (obtain rfl : q = i_54 := by omega); exact EQ⟩) | (intro h; exact absurd h (by decide))), (by first | (intro h; exact absurd h (by decide)) | (intro _; exact eqw_at (w := kW 13) (by have : (kW 13).length = 17 - 13 := rfl; omega) NE)), lv_sub hl [2, 3, 4, 5, 1, 0] rfl⟩
                · have c53 := (b_eq (show Int32.toInt 4 = 4 from rfl) (nI_toInt (n := (tnd tx sz1 p0) - p0) (by omega))).mp c53
                  refine lv_iconst (v := 1) hx hb dX12_key_57 (by decide) ?_
                  refine lv_goto (tgt := 62) hx hb dX12_key_58 (by decide) ?_
                  refine lv_istore (lv' := [(4, .int 1), (3, .int 17), (2, .int 13), (1, .int 2), (0, .ref (b 0)), (5, .int (nI i_38))]) hx hb dX12_key_62 hl (by decide) rfl (fun ls hl => ?_)
                  refine lv_iconst (v := 0) hx hb dX12_key_64 (by decide) ?_
                  refine lv_istore (lv' := [(5, .int 0), (4, .int 1), (3, .int 17), (2, .int 13), (1, .int 2), (0, .ref (b 0))]) hx hb dX12_key_65 hl (by decide) rfl (fun ls hl => ?_)
                  refine r_indP (I := fun n ls => ∃ (i_66 : Nat) (x1_66 : Int32), n = 17 - 13 - i_66 ∧ (i_66 ≤ 17 - 13) ∧ (x1_66 = 0 ∨ x1_66 = 1) ∧ (x1_66 = 1 → tnd tx sz1 p0 - p0 = 17 - 13 ∧ ∀ q, q < i_66 → bA tx sz1 (p0 + q) = (kW 13).getD q 0) ∧ (x1_66 = 0 → eqw tx sz1 (kW 13) p0 = false) ∧ lv_has ls 6 [(0, .ref (b 0)), (1, .int 2), (2, .int 13), (3, .int 17), (4, .int x1_66), (5, .int (nI i_66))]) (fun n ls hI ih66 => ?_) _ _ ⟨0, 1, rfl, (by first | assumption | omega | rfl | (congr 1; omega)), (by first | exact Or.inl rfl | exact Or.inr rfl), (by first | (intro _; exact ⟨by omega, fun q hq => absurd hq (by omega)⟩) | (intro h; exact absurd h (by decide))), (by first | (intro h; exact absurd h (by decide)) | (intro _; exact eqw_len (w := kW 13) (l := 17 - 13) rfl (by omega))), lv_sub hl [5, 4, 3, 2, 1, 0] rfl⟩
                  obtain ⟨i_66, x1_66, hmu66, hL66_0, hL66_1, hL66_2, hL66_3, hl⟩ := hI
                  subst hmu66
                  refine lv_iload hx hb dX12_key_67 (lv_at hl 5 rfl) ?_
                  refine lv_iload_n hx hb dX12_key_69 rfl (lv_at hl 3 rfl) ?_
                  refine lv_iload_n hx hb dX12_key_70 rfl (lv_at hl 2 rfl) ?_
                  refine lv_isub hx hb dX12_key_71 ?_
                  refine W.eq (g2 := F0 m 72 ls [.int 4, .int (nI i_66)]) rfl ?_
                  refine lv_icmp_ge (tgt := 116) hx hb dX12_key_72 (by decide) (fun c67 => ?_) (fun c67 => ?_)
                  · have c67 := (b_le (show Int32.toInt 4 = 4 from rfl) (nI_toInt (n := i_66) (by omega))).mp c67
                    refine lv_iload hx hb dX12_key_116 (lv_at hl 4 rfl) ?_
                    refine lv_if_eq (tgt := 123) hx hb dX12_key_118 (by decide) (fun c68 => ?_) (fun c68 => ?_)
                    · have c68 := (b_eq (rfl : Int32.toInt x1_66 = _) (show Int32.toInt 0 = 0 from rfl)).mp c68
                      have EW13 : eqw tx sz1 (kW 13) p0 = false := hL66_3 (i0_of (by omega))
                      refine lv_iinc (v := 3) (lv' := [(1, .int 3), (0, .ref (b 0)), (2, .int 13), (3, .int 17), (4, .int x1_66), (5, .int (nI i_66))]) hx hb dX12_key_123 hl (k := 1) rfl (by decide) (by decide) rfl (fun ls hl => ?_)
                      refine lv_iload_n hx hb dX12_key_126 rfl (lv_at hl 3 rfl) ?_
                      refine lv_iconst (v := 1) hx hb dX12_key_127 (by decide) ?_
                      refine lv_iadd hx hb dX12_key_128 ?_
                      refine W.eq (g2 := F0 m 129 ls [.int 18]) rfl ?_
                      refine lv_istore_n (lv' := [(2, .int 18), (1, .int 3), (0, .ref (b 0)), (3, .int 17), (4, .int x1_66), (5, .int (nI i_66))]) hx hb dX12_key_129 rfl hl (by decide) rfl (fun ls hl => ?_)
                      refine lv_goto (tgt := 14) hx hb dX12_key_130 (by decide) ?_
                      refine lv_iload_n hx hb dX12_key_14 rfl (lv_at hl 0 rfl) ?_
                      refine va_ldcS hx hb hown hZ dX12_key_15 ?_
                      refine vp_callSi (va_Run.run (va_runV (As := []) (rest := [.int 18]) ⟨hx, hb, hml, hown, noTs⟩ (s_J0_length l adK adV 3 (by decide)) ⟨cbE 0 (wd_488 hE) (wd_129 hE) (wd_1527 hE) rfl rfl (by decide +kernel) ⟨Nat.le_of_ble_eq_true rfl, Nat.le_of_ble_eq_true rfl⟩, (wd_486 hE), (wd_487 hE)⟩ ⟨PS.blind, vk_recv hX.1 (by decide) hS, ps_pre (av := [.ref (adK 3)]) hX hS hE⟩ rfl rfl hl.1 rfl (lv_room (Nat.le_of_ble_eq_true rfl)) dX12_key_17 ⟨Nat.le_of_ble_eq_true rfl, Nat.le_of_ble_eq_true rfl⟩)) (fun r69 hr69 => ?_)
                      have hr69 : r69 = 18 := hr69
                      subst hr69
                      refine lv_icmp_ge (tgt := 133) hx hb dX12_key_20 (by decide) (fun c70 => ?_) (fun c70 => absurd c70 (by decide))
                      refine lv_iconst (v := -1) hx hb dX12_key_133 (by decide) ?_
                      exact W.iret (v := -1) hx hb hr (fun t ht hW => ⟨-1, rfl, Or.inr (Or.inr (Or.inr (⟨rfl, by first | omega | (have q := (kd_word (tx := tx) (n := sz1) (p := p0) (by omega)).trans ((if_neg (by rw [show eqw tx sz1 wVx p0 = false from EW1]; decide)).trans ((if_neg (by rw [show eqw tx sz1 wEd p0 = false from EW8]; decide)).trans (if_neg (by rw [show eqw tx sz1 wWo p0 = false from EW13]; decide)))); omega)⟩))), ht⟩) (fun _ h => absurd h List.not_mem_nil) dX12_key_134
                    · have c68 := mt (b_eq (rfl : Int32.toInt x1_66 = _) (show Int32.toInt 0 = 0 from rfl)).mpr c68
                      have X2 : x1_66 = 1 := i1_of hL66_1 (by omega)
                      have EW13 : eqw tx sz1 (kW 13) p0 = true := by first | exact eqw_t.mpr ⟨(hL66_2 X2).1.trans rfl, fun q hq => (hL66_2 X2).2 q (by have : (kW 13).length = 17 - 13 := rfl; omega)⟩ | (exfalso; omega)
                      refine lv_iload_n hx hb dX12_key_121 rfl (lv_at hl 1 rfl) ?_
                      exact W.iret (v := 2) hx hb hr (fun t ht hW => ⟨2, rfl, Or.inr (Or.inr (Or.inl ⟨rfl, by exact (kd_word (by omega)).trans ((if_neg (by rw [show eqw tx sz1 wVx p0 = false from EW1]; decide)).trans ((if_neg (by rw [show eqw tx sz1 wEd p0 = false from EW8]; decide)).trans (if_pos EW13)))⟩)), ht⟩) (fun _ h => absurd h List.not_mem_nil) dX12_key_122
                  · have c67 := mt (b_le (show Int32.toInt 4 = 4 from rfl) (nI_toInt (n := i_66) (by omega))).mpr c67
                    refine lv_iload hx hb dX12_key_75 (lv_at hl 4 rfl) ?_
                    refine lv_if_eq (tgt := 116) hx hb dX12_key_77 (by decide) (fun c71 => ?_) (fun c71 => ?_)
                    · have c71 := (b_eq (rfl : Int32.toInt x1_66 = _) (show Int32.toInt 0 = 0 from rfl)).mp c71
                      refine lv_iload hx hb dX12_key_116 (lv_at hl 4 rfl) ?_
                      refine lv_if_eq (tgt := 123) hx hb dX12_key_118 (by decide) (fun c72 => ?_) (fun c72 => ?_)
                      · have c72 := (b_eq (rfl : Int32.toInt x1_66 = _) (show Int32.toInt 0 = 0 from rfl)).mp c72
                        have EW13 : eqw tx sz1 (kW 13) p0 = false := hL66_3 (i0_of (by omega))
                        refine lv_iinc (v := 3) (lv' := [(1, .int 3), (0, .ref (b 0)), (2, .int 13), (3, .int 17), (4, .int x1_66), (5, .int (nI i_66))]) hx hb dX12_key_123 hl (k := 1) rfl (by decide) (by decide) rfl (fun ls hl => ?_)
                        refine lv_iload_n hx hb dX12_key_126 rfl (lv_at hl 3 rfl) ?_
                        refine lv_iconst (v := 1) hx hb dX12_key_127 (by decide) ?_
                        refine lv_iadd hx hb dX12_key_128 ?_
                        refine W.eq (g2 := F0 m 129 ls [.int 18]) rfl ?_
                        refine lv_istore_n (lv' := [(2, .int 18), (1, .int 3), (0, .ref (b 0)), (3, .int 17), (4, .int x1_66), (5, .int (nI i_66))]) hx hb dX12_key_129 rfl hl (by decide) rfl (fun ls hl => ?_)
                        refine lv_goto (tgt := 14) hx hb dX12_key_130 (by decide) ?_
                        refine lv_iload_n hx hb dX12_key_14 rfl (lv_at hl 0 rfl) ?_
                        refine va_ldcS hx hb hown hZ dX12_key_15 ?_
                        refine vp_callSi (va_Run.run (va_runV (As := []) (rest := [.int 18]) ⟨hx, hb, hml, hown, noTs⟩ (s_J0_length l adK adV 3 (by decide)) ⟨cbE 0 (wd_488 hE) (wd_129 hE) (wd_1527 hE) rfl rfl (by decide +kernel) ⟨Nat.le_of_ble_eq_true rfl, Nat.le_of_ble_eq_true rfl⟩, (wd_486 hE), (wd_487 hE)⟩ ⟨PS.blind, vk_recv hX.1 (by decide) hS, ps_pre (av := [.ref (adK 3)]) hX hS hE⟩ rfl rfl hl.1 rfl (lv_room (Nat.le_of_ble_eq_true rfl)) dX12_key_17 ⟨Nat.le_of_ble_eq_true rfl, Nat.le_of_ble_eq_true rfl⟩)) (fun r73 hr73 => ?_)
                        have hr73 : r73 = 18 := hr73
                        subst hr73
                        refine lv_icmp_ge (tgt := 133) hx hb dX12_key_20 (by decide) (fun c74 => ?_) (fun c74 => absurd c74 (by decide))
                        refine lv_iconst (v := -1) hx hb dX12_key_133 (by decide) ?_
                        exact W.iret (v := -1) hx hb hr (fun t ht hW => ⟨-1, rfl, Or.inr (Or.inr (Or.inr (⟨rfl, by first | omega | (have q := (kd_word (tx := tx) (n := sz1) (p := p0) (by omega)).trans ((if_neg (by rw [show eqw tx sz1 wVx p0 = false from EW1]; decide)).trans ((if_neg (by rw [show eqw tx sz1 wEd p0 = false from EW8]; decide)).trans (if_neg (by rw [show eqw tx sz1 wWo p0 = false from EW13]; decide)))); omega)⟩))), ht⟩) (fun _ h => absurd h List.not_mem_nil) dX12_key_134
                      · have c72 := mt (b_eq (rfl : Int32.toInt x1_66 = _) (show Int32.toInt 0 = 0 from rfl)).mpr c72
                        have X2 : x1_66 = 1 := i1_of hL66_1 (by omega)
                        have EW13 : eqw tx sz1 (kW 13) p0 = true := by first | exact eqw_t.mpr ⟨(hL66_2 X2).1.trans rfl, fun q hq => (hL66_2 X2).2 q (by have : (kW 13).length = 17 - 13 := rfl; omega)⟩ | (exfalso; omega)
                        refine lv_iload_n hx hb dX12_key_121 rfl (lv_at hl 1 rfl) ?_
                        exact W.iret (v := 2) hx hb hr (fun t ht hW => ⟨2, rfl, Or.inr (Or.inr (Or.inl ⟨rfl, by exact (kd_word (by omega)).trans ((if_neg (by rw [show eqw tx sz1 wVx p0 = false from EW1]; decide)).trans ((if_neg (by rw [show eqw tx sz1 wEd p0 = false from EW8]; decide)).trans (if_pos EW13)))⟩)), ht⟩) (fun _ h => absurd h List.not_mem_nil) dX12_key_122
                    · have c71 := mt (b_eq (rfl : Int32.toInt x1_66 = _) (show Int32.toInt 0 = 0 from rfl)).mpr c71
                      have X1 : x1_66 = 1 := i1_of hL66_1 (by omega)
                      refine va_ldcS hx hb hown hZ dX12_key_80 ?_
                      refine lv_iload_n hx hb dX12_key_82 rfl (lv_at hl 2 rfl) ?_
                      refine lv_iload hx hb dX12_key_83 (lv_at hl 5 rfl) ?_
                      refine lv_iadd hx hb dX12_key_85 ?_
                      refine W.eq (g2 := F0 m 86 ls [.int (nI (13 + i_66)), .ref (adK 3)]) (congrArg (fun z : Int32 => F0 m 86 ls (.int z :: [.ref (adK 3)])) (nI_add 13 i_66)) ?_
                      refine vp_callSi (va_Run.run (va_runV (As := [.int (nI (13 + i_66))]) (rest := []) ⟨hx, hb, hml, hown, noTs⟩ (s_J0_charAt l adK adV 3 (13 + i_66) (by decide) (by show _ < 18; omega)) ⟨cbE 1 (wd_498 hE) (wd_129 hE) (wd_1528 hE) rfl rfl (by decide +kernel) ⟨Nat.le_of_ble_eq_true rfl, Nat.le_of_ble_eq_true rfl⟩, (wd_496 hE), (wd_497 hE)⟩ ⟨PS.blind, vk_recv hX.1 (by decide) hS, ps_pre (av := [.ref (adK 3), .int (nI (13 + i_66))]) hX hS hE⟩ rfl rfl hl.1 rfl (lv_room (Nat.le_of_ble_eq_true rfl)) dX12_key_86 ⟨Nat.le_of_ble_eq_true rfl, Nat.le_of_ble_eq_true rfl⟩)) (fun r75 hr75 => ?_)
                      refine lv_aload_n hx hb dX12_key_89 rfl (lv_at hl 0 rfl) ?_
                      refine lv_aload_n hx hb dX12_key_90 rfl (lv_at hl 0 rfl) ?_
                      refine r_get (v := .int (nI p0)) hx hb (ly_X12 hE) hown hK hP rfl 13 (by decide) (wd_1394 hE) (fun _ h9 => h9) (congrArg (fun z : Int32 => some (Value.int z)) te13_2) dX12_key_91 ?_
                      refine lv_iload hx hb dX12_key_94 (lv_at hl 5 rfl) ?_
                      refine lv_iadd hx hb dX12_key_96 ?_
                      refine W.eq (g2 := F0 m 97 ls [.int (nI (p0 + i_66)), .ref (b 0), .int r75]) (congrArg (fun z : Int32 => F0 m 97 ls (.int z :: [.ref (b 0), .int r75])) (nI_add p0 i_66)) ?_
                      refine vp_callSi (va_Run.run (va_runV (As := [.int (nI (p0 + i_66))]) (rest := [.int r75]) ⟨hx, hb, hml, hown, noTs⟩ (r_X12_byteAt l dC dI s.heap.size cs b u tx hAc16 (p0 + i_66) sz1 hF11 (by first | assumption | omega | rfl | (congr 1; omega)) (by first | assumption | omega | rfl | (congr 1; omega))) ⟨cbE 1 (wd_1510 hE) (wd_126 hE) (wd_1507 hE) rfl rfl (by decide +kernel) ⟨Nat.le_of_ble_eq_true rfl, Nat.le_of_ble_eq_true rfl⟩, (wd_1509 hE), (wd_57 hE)⟩ ⟨PR.blind, r_recv hK hP rfl, (r_pre (av := [.ref (b 0), .int (nI (p0 + i_66))]) hK hP hJ hE)⟩ rfl rfl hl.1 rfl (lv_room (Nat.le_of_ble_eq_true rfl)) dX12_key_97 ⟨Nat.le_of_ble_eq_true rfl, Nat.le_of_ble_eq_true rfl⟩)) (fun r76 hr76 => ?_)
                      subst hr76
                      have htf76 := bA_f tx sz1 (p0 + i_66)
                      have HRC := hr75
                      have RCH := ch_13 i_66 (by omega)
                      refine lv_icmp_ne (tgt := 107) hx hb dX12_key_100 (by decide) (fun c77 => ?_) (fun c77 => ?_)
                      · have c77 := mt (b_eq (rfl : Int32.toInt r75 = _) (rfl : Int32.toInt (bA tx sz1 (p0 + i_66)) = _)).mpr c77
                        have NE : bA tx sz1 (p0 + i_66) ≠ (kW 13).getD i_66 0 := by rw [← RCH, ← HRC]; intro e; have := congrArg Int32.toInt e; omega
                        refine lv_iconst (v := 0) hx hb dX12_key_107 (by decide) ?_
                        refine lv_istore (lv' := [(4, .int 0), (0, .ref (b 0)), (1, .int 2), (2, .int 13), (3, .int 17), (5, .int (nI i_66))]) hx hb dX12_key_108 hl (by decide) rfl (fun ls hl => ?_)
                        refine lv_iinc (v := nI (i_66 + 1)) (lv' := [(5, .int (nI (i_66 + 1))), (4, .int 0), (0, .ref (b 0)), (1, .int 2), (2, .int 13), (3, .int 17)]) hx hb dX12_key_110 hl (k := 5) rfl (nI_1 i_66) (by decide) rfl (fun ls hl => ?_)
                        refine lv_goto (tgt := 67) hx hb dX12_key_113 (by decide) ?_
                        exact ih66 _ _ (by omega) ⟨(i_66 + 1), 0, rfl, (by first | assumption | omega | rfl | (congr 1; omega)), (by first | exact Or.inl rfl | exact Or.inr rfl), (by first | (intro _; exact ⟨(hL66_2 X1).1, fun q hq => by rcases Nat.lt_or_ge q i_66 with h | h; (exact (hL66_2 X1).2 q h); (obtain rfl : q = i_66 := by omega); exact EQ⟩) | (intro h; exact absurd h (by decide))), (by first | (intro h; exact absurd h (by decide)) | (intro _; exact eqw_at (w := kW 13) (by have : (kW 13).length = 17 - 13 := rfl; omega) NE)), lv_sub hl [2, 3, 4, 5, 1, 0] rfl⟩
                      · have c77 := (b_eq (rfl : Int32.toInt r75 = _) (rfl : Int32.toInt (bA tx sz1 (p0 + i_66)) = _)).mp c77
                        have EQ : bA tx sz1 (p0 + i_66) = (kW 13).getD i_66 0 := by rw [← RCH, ← HRC]; exact Int32.toInt_inj.mp (by omega)
                        refine lv_iconst (v := 1) hx hb dX12_key_103 (by decide) ?_
                        refine lv_goto (tgt := 108) hx hb dX12_key_104 (by decide) ?_
                        refine lv_istore (lv' := [(4, .int 1), (0, .ref (b 0)), (1, .int 2), (2, .int 13), (3, .int 17), (5, .int (nI i_66))]) hx hb dX12_key_108 hl (by decide) rfl (fun ls hl => ?_)
                        refine lv_iinc (v := nI (i_66 + 1)) (lv' := [(5, .int (nI (i_66 + 1))), (4, .int 1), (0, .ref (b 0)), (1, .int 2), (2, .int 13), (3, .int 17)]) hx hb dX12_key_110 hl (k := 5) rfl (nI_1 i_66) (by decide) rfl (fun ls hl => ?_)
                        refine lv_goto (tgt := 67) hx hb dX12_key_113 (by decide) ?_
                        exact ih66 _ _ (by omega) ⟨(i_66 + 1), 1, rfl, (by first | assumption | omega | rfl | (congr 1; omega)), (by first | exact Or.inl rfl | exact Or.inr rfl), (by first | (intro _; exact ⟨(hL66_2 X1).1, fun q hq => by rcases Nat.lt_or_ge q i_66 with h | h; (exact (hL66_2 X1).2 q h); (obtain rfl : q = i_66 := by omega); exact EQ⟩) | (intro h; exact absurd h (by decide))), (by first | (intro h; exact absurd h (by decide)) | (intro _; exact eqw_at (w := kW 13) (by have : (kW 13).length = 17 - 13 := rfl; omega) NE)), lv_sub hl [2, 3, 4, 5, 1, 0] rfl⟩
              · have c40 := mt (b_eq (rfl : Int32.toInt x1_38 = _) (show Int32.toInt 0 = 0 from rfl)).mpr c40
                have X2 : x1_38 = 1 := i1_of hL38_1 (by omega)
                have EW8 : eqw tx sz1 (kW 8) p0 = true := by first | exact eqw_t.mpr ⟨(hL38_2 X2).1.trans rfl, fun q hq => (hL38_2 X2).2 q (by have : (kW 8).length = 12 - 8 := rfl; omega)⟩ | (exfalso; omega)
                refine lv_iload_n hx hb dX12_key_121 rfl (lv_at hl 1 rfl) ?_
                exact W.iret (v := 1) hx hb hr (fun t ht hW => ⟨1, rfl, Or.inr (Or.inl ⟨rfl, by exact (kd_word (by omega)).trans ((if_neg (by rw [show eqw tx sz1 wVx p0 = false from EW1]; decide)).trans (if_pos EW8))⟩), ht⟩) (fun _ h => absurd h List.not_mem_nil) dX12_key_122
            · have c39 := mt (b_le (show Int32.toInt 4 = 4 from rfl) (nI_toInt (n := i_38) (by omega))).mpr c39
              refine lv_iload hx hb dX12_key_75 (lv_at hl 4 rfl) ?_
              refine lv_if_eq (tgt := 116) hx hb dX12_key_77 (by decide) (fun c78 => ?_) (fun c78 => ?_)
              · have c78 := (b_eq (rfl : Int32.toInt x1_38 = _) (show Int32.toInt 0 = 0 from rfl)).mp c78
                refine lv_iload hx hb dX12_key_116 (lv_at hl 4 rfl) ?_
                refine lv_if_eq (tgt := 123) hx hb dX12_key_118 (by decide) (fun c79 => ?_) (fun c79 => ?_)
                · have c79 := (b_eq (rfl : Int32.toInt x1_38 = _) (show Int32.toInt 0 = 0 from rfl)).mp c79
                  have EW8 : eqw tx sz1 (kW 8) p0 = false := hL38_3 (i0_of (by omega))
                  refine lv_iinc (v := 2) (lv' := [(1, .int 2), (0, .ref (b 0)), (2, .int 8), (3, .int 12), (4, .int x1_38), (5, .int (nI i_38))]) hx hb dX12_key_123 hl (k := 1) rfl (by decide) (by decide) rfl (fun ls hl => ?_)
                  refine lv_iload_n hx hb dX12_key_126 rfl (lv_at hl 3 rfl) ?_
                  refine lv_iconst (v := 1) hx hb dX12_key_127 (by decide) ?_
                  refine lv_iadd hx hb dX12_key_128 ?_
                  refine W.eq (g2 := F0 m 129 ls [.int 13]) rfl ?_
                  refine lv_istore_n (lv' := [(2, .int 13), (1, .int 2), (0, .ref (b 0)), (3, .int 12), (4, .int x1_38), (5, .int (nI i_38))]) hx hb dX12_key_129 rfl hl (by decide) rfl (fun ls hl => ?_)
                  refine lv_goto (tgt := 14) hx hb dX12_key_130 (by decide) ?_
                  refine lv_iload_n hx hb dX12_key_14 rfl (lv_at hl 0 rfl) ?_
                  refine va_ldcS hx hb hown hZ dX12_key_15 ?_
                  refine vp_callSi (va_Run.run (va_runV (As := []) (rest := [.int 13]) ⟨hx, hb, hml, hown, noTs⟩ (s_J0_length l adK adV 3 (by decide)) ⟨cbE 0 (wd_488 hE) (wd_129 hE) (wd_1527 hE) rfl rfl (by decide +kernel) ⟨Nat.le_of_ble_eq_true rfl, Nat.le_of_ble_eq_true rfl⟩, (wd_486 hE), (wd_487 hE)⟩ ⟨PS.blind, vk_recv hX.1 (by decide) hS, ps_pre (av := [.ref (adK 3)]) hX hS hE⟩ rfl rfl hl.1 rfl (lv_room (Nat.le_of_ble_eq_true rfl)) dX12_key_17 ⟨Nat.le_of_ble_eq_true rfl, Nat.le_of_ble_eq_true rfl⟩)) (fun r80 hr80 => ?_)
                  have hr80 : r80 = 18 := hr80
                  subst hr80
                  refine lv_icmp_ge (tgt := 133) hx hb dX12_key_20 (by decide) (fun c81 => absurd c81 (by decide)) (fun c81 => ?_)
                  refine lv_iload_n hx hb dX12_key_23 rfl (lv_at hl 0 rfl) ?_
                  refine lv_istore_n (lv' := [(3, .int 13), (2, .int 13), (1, .int 2), (0, .ref (b 0)), (4, .int x1_38), (5, .int (nI i_38))]) hx hb dX12_key_24 rfl hl (by decide) rfl (fun ls hl => ?_)
                  refine va_ldcS hx hb hown hZ dX12_key_25 ?_
                  refine lv_iload_n hx hb dX12_key_27 rfl (lv_at hl 0 rfl) ?_
                  refine vp_callSi (va_Run.run (va_runV (As := [.int (nI 13)]) (rest := []) ⟨hx, hb, hml, hown, noTs⟩ (s_J0_charAt l adK adV 3 13 (by decide) (by show _ < 18; omega)) ⟨cbE 1 (wd_498 hE) (wd_129 hE) (wd_1528 hE) rfl rfl (by decide +kernel) ⟨Nat.le_of_ble_eq_true rfl, Nat.le_of_ble_eq_true rfl⟩, (wd_496 hE), (wd_497 hE)⟩ ⟨PS.blind, vk_recv hX.1 (by decide) hS, ps_pre (av := [.ref (adK 3), .int (nI 13)]) hX hS hE⟩ rfl rfl hl.1 rfl (lv_room (Nat.le_of_ble_eq_true rfl)) dX12_key_28 ⟨Nat.le_of_ble_eq_true rfl, Nat.le_of_ble_eq_true rfl⟩)) (fun r82 hr82 => ?_)
                  have hr82 : r82 = 119 := hr82.trans (by decide)
                  subst hr82
                  refine lv_bipush (v := 32) hx hb dX12_key_31 (by decide) ?_
                  refine lv_icmp_eq (tgt := 42) hx hb dX12_key_33 (by decide) (fun c83 => absurd c83 (by decide)) (fun c83 => ?_)
                  refine lv_iinc (v := 14) (lv' := [(3, .int 14), (2, .int 13), (1, .int 2), (0, .ref (b 0)), (4, .int x1_38), (5, .int (nI i_38))]) hx hb dX12_key_36 hl (k := 0) rfl (by decide) (by decide) rfl (fun ls hl => ?_)
                  refine lv_goto (tgt := 25) hx hb dX12_key_39 (by decide) ?_
                  refine va_ldcS hx hb hown hZ dX12_key_25 ?_
                  refine lv_iload_n hx hb dX12_key_27 rfl (lv_at hl 0 rfl) ?_
                  refine vp_callSi (va_Run.run (va_runV (As := [.int (nI 14)]) (rest := []) ⟨hx, hb, hml, hown, noTs⟩ (s_J0_charAt l adK adV 3 14 (by decide) (by show _ < 18; omega)) ⟨cbE 1 (wd_498 hE) (wd_129 hE) (wd_1528 hE) rfl rfl (by decide +kernel) ⟨Nat.le_of_ble_eq_true rfl, Nat.le_of_ble_eq_true rfl⟩, (wd_496 hE), (wd_497 hE)⟩ ⟨PS.blind, vk_recv hX.1 (by decide) hS, ps_pre (av := [.ref (adK 3), .int (nI 14)]) hX hS hE⟩ rfl rfl hl.1 rfl (lv_room (Nat.le_of_ble_eq_true rfl)) dX12_key_28 ⟨Nat.le_of_ble_eq_true rfl, Nat.le_of_ble_eq_true rfl⟩)) (fun r84 hr84 => ?_)
                  have hr84 : r84 = 111 := hr84.trans (by decide)
                  subst hr84
                  refine lv_bipush (v := 32) hx hb dX12_key_31 (by decide) ?_
                  refine lv_icmp_eq (tgt := 42) hx hb dX12_key_33 (by decide) (fun c85 => absurd c85 (by decide)) (fun c85 => ?_)
                  refine lv_iinc (v := 15) (lv' := [(3, .int 15), (2, .int 13), (1, .int 2), (0, .ref (b 0)), (4, .int x1_38), (5, .int (nI i_38))]) hx hb dX12_key_36 hl (k := 0) rfl (by decide) (by decide) rfl (fun ls hl => ?_)
                  refine lv_goto (tgt := 25) hx hb dX12_key_39 (by decide) ?_
                  refine va_ldcS hx hb hown hZ dX12_key_25 ?_
                  refine lv_iload_n hx hb dX12_key_27 rfl (lv_at hl 0 rfl) ?_
                  refine vp_callSi (va_Run.run (va_runV (As := [.int (nI 15)]) (rest := []) ⟨hx, hb, hml, hown, noTs⟩ (s_J0_charAt l adK adV 3 15 (by decide) (by show _ < 18; omega)) ⟨cbE 1 (wd_498 hE) (wd_129 hE) (wd_1528 hE) rfl rfl (by decide +kernel) ⟨Nat.le_of_ble_eq_true rfl, Nat.le_of_ble_eq_true rfl⟩, (wd_496 hE), (wd_497 hE)⟩ ⟨PS.blind, vk_recv hX.1 (by decide) hS, ps_pre (av := [.ref (adK 3), .int (nI 15)]) hX hS hE⟩ rfl rfl hl.1 rfl (lv_room (Nat.le_of_ble_eq_true rfl)) dX12_key_28 ⟨Nat.le_of_ble_eq_true rfl, Nat.le_of_ble_eq_true rfl⟩)) (fun r86 hr86 => ?_)
                  have hr86 : r86 = 114 := hr86.trans (by decide)
                  subst hr86
                  refine lv_bipush (v := 32) hx hb dX12_key_31 (by decide) ?_
                  refine lv_icmp_eq (tgt := 42) hx hb dX12_key_33 (by decide) (fun c87 => absurd c87 (by decide)) (fun c87 => ?_)
                  refine lv_iinc (v := 16) (lv' := [(3, .int 16), (2, .int 13), (1, .int 2), (0, .ref (b 0)), (4, .int x1_38), (5, .int (nI i_38))]) hx hb dX12_key_36 hl (k := 0) rfl (by decide) (by decide) rfl (fun ls hl => ?_)
                  refine lv_goto (tgt := 25) hx hb dX12_key_39 (by decide) ?_
                  refine va_ldcS hx hb hown hZ dX12_key_25 ?_
                  refine lv_iload_n hx hb dX12_key_27 rfl (lv_at hl 0 rfl) ?_
                  refine vp_callSi (va_Run.run (va_runV (As := [.int (nI 16)]) (rest := []) ⟨hx, hb, hml, hown, noTs⟩ (s_J0_charAt l adK adV 3 16 (by decide) (by show _ < 18; omega)) ⟨cbE 1 (wd_498 hE) (wd_129 hE) (wd_1528 hE) rfl rfl (by decide +kernel) ⟨Nat.le_of_ble_eq_true rfl, Nat.le_of_ble_eq_true rfl⟩, (wd_496 hE), (wd_497 hE)⟩ ⟨PS.blind, vk_recv hX.1 (by decide) hS, ps_pre (av := [.ref (adK 3), .int (nI 16)]) hX hS hE⟩ rfl rfl hl.1 rfl (lv_room (Nat.le_of_ble_eq_true rfl)) dX12_key_28 ⟨Nat.le_of_ble_eq_true rfl, Nat.le_of_ble_eq_true rfl⟩)) (fun r88 hr88 => ?_)
                  have hr88 : r88 = 100 := hr88.trans (by decide)
                  subst hr88
                  refine lv_bipush (v := 32) hx hb dX12_key_31 (by decide) ?_
                  refine lv_icmp_eq (tgt := 42) hx hb dX12_key_33 (by decide) (fun c89 => absurd c89 (by decide)) (fun c89 => ?_)
                  refine lv_iinc (v := 17) (lv' := [(3, .int 17), (2, .int 13), (1, .int 2), (0, .ref (b 0)), (4, .int x1_38), (5, .int (nI i_38))]) hx hb dX12_key_36 hl (k := 0) rfl (by decide) (by decide) rfl (fun ls hl => ?_)
                  refine lv_goto (tgt := 25) hx hb dX12_key_39 (by decide) ?_
                  refine va_ldcS hx hb hown hZ dX12_key_25 ?_
                  refine lv_iload_n hx hb dX12_key_27 rfl (lv_at hl 0 rfl) ?_
                  refine vp_callSi (va_Run.run (va_runV (As := [.int (nI 17)]) (rest := []) ⟨hx, hb, hml, hown, noTs⟩ (s_J0_charAt l adK adV 3 17 (by decide) (by show _ < 18; omega)) ⟨cbE 1 (wd_498 hE) (wd_129 hE) (wd_1528 hE) rfl rfl (by decide +kernel) ⟨Nat.le_of_ble_eq_true rfl, Nat.le_of_ble_eq_true rfl⟩, (wd_496 hE), (wd_497 hE)⟩ ⟨PS.blind, vk_recv hX.1 (by decide) hS, ps_pre (av := [.ref (adK 3), .int (nI 17)]) hX hS hE⟩ rfl rfl hl.1 rfl (lv_room (Nat.le_of_ble_eq_true rfl)) dX12_key_28 ⟨Nat.le_of_ble_eq_true rfl, Nat.le_of_ble_eq_true rfl⟩)) (fun r90 hr90 => ?_)
                  have hr90 : r90 = 32 := hr90.trans (by decide)
                  subst hr90
                  refine lv_bipush (v := 32) hx hb dX12_key_31 (by decide) ?_
                  refine lv_icmp_eq (tgt := 42) hx hb dX12_key_33 (by decide) (fun c91 => ?_) (fun c91 => absurd c91 (by decide))
                  refine lv_iload_n hx hb dX12_key_42 rfl (lv_at hl 0 rfl) ?_
                  refine lv_iload_n hx hb dX12_key_43 rfl (lv_at hl 1 rfl) ?_
                  refine lv_isub hx hb dX12_key_44 ?_
                  refine W.eq (g2 := F0 m 45 ls [.int 4]) rfl ?_
                  refine lv_aload_n hx hb dX12_key_45 rfl (lv_at hl 3 rfl) ?_
                  refine r_get (v := .int (nI (tnd tx sz1 p0))) hx hb (ly_X12 hE) hown hK hP rfl 14 (by decide) (wd_1395 hE) (fun _ h9 => h9) (congrArg (fun z : Int32 => some (Value.int z)) te14_2) dX12_key_46 ?_
                  refine lv_aload_n hx hb dX12_key_49 rfl (lv_at hl 3 rfl) ?_
                  refine r_get (v := .int (nI p0)) hx hb (ly_X12 hE) hown hK hP rfl 13 (by decide) (wd_1394 hE) (fun _ h9 => h9) (congrArg (fun z : Int32 => some (Value.int z)) te13_2) dX12_key_50 ?_
                  refine lv_isub hx hb dX12_key_53 ?_
                  refine W.eq (g2 := F0 m 54 ls [.int (nI ((tnd tx sz1 p0) - p0)), .int 4]) (congrArg (fun z : Int32 => F0 m 54 ls (.int z :: [.int 4])) (pk_sub (a := tnd tx sz1 p0) (b := p0) (by omega))) ?_
                  refine lv_icmp_ne (tgt := 61) hx hb dX12_key_54 (by decide) (fun c92 => ?_) (fun c92 => ?_)
                  · have c92 := mt (b_eq (show Int32.toInt 4 = 4 from rfl) (nI_toInt (n := (tnd tx sz1 p0) - p0) (by omega))).mpr c92
                    refine lv_iconst (v := 0) hx hb dX12_key_61 (by decide) ?_
                    refine lv_istore (lv' := [(4, .int 0), (3, .int 17), (2, .int 13), (1, .int 2), (0, .ref (b 0)), (5, .int (nI i_38))]) hx hb dX12_key_62 hl (by decide) rfl (fun ls hl => ?_)
                    refine lv_iconst (v := 0) hx hb dX12_key_64 (by decide) ?_
                    refine lv_istore (lv' := [(5, .int 0), (4, .int 0), (3, .int 17), (2, .int 13), (1, .int 2), (0, .ref (b 0))]) hx hb dX12_key_65 hl (by decide) rfl (fun ls hl => ?_)
                    refine r_indP (I := fun n ls => ∃ (i_93 : Nat) (x1_93 : Int32), n = 17 - 13 - i_93 ∧ (i_93 ≤ 17 - 13) ∧ (x1_93 = 0 ∨ x1_93 = 1) ∧ (x1_93 = 1 → tnd tx sz1 p0 - p0 = 17 - 13 ∧ ∀ q, q < i_93 → bA tx sz1 (p0 + q) = (kW 13).getD q 0) ∧ (x1_93 = 0 → eqw tx sz1 (kW 13) p0 = false) ∧ lv_has ls 6 [(0, .ref (b 0)), (1, .int 2), (2, .int 13), (3, .int 17), (4, .int x1_93), (5, .int (nI i_93))]) (fun n ls hI ih93 => ?_) _ _ ⟨0, 0, rfl, (by first | assumption | omega | rfl | (congr 1; omega)), (by first | exact Or.inl rfl | exact Or.inr rfl), (by first | (intro _; exact ⟨by omega, fun q hq => absurd hq (by omega)⟩) | (intro h; exact absurd h (by decide))), (by first | (intro h; exact absurd h (by decide)) | (intro _; exact eqw_len (w := kW 13) (l := 17 - 13) rfl (by omega))), lv_sub hl [5, 4, 3, 2, 1, 0] rfl⟩
                    obtain ⟨i_93, x1_93, hmu93, hL93_0, hL93_1, hL93_2, hL93_3, hl⟩ := hI
                    subst hmu93
                    refine lv_iload hx hb dX12_key_67 (lv_at hl 5 rfl) ?_
                    refine lv_iload_n hx hb dX12_key_69 rfl (lv_at hl 3 rfl) ?_
                    refine lv_iload_n hx hb dX12_key_70 rfl (lv_at hl 2 rfl) ?_
                    refine lv_isub hx hb dX12_key_71 ?_
                    refine W.eq (g2 := F0 m 72 ls [.int 4, .int (nI i_93)]) rfl ?_
                    refine lv_icmp_ge (tgt := 116) hx hb dX12_key_72 (by decide) (fun c94 => ?_) (fun c94 => ?_)
                    · have c94 := (b_le (show Int32.toInt 4 = 4 from rfl) (nI_toInt (n := i_93) (by omega))).mp c94
                      refine lv_iload hx hb dX12_key_116 (lv_at hl 4 rfl) ?_
                      refine lv_if_eq (tgt := 123) hx hb dX12_key_118 (by decide) (fun c95 => ?_) (fun c95 => ?_)
                      · have c95 := (b_eq (rfl : Int32.toInt x1_93 = _) (show Int32.toInt 0 = 0 from rfl)).mp c95
                        have EW13 : eqw tx sz1 (kW 13) p0 = false := hL93_3 (i0_of (by omega))
                        refine lv_iinc (v := 3) (lv' := [(1, .int 3), (0, .ref (b 0)), (2, .int 13), (3, .int 17), (4, .int x1_93), (5, .int (nI i_93))]) hx hb dX12_key_123 hl (k := 1) rfl (by decide) (by decide) rfl (fun ls hl => ?_)
                        refine lv_iload_n hx hb dX12_key_126 rfl (lv_at hl 3 rfl) ?_
                        refine lv_iconst (v := 1) hx hb dX12_key_127 (by decide) ?_
                        refine lv_iadd hx hb dX12_key_128 ?_
                        refine W.eq (g2 := F0 m 129 ls [.int 18]) rfl ?_
                        refine lv_istore_n (lv' := [(2, .int 18), (1, .int 3), (0, .ref (b 0)), (3, .int 17), (4, .int x1_93), (5, .int (nI i_93))]) hx hb dX12_key_129 rfl hl (by decide) rfl (fun ls hl => ?_)
                        refine lv_goto (tgt := 14) hx hb dX12_key_130 (by decide) ?_
                        refine lv_iload_n hx hb dX12_key_14 rfl (lv_at hl 0 rfl) ?_
                        refine va_ldcS hx hb hown hZ dX12_key_15 ?_
                        refine vp_callSi (va_Run.run (va_runV (As := []) (rest := [.int 18]) ⟨hx, hb, hml, hown, noTs⟩ (s_J0_length l adK adV 3 (by decide)) ⟨cbE 0 (wd_488 hE) (wd_129 hE) (wd_1527 hE) rfl rfl (by decide +kernel) ⟨Nat.le_of_ble_eq_true rfl, Nat.le_of_ble_eq_true rfl⟩, (wd_486 hE), (wd_487 hE)⟩ ⟨PS.blind, vk_recv hX.1 (by decide) hS, ps_pre (av := [.ref (adK 3)]) hX hS hE⟩ rfl rfl hl.1 rfl (lv_room (Nat.le_of_ble_eq_true rfl)) dX12_key_17 ⟨Nat.le_of_ble_eq_true rfl, Nat.le_of_ble_eq_true rfl⟩)) (fun r96 hr96 => ?_)
                        have hr96 : r96 = 18 := hr96
                        subst hr96
                        refine lv_icmp_ge (tgt := 133) hx hb dX12_key_20 (by decide) (fun c97 => ?_) (fun c97 => absurd c97 (by decide))
                        refine lv_iconst (v := -1) hx hb dX12_key_133 (by decide) ?_
                        exact W.iret (v := -1) hx hb hr (fun t ht hW => ⟨-1, rfl, Or.inr (Or.inr (Or.inr (⟨rfl, by first | omega | (have q := (kd_word (tx := tx) (n := sz1) (p := p0) (by omega)).trans ((if_neg (by rw [show eqw tx sz1 wVx p0 = false from EW1]; decide)).trans ((if_neg (by rw [show eqw tx sz1 wEd p0 = false from EW8]; decide)).trans (if_neg (by rw [show eqw tx sz1 wWo p0 = false from EW13]; decide)))); omega)⟩))), ht⟩) (fun _ h => absurd h List.not_mem_nil) dX12_key_134
                      · have c95 := mt (b_eq (rfl : Int32.toInt x1_93 = _) (show Int32.toInt 0 = 0 from rfl)).mpr c95
                        have X2 : x1_93 = 1 := i1_of hL93_1 (by omega)
                        have EW13 : eqw tx sz1 (kW 13) p0 = true := by first | exact eqw_t.mpr ⟨(hL93_2 X2).1.trans rfl, fun q hq => (hL93_2 X2).2 q (by have : (kW 13).length = 17 - 13 := rfl; omega)⟩ | (exfalso; omega)
                        refine lv_iload_n hx hb dX12_key_121 rfl (lv_at hl 1 rfl) ?_
                        exact W.iret (v := 2) hx hb hr (fun t ht hW => ⟨2, rfl, Or.inr (Or.inr (Or.inl ⟨rfl, by exact (kd_word (by omega)).trans ((if_neg (by rw [show eqw tx sz1 wVx p0 = false from EW1]; decide)).trans ((if_neg (by rw [show eqw tx sz1 wEd p0 = false from EW8]; decide)).trans (if_pos EW13)))⟩)), ht⟩) (fun _ h => absurd h List.not_mem_nil) dX12_key_122
                    · have c94 := mt (b_le (show Int32.toInt 4 = 4 from rfl) (nI_toInt (n := i_93) (by omega))).mpr c94
                      refine lv_iload hx hb dX12_key_75 (lv_at hl 4 rfl) ?_
                      refine lv_if_eq (tgt := 116) hx hb dX12_key_77 (by decide) (fun c98 => ?_) (fun c98 => ?_)
                      · have c98 := (b_eq (rfl : Int32.toInt x1_93 = _) (show Int32.toInt 0 = 0 from rfl)).mp c98
                        refine lv_iload hx hb dX12_key_116 (lv_at hl 4 rfl) ?_
                        refine lv_if_eq (tgt := 123) hx hb dX12_key_118 (by decide) (fun c99 => ?_) (fun c99 => ?_)
                        · have c99 := (b_eq (rfl : Int32.toInt x1_93 = _) (show Int32.toInt 0 = 0 from rfl)).mp c99
                          have EW13 : eqw tx sz1 (kW 13) p0 = false := hL93_3 (i0_of (by omega))
                          refine lv_iinc (v := 3) (lv' := [(1, .int 3), (0, .ref (b 0)), (2, .int 13), (3, .int 17), (4, .int x1_93), (5, .int (nI i_93))]) hx hb dX12_key_123 hl (k := 1) rfl (by decide) (by decide) rfl (fun ls hl => ?_)
                          refine lv_iload_n hx hb dX12_key_126 rfl (lv_at hl 3 rfl) ?_
                          refine lv_iconst (v := 1) hx hb dX12_key_127 (by decide) ?_
                          refine lv_iadd hx hb dX12_key_128 ?_
                          refine W.eq (g2 := F0 m 129 ls [.int 18]) rfl ?_
                          refine lv_istore_n (lv' := [(2, .int 18), (1, .int 3), (0, .ref (b 0)), (3, .int 17), (4, .int x1_93), (5, .int (nI i_93))]) hx hb dX12_key_129 rfl hl (by decide) rfl (fun ls hl => ?_)
                          refine lv_goto (tgt := 14) hx hb dX12_key_130 (by decide) ?_
                          refine lv_iload_n hx hb dX12_key_14 rfl (lv_at hl 0 rfl) ?_
                          refine va_ldcS hx hb hown hZ dX12_key_15 ?_
                          refine vp_callSi (va_Run.run (va_runV (As := []) (rest := [.int 18]) ⟨hx, hb, hml, hown, noTs⟩ (s_J0_length l adK adV 3 (by decide)) ⟨cbE 0 (wd_488 hE) (wd_129 hE) (wd_1527 hE) rfl rfl (by decide +kernel) ⟨Nat.le_of_ble_eq_true rfl, Nat.le_of_ble_eq_true rfl⟩, (wd_486 hE), (wd_487 hE)⟩ ⟨PS.blind, vk_recv hX.1 (by decide) hS, ps_pre (av := [.ref (adK 3)]) hX hS hE⟩ rfl rfl hl.1 rfl (lv_room (Nat.le_of_ble_eq_true rfl)) dX12_key_17 ⟨Nat.le_of_ble_eq_true rfl, Nat.le_of_ble_eq_true rfl⟩)) (fun r100 hr100 => ?_)
                          have hr100 : r100 = 18 := hr100
                          subst hr100
                          refine lv_icmp_ge (tgt := 133) hx hb dX12_key_20 (by decide) (fun c101 => ?_) (fun c101 => absurd c101 (by decide))
                          refine lv_iconst (v := -1) hx hb dX12_key_133 (by decide) ?_
                          exact W.iret (v := -1) hx hb hr (fun t ht hW => ⟨-1, rfl, Or.inr (Or.inr (Or.inr (⟨rfl, by first | omega | (have q := (kd_word (tx := tx) (n := sz1) (p := p0) (by omega)).trans ((if_neg (by rw [show eqw tx sz1 wVx p0 = false from EW1]; decide)).trans ((if_neg (by rw [show eqw tx sz1 wEd p0 = false from EW8]; decide)).trans (if_neg (by rw [show eqw tx sz1 wWo p0 = false from EW13]; decide)))); omega)⟩))), ht⟩) (fun _ h => absurd h List.not_mem_nil) dX12_key_134
                        · have c99 := mt (b_eq (rfl : Int32.toInt x1_93 = _) (show Int32.toInt 0 = 0 from rfl)).mpr c99
                          have X2 : x1_93 = 1 := i1_of hL93_1 (by omega)
                          have EW13 : eqw tx sz1 (kW 13) p0 = true := by first | exact eqw_t.mpr ⟨(hL93_2 X2).1.trans rfl, fun q hq => (hL93_2 X2).2 q (by have : (kW 13).length = 17 - 13 := rfl; omega)⟩ | (exfalso; omega)
                          refine lv_iload_n hx hb dX12_key_121 rfl (lv_at hl 1 rfl) ?_
                          exact W.iret (v := 2) hx hb hr (fun t ht hW => ⟨2, rfl, Or.inr (Or.inr (Or.inl ⟨rfl, by exact (kd_word (by omega)).trans ((if_neg (by rw [show eqw tx sz1 wVx p0 = false from EW1]; decide)).trans ((if_neg (by rw [show eqw tx sz1 wEd p0 = false from EW8]; decide)).trans (if_pos EW13)))⟩)), ht⟩) (fun _ h => absurd h List.not_mem_nil) dX12_key_122
                      · have c98 := mt (b_eq (rfl : Int32.toInt x1_93 = _) (show Int32.toInt 0 = 0 from rfl)).mpr c98
                        have X1 : x1_93 = 1 := i1_of hL93_1 (by omega)
                        refine va_ldcS hx hb hown hZ dX12_key_80 ?_
                        refine lv_iload_n hx hb dX12_key_82 rfl (lv_at hl 2 rfl) ?_
                        refine lv_iload hx hb dX12_key_83 (lv_at hl 5 rfl) ?_
                        refine lv_iadd hx hb dX12_key_85 ?_
                        refine W.eq (g2 := F0 m 86 ls [.int (nI (13 + i_93)), .ref (adK 3)]) (congrArg (fun z : Int32 => F0 m 86 ls (.int z :: [.ref (adK 3)])) (nI_add 13 i_93)) ?_
                        refine vp_callSi (va_Run.run (va_runV (As := [.int (nI (13 + i_93))]) (rest := []) ⟨hx, hb, hml, hown, noTs⟩ (s_J0_charAt l adK adV 3 (13 + i_93) (by decide) (by show _ < 18; omega)) ⟨cbE 1 (wd_498 hE) (wd_129 hE) (wd_1528 hE) rfl rfl (by decide +kernel) ⟨Nat.le_of_ble_eq_true rfl, Nat.le_of_ble_eq_true rfl⟩, (wd_496 hE), (wd_497 hE)⟩ ⟨PS.blind, vk_recv hX.1 (by decide) hS, ps_pre (av := [.ref (adK 3), .int (nI (13 + i_93))]) hX hS hE⟩ rfl rfl hl.1 rfl (lv_room (Nat.le_of_ble_eq_true rfl)) dX12_key_86 ⟨Nat.le_of_ble_eq_true rfl, Nat.le_of_ble_eq_true rfl⟩)) (fun r102 hr102 => ?_)
                        refine lv_aload_n hx hb dX12_key_89 rfl (lv_at hl 0 rfl) ?_
                        refine lv_aload_n hx hb dX12_key_90 rfl (lv_at hl 0 rfl) ?_
                        refine r_get (v := .int (nI p0)) hx hb (ly_X12 hE) hown hK hP rfl 13 (by decide) (wd_1394 hE) (fun _ h9 => h9) (congrArg (fun z : Int32 => some (Value.int z)) te13_2) dX12_key_91 ?_
                        refine lv_iload hx hb dX12_key_94 (lv_at hl 5 rfl) ?_
                        refine lv_iadd hx hb dX12_key_96 ?_
                        refine W.eq (g2 := F0 m 97 ls [.int (nI (p0 + i_93)), .ref (b 0), .int r102]) (congrArg (fun z : Int32 => F0 m 97 ls (.int z :: [.ref (b 0), .int r102])) (nI_add p0 i_93)) ?_
                        refine vp_callSi (va_Run.run (va_runV (As := [.int (nI (p0 + i_93))]) (rest := [.int r102]) ⟨hx, hb, hml, hown, noTs⟩ (r_X12_byteAt l dC dI s.heap.size cs b u tx hAc16 (p0 + i_93) sz1 hF11 (by first | assumption | omega | rfl | (congr 1; omega)) (by first | assumption | omega | rfl | (congr 1; omega))) ⟨cbE 1 (wd_1510 hE) (wd_126 hE) (wd_1507 hE) rfl rfl (by decide +kernel) ⟨Nat.le_of_ble_eq_true rfl, Nat.le_of_ble_eq_true rfl⟩, (wd_1509 hE), (wd_57 hE)⟩ ⟨PR.blind, r_recv hK hP rfl, (r_pre (av := [.ref (b 0), .int (nI (p0 + i_93))]) hK hP hJ hE)⟩ rfl rfl hl.1 rfl (lv_room (Nat.le_of_ble_eq_true rfl)) dX12_key_97 ⟨Nat.le_of_ble_eq_true rfl, Nat.le_of_ble_eq_true rfl⟩)) (fun r103 hr103 => ?_)
                        subst hr103
                        have htf103 := bA_f tx sz1 (p0 + i_93)
                        have HRC := hr102
                        have RCH := ch_13 i_93 (by omega)
                        refine lv_icmp_ne (tgt := 107) hx hb dX12_key_100 (by decide) (fun c104 => ?_) (fun c104 => ?_)
                        · have c104 := mt (b_eq (rfl : Int32.toInt r102 = _) (rfl : Int32.toInt (bA tx sz1 (p0 + i_93)) = _)).mpr c104
                          have NE : bA tx sz1 (p0 + i_93) ≠ (kW 13).getD i_93 0 := by rw [← RCH, ← HRC]; intro e; have := congrArg Int32.toInt e; omega
                          refine lv_iconst (v := 0) hx hb dX12_key_107 (by decide) ?_
                          refine lv_istore (lv' := [(4, .int 0), (0, .ref (b 0)), (1, .int 2), (2, .int 13), (3, .int 17), (5, .int (nI i_93))]) hx hb dX12_key_108 hl (by decide) rfl (fun ls hl => ?_)
                          refine lv_iinc (v := nI (i_93 + 1)) (lv' := [(5, .int (nI (i_93 + 1))), (4, .int 0), (0, .ref (b 0)), (1, .int 2), (2, .int 13), (3, .int 17)]) hx hb dX12_key_110 hl (k := 5) rfl (nI_1 i_93) (by decide) rfl (fun ls hl => ?_)
                          refine lv_goto (tgt := 67) hx hb dX12_key_113 (by decide) ?_
                          exact ih93 _ _ (by omega) ⟨(i_93 + 1), 0, rfl, (by first | assumption | omega | rfl | (congr 1; omega)), (by first | exact Or.inl rfl | exact Or.inr rfl), (by first | (intro _; exact ⟨(hL93_2 X1).1, fun q hq => by rcases Nat.lt_or_ge q i_93 with h | h; (exact (hL93_2 X1).2 q h); (obtain rfl : q = i_93 := by omega); exact EQ⟩) | (intro h; exact absurd h (by decide))), (by first | (intro h; exact absurd h (by decide)) | (intro _; exact eqw_at (w := kW 13) (by have : (kW 13).length = 17 - 13 := rfl; omega) NE)), lv_sub hl [2, 3, 4, 5, 1, 0] rfl⟩
                        · have c104 := (b_eq (rfl : Int32.toInt r102 = _) (rfl : Int32.toInt (bA tx sz1 (p0 + i_93)) = _)).mp c104
                          have EQ : bA tx sz1 (p0 + i_93) = (kW 13).getD i_93 0 := by rw [← RCH, ← HRC]; exact Int32.toInt_inj.mp (by omega)
                          refine lv_iconst (v := 1) hx hb dX12_key_103 (by decide) ?_
                          refine lv_goto (tgt := 108) hx hb dX12_key_104 (by decide) ?_
                          refine lv_istore (lv' := [(4, .int 1), (0, .ref (b 0)), (1, .int 2), (2, .int 13), (3, .int 17), (5, .int (nI i_93))]) hx hb dX12_key_108 hl (by decide) rfl (fun ls hl => ?_)
                          refine lv_iinc (v := nI (i_93 + 1)) (lv' := [(5, .int (nI (i_93 + 1))), (4, .int 1), (0, .ref (b 0)), (1, .int 2), (2, .int 13), (3, .int 17)]) hx hb dX12_key_110 hl (k := 5) rfl (nI_1 i_93) (by decide) rfl (fun ls hl => ?_)
                          refine lv_goto (tgt := 67) hx hb dX12_key_113 (by decide) ?_
                          exact ih93 _ _ (by omega) ⟨(i_93 + 1), 1, rfl, (by first | assumption | omega | rfl | (congr 1; omega)), (by first | exact Or.inl rfl | exact Or.inr rfl), (by first | (intro _; exact ⟨(hL93_2 X1).1, fun q hq => by rcases Nat.lt_or_ge q i_93 with h | h; (exact (hL93_2 X1).2 q h); (obtain rfl : q = i_93 := by omega); exact EQ⟩) | (intro h; exact absurd h (by decide))), (by first | (intro h; exact absurd h (by decide)) | (intro _; exact eqw_at (w := kW 13) (by have : (kW 13).length = 17 - 13 := rfl; omega) NE)), lv_sub hl [2, 3, 4, 5, 1, 0] rfl⟩
                  · have c92 := (b_eq (show Int32.toInt 4 = 4 from rfl) (nI_toInt (n := (tnd tx sz1 p0) - p0) (by omega))).mp c92
                    refine lv_iconst (v := 1) hx hb dX12_key_57 (by decide) ?_
                    refine lv_goto (tgt := 62) hx hb dX12_key_58 (by decide) ?_
                    refine lv_istore (lv' := [(4, .int 1), (3, .int 17), (2, .int 13), (1, .int 2), (0, .ref (b 0)), (5, .int (nI i_38))]) hx hb dX12_key_62 hl (by decide) rfl (fun ls hl => ?_)
                    refine lv_iconst (v := 0) hx hb dX12_key_64 (by decide) ?_
                    refine lv_istore (lv' := [(5, .int 0), (4, .int 1), (3, .int 17), (2, .int 13), (1, .int 2), (0, .ref (b 0))]) hx hb dX12_key_65 hl (by decide) rfl (fun ls hl => ?_)
                    refine r_indP (I := fun n ls => ∃ (i_105 : Nat) (x1_105 : Int32), n = 17 - 13 - i_105 ∧ (i_105 ≤ 17 - 13) ∧ (x1_105 = 0 ∨ x1_105 = 1) ∧ (x1_105 = 1 → tnd tx sz1 p0 - p0 = 17 - 13 ∧ ∀ q, q < i_105 → bA tx sz1 (p0 + q) = (kW 13).getD q 0) ∧ (x1_105 = 0 → eqw tx sz1 (kW 13) p0 = false) ∧ lv_has ls 6 [(0, .ref (b 0)), (1, .int 2), (2, .int 13), (3, .int 17), (4, .int x1_105), (5, .int (nI i_105))]) (fun n ls hI ih105 => ?_) _ _ ⟨0, 1, rfl, (by first | assumption | omega | rfl | (congr 1; omega)), (by first | exact Or.inl rfl | exact Or.inr rfl), (by first | (intro _; exact ⟨by omega, fun q hq => absurd hq (by omega)⟩) | (intro h; exact absurd h (by decide))), (by first | (intro h; exact absurd h (by decide)) | (intro _; exact eqw_len (w := kW 13) (l := 17 - 13) rfl (by omega))), lv_sub hl [5, 4, 3, 2, 1, 0] rfl⟩
                    obtain ⟨i_105, x1_105, hmu105, hL105_0, hL105_1, hL105_2, hL105_3, hl⟩ := hI
                    subst hmu105
                    refine lv_iload hx hb dX12_key_67 (lv_at hl 5 rfl) ?_
                    refine lv_iload_n hx hb dX12_key_69 rfl (lv_at hl 3 rfl) ?_
                    refine lv_iload_n hx hb dX12_key_70 rfl (lv_at hl 2 rfl) ?_
                    refine lv_isub hx hb dX12_key_71 ?_
                    refine W.eq (g2 := F0 m 72 ls [.int 4, .int (nI i_105)]) rfl ?_
                    refine lv_icmp_ge (tgt := 116) hx hb dX12_key_72 (by decide) (fun c106 => ?_) (fun c106 => ?_)
                    · have c106 := (b_le (show Int32.toInt 4 = 4 from rfl) (nI_toInt (n := i_105) (by omega))).mp c106
                      refine lv_iload hx hb dX12_key_116 (lv_at hl 4 rfl) ?_
                      refine lv_if_eq (tgt := 123) hx hb dX12_key_118 (by decide) (fun c107 => ?_) (fun c107 => ?_)
                      · have c107 := (b_eq (rfl : Int32.toInt x1_105 = _) (show Int32.toInt 0 = 0 from rfl)).mp c107
                        have EW13 : eqw tx sz1 (kW 13) p0 = false := hL105_3 (i0_of (by omega))
                        refine lv_iinc (v := 3) (lv' := [(1, .int 3), (0, .ref (b 0)), (2, .int 13), (3, .int 17), (4, .int x1_105), (5, .int (nI i_105))]) hx hb dX12_key_123 hl (k := 1) rfl (by decide) (by decide) rfl (fun ls hl => ?_)
                        refine lv_iload_n hx hb dX12_key_126 rfl (lv_at hl 3 rfl) ?_
                        refine lv_iconst (v := 1) hx hb dX12_key_127 (by decide) ?_
                        refine lv_iadd hx hb dX12_key_128 ?_
                        refine W.eq (g2 := F0 m 129 ls [.int 18]) rfl ?_
                        refine lv_istore_n (lv' := [(2, .int 18), (1, .int 3), (0, .ref (b 0)), (3, .int 17), (4, .int x1_105), (5, .int (nI i_105))]) hx hb dX12_key_129 rfl hl (by decide) rfl (fun ls hl => ?_)
                        refine lv_goto (tgt := 14) hx hb dX12_key_130 (by decide) ?_
                        refine lv_iload_n hx hb dX12_key_14 rfl (lv_at hl 0 rfl) ?_
                        refine va_ldcS hx hb hown hZ dX12_key_15 ?_
                        refine vp_callSi (va_Run.run (va_runV (As := []) (rest := [.int 18]) ⟨hx, hb, hml, hown, noTs⟩ (s_J0_length l adK adV 3 (by decide)) ⟨cbE 0 (wd_488 hE) (wd_129 hE) (wd_1527 hE) rfl rfl (by decide +kernel) ⟨Nat.le_of_ble_eq_true rfl, Nat.le_of_ble_eq_true rfl⟩, (wd_486 hE), (wd_487 hE)⟩ ⟨PS.blind, vk_recv hX.1 (by decide) hS, ps_pre (av := [.ref (adK 3)]) hX hS hE⟩ rfl rfl hl.1 rfl (lv_room (Nat.le_of_ble_eq_true rfl)) dX12_key_17 ⟨Nat.le_of_ble_eq_true rfl, Nat.le_of_ble_eq_true rfl⟩)) (fun r108 hr108 => ?_)
                        have hr108 : r108 = 18 := hr108
                        subst hr108
                        refine lv_icmp_ge (tgt := 133) hx hb dX12_key_20 (by decide) (fun c109 => ?_) (fun c109 => absurd c109 (by decide))
                        refine lv_iconst (v := -1) hx hb dX12_key_133 (by decide) ?_
                        exact W.iret (v := -1) hx hb hr (fun t ht hW => ⟨-1, rfl, Or.inr (Or.inr (Or.inr (⟨rfl, by first | omega | (have q := (kd_word (tx := tx) (n := sz1) (p := p0) (by omega)).trans ((if_neg (by rw [show eqw tx sz1 wVx p0 = false from EW1]; decide)).trans ((if_neg (by rw [show eqw tx sz1 wEd p0 = false from EW8]; decide)).trans (if_neg (by rw [show eqw tx sz1 wWo p0 = false from EW13]; decide)))); omega)⟩))), ht⟩) (fun _ h => absurd h List.not_mem_nil) dX12_key_134
                      · have c107 := mt (b_eq (rfl : Int32.toInt x1_105 = _) (show Int32.toInt 0 = 0 from rfl)).mpr c107
                        have X2 : x1_105 = 1 := i1_of hL105_1 (by omega)
                        have EW13 : eqw tx sz1 (kW 13) p0 = true := by first | exact eqw_t.mpr ⟨(hL105_2 X2).1.trans rfl, fun q hq => (hL105_2 X2).2 q (by have : (kW 13).length = 17 - 13 := rfl; omega)⟩ | (exfalso; omega)
                        refine lv_iload_n hx hb dX12_key_121 rfl (lv_at hl 1 rfl) ?_
                        exact W.iret (v := 2) hx hb hr (fun t ht hW => ⟨2, rfl, Or.inr (Or.inr (Or.inl ⟨rfl, by exact (kd_word (by omega)).trans ((if_neg (by rw [show eqw tx sz1 wVx p0 = false from EW1]; decide)).trans ((if_neg (by rw [show eqw tx sz1 wEd p0 = false from EW8]; decide)).trans (if_pos EW13)))⟩)), ht⟩) (fun _ h => absurd h List.not_mem_nil) dX12_key_122
                    · have c106 := mt (b_le (show Int32.toInt 4 = 4 from rfl) (nI_toInt (n := i_105) (by omega))).mpr c106
                      refine lv_iload hx hb dX12_key_75 (lv_at hl 4 rfl) ?_
                      refine lv_if_eq (tgt := 116) hx hb dX12_key_77 (by decide) (fun c110 => ?_) (fun c110 => ?_)
                      · have c110 := (b_eq (rfl : Int32.toInt x1_105 = _) (show Int32.toInt 0 = 0 from rfl)).mp c110
                        refine lv_iload hx hb dX12_key_116 (lv_at hl 4 rfl) ?_
                        refine lv_if_eq (tgt := 123) hx hb dX12_key_118 (by decide) (fun c111 => ?_) (fun c111 => ?_)
                        · have c111 := (b_eq (rfl : Int32.toInt x1_105 = _) (show Int32.toInt 0 = 0 from rfl)).mp c111
                          have EW13 : eqw tx sz1 (kW 13) p0 = false := hL105_3 (i0_of (by omega))
                          refine lv_iinc (v := 3) (lv' := [(1, .int 3), (0, .ref (b 0)), (2, .int 13), (3, .int 17), (4, .int x1_105), (5, .int (nI i_105))]) hx hb dX12_key_123 hl (k := 1) rfl (by decide) (by decide) rfl (fun ls hl => ?_)
                          refine lv_iload_n hx hb dX12_key_126 rfl (lv_at hl 3 rfl) ?_
                          refine lv_iconst (v := 1) hx hb dX12_key_127 (by decide) ?_
                          refine lv_iadd hx hb dX12_key_128 ?_
                          refine W.eq (g2 := F0 m 129 ls [.int 18]) rfl ?_
                          refine lv_istore_n (lv' := [(2, .int 18), (1, .int 3), (0, .ref (b 0)), (3, .int 17), (4, .int x1_105), (5, .int (nI i_105))]) hx hb dX12_key_129 rfl hl (by decide) rfl (fun ls hl => ?_)
                          refine lv_goto (tgt := 14) hx hb dX12_key_130 (by decide) ?_
                          refine lv_iload_n hx hb dX12_key_14 rfl (lv_at hl 0 rfl) ?_
                          refine va_ldcS hx hb hown hZ dX12_key_15 ?_
                          refine vp_callSi (va_Run.run (va_runV (As := []) (rest := [.int 18]) ⟨hx, hb, hml, hown, noTs⟩ (s_J0_length l adK adV 3 (by decide)) ⟨cbE 0 (wd_488 hE) (wd_129 hE) (wd_1527 hE) rfl rfl (by decide +kernel) ⟨Nat.le_of_ble_eq_true rfl, Nat.le_of_ble_eq_true rfl⟩, (wd_486 hE), (wd_487 hE)⟩ ⟨PS.blind, vk_recv hX.1 (by decide) hS, ps_pre (av := [.ref (adK 3)]) hX hS hE⟩ rfl rfl hl.1 rfl (lv_room (Nat.le_of_ble_eq_true rfl)) dX12_key_17 ⟨Nat.le_of_ble_eq_true rfl, Nat.le_of_ble_eq_true rfl⟩)) (fun r112 hr112 => ?_)
                          have hr112 : r112 = 18 := hr112
                          subst hr112
                          refine lv_icmp_ge (tgt := 133) hx hb dX12_key_20 (by decide) (fun c113 => ?_) (fun c113 => absurd c113 (by decide))
                          refine lv_iconst (v := -1) hx hb dX12_key_133 (by decide) ?_
                          exact W.iret (v := -1) hx hb hr (fun t ht hW => ⟨-1, rfl, Or.inr (Or.inr (Or.inr (⟨rfl, by first | omega | (have q := (kd_word (tx := tx) (n := sz1) (p := p0) (by omega)).trans ((if_neg (by rw [show eqw tx sz1 wVx p0 = false from EW1]; decide)).trans ((if_neg (by rw [show eqw tx sz1 wEd p0 = false from EW8]; decide)).trans (if_neg (by rw [show eqw tx sz1 wWo p0 = false from EW13]; decide)))); omega)⟩))), ht⟩) (fun _ h => absurd h List.not_mem_nil) dX12_key_134
                        · have c111 := mt (b_eq (rfl : Int32.toInt x1_105 = _) (show Int32.toInt 0 = 0 from rfl)).mpr c111
                          have X2 : x1_105 = 1 := i1_of hL105_1 (by omega)
                          have EW13 : eqw tx sz1 (kW 13) p0 = true := by first | exact eqw_t.mpr ⟨(hL105_2 X2).1.trans rfl, fun q hq => (hL105_2 X2).2 q (by have : (kW 13).length = 17 - 13 := rfl; omega)⟩ | (exfalso; omega)
                          refine lv_iload_n hx hb dX12_key_121 rfl (lv_at hl 1 rfl) ?_
                          exact W.iret (v := 2) hx hb hr (fun t ht hW => ⟨2, rfl, Or.inr (Or.inr (Or.inl ⟨rfl, by exact (kd_word (by omega)).trans ((if_neg (by rw [show eqw tx sz1 wVx p0 = false from EW1]; decide)).trans ((if_neg (by rw [show eqw tx sz1 wEd p0 = false from EW8]; decide)).trans (if_pos EW13)))⟩)), ht⟩) (fun _ h => absurd h List.not_mem_nil) dX12_key_122
                      · have c110 := mt (b_eq (rfl : Int32.toInt x1_105 = _) (show Int32.toInt 0 = 0 from rfl)).mpr c110
                        have X1 : x1_105 = 1 := i1_of hL105_1 (by omega)
                        refine va_ldcS hx hb hown hZ dX12_key_80 ?_
                        refine lv_iload_n hx hb dX12_key_82 rfl (lv_at hl 2 rfl) ?_
                        refine lv_iload hx hb dX12_key_83 (lv_at hl 5 rfl) ?_
                        refine lv_iadd hx hb dX12_key_85 ?_
                        refine W.eq (g2 := F0 m 86 ls [.int (nI (13 + i_105)), .ref (adK 3)]) (congrArg (fun z : Int32 => F0 m 86 ls (.int z :: [.ref (adK 3)])) (nI_add 13 i_105)) ?_
                        refine vp_callSi (va_Run.run (va_runV (As := [.int (nI (13 + i_105))]) (rest := []) ⟨hx, hb, hml, hown, noTs⟩ (s_J0_charAt l adK adV 3 (13 + i_105) (by decide) (by show _ < 18; omega)) ⟨cbE 1 (wd_498 hE) (wd_129 hE) (wd_1528 hE) rfl rfl (by decide +kernel) ⟨Nat.le_of_ble_eq_true rfl, Nat.le_of_ble_eq_true rfl⟩, (wd_496 hE), (wd_497 hE)⟩ ⟨PS.blind, vk_recv hX.1 (by decide) hS, ps_pre (av := [.ref (adK 3), .int (nI (13 + i_105))]) hX hS hE⟩ rfl rfl hl.1 rfl (lv_room (Nat.le_of_ble_eq_true rfl)) dX12_key_86 ⟨Nat.le_of_ble_eq_true rfl, Nat.le_of_ble_eq_true rfl⟩)) (fun r114 hr114 => ?_)
                        refine lv_aload_n hx hb dX12_key_89 rfl (lv_at hl 0 rfl) ?_
                        refine lv_aload_n hx hb dX12_key_90 rfl (lv_at hl 0 rfl) ?_
                        refine r_get (v := .int (nI p0)) hx hb (ly_X12 hE) hown hK hP rfl 13 (by decide) (wd_1394 hE) (fun _ h9 => h9) (congrArg (fun z : Int32 => some (Value.int z)) te13_2) dX12_key_91 ?_
                        refine lv_iload hx hb dX12_key_94 (lv_at hl 5 rfl) ?_
                        refine lv_iadd hx hb dX12_key_96 ?_
                        refine W.eq (g2 := F0 m 97 ls [.int (nI (p0 + i_105)), .ref (b 0), .int r114]) (congrArg (fun z : Int32 => F0 m 97 ls (.int z :: [.ref (b 0), .int r114])) (nI_add p0 i_105)) ?_
                        refine vp_callSi (va_Run.run (va_runV (As := [.int (nI (p0 + i_105))]) (rest := [.int r114]) ⟨hx, hb, hml, hown, noTs⟩ (r_X12_byteAt l dC dI s.heap.size cs b u tx hAc16 (p0 + i_105) sz1 hF11 (by first | assumption | omega | rfl | (congr 1; omega)) (by first | assumption | omega | rfl | (congr 1; omega))) ⟨cbE 1 (wd_1510 hE) (wd_126 hE) (wd_1507 hE) rfl rfl (by decide +kernel) ⟨Nat.le_of_ble_eq_true rfl, Nat.le_of_ble_eq_true rfl⟩, (wd_1509 hE), (wd_57 hE)⟩ ⟨PR.blind, r_recv hK hP rfl, (r_pre (av := [.ref (b 0), .int (nI (p0 + i_105))]) hK hP hJ hE)⟩ rfl rfl hl.1 rfl (lv_room (Nat.le_of_ble_eq_true rfl)) dX12_key_97 ⟨Nat.le_of_ble_eq_true rfl, Nat.le_of_ble_eq_true rfl⟩)) (fun r115 hr115 => ?_)
                        subst hr115
                        have htf115 := bA_f tx sz1 (p0 + i_105)
                        have HRC := hr114
                        have RCH := ch_13 i_105 (by omega)
                        refine lv_icmp_ne (tgt := 107) hx hb dX12_key_100 (by decide) (fun c116 => ?_) (fun c116 => ?_)
                        · have c116 := mt (b_eq (rfl : Int32.toInt r114 = _) (rfl : Int32.toInt (bA tx sz1 (p0 + i_105)) = _)).mpr c116
                          have NE : bA tx sz1 (p0 + i_105) ≠ (kW 13).getD i_105 0 := by rw [← RCH, ← HRC]; intro e; have := congrArg Int32.toInt e; omega
                          refine lv_iconst (v := 0) hx hb dX12_key_107 (by decide) ?_
                          refine lv_istore (lv' := [(4, .int 0), (0, .ref (b 0)), (1, .int 2), (2, .int 13), (3, .int 17), (5, .int (nI i_105))]) hx hb dX12_key_108 hl (by decide) rfl (fun ls hl => ?_)
                          refine lv_iinc (v := nI (i_105 + 1)) (lv' := [(5, .int (nI (i_105 + 1))), (4, .int 0), (0, .ref (b 0)), (1, .int 2), (2, .int 13), (3, .int 17)]) hx hb dX12_key_110 hl (k := 5) rfl (nI_1 i_105) (by decide) rfl (fun ls hl => ?_)
                          refine lv_goto (tgt := 67) hx hb dX12_key_113 (by decide) ?_
                          exact ih105 _ _ (by omega) ⟨(i_105 + 1), 0, rfl, (by first | assumption | omega | rfl | (congr 1; omega)), (by first | exact Or.inl rfl | exact Or.inr rfl), (by first | (intro _; exact ⟨(hL105_2 X1).1, fun q hq => by rcases Nat.lt_or_ge q i_105 with h | h; (exact (hL105_2 X1).2 q h); (obtain rfl : q = i_105 := by omega); exact EQ⟩) | (intro h; exact absurd h (by decide))), (by first | (intro h; exact absurd h (by decide)) | (intro _; exact eqw_at (w := kW 13) (by have : (kW 13).length = 17 - 13 := rfl; omega) NE)), lv_sub hl [2, 3, 4, 5, 1, 0] rfl⟩
                        · have c116 := (b_eq (rfl : Int32.toInt r114 = _) (rfl : Int32.toInt (bA tx sz1 (p0 + i_105)) = _)).mp c116
                          have EQ : bA tx sz1 (p0 + i_105) = (kW 13).getD i_105 0 := by rw [← RCH, ← HRC]; exact Int32.toInt_inj.mp (by omega)
                          refine lv_iconst (v := 1) hx hb dX12_key_103 (by decide) ?_
                          refine lv_goto (tgt := 108) hx hb dX12_key_104 (by decide) ?_
                          refine lv_istore (lv' := [(4, .int 1), (0, .ref (b 0)), (1, .int 2), (2, .int 13), (3, .int 17), (5, .int (nI i_105))]) hx hb dX12_key_108 hl (by decide) rfl (fun ls hl => ?_)
                          refine lv_iinc (v := nI (i_105 + 1)) (lv' := [(5, .int (nI (i_105 + 1))), (4, .int 1), (0, .ref (b 0)), (1, .int 2), (2, .int 13), (3, .int 17)]) hx hb dX12_key_110 hl (k := 5) rfl (nI_1 i_105) (by decide) rfl (fun ls hl => ?_)
                          refine lv_goto (tgt := 67) hx hb dX12_key_113 (by decide) ?_
                          exact ih105 _ _ (by omega) ⟨(i_105 + 1), 1, rfl, (by first | assumption | omega | rfl | (congr 1; omega)), (by first | exact Or.inl rfl | exact Or.inr rfl), (by first | (intro _; exact ⟨(hL105_2 X1).1, fun q hq => by rcases Nat.lt_or_ge q i_105 with h | h; (exact (hL105_2 X1).2 q h); (obtain rfl : q = i_105 := by omega); exact EQ⟩) | (intro h; exact absurd h (by decide))), (by first | (intro h; exact absurd h (by decide)) | (intro _; exact eqw_at (w := kW 13) (by have : (kW 13).length = 17 - 13 := rfl; omega) NE)), lv_sub hl [2, 3, 4, 5, 1, 0] rfl⟩
                · have c79 := mt (b_eq (rfl : Int32.toInt x1_38 = _) (show Int32.toInt 0 = 0 from rfl)).mpr c79
                  have X2 : x1_38 = 1 := i1_of hL38_1 (by omega)
                  have EW8 : eqw tx sz1 (kW 8) p0 = true := by first | exact eqw_t.mpr ⟨(hL38_2 X2).1.trans rfl, fun q hq => (hL38_2 X2).2 q (by have : (kW 8).length = 12 - 8 := rfl; omega)⟩ | (exfalso; omega)
                  refine lv_iload_n hx hb dX12_key_121 rfl (lv_at hl 1 rfl) ?_
                  exact W.iret (v := 1) hx hb hr (fun t ht hW => ⟨1, rfl, Or.inr (Or.inl ⟨rfl, by exact (kd_word (by omega)).trans ((if_neg (by rw [show eqw tx sz1 wVx p0 = false from EW1]; decide)).trans (if_pos EW8))⟩), ht⟩) (fun _ h => absurd h List.not_mem_nil) dX12_key_122
              · have c78 := mt (b_eq (rfl : Int32.toInt x1_38 = _) (show Int32.toInt 0 = 0 from rfl)).mpr c78
                have X1 : x1_38 = 1 := i1_of hL38_1 (by omega)
                refine va_ldcS hx hb hown hZ dX12_key_80 ?_
                refine lv_iload_n hx hb dX12_key_82 rfl (lv_at hl 2 rfl) ?_
                refine lv_iload hx hb dX12_key_83 (lv_at hl 5 rfl) ?_
                refine lv_iadd hx hb dX12_key_85 ?_
                refine W.eq (g2 := F0 m 86 ls [.int (nI (8 + i_38)), .ref (adK 3)]) (congrArg (fun z : Int32 => F0 m 86 ls (.int z :: [.ref (adK 3)])) (nI_add 8 i_38)) ?_
                refine vp_callSi (va_Run.run (va_runV (As := [.int (nI (8 + i_38))]) (rest := []) ⟨hx, hb, hml, hown, noTs⟩ (s_J0_charAt l adK adV 3 (8 + i_38) (by decide) (by show _ < 18; omega)) ⟨cbE 1 (wd_498 hE) (wd_129 hE) (wd_1528 hE) rfl rfl (by decide +kernel) ⟨Nat.le_of_ble_eq_true rfl, Nat.le_of_ble_eq_true rfl⟩, (wd_496 hE), (wd_497 hE)⟩ ⟨PS.blind, vk_recv hX.1 (by decide) hS, ps_pre (av := [.ref (adK 3), .int (nI (8 + i_38))]) hX hS hE⟩ rfl rfl hl.1 rfl (lv_room (Nat.le_of_ble_eq_true rfl)) dX12_key_86 ⟨Nat.le_of_ble_eq_true rfl, Nat.le_of_ble_eq_true rfl⟩)) (fun r117 hr117 => ?_)
                refine lv_aload_n hx hb dX12_key_89 rfl (lv_at hl 0 rfl) ?_
                refine lv_aload_n hx hb dX12_key_90 rfl (lv_at hl 0 rfl) ?_
                refine r_get (v := .int (nI p0)) hx hb (ly_X12 hE) hown hK hP rfl 13 (by decide) (wd_1394 hE) (fun _ h9 => h9) (congrArg (fun z : Int32 => some (Value.int z)) te13_2) dX12_key_91 ?_
                refine lv_iload hx hb dX12_key_94 (lv_at hl 5 rfl) ?_
                refine lv_iadd hx hb dX12_key_96 ?_
                refine W.eq (g2 := F0 m 97 ls [.int (nI (p0 + i_38)), .ref (b 0), .int r117]) (congrArg (fun z : Int32 => F0 m 97 ls (.int z :: [.ref (b 0), .int r117])) (nI_add p0 i_38)) ?_
                refine vp_callSi (va_Run.run (va_runV (As := [.int (nI (p0 + i_38))]) (rest := [.int r117]) ⟨hx, hb, hml, hown, noTs⟩ (r_X12_byteAt l dC dI s.heap.size cs b u tx hAc16 (p0 + i_38) sz1 hF11 (by first | assumption | omega | rfl | (congr 1; omega)) (by first | assumption | omega | rfl | (congr 1; omega))) ⟨cbE 1 (wd_1510 hE) (wd_126 hE) (wd_1507 hE) rfl rfl (by decide +kernel) ⟨Nat.le_of_ble_eq_true rfl, Nat.le_of_ble_eq_true rfl⟩, (wd_1509 hE), (wd_57 hE)⟩ ⟨PR.blind, r_recv hK hP rfl, (r_pre (av := [.ref (b 0), .int (nI (p0 + i_38))]) hK hP hJ hE)⟩ rfl rfl hl.1 rfl (lv_room (Nat.le_of_ble_eq_true rfl)) dX12_key_97 ⟨Nat.le_of_ble_eq_true rfl, Nat.le_of_ble_eq_true rfl⟩)) (fun r118 hr118 => ?_)
                subst hr118
                have htf118 := bA_f tx sz1 (p0 + i_38)
                have HRC := hr117
                have RCH := ch_8 i_38 (by omega)
                refine lv_icmp_ne (tgt := 107) hx hb dX12_key_100 (by decide) (fun c119 => ?_) (fun c119 => ?_)
                · have c119 := mt (b_eq (rfl : Int32.toInt r117 = _) (rfl : Int32.toInt (bA tx sz1 (p0 + i_38)) = _)).mpr c119
                  have NE : bA tx sz1 (p0 + i_38) ≠ (kW 8).getD i_38 0 := by rw [← RCH, ← HRC]; intro e; have := congrArg Int32.toInt e; omega
                  refine lv_iconst (v := 0) hx hb dX12_key_107 (by decide) ?_
                  refine lv_istore (lv' := [(4, .int 0), (0, .ref (b 0)), (1, .int 1), (2, .int 8), (3, .int 12), (5, .int (nI i_38))]) hx hb dX12_key_108 hl (by decide) rfl (fun ls hl => ?_)
                  refine lv_iinc (v := nI (i_38 + 1)) (lv' := [(5, .int (nI (i_38 + 1))), (4, .int 0), (0, .ref (b 0)), (1, .int 1), (2, .int 8), (3, .int 12)]) hx hb dX12_key_110 hl (k := 5) rfl (nI_1 i_38) (by decide) rfl (fun ls hl => ?_)
                  refine lv_goto (tgt := 67) hx hb dX12_key_113 (by decide) ?_
                  exact ih38 _ _ (by omega) ⟨(i_38 + 1), 0, rfl, (by first | assumption | omega | rfl | (congr 1; omega)), (by first | exact Or.inl rfl | exact Or.inr rfl), (by first | (intro _; exact ⟨(hL38_2 X1).1, fun q hq => by rcases Nat.lt_or_ge q i_38 with h | h; (exact (hL38_2 X1).2 q h); (obtain rfl : q = i_38 := by omega); exact EQ⟩) | (intro h; exact absurd h (by decide))), (by first | (intro h; exact absurd h (by decide)) | (intro _; exact eqw_at (w := kW 8) (by have : (kW 8).length = 12 - 8 := rfl; omega) NE)), lv_sub hl [2, 3, 4, 5, 1, 0] rfl⟩
                · have c119 := (b_eq (rfl : Int32.toInt r117 = _) (rfl : Int32.toInt (bA tx sz1 (p0 + i_38)) = _)).mp c119
                  have EQ : bA tx sz1 (p0 + i_38) = (kW 8).getD i_38 0 := by rw [← RCH, ← HRC]; exact Int32.toInt_inj.mp (by omega)
                  refine lv_iconst (v := 1) hx hb dX12_key_103 (by decide) ?_
                  refine lv_goto (tgt := 108) hx hb dX12_key_104 (by decide) ?_
                  refine lv_istore (lv' := [(4, .int 1), (0, .ref (b 0)), (1, .int 1), (2, .int 8), (3, .int 12), (5, .int (nI i_38))]) hx hb dX12_key_108 hl (by decide) rfl (fun ls hl => ?_)
                  refine lv_iinc (v := nI (i_38 + 1)) (lv' := [(5, .int (nI (i_38 + 1))), (4, .int 1), (0, .ref (b 0)), (1, .int 1), (2, .int 8), (3, .int 12)]) hx hb dX12_key_110 hl (k := 5) rfl (nI_1 i_38) (by decide) rfl (fun ls hl => ?_)
                  refine lv_goto (tgt := 67) hx hb dX12_key_113 (by decide) ?_
                  exact ih38 _ _ (by omega) ⟨(i_38 + 1), 1, rfl, (by first | assumption | omega | rfl | (congr 1; omega)), (by first | exact Or.inl rfl | exact Or.inr rfl), (by first | (intro _; exact ⟨(hL38_2 X1).1, fun q hq => by rcases Nat.lt_or_ge q i_38 with h | h; (exact (hL38_2 X1).2 q h); (obtain rfl : q = i_38 := by omega); exact EQ⟩) | (intro h; exact absurd h (by decide))), (by first | (intro h; exact absurd h (by decide)) | (intro _; exact eqw_at (w := kW 8) (by have : (kW 8).length = 12 - 8 := rfl; omega) NE)), lv_sub hl [2, 3, 4, 5, 1, 0] rfl⟩
          · have c37 := (b_eq (show Int32.toInt 4 = 4 from rfl) (nI_toInt (n := (tnd tx sz1 p0) - p0) (by omega))).mp c37
            refine lv_iconst (v := 1) hx hb dX12_key_57 (by decide) ?_
            refine lv_goto (tgt := 62) hx hb dX12_key_58 (by decide) ?_
            refine lv_istore (lv' := [(4, .int 1), (3, .int 12), (2, .int 8), (1, .int 1), (0, .ref (b 0)), (5, .int (nI i_22))]) hx hb dX12_key_62 hl (by decide) rfl (fun ls hl => ?_)
            refine lv_iconst (v := 0) hx hb dX12_key_64 (by decide) ?_
            refine lv_istore (lv' := [(5, .int 0), (4, .int 1), (3, .int 12), (2, .int 8), (1, .int 1), (0, .ref (b 0))]) hx hb dX12_key_65 hl (by decide) rfl (fun ls hl => ?_)
            refine r_indP (I := fun n ls => ∃ (i_120 : Nat) (x1_120 : Int32), n = 12 - 8 - i_120 ∧ (i_120 ≤ 12 - 8) ∧ (x1_120 = 0 ∨ x1_120 = 1) ∧ (x1_120 = 1 → tnd tx sz1 p0 - p0 = 12 - 8 ∧ ∀ q, q < i_120 → bA tx sz1 (p0 + q) = (kW 8).getD q 0) ∧ (x1_120 = 0 → eqw tx sz1 (kW 8) p0 = false) ∧ lv_has ls 6 [(0, .ref (b 0)), (1, .int 1), (2, .int 8), (3, .int 12), (4, .int x1_120), (5, .int (nI i_120))]) (fun n ls hI ih120 => ?_) _ _ ⟨0, 1, rfl, (by first | assumption | omega | rfl | (congr 1; omega)), (by first | exact Or.inl rfl | exact Or.inr rfl), (by first | (intro _; exact ⟨by omega, fun q hq => absurd hq (by omega)⟩) | (intro h; exact absurd h (by decide))), (by first | (intro h; exact absurd h (by decide)) | (intro _; exact eqw_len (w := kW 8) (l := 12 - 8) rfl (by omega))), lv_sub hl [5, 4, 3, 2, 1, 0] rfl⟩
            obtain ⟨i_120, x1_120, hmu120, hL120_0, hL120_1, hL120_2, hL120_3, hl⟩ := hI
            subst hmu120
            refine lv_iload hx hb dX12_key_67 (lv_at hl 5 rfl) ?_
            refine lv_iload_n hx hb dX12_key_69 rfl (lv_at hl 3 rfl) ?_
            refine lv_iload_n hx hb dX12_key_70 rfl (lv_at hl 2 rfl) ?_
            refine lv_isub hx hb dX12_key_71 ?_
            refine W.eq (g2 := F0 m 72 ls [.int 4, .int (nI i_120)]) rfl ?_
            refine lv_icmp_ge (tgt := 116) hx hb dX12_key_72 (by decide) (fun c121 => ?_) (fun c121 => ?_)
            · have c121 := (b_le (show Int32.toInt 4 = 4 from rfl) (nI_toInt (n := i_120) (by omega))).mp c121
              refine lv_iload hx hb dX12_key_116 (lv_at hl 4 rfl) ?_
              refine lv_if_eq (tgt := 123) hx hb dX12_key_118 (by decide) (fun c122 => ?_) (fun c122 => ?_)
              · have c122 := (b_eq (rfl : Int32.toInt x1_120 = _) (show Int32.toInt 0 = 0 from rfl)).mp c122
                have EW8 : eqw tx sz1 (kW 8) p0 = false := hL120_3 (i0_of (by omega))
                refine lv_iinc (v := 2) (lv' := [(1, .int 2), (0, .ref (b 0)), (2, .int 8), (3, .int 12), (4, .int x1_120), (5, .int (nI i_120))]) hx hb dX12_key_123 hl (k := 1) rfl (by decide) (by decide) rfl (fun ls hl => ?_)
                refine lv_iload_n hx hb dX12_key_126 rfl (lv_at hl 3 rfl) ?_
                refine lv_iconst (v := 1) hx hb dX12_key_127 (by decide) ?_
                refine lv_iadd hx hb dX12_key_128 ?_
                refine W.eq (g2 := F0 m 129 ls [.int 13]) rfl ?_
                refine lv_istore_n (lv' := [(2, .int 13), (1, .int 2), (0, .ref (b 0)), (3, .int 12), (4, .int x1_120), (5, .int (nI i_120))]) hx hb dX12_key_129 rfl hl (by decide) rfl (fun ls hl => ?_)
                refine lv_goto (tgt := 14) hx hb dX12_key_130 (by decide) ?_
                refine lv_iload_n hx hb dX12_key_14 rfl (lv_at hl 0 rfl) ?_
                refine va_ldcS hx hb hown hZ dX12_key_15 ?_
                refine vp_callSi (va_Run.run (va_runV (As := []) (rest := [.int 13]) ⟨hx, hb, hml, hown, noTs⟩ (s_J0_length l adK adV 3 (by decide)) ⟨cbE 0 (wd_488 hE) (wd_129 hE) (wd_1527 hE) rfl rfl (by decide +kernel) ⟨Nat.le_of_ble_eq_true rfl, Nat.le_of_ble_eq_true rfl⟩, (wd_486 hE), (wd_487 hE)⟩ ⟨PS.blind, vk_recv hX.1 (by decide) hS, ps_pre (av := [.ref (adK 3)]) hX hS hE⟩ rfl rfl hl.1 rfl (lv_room (Nat.le_of_ble_eq_true rfl)) dX12_key_17 ⟨Nat.le_of_ble_eq_true rfl, Nat.le_of_ble_eq_true rfl⟩)) (fun r123 hr123 => ?_)
                have hr123 : r123 = 18 := hr123
                subst hr123
                refine lv_icmp_ge (tgt := 133) hx hb dX12_key_20 (by decide) (fun c124 => absurd c124 (by decide)) (fun c124 => ?_)
                refine lv_iload_n hx hb dX12_key_23 rfl (lv_at hl 0 rfl) ?_
                refine lv_istore_n (lv' := [(3, .int 13), (2, .int 13), (1, .int 2), (0, .ref (b 0)), (4, .int x1_120), (5, .int (nI i_120))]) hx hb dX12_key_24 rfl hl (by decide) rfl (fun ls hl => ?_)
                refine va_ldcS hx hb hown hZ dX12_key_25 ?_
                refine lv_iload_n hx hb dX12_key_27 rfl (lv_at hl 0 rfl) ?_
                refine vp_callSi (va_Run.run (va_runV (As := [.int (nI 13)]) (rest := []) ⟨hx, hb, hml, hown, noTs⟩ (s_J0_charAt l adK adV 3 13 (by decide) (by show _ < 18; omega)) ⟨cbE 1 (wd_498 hE) (wd_129 hE) (wd_1528 hE) rfl rfl (by decide +kernel) ⟨Nat.le_of_ble_eq_true rfl, Nat.le_of_ble_eq_true rfl⟩, (wd_496 hE), (wd_497 hE)⟩ ⟨PS.blind, vk_recv hX.1 (by decide) hS, ps_pre (av := [.ref (adK 3), .int (nI 13)]) hX hS hE⟩ rfl rfl hl.1 rfl (lv_room (Nat.le_of_ble_eq_true rfl)) dX12_key_28 ⟨Nat.le_of_ble_eq_true rfl, Nat.le_of_ble_eq_true rfl⟩)) (fun r125 hr125 => ?_)
                have hr125 : r125 = 119 := hr125.trans (by decide)
                subst hr125
                refine lv_bipush (v := 32) hx hb dX12_key_31 (by decide) ?_
                refine lv_icmp_eq (tgt := 42) hx hb dX12_key_33 (by decide) (fun c126 => absurd c126 (by decide)) (fun c126 => ?_)
                refine lv_iinc (v := 14) (lv' := [(3, .int 14), (2, .int 13), (1, .int 2), (0, .ref (b 0)), (4, .int x1_120), (5, .int (nI i_120))]) hx hb dX12_key_36 hl (k := 0) rfl (by decide) (by decide) rfl (fun ls hl => ?_)
                refine lv_goto (tgt := 25) hx hb dX12_key_39 (by decide) ?_
                refine va_ldcS hx hb hown hZ dX12_key_25 ?_
                refine lv_iload_n hx hb dX12_key_27 rfl (lv_at hl 0 rfl) ?_
                refine vp_callSi (va_Run.run (va_runV (As := [.int (nI 14)]) (rest := []) ⟨hx, hb, hml, hown, noTs⟩ (s_J0_charAt l adK adV 3 14 (by decide) (by show _ < 18; omega)) ⟨cbE 1 (wd_498 hE) (wd_129 hE) (wd_1528 hE) rfl rfl (by decide +kernel) ⟨Nat.le_of_ble_eq_true rfl, Nat.le_of_ble_eq_true rfl⟩, (wd_496 hE), (wd_497 hE)⟩ ⟨PS.blind, vk_recv hX.1 (by decide) hS, ps_pre (av := [.ref (adK 3), .int (nI 14)]) hX hS hE⟩ rfl rfl hl.1 rfl (lv_room (Nat.le_of_ble_eq_true rfl)) dX12_key_28 ⟨Nat.le_of_ble_eq_true rfl, Nat.le_of_ble_eq_true rfl⟩)) (fun r127 hr127 => ?_)
                have hr127 : r127 = 111 := hr127.trans (by decide)
                subst hr127
                refine lv_bipush (v := 32) hx hb dX12_key_31 (by decide) ?_
                refine lv_icmp_eq (tgt := 42) hx hb dX12_key_33 (by decide) (fun c128 => absurd c128 (by decide)) (fun c128 => ?_)
                refine lv_iinc (v := 15) (lv' := [(3, .int 15), (2, .int 13), (1, .int 2), (0, .ref (b 0)), (4, .int x1_120), (5, .int (nI i_120))]) hx hb dX12_key_36 hl (k := 0) rfl (by decide) (by decide) rfl (fun ls hl => ?_)
                refine lv_goto (tgt := 25) hx hb dX12_key_39 (by decide) ?_
                refine va_ldcS hx hb hown hZ dX12_key_25 ?_
                refine lv_iload_n hx hb dX12_key_27 rfl (lv_at hl 0 rfl) ?_
                refine vp_callSi (va_Run.run (va_runV (As := [.int (nI 15)]) (rest := []) ⟨hx, hb, hml, hown, noTs⟩ (s_J0_charAt l adK adV 3 15 (by decide) (by show _ < 18; omega)) ⟨cbE 1 (wd_498 hE) (wd_129 hE) (wd_1528 hE) rfl rfl (by decide +kernel) ⟨Nat.le_of_ble_eq_true rfl, Nat.le_of_ble_eq_true rfl⟩, (wd_496 hE), (wd_497 hE)⟩ ⟨PS.blind, vk_recv hX.1 (by decide) hS, ps_pre (av := [.ref (adK 3), .int (nI 15)]) hX hS hE⟩ rfl rfl hl.1 rfl (lv_room (Nat.le_of_ble_eq_true rfl)) dX12_key_28 ⟨Nat.le_of_ble_eq_true rfl, Nat.le_of_ble_eq_true rfl⟩)) (fun r129 hr129 => ?_)
                have hr129 : r129 = 114 := hr129.trans (by decide)
                subst hr129
                refine lv_bipush (v := 32) hx hb dX12_key_31 (by decide) ?_
                refine lv_icmp_eq (tgt := 42) hx hb dX12_key_33 (by decide) (fun c130 => absurd c130 (by decide)) (fun c130 => ?_)
                refine lv_iinc (v := 16) (lv' := [(3, .int 16), (2, .int 13), (1, .int 2), (0, .ref (b 0)), (4, .int x1_120), (5, .int (nI i_120))]) hx hb dX12_key_36 hl (k := 0) rfl (by decide) (by decide) rfl (fun ls hl => ?_)
                refine lv_goto (tgt := 25) hx hb dX12_key_39 (by decide) ?_
                refine va_ldcS hx hb hown hZ dX12_key_25 ?_
                refine lv_iload_n hx hb dX12_key_27 rfl (lv_at hl 0 rfl) ?_
                refine vp_callSi (va_Run.run (va_runV (As := [.int (nI 16)]) (rest := []) ⟨hx, hb, hml, hown, noTs⟩ (s_J0_charAt l adK adV 3 16 (by decide) (by show _ < 18; omega)) ⟨cbE 1 (wd_498 hE) (wd_129 hE) (wd_1528 hE) rfl rfl (by decide +kernel) ⟨Nat.le_of_ble_eq_true rfl, Nat.le_of_ble_eq_true rfl⟩, (wd_496 hE), (wd_497 hE)⟩ ⟨PS.blind, vk_recv hX.1 (by decide) hS, ps_pre (av := [.ref (adK 3), .int (nI 16)]) hX hS hE⟩ rfl rfl hl.1 rfl (lv_room (Nat.le_of_ble_eq_true rfl)) dX12_key_28 ⟨Nat.le_of_ble_eq_true rfl, Nat.le_of_ble_eq_true rfl⟩)) (fun r131 hr131 => ?_)
                have hr131 : r131 = 100 := hr131.trans (by decide)
                subst hr131
                refine lv_bipush (v := 32) hx hb dX12_key_31 (by decide) ?_
                refine lv_icmp_eq (tgt := 42) hx hb dX12_key_33 (by decide) (fun c132 => absurd c132 (by decide)) (fun c132 => ?_)
                refine lv_iinc (v := 17) (lv' := [(3, .int 17), (2, .int 13), (1, .int 2), (0, .ref (b 0)), (4, .int x1_120), (5, .int (nI i_120))]) hx hb dX12_key_36 hl (k := 0) rfl (by decide) (by decide) rfl (fun ls hl => ?_)
                refine lv_goto (tgt := 25) hx hb dX12_key_39 (by decide) ?_
                refine va_ldcS hx hb hown hZ dX12_key_25 ?_
                refine lv_iload_n hx hb dX12_key_27 rfl (lv_at hl 0 rfl) ?_
                refine vp_callSi (va_Run.run (va_runV (As := [.int (nI 17)]) (rest := []) ⟨hx, hb, hml, hown, noTs⟩ (s_J0_charAt l adK adV 3 17 (by decide) (by show _ < 18; omega)) ⟨cbE 1 (wd_498 hE) (wd_129 hE) (wd_1528 hE) rfl rfl (by decide +kernel) ⟨Nat.le_of_ble_eq_true rfl, Nat.le_of_ble_eq_true rfl⟩, (wd_496 hE), (wd_497 hE)⟩ ⟨PS.blind, vk_recv hX.1 (by decide) hS, ps_pre (av := [.ref (adK 3), .int (nI 17)]) hX hS hE⟩ rfl rfl hl.1 rfl (lv_room (Nat.le_of_ble_eq_true rfl)) dX12_key_28 ⟨Nat.le_of_ble_eq_true rfl, Nat.le_of_ble_eq_true rfl⟩)) (fun r133 hr133 => ?_)
                have hr133 : r133 = 32 := hr133.trans (by decide)
                subst hr133
                refine lv_bipush (v := 32) hx hb dX12_key_31 (by decide) ?_
                refine lv_icmp_eq (tgt := 42) hx hb dX12_key_33 (by decide) (fun c134 => ?_) (fun c134 => absurd c134 (by decide))
                refine lv_iload_n hx hb dX12_key_42 rfl (lv_at hl 0 rfl) ?_
                refine lv_iload_n hx hb dX12_key_43 rfl (lv_at hl 1 rfl) ?_
                refine lv_isub hx hb dX12_key_44 ?_
                refine W.eq (g2 := F0 m 45 ls [.int 4]) rfl ?_
                refine lv_aload_n hx hb dX12_key_45 rfl (lv_at hl 3 rfl) ?_
                refine r_get (v := .int (nI (tnd tx sz1 p0))) hx hb (ly_X12 hE) hown hK hP rfl 14 (by decide) (wd_1395 hE) (fun _ h9 => h9) (congrArg (fun z : Int32 => some (Value.int z)) te14_2) dX12_key_46 ?_
                refine lv_aload_n hx hb dX12_key_49 rfl (lv_at hl 3 rfl) ?_
                refine r_get (v := .int (nI p0)) hx hb (ly_X12 hE) hown hK hP rfl 13 (by decide) (wd_1394 hE) (fun _ h9 => h9) (congrArg (fun z : Int32 => some (Value.int z)) te13_2) dX12_key_50 ?_
                refine lv_isub hx hb dX12_key_53 ?_
                refine W.eq (g2 := F0 m 54 ls [.int (nI ((tnd tx sz1 p0) - p0)), .int 4]) (congrArg (fun z : Int32 => F0 m 54 ls (.int z :: [.int 4])) (pk_sub (a := tnd tx sz1 p0) (b := p0) (by omega))) ?_
                refine lv_icmp_ne (tgt := 61) hx hb dX12_key_54 (by decide) (fun c135 => ?_) (fun c135 => ?_)
                · have c135 := mt (b_eq (show Int32.toInt 4 = 4 from rfl) (nI_toInt (n := (tnd tx sz1 p0) - p0) (by omega))).mpr c135
                  refine lv_iconst (v := 0) hx hb dX12_key_61 (by decide) ?_
                  refine lv_istore (lv' := [(4, .int 0), (3, .int 17), (2, .int 13), (1, .int 2), (0, .ref (b 0)), (5, .int (nI i_120))]) hx hb dX12_key_62 hl (by decide) rfl (fun ls hl => ?_)
                  refine lv_iconst (v := 0) hx hb dX12_key_64 (by decide) ?_
                  refine lv_istore (lv' := [(5, .int 0), (4, .int 0), (3, .int 17), (2, .int 13), (1, .int 2), (0, .ref (b 0))]) hx hb dX12_key_65 hl (by decide) rfl (fun ls hl => ?_)
                  refine r_indP (I := fun n ls => ∃ (i_136 : Nat) (x1_136 : Int32), n = 17 - 13 - i_136 ∧ (i_136 ≤ 17 - 13) ∧ (x1_136 = 0 ∨ x1_136 = 1) ∧ (x1_136 = 1 → tnd tx sz1 p0 - p0 = 17 - 13 ∧ ∀ q, q < i_136 → bA tx sz1 (p0 + q) = (kW 13).getD q 0) ∧ (x1_136 = 0 → eqw tx sz1 (kW 13) p0 = false) ∧ lv_has ls 6 [(0, .ref (b 0)), (1, .int 2), (2, .int 13), (3, .int 17), (4, .int x1_136), (5, .int (nI i_136))]) (fun n ls hI ih136 => ?_) _ _ ⟨0, 0, rfl, (by first | assumption | omega | rfl | (congr 1; omega)), (by first | exact Or.inl rfl | exact Or.inr rfl), (by first | (intro _; exact ⟨by omega, fun q hq => absurd hq (by omega)⟩) | (intro h; exact absurd h (by decide))), (by first | (intro h; exact absurd h (by decide)) | (intro _; exact eqw_len (w := kW 13) (l := 17 - 13) rfl (by omega))), lv_sub hl [5, 4, 3, 2, 1, 0] rfl⟩
                  obtain ⟨i_136, x1_136, hmu136, hL136_0, hL136_1, hL136_2, hL136_3, hl⟩ := hI
                  subst hmu136
                  refine lv_iload hx hb dX12_key_67 (lv_at hl 5 rfl) ?_
                  refine lv_iload_n hx hb dX12_key_69 rfl (lv_at hl 3 rfl) ?_
                  refine lv_iload_n hx hb dX12_key_70 rfl (lv_at hl 2 rfl) ?_
                  refine lv_isub hx hb dX12_key_71 ?_
                  refine W.eq (g2 := F0 m 72 ls [.int 4, .int (nI i_136)]) rfl ?_
                  refine lv_icmp_ge (tgt := 116) hx hb dX12_key_72 (by decide) (fun c137 => ?_) (fun c137 => ?_)
                  · have c137 := (b_le (show Int32.toInt 4 = 4 from rfl) (nI_toInt (n := i_136) (by omega))).mp c137
                    refine lv_iload hx hb dX12_key_116 (lv_at hl 4 rfl) ?_
                    refine lv_if_eq (tgt := 123) hx hb dX12_key_118 (by decide) (fun c138 => ?_) (fun c138 => ?_)
                    · have c138 := (b_eq (rfl : Int32.toInt x1_136 = _) (show Int32.toInt 0 = 0 from rfl)).mp c138
                      have EW13 : eqw tx sz1 (kW 13) p0 = false := hL136_3 (i0_of (by omega))
                      refine lv_iinc (v := 3) (lv' := [(1, .int 3), (0, .ref (b 0)), (2, .int 13), (3, .int 17), (4, .int x1_136), (5, .int (nI i_136))]) hx hb dX12_key_123 hl (k := 1) rfl (by decide) (by decide) rfl (fun ls hl => ?_)
                      refine lv_iload_n hx hb dX12_key_126 rfl (lv_at hl 3 rfl) ?_
                      refine lv_iconst (v := 1) hx hb dX12_key_127 (by decide) ?_
                      refine lv_iadd hx hb dX12_key_128 ?_
                      refine W.eq (g2 := F0 m 129 ls [.int 18]) rfl ?_
                      refine lv_istore_n (lv' := [(2, .int 18), (1, .int 3), (0, .ref (b 0)), (3, .int 17), (4, .int x1_136), (5, .int (nI i_136))]) hx hb dX12_key_129 rfl hl (by decide) rfl (fun ls hl => ?_)
                      refine lv_goto (tgt := 14) hx hb dX12_key_130 (by decide) ?_
                      refine lv_iload_n hx hb dX12_key_14 rfl (lv_at hl 0 rfl) ?_
                      refine va_ldcS hx hb hown hZ dX12_key_15 ?_
                      refine vp_callSi (va_Run.run (va_runV (As := []) (rest := [.int 18]) ⟨hx, hb, hml, hown, noTs⟩ (s_J0_length l adK adV 3 (by decide)) ⟨cbE 0 (wd_488 hE) (wd_129 hE) (wd_1527 hE) rfl rfl (by decide +kernel) ⟨Nat.le_of_ble_eq_true rfl, Nat.le_of_ble_eq_true rfl⟩, (wd_486 hE), (wd_487 hE)⟩ ⟨PS.blind, vk_recv hX.1 (by decide) hS, ps_pre (av := [.ref (adK 3)]) hX hS hE⟩ rfl rfl hl.1 rfl (lv_room (Nat.le_of_ble_eq_true rfl)) dX12_key_17 ⟨Nat.le_of_ble_eq_true rfl, Nat.le_of_ble_eq_true rfl⟩)) (fun r139 hr139 => ?_)
                      have hr139 : r139 = 18 := hr139
                      subst hr139
                      refine lv_icmp_ge (tgt := 133) hx hb dX12_key_20 (by decide) (fun c140 => ?_) (fun c140 => absurd c140 (by decide))
                      refine lv_iconst (v := -1) hx hb dX12_key_133 (by decide) ?_
                      exact W.iret (v := -1) hx hb hr (fun t ht hW => ⟨-1, rfl, Or.inr (Or.inr (Or.inr (⟨rfl, by first | omega | (have q := (kd_word (tx := tx) (n := sz1) (p := p0) (by omega)).trans ((if_neg (by rw [show eqw tx sz1 wVx p0 = false from EW1]; decide)).trans ((if_neg (by rw [show eqw tx sz1 wEd p0 = false from EW8]; decide)).trans (if_neg (by rw [show eqw tx sz1 wWo p0 = false from EW13]; decide)))); omega)⟩))), ht⟩) (fun _ h => absurd h List.not_mem_nil) dX12_key_134
                    · have c138 := mt (b_eq (rfl : Int32.toInt x1_136 = _) (show Int32.toInt 0 = 0 from rfl)).mpr c138
                      have X2 : x1_136 = 1 := i1_of hL136_1 (by omega)
                      have EW13 : eqw tx sz1 (kW 13) p0 = true := by first | exact eqw_t.mpr ⟨(hL136_2 X2).1.trans rfl, fun q hq => (hL136_2 X2).2 q (by have : (kW 13).length = 17 - 13 := rfl; omega)⟩ | (exfalso; omega)
                      refine lv_iload_n hx hb dX12_key_121 rfl (lv_at hl 1 rfl) ?_
                      exact W.iret (v := 2) hx hb hr (fun t ht hW => ⟨2, rfl, Or.inr (Or.inr (Or.inl ⟨rfl, by exact (kd_word (by omega)).trans ((if_neg (by rw [show eqw tx sz1 wVx p0 = false from EW1]; decide)).trans ((if_neg (by rw [show eqw tx sz1 wEd p0 = false from EW8]; decide)).trans (if_pos EW13)))⟩)), ht⟩) (fun _ h => absurd h List.not_mem_nil) dX12_key_122
                  · have c137 := mt (b_le (show Int32.toInt 4 = 4 from rfl) (nI_toInt (n := i_136) (by omega))).mpr c137
                    refine lv_iload hx hb dX12_key_75 (lv_at hl 4 rfl) ?_
                    refine lv_if_eq (tgt := 116) hx hb dX12_key_77 (by decide) (fun c141 => ?_) (fun c141 => ?_)
                    · have c141 := (b_eq (rfl : Int32.toInt x1_136 = _) (show Int32.toInt 0 = 0 from rfl)).mp c141
                      refine lv_iload hx hb dX12_key_116 (lv_at hl 4 rfl) ?_
                      refine lv_if_eq (tgt := 123) hx hb dX12_key_118 (by decide) (fun c142 => ?_) (fun c142 => ?_)
                      · have c142 := (b_eq (rfl : Int32.toInt x1_136 = _) (show Int32.toInt 0 = 0 from rfl)).mp c142
                        have EW13 : eqw tx sz1 (kW 13) p0 = false := hL136_3 (i0_of (by omega))
                        refine lv_iinc (v := 3) (lv' := [(1, .int 3), (0, .ref (b 0)), (2, .int 13), (3, .int 17), (4, .int x1_136), (5, .int (nI i_136))]) hx hb dX12_key_123 hl (k := 1) rfl (by decide) (by decide) rfl (fun ls hl => ?_)
                        refine lv_iload_n hx hb dX12_key_126 rfl (lv_at hl 3 rfl) ?_
                        refine lv_iconst (v := 1) hx hb dX12_key_127 (by decide) ?_
                        refine lv_iadd hx hb dX12_key_128 ?_
                        refine W.eq (g2 := F0 m 129 ls [.int 18]) rfl ?_
                        refine lv_istore_n (lv' := [(2, .int 18), (1, .int 3), (0, .ref (b 0)), (3, .int 17), (4, .int x1_136), (5, .int (nI i_136))]) hx hb dX12_key_129 rfl hl (by decide) rfl (fun ls hl => ?_)
                        refine lv_goto (tgt := 14) hx hb dX12_key_130 (by decide) ?_
                        refine lv_iload_n hx hb dX12_key_14 rfl (lv_at hl 0 rfl) ?_
                        refine va_ldcS hx hb hown hZ dX12_key_15 ?_
                        refine vp_callSi (va_Run.run (va_runV (As := []) (rest := [.int 18]) ⟨hx, hb, hml, hown, noTs⟩ (s_J0_length l adK adV 3 (by decide)) ⟨cbE 0 (wd_488 hE) (wd_129 hE) (wd_1527 hE) rfl rfl (by decide +kernel) ⟨Nat.le_of_ble_eq_true rfl, Nat.le_of_ble_eq_true rfl⟩, (wd_486 hE), (wd_487 hE)⟩ ⟨PS.blind, vk_recv hX.1 (by decide) hS, ps_pre (av := [.ref (adK 3)]) hX hS hE⟩ rfl rfl hl.1 rfl (lv_room (Nat.le_of_ble_eq_true rfl)) dX12_key_17 ⟨Nat.le_of_ble_eq_true rfl, Nat.le_of_ble_eq_true rfl⟩)) (fun r143 hr143 => ?_)
                        have hr143 : r143 = 18 := hr143
                        subst hr143
                        refine lv_icmp_ge (tgt := 133) hx hb dX12_key_20 (by decide) (fun c144 => ?_) (fun c144 => absurd c144 (by decide))
                        refine lv_iconst (v := -1) hx hb dX12_key_133 (by decide) ?_
                        exact W.iret (v := -1) hx hb hr (fun t ht hW => ⟨-1, rfl, Or.inr (Or.inr (Or.inr (⟨rfl, by first | omega | (have q := (kd_word (tx := tx) (n := sz1) (p := p0) (by omega)).trans ((if_neg (by rw [show eqw tx sz1 wVx p0 = false from EW1]; decide)).trans ((if_neg (by rw [show eqw tx sz1 wEd p0 = false from EW8]; decide)).trans (if_neg (by rw [show eqw tx sz1 wWo p0 = false from EW13]; decide)))); omega)⟩))), ht⟩) (fun _ h => absurd h List.not_mem_nil) dX12_key_134
                      · have c142 := mt (b_eq (rfl : Int32.toInt x1_136 = _) (show Int32.toInt 0 = 0 from rfl)).mpr c142
                        have X2 : x1_136 = 1 := i1_of hL136_1 (by omega)
                        have EW13 : eqw tx sz1 (kW 13) p0 = true := by first | exact eqw_t.mpr ⟨(hL136_2 X2).1.trans rfl, fun q hq => (hL136_2 X2).2 q (by have : (kW 13).length = 17 - 13 := rfl; omega)⟩ | (exfalso; omega)
                        refine lv_iload_n hx hb dX12_key_121 rfl (lv_at hl 1 rfl) ?_
                        exact W.iret (v := 2) hx hb hr (fun t ht hW => ⟨2, rfl, Or.inr (Or.inr (Or.inl ⟨rfl, by exact (kd_word (by omega)).trans ((if_neg (by rw [show eqw tx sz1 wVx p0 = false from EW1]; decide)).trans ((if_neg (by rw [show eqw tx sz1 wEd p0 = false from EW8]; decide)).trans (if_pos EW13)))⟩)), ht⟩) (fun _ h => absurd h List.not_mem_nil) dX12_key_122
                    · have c141 := mt (b_eq (rfl : Int32.toInt x1_136 = _) (show Int32.toInt 0 = 0 from rfl)).mpr c141
                      have X1 : x1_136 = 1 := i1_of hL136_1 (by omega)
                      refine va_ldcS hx hb hown hZ dX12_key_80 ?_
                      refine lv_iload_n hx hb dX12_key_82 rfl (lv_at hl 2 rfl) ?_
                      refine lv_iload hx hb dX12_key_83 (lv_at hl 5 rfl) ?_
                      refine lv_iadd hx hb dX12_key_85 ?_
                      refine W.eq (g2 := F0 m 86 ls [.int (nI (13 + i_136)), .ref (adK 3)]) (congrArg (fun z : Int32 => F0 m 86 ls (.int z :: [.ref (adK 3)])) (nI_add 13 i_136)) ?_
                      refine vp_callSi (va_Run.run (va_runV (As := [.int (nI (13 + i_136))]) (rest := []) ⟨hx, hb, hml, hown, noTs⟩ (s_J0_charAt l adK adV 3 (13 + i_136) (by decide) (by show _ < 18; omega)) ⟨cbE 1 (wd_498 hE) (wd_129 hE) (wd_1528 hE) rfl rfl (by decide +kernel) ⟨Nat.le_of_ble_eq_true rfl, Nat.le_of_ble_eq_true rfl⟩, (wd_496 hE), (wd_497 hE)⟩ ⟨PS.blind, vk_recv hX.1 (by decide) hS, ps_pre (av := [.ref (adK 3), .int (nI (13 + i_136))]) hX hS hE⟩ rfl rfl hl.1 rfl (lv_room (Nat.le_of_ble_eq_true rfl)) dX12_key_86 ⟨Nat.le_of_ble_eq_true rfl, Nat.le_of_ble_eq_true rfl⟩)) (fun r145 hr145 => ?_)
                      refine lv_aload_n hx hb dX12_key_89 rfl (lv_at hl 0 rfl) ?_
                      refine lv_aload_n hx hb dX12_key_90 rfl (lv_at hl 0 rfl) ?_
                      refine r_get (v := .int (nI p0)) hx hb (ly_X12 hE) hown hK hP rfl 13 (by decide) (wd_1394 hE) (fun _ h9 => h9) (congrArg (fun z : Int32 => some (Value.int z)) te13_2) dX12_key_91 ?_
                      refine lv_iload hx hb dX12_key_94 (lv_at hl 5 rfl) ?_
                      refine lv_iadd hx hb dX12_key_96 ?_
                      refine W.eq (g2 := F0 m 97 ls [.int (nI (p0 + i_136)), .ref (b 0), .int r145]) (congrArg (fun z : Int32 => F0 m 97 ls (.int z :: [.ref (b 0), .int r145])) (nI_add p0 i_136)) ?_
                      refine vp_callSi (va_Run.run (va_runV (As := [.int (nI (p0 + i_136))]) (rest := [.int r145]) ⟨hx, hb, hml, hown, noTs⟩ (r_X12_byteAt l dC dI s.heap.size cs b u tx hAc16 (p0 + i_136) sz1 hF11 (by first | assumption | omega | rfl | (congr 1; omega)) (by first | assumption | omega | rfl | (congr 1; omega))) ⟨cbE 1 (wd_1510 hE) (wd_126 hE) (wd_1507 hE) rfl rfl (by decide +kernel) ⟨Nat.le_of_ble_eq_true rfl, Nat.le_of_ble_eq_true rfl⟩, (wd_1509 hE), (wd_57 hE)⟩ ⟨PR.blind, r_recv hK hP rfl, (r_pre (av := [.ref (b 0), .int (nI (p0 + i_136))]) hK hP hJ hE)⟩ rfl rfl hl.1 rfl (lv_room (Nat.le_of_ble_eq_true rfl)) dX12_key_97 ⟨Nat.le_of_ble_eq_true rfl, Nat.le_of_ble_eq_true rfl⟩)) (fun r146 hr146 => ?_)
                      subst hr146
                      have htf146 := bA_f tx sz1 (p0 + i_136)
                      have HRC := hr145
                      have RCH := ch_13 i_136 (by omega)
                      refine lv_icmp_ne (tgt := 107) hx hb dX12_key_100 (by decide) (fun c147 => ?_) (fun c147 => ?_)
                      · have c147 := mt (b_eq (rfl : Int32.toInt r145 = _) (rfl : Int32.toInt (bA tx sz1 (p0 + i_136)) = _)).mpr c147
                        have NE : bA tx sz1 (p0 + i_136) ≠ (kW 13).getD i_136 0 := by rw [← RCH, ← HRC]; intro e; have := congrArg Int32.toInt e; omega
                        refine lv_iconst (v := 0) hx hb dX12_key_107 (by decide) ?_
                        refine lv_istore (lv' := [(4, .int 0), (0, .ref (b 0)), (1, .int 2), (2, .int 13), (3, .int 17), (5, .int (nI i_136))]) hx hb dX12_key_108 hl (by decide) rfl (fun ls hl => ?_)
                        refine lv_iinc (v := nI (i_136 + 1)) (lv' := [(5, .int (nI (i_136 + 1))), (4, .int 0), (0, .ref (b 0)), (1, .int 2), (2, .int 13), (3, .int 17)]) hx hb dX12_key_110 hl (k := 5) rfl (nI_1 i_136) (by decide) rfl (fun ls hl => ?_)
                        refine lv_goto (tgt := 67) hx hb dX12_key_113 (by decide) ?_
                        exact ih136 _ _ (by omega) ⟨(i_136 + 1), 0, rfl, (by first | assumption | omega | rfl | (congr 1; omega)), (by first | exact Or.inl rfl | exact Or.inr rfl), (by first | (intro _; exact ⟨(hL136_2 X1).1, fun q hq => by rcases Nat.lt_or_ge q i_136 with h | h; (exact (hL136_2 X1).2 q h); (obtain rfl : q = i_136 := by omega); exact EQ⟩) | (intro h; exact absurd h (by decide))), (by first | (intro h; exact absurd h (by decide)) | (intro _; exact eqw_at (w := kW 13) (by have : (kW 13).length = 17 - 13 := rfl; omega) NE)), lv_sub hl [2, 3, 4, 5, 1, 0] rfl⟩
                      · have c147 := (b_eq (rfl : Int32.toInt r145 = _) (rfl : Int32.toInt (bA tx sz1 (p0 + i_136)) = _)).mp c147
                        have EQ : bA tx sz1 (p0 + i_136) = (kW 13).getD i_136 0 := by rw [← RCH, ← HRC]; exact Int32.toInt_inj.mp (by omega)
                        refine lv_iconst (v := 1) hx hb dX12_key_103 (by decide) ?_
                        refine lv_goto (tgt := 108) hx hb dX12_key_104 (by decide) ?_
                        refine lv_istore (lv' := [(4, .int 1), (0, .ref (b 0)), (1, .int 2), (2, .int 13), (3, .int 17), (5, .int (nI i_136))]) hx hb dX12_key_108 hl (by decide) rfl (fun ls hl => ?_)
                        refine lv_iinc (v := nI (i_136 + 1)) (lv' := [(5, .int (nI (i_136 + 1))), (4, .int 1), (0, .ref (b 0)), (1, .int 2), (2, .int 13), (3, .int 17)]) hx hb dX12_key_110 hl (k := 5) rfl (nI_1 i_136) (by decide) rfl (fun ls hl => ?_)
                        refine lv_goto (tgt := 67) hx hb dX12_key_113 (by decide) ?_
                        exact ih136 _ _ (by omega) ⟨(i_136 + 1), 1, rfl, (by first | assumption | omega | rfl | (congr 1; omega)), (by first | exact Or.inl rfl | exact Or.inr rfl), (by first | (intro _; exact ⟨(hL136_2 X1).1, fun q hq => by rcases Nat.lt_or_ge q i_136 with h | h; (exact (hL136_2 X1).2 q h); (obtain rfl : q = i_136 := by omega); exact EQ⟩) | (intro h; exact absurd h (by decide))), (by first | (intro h; exact absurd h (by decide)) | (intro _; exact eqw_at (w := kW 13) (by have : (kW 13).length = 17 - 13 := rfl; omega) NE)), lv_sub hl [2, 3, 4, 5, 1, 0] rfl⟩
                · have c135 := (b_eq (show Int32.toInt 4 = 4 from rfl) (nI_toInt (n := (tnd tx sz1 p0) - p0) (by omega))).mp c135
                  refine lv_iconst (v := 1) hx hb dX12_key_57 (by decide) ?_
                  refine lv_goto (tgt := 62) hx hb dX12_key_58 (by decide) ?_
                  refine lv_istore (lv' := [(4, .int 1), (3, .int 17), (2, .int 13), (1, .int 2), (0, .ref (b 0)), (5, .int (nI i_120))]) hx hb dX12_key_62 hl (by decide) rfl (fun ls hl => ?_)
                  refine lv_iconst (v := 0) hx hb dX12_key_64 (by decide) ?_
                  refine lv_istore (lv' := [(5, .int 0), (4, .int 1), (3, .int 17), (2, .int 13), (1, .int 2), (0, .ref (b 0))]) hx hb dX12_key_65 hl (by decide) rfl (fun ls hl => ?_)
                  refine r_indP (I := fun n ls => ∃ (i_148 : Nat) (x1_148 : Int32), n = 17 - 13 - i_148 ∧ (i_148 ≤ 17 - 13) ∧ (x1_148 = 0 ∨ x1_148 = 1) ∧ (x1_148 = 1 → tnd tx sz1 p0 - p0 = 17 - 13 ∧ ∀ q, q < i_148 → bA tx sz1 (p0 + q) = (kW 13).getD q 0) ∧ (x1_148 = 0 → eqw tx sz1 (kW 13) p0 = false) ∧ lv_has ls 6 [(0, .ref (b 0)), (1, .int 2), (2, .int 13), (3, .int 17), (4, .int x1_148), (5, .int (nI i_148))]) (fun n ls hI ih148 => ?_) _ _ ⟨0, 1, rfl, (by first | assumption | omega | rfl | (congr 1; omega)), (by first | exact Or.inl rfl | exact Or.inr rfl), (by first | (intro _; exact ⟨by omega, fun q hq => absurd hq (by omega)⟩) | (intro h; exact absurd h (by decide))), (by first | (intro h; exact absurd h (by decide)) | (intro _; exact eqw_len (w := kW 13) (l := 17 - 13) rfl (by omega))), lv_sub hl [5, 4, 3, 2, 1, 0] rfl⟩
                  obtain ⟨i_148, x1_148, hmu148, hL148_0, hL148_1, hL148_2, hL148_3, hl⟩ := hI
                  subst hmu148
                  refine lv_iload hx hb dX12_key_67 (lv_at hl 5 rfl) ?_
                  refine lv_iload_n hx hb dX12_key_69 rfl (lv_at hl 3 rfl) ?_
                  refine lv_iload_n hx hb dX12_key_70 rfl (lv_at hl 2 rfl) ?_
                  refine lv_isub hx hb dX12_key_71 ?_
                  refine W.eq (g2 := F0 m 72 ls [.int 4, .int (nI i_148)]) rfl ?_
                  refine lv_icmp_ge (tgt := 116) hx hb dX12_key_72 (by decide) (fun c149 => ?_) (fun c149 => ?_)
                  · have c149 := (b_le (show Int32.toInt 4 = 4 from rfl) (nI_toInt (n := i_148) (by omega))).mp c149
                    refine lv_iload hx hb dX12_key_116 (lv_at hl 4 rfl) ?_
                    refine lv_if_eq (tgt := 123) hx hb dX12_key_118 (by decide) (fun c150 => ?_) (fun c150 => ?_)
                    · have c150 := (b_eq (rfl : Int32.toInt x1_148 = _) (show Int32.toInt 0 = 0 from rfl)).mp c150
                      have EW13 : eqw tx sz1 (kW 13) p0 = false := hL148_3 (i0_of (by omega))
                      refine lv_iinc (v := 3) (lv' := [(1, .int 3), (0, .ref (b 0)), (2, .int 13), (3, .int 17), (4, .int x1_148), (5, .int (nI i_148))]) hx hb dX12_key_123 hl (k := 1) rfl (by decide) (by decide) rfl (fun ls hl => ?_)
                      refine lv_iload_n hx hb dX12_key_126 rfl (lv_at hl 3 rfl) ?_
                      refine lv_iconst (v := 1) hx hb dX12_key_127 (by decide) ?_
                      refine lv_iadd hx hb dX12_key_128 ?_
                      refine W.eq (g2 := F0 m 129 ls [.int 18]) rfl ?_
                      refine lv_istore_n (lv' := [(2, .int 18), (1, .int 3), (0, .ref (b 0)), (3, .int 17), (4, .int x1_148), (5, .int (nI i_148))]) hx hb dX12_key_129 rfl hl (by decide) rfl (fun ls hl => ?_)
                      refine lv_goto (tgt := 14) hx hb dX12_key_130 (by decide) ?_
                      refine lv_iload_n hx hb dX12_key_14 rfl (lv_at hl 0 rfl) ?_
                      refine va_ldcS hx hb hown hZ dX12_key_15 ?_
                      refine vp_callSi (va_Run.run (va_runV (As := []) (rest := [.int 18]) ⟨hx, hb, hml, hown, noTs⟩ (s_J0_length l adK adV 3 (by decide)) ⟨cbE 0 (wd_488 hE) (wd_129 hE) (wd_1527 hE) rfl rfl (by decide +kernel) ⟨Nat.le_of_ble_eq_true rfl, Nat.le_of_ble_eq_true rfl⟩, (wd_486 hE), (wd_487 hE)⟩ ⟨PS.blind, vk_recv hX.1 (by decide) hS, ps_pre (av := [.ref (adK 3)]) hX hS hE⟩ rfl rfl hl.1 rfl (lv_room (Nat.le_of_ble_eq_true rfl)) dX12_key_17 ⟨Nat.le_of_ble_eq_true rfl, Nat.le_of_ble_eq_true rfl⟩)) (fun r151 hr151 => ?_)
                      have hr151 : r151 = 18 := hr151
                      subst hr151
                      refine lv_icmp_ge (tgt := 133) hx hb dX12_key_20 (by decide) (fun c152 => ?_) (fun c152 => absurd c152 (by decide))
                      refine lv_iconst (v := -1) hx hb dX12_key_133 (by decide) ?_
                      exact W.iret (v := -1) hx hb hr (fun t ht hW => ⟨-1, rfl, Or.inr (Or.inr (Or.inr (⟨rfl, by first | omega | (have q := (kd_word (tx := tx) (n := sz1) (p := p0) (by omega)).trans ((if_neg (by rw [show eqw tx sz1 wVx p0 = false from EW1]; decide)).trans ((if_neg (by rw [show eqw tx sz1 wEd p0 = false from EW8]; decide)).trans (if_neg (by rw [show eqw tx sz1 wWo p0 = false from EW13]; decide)))); omega)⟩))), ht⟩) (fun _ h => absurd h List.not_mem_nil) dX12_key_134
                    · have c150 := mt (b_eq (rfl : Int32.toInt x1_148 = _) (show Int32.toInt 0 = 0 from rfl)).mpr c150
                      have X2 : x1_148 = 1 := i1_of hL148_1 (by omega)
                      have EW13 : eqw tx sz1 (kW 13) p0 = true := by first | exact eqw_t.mpr ⟨(hL148_2 X2).1.trans rfl, fun q hq => (hL148_2 X2).2 q (by have : (kW 13).length = 17 - 13 := rfl; omega)⟩ | (exfalso; omega)
                      refine lv_iload_n hx hb dX12_key_121 rfl (lv_at hl 1 rfl) ?_
                      exact W.iret (v := 2) hx hb hr (fun t ht hW => ⟨2, rfl, Or.inr (Or.inr (Or.inl ⟨rfl, by exact (kd_word (by omega)).trans ((if_neg (by rw [show eqw tx sz1 wVx p0 = false from EW1]; decide)).trans ((if_neg (by rw [show eqw tx sz1 wEd p0 = false from EW8]; decide)).trans (if_pos EW13)))⟩)), ht⟩) (fun _ h => absurd h List.not_mem_nil) dX12_key_122
                  · have c149 := mt (b_le (show Int32.toInt 4 = 4 from rfl) (nI_toInt (n := i_148) (by omega))).mpr c149
                    refine lv_iload hx hb dX12_key_75 (lv_at hl 4 rfl) ?_
                    refine lv_if_eq (tgt := 116) hx hb dX12_key_77 (by decide) (fun c153 => ?_) (fun c153 => ?_)
                    · have c153 := (b_eq (rfl : Int32.toInt x1_148 = _) (show Int32.toInt 0 = 0 from rfl)).mp c153
                      refine lv_iload hx hb dX12_key_116 (lv_at hl 4 rfl) ?_
                      refine lv_if_eq (tgt := 123) hx hb dX12_key_118 (by decide) (fun c154 => ?_) (fun c154 => ?_)
                      · have c154 := (b_eq (rfl : Int32.toInt x1_148 = _) (show Int32.toInt 0 = 0 from rfl)).mp c154
                        have EW13 : eqw tx sz1 (kW 13) p0 = false := hL148_3 (i0_of (by omega))
                        refine lv_iinc (v := 3) (lv' := [(1, .int 3), (0, .ref (b 0)), (2, .int 13), (3, .int 17), (4, .int x1_148), (5, .int (nI i_148))]) hx hb dX12_key_123 hl (k := 1) rfl (by decide) (by decide) rfl (fun ls hl => ?_)
                        refine lv_iload_n hx hb dX12_key_126 rfl (lv_at hl 3 rfl) ?_
                        refine lv_iconst (v := 1) hx hb dX12_key_127 (by decide) ?_
                        refine lv_iadd hx hb dX12_key_128 ?_
                        refine W.eq (g2 := F0 m 129 ls [.int 18]) rfl ?_
                        refine lv_istore_n (lv' := [(2, .int 18), (1, .int 3), (0, .ref (b 0)), (3, .int 17), (4, .int x1_148), (5, .int (nI i_148))]) hx hb dX12_key_129 rfl hl (by decide) rfl (fun ls hl => ?_)
                        refine lv_goto (tgt := 14) hx hb dX12_key_130 (by decide) ?_
                        refine lv_iload_n hx hb dX12_key_14 rfl (lv_at hl 0 rfl) ?_
                        refine va_ldcS hx hb hown hZ dX12_key_15 ?_
                        refine vp_callSi (va_Run.run (va_runV (As := []) (rest := [.int 18]) ⟨hx, hb, hml, hown, noTs⟩ (s_J0_length l adK adV 3 (by decide)) ⟨cbE 0 (wd_488 hE) (wd_129 hE) (wd_1527 hE) rfl rfl (by decide +kernel) ⟨Nat.le_of_ble_eq_true rfl, Nat.le_of_ble_eq_true rfl⟩, (wd_486 hE), (wd_487 hE)⟩ ⟨PS.blind, vk_recv hX.1 (by decide) hS, ps_pre (av := [.ref (adK 3)]) hX hS hE⟩ rfl rfl hl.1 rfl (lv_room (Nat.le_of_ble_eq_true rfl)) dX12_key_17 ⟨Nat.le_of_ble_eq_true rfl, Nat.le_of_ble_eq_true rfl⟩)) (fun r155 hr155 => ?_)
                        have hr155 : r155 = 18 := hr155
                        subst hr155
                        refine lv_icmp_ge (tgt := 133) hx hb dX12_key_20 (by decide) (fun c156 => ?_) (fun c156 => absurd c156 (by decide))
                        refine lv_iconst (v := -1) hx hb dX12_key_133 (by decide) ?_
                        exact W.iret (v := -1) hx hb hr (fun t ht hW => ⟨-1, rfl, Or.inr (Or.inr (Or.inr (⟨rfl, by first | omega | (have q := (kd_word (tx := tx) (n := sz1) (p := p0) (by omega)).trans ((if_neg (by rw [show eqw tx sz1 wVx p0 = false from EW1]; decide)).trans ((if_neg (by rw [show eqw tx sz1 wEd p0 = false from EW8]; decide)).trans (if_neg (by rw [show eqw tx sz1 wWo p0 = false from EW13]; decide)))); omega)⟩))), ht⟩) (fun _ h => absurd h List.not_mem_nil) dX12_key_134
                      · have c154 := mt (b_eq (rfl : Int32.toInt x1_148 = _) (show Int32.toInt 0 = 0 from rfl)).mpr c154
                        have X2 : x1_148 = 1 := i1_of hL148_1 (by omega)
                        have EW13 : eqw tx sz1 (kW 13) p0 = true := by first | exact eqw_t.mpr ⟨(hL148_2 X2).1.trans rfl, fun q hq => (hL148_2 X2).2 q (by have : (kW 13).length = 17 - 13 := rfl; omega)⟩ | (exfalso; omega)
                        refine lv_iload_n hx hb dX12_key_121 rfl (lv_at hl 1 rfl) ?_
                        exact W.iret (v := 2) hx hb hr (fun t ht hW => ⟨2, rfl, Or.inr (Or.inr (Or.inl ⟨rfl, by exact (kd_word (by omega)).trans ((if_neg (by rw [show eqw tx sz1 wVx p0 = false from EW1]; decide)).trans ((if_neg (by rw [show eqw tx sz1 wEd p0 = false from EW8]; decide)).trans (if_pos EW13)))⟩)), ht⟩) (fun _ h => absurd h List.not_mem_nil) dX12_key_122
                    · have c153 := mt (b_eq (rfl : Int32.toInt x1_148 = _) (show Int32.toInt 0 = 0 from rfl)).mpr c153
                      have X1 : x1_148 = 1 := i1_of hL148_1 (by omega)
                      refine va_ldcS hx hb hown hZ dX12_key_80 ?_
                      refine lv_iload_n hx hb dX12_key_82 rfl (lv_at hl 2 rfl) ?_
                      refine lv_iload hx hb dX12_key_83 (lv_at hl 5 rfl) ?_
                      refine lv_iadd hx hb dX12_key_85 ?_
                      refine W.eq (g2 := F0 m 86 ls [.int (nI (13 + i_148)), .ref (adK 3)]) (congrArg (fun z : Int32 => F0 m 86 ls (.int z :: [.ref (adK 3)])) (nI_add 13 i_148)) ?_
                      refine vp_callSi (va_Run.run (va_runV (As := [.int (nI (13 + i_148))]) (rest := []) ⟨hx, hb, hml, hown, noTs⟩ (s_J0_charAt l adK adV 3 (13 + i_148) (by decide) (by show _ < 18; omega)) ⟨cbE 1 (wd_498 hE) (wd_129 hE) (wd_1528 hE) rfl rfl (by decide +kernel) ⟨Nat.le_of_ble_eq_true rfl, Nat.le_of_ble_eq_true rfl⟩, (wd_496 hE), (wd_497 hE)⟩ ⟨PS.blind, vk_recv hX.1 (by decide) hS, ps_pre (av := [.ref (adK 3), .int (nI (13 + i_148))]) hX hS hE⟩ rfl rfl hl.1 rfl (lv_room (Nat.le_of_ble_eq_true rfl)) dX12_key_86 ⟨Nat.le_of_ble_eq_true rfl, Nat.le_of_ble_eq_true rfl⟩)) (fun r157 hr157 => ?_)
                      refine lv_aload_n hx hb dX12_key_89 rfl (lv_at hl 0 rfl) ?_
                      refine lv_aload_n hx hb dX12_key_90 rfl (lv_at hl 0 rfl) ?_
                      refine r_get (v := .int (nI p0)) hx hb (ly_X12 hE) hown hK hP rfl 13 (by decide) (wd_1394 hE) (fun _ h9 => h9) (congrArg (fun z : Int32 => some (Value.int z)) te13_2) dX12_key_91 ?_
                      refine lv_iload hx hb dX12_key_94 (lv_at hl 5 rfl) ?_
                      refine lv_iadd hx hb dX12_key_96 ?_
                      refine W.eq (g2 := F0 m 97 ls [.int (nI (p0 + i_148)), .ref (b 0), .int r157]) (congrArg (fun z : Int32 => F0 m 97 ls (.int z :: [.ref (b 0), .int r157])) (nI_add p0 i_148)) ?_
                      refine vp_callSi (va_Run.run (va_runV (As := [.int (nI (p0 + i_148))]) (rest := [.int r157]) ⟨hx, hb, hml, hown, noTs⟩ (r_X12_byteAt l dC dI s.heap.size cs b u tx hAc16 (p0 + i_148) sz1 hF11 (by first | assumption | omega | rfl | (congr 1; omega)) (by first | assumption | omega | rfl | (congr 1; omega))) ⟨cbE 1 (wd_1510 hE) (wd_126 hE) (wd_1507 hE) rfl rfl (by decide +kernel) ⟨Nat.le_of_ble_eq_true rfl, Nat.le_of_ble_eq_true rfl⟩, (wd_1509 hE), (wd_57 hE)⟩ ⟨PR.blind, r_recv hK hP rfl, (r_pre (av := [.ref (b 0), .int (nI (p0 + i_148))]) hK hP hJ hE)⟩ rfl rfl hl.1 rfl (lv_room (Nat.le_of_ble_eq_true rfl)) dX12_key_97 ⟨Nat.le_of_ble_eq_true rfl, Nat.le_of_ble_eq_true rfl⟩)) (fun r158 hr158 => ?_)
                      subst hr158
                      have htf158 := bA_f tx sz1 (p0 + i_148)
                      have HRC := hr157
                      have RCH := ch_13 i_148 (by omega)
                      refine lv_icmp_ne (tgt := 107) hx hb dX12_key_100 (by decide) (fun c159 => ?_) (fun c159 => ?_)
                      · have c159 := mt (b_eq (rfl : Int32.toInt r157 = _) (rfl : Int32.toInt (bA tx sz1 (p0 + i_148)) = _)).mpr c159
                        have NE : bA tx sz1 (p0 + i_148) ≠ (kW 13).getD i_148 0 := by rw [← RCH, ← HRC]; intro e; have := congrArg Int32.toInt e; omega
                        refine lv_iconst (v := 0) hx hb dX12_key_107 (by decide) ?_
                        refine lv_istore (lv' := [(4, .int 0), (0, .ref (b 0)), (1, .int 2), (2, .int 13), (3, .int 17), (5, .int (nI i_148))]) hx hb dX12_key_108 hl (by decide) rfl (fun ls hl => ?_)
                        refine lv_iinc (v := nI (i_148 + 1)) (lv' := [(5, .int (nI (i_148 + 1))), (4, .int 0), (0, .ref (b 0)), (1, .int 2), (2, .int 13), (3, .int 17)]) hx hb dX12_key_110 hl (k := 5) rfl (nI_1 i_148) (by decide) rfl (fun ls hl => ?_)
                        refine lv_goto (tgt := 67) hx hb dX12_key_113 (by decide) ?_
                        exact ih148 _ _ (by omega) ⟨(i_148 + 1), 0, rfl, (by first | assumption | omega | rfl | (congr 1; omega)), (by first | exact Or.inl rfl | exact Or.inr rfl), (by first | (intro _; exact ⟨(hL148_2 X1).1, fun q hq => by rcases Nat.lt_or_ge q i_148 with h | h; (exact (hL148_2 X1).2 q h); (obtain rfl : q = i_148 := by omega); exact EQ⟩) | (intro h; exact absurd h (by decide))), (by first | (intro h; exact absurd h (by decide)) | (intro _; exact eqw_at (w := kW 13) (by have : (kW 13).length = 17 - 13 := rfl; omega) NE)), lv_sub hl [2, 3, 4, 5, 1, 0] rfl⟩
                      · have c159 := (b_eq (rfl : Int32.toInt r157 = _) (rfl : Int32.toInt (bA tx sz1 (p0 + i_148)) = _)).mp c159
                        have EQ : bA tx sz1 (p0 + i_148) = (kW 13).getD i_148 0 := by rw [← RCH, ← HRC]; exact Int32.toInt_inj.mp (by omega)
                        refine lv_iconst (v := 1) hx hb dX12_key_103 (by decide) ?_
                        refine lv_goto (tgt := 108) hx hb dX12_key_104 (by decide) ?_
                        refine lv_istore (lv' := [(4, .int 1), (0, .ref (b 0)), (1, .int 2), (2, .int 13), (3, .int 17), (5, .int (nI i_148))]) hx hb dX12_key_108 hl (by decide) rfl (fun ls hl => ?_)
                        refine lv_iinc (v := nI (i_148 + 1)) (lv' := [(5, .int (nI (i_148 + 1))), (4, .int 1), (0, .ref (b 0)), (1, .int 2), (2, .int 13), (3, .int 17)]) hx hb dX12_key_110 hl (k := 5) rfl (nI_1 i_148) (by decide) rfl (fun ls hl => ?_)
                        refine lv_goto (tgt := 67) hx hb dX12_key_113 (by decide) ?_
                        exact ih148 _ _ (by omega) ⟨(i_148 + 1), 1, rfl, (by first | assumption | omega | rfl | (congr 1; omega)), (by first | exact Or.inl rfl | exact Or.inr rfl), (by first | (intro _; exact ⟨(hL148_2 X1).1, fun q hq => by rcases Nat.lt_or_ge q i_148 with h | h; (exact (hL148_2 X1).2 q h); (obtain rfl : q = i_148 := by omega); exact EQ⟩) | (intro h; exact absurd h (by decide))), (by first | (intro h; exact absurd h (by decide)) | (intro _; exact eqw_at (w := kW 13) (by have : (kW 13).length = 17 - 13 := rfl; omega) NE)), lv_sub hl [2, 3, 4, 5, 1, 0] rfl⟩
              · have c122 := mt (b_eq (rfl : Int32.toInt x1_120 = _) (show Int32.toInt 0 = 0 from rfl)).mpr c122
                have X2 : x1_120 = 1 := i1_of hL120_1 (by omega)
                have EW8 : eqw tx sz1 (kW 8) p0 = true := by first | exact eqw_t.mpr ⟨(hL120_2 X2).1.trans rfl, fun q hq => (hL120_2 X2).2 q (by have : (kW 8).length = 12 - 8 := rfl; omega)⟩ | (exfalso; omega)
                refine lv_iload_n hx hb dX12_key_121 rfl (lv_at hl 1 rfl) ?_
                exact W.iret (v := 1) hx hb hr (fun t ht hW => ⟨1, rfl, Or.inr (Or.inl ⟨rfl, by exact (kd_word (by omega)).trans ((if_neg (by rw [show eqw tx sz1 wVx p0 = false from EW1]; decide)).trans (if_pos EW8))⟩), ht⟩) (fun _ h => absurd h List.not_mem_nil) dX12_key_122
            · have c121 := mt (b_le (show Int32.toInt 4 = 4 from rfl) (nI_toInt (n := i_120) (by omega))).mpr c121
              refine lv_iload hx hb dX12_key_75 (lv_at hl 4 rfl) ?_
              refine lv_if_eq (tgt := 116) hx hb dX12_key_77 (by decide) (fun c160 => ?_) (fun c160 => ?_)
              · have c160 := (b_eq (rfl : Int32.toInt x1_120 = _) (show Int32.toInt 0 = 0 from rfl)).mp c160
                refine lv_iload hx hb dX12_key_116 (lv_at hl 4 rfl) ?_
                refine lv_if_eq (tgt := 123) hx hb dX12_key_118 (by decide) (fun c161 => ?_) (fun c161 => ?_)
                · have c161 := (b_eq (rfl : Int32.toInt x1_120 = _) (show Int32.toInt 0 = 0 from rfl)).mp c161
                  have EW8 : eqw tx sz1 (kW 8) p0 = false := hL120_3 (i0_of (by omega))
                  refine lv_iinc (v := 2) (lv' := [(1, .int 2), (0, .ref (b 0)), (2, .int 8), (3, .int 12), (4, .int x1_120), (5, .int (nI i_120))]) hx hb dX12_key_123 hl (k := 1) rfl (by decide) (by decide) rfl (fun ls hl => ?_)
                  refine lv_iload_n hx hb dX12_key_126 rfl (lv_at hl 3 rfl) ?_
                  refine lv_iconst (v := 1) hx hb dX12_key_127 (by decide) ?_
                  refine lv_iadd hx hb dX12_key_128 ?_
                  refine W.eq (g2 := F0 m 129 ls [.int 13]) rfl ?_
                  refine lv_istore_n (lv' := [(2, .int 13), (1, .int 2), (0, .ref (b 0)), (3, .int 12), (4, .int x1_120), (5, .int (nI i_120))]) hx hb dX12_key_129 rfl hl (by decide) rfl (fun ls hl => ?_)
                  refine lv_goto (tgt := 14) hx hb dX12_key_130 (by decide) ?_
                  refine lv_iload_n hx hb dX12_key_14 rfl (lv_at hl 0 rfl) ?_
                  refine va_ldcS hx hb hown hZ dX12_key_15 ?_
                  refine vp_callSi (va_Run.run (va_runV (As := []) (rest := [.int 13]) ⟨hx, hb, hml, hown, noTs⟩ (s_J0_length l adK adV 3 (by decide)) ⟨cbE 0 (wd_488 hE) (wd_129 hE) (wd_1527 hE) rfl rfl (by decide +kernel) ⟨Nat.le_of_ble_eq_true rfl, Nat.le_of_ble_eq_true rfl⟩, (wd_486 hE), (wd_487 hE)⟩ ⟨PS.blind, vk_recv hX.1 (by decide) hS, ps_pre (av := [.ref (adK 3)]) hX hS hE⟩ rfl rfl hl.1 rfl (lv_room (Nat.le_of_ble_eq_true rfl)) dX12_key_17 ⟨Nat.le_of_ble_eq_true rfl, Nat.le_of_ble_eq_true rfl⟩)) (fun r162 hr162 => ?_)
                  have hr162 : r162 = 18 := hr162
                  subst hr162
                  refine lv_icmp_ge (tgt := 133) hx hb dX12_key_20 (by decide) (fun c163 => absurd c163 (by decide)) (fun c163 => ?_)
                  refine lv_iload_n hx hb dX12_key_23 rfl (lv_at hl 0 rfl) ?_
                  refine lv_istore_n (lv' := [(3, .int 13), (2, .int 13), (1, .int 2), (0, .ref (b 0)), (4, .int x1_120), (5, .int (nI i_120))]) hx hb dX12_key_24 rfl hl (by decide) rfl (fun ls hl => ?_)
                  refine va_ldcS hx hb hown hZ dX12_key_25 ?_
                  refine lv_iload_n hx hb dX12_key_27 rfl (lv_at hl 0 rfl) ?_
                  refine vp_callSi (va_Run.run (va_runV (As := [.int (nI 13)]) (rest := []) ⟨hx, hb, hml, hown, noTs⟩ (s_J0_charAt l adK adV 3 13 (by decide) (by show _ < 18; omega)) ⟨cbE 1 (wd_498 hE) (wd_129 hE) (wd_1528 hE) rfl rfl (by decide +kernel) ⟨Nat.le_of_ble_eq_true rfl, Nat.le_of_ble_eq_true rfl⟩, (wd_496 hE), (wd_497 hE)⟩ ⟨PS.blind, vk_recv hX.1 (by decide) hS, ps_pre (av := [.ref (adK 3), .int (nI 13)]) hX hS hE⟩ rfl rfl hl.1 rfl (lv_room (Nat.le_of_ble_eq_true rfl)) dX12_key_28 ⟨Nat.le_of_ble_eq_true rfl, Nat.le_of_ble_eq_true rfl⟩)) (fun r164 hr164 => ?_)
                  have hr164 : r164 = 119 := hr164.trans (by decide)
                  subst hr164
                  refine lv_bipush (v := 32) hx hb dX12_key_31 (by decide) ?_
                  refine lv_icmp_eq (tgt := 42) hx hb dX12_key_33 (by decide) (fun c165 => absurd c165 (by decide)) (fun c165 => ?_)
                  refine lv_iinc (v := 14) (lv' := [(3, .int 14), (2, .int 13), (1, .int 2), (0, .ref (b 0)), (4, .int x1_120), (5, .int (nI i_120))]) hx hb dX12_key_36 hl (k := 0) rfl (by decide) (by decide) rfl (fun ls hl => ?_)
                  refine lv_goto (tgt := 25) hx hb dX12_key_39 (by decide) ?_
                  refine va_ldcS hx hb hown hZ dX12_key_25 ?_
                  refine lv_iload_n hx hb dX12_key_27 rfl (lv_at hl 0 rfl) ?_
                  refine vp_callSi (va_Run.run (va_runV (As := [.int (nI 14)]) (rest := []) ⟨hx, hb, hml, hown, noTs⟩ (s_J0_charAt l adK adV 3 14 (by decide) (by show _ < 18; omega)) ⟨cbE 1 (wd_498 hE) (wd_129 hE) (wd_1528 hE) rfl rfl (by decide +kernel) ⟨Nat.le_of_ble_eq_true rfl, Nat.le_of_ble_eq_true rfl⟩, (wd_496 hE), (wd_497 hE)⟩ ⟨PS.blind, vk_recv hX.1 (by decide) hS, ps_pre (av := [.ref (adK 3), .int (nI 14)]) hX hS hE⟩ rfl rfl hl.1 rfl (lv_room (Nat.le_of_ble_eq_true rfl)) dX12_key_28 ⟨Nat.le_of_ble_eq_true rfl, Nat.le_of_ble_eq_true rfl⟩)) (fun r166 hr166 => ?_)
                  have hr166 : r166 = 111 := hr166.trans (by decide)
                  subst hr166
                  refine lv_bipush (v := 32) hx hb dX12_key_31 (by decide) ?_
                  refine lv_icmp_eq (tgt := 42) hx hb dX12_key_33 (by decide) (fun c167 => absurd c167 (by decide)) (fun c167 => ?_)
                  refine lv_iinc (v := 15) (lv' := [(3, .int 15), (2, .int 13), (1, .int 2), (0, .ref (b 0)), (4, .int x1_120), (5, .int (nI i_120))]) hx hb dX12_key_36 hl (k := 0) rfl (by decide) (by decide) rfl (fun ls hl => ?_)
                  refine lv_goto (tgt := 25) hx hb dX12_key_39 (by decide) ?_
                  refine va_ldcS hx hb hown hZ dX12_key_25 ?_
                  refine lv_iload_n hx hb dX12_key_27 rfl (lv_at hl 0 rfl) ?_
                  refine vp_callSi (va_Run.run (va_runV (As := [.int (nI 15)]) (rest := []) ⟨hx, hb, hml, hown, noTs⟩ (s_J0_charAt l adK adV 3 15 (by decide) (by show _ < 18; omega)) ⟨cbE 1 (wd_498 hE) (wd_129 hE) (wd_1528 hE) rfl rfl (by decide +kernel) ⟨Nat.le_of_ble_eq_true rfl, Nat.le_of_ble_eq_true rfl⟩, (wd_496 hE), (wd_497 hE)⟩ ⟨PS.blind, vk_recv hX.1 (by decide) hS, ps_pre (av := [.ref (adK 3), .int (nI 15)]) hX hS hE⟩ rfl rfl hl.1 rfl (lv_room (Nat.le_of_ble_eq_true rfl)) dX12_key_28 ⟨Nat.le_of_ble_eq_true rfl, Nat.le_of_ble_eq_true rfl⟩)) (fun r168 hr168 => ?_)
                  have hr168 : r168 = 114 := hr168.trans (by decide)
                  subst hr168
                  refine lv_bipush (v := 32) hx hb dX12_key_31 (by decide) ?_
                  refine lv_icmp_eq (tgt := 42) hx hb dX12_key_33 (by decide) (fun c169 => absurd c169 (by decide)) (fun c169 => ?_)
                  refine lv_iinc (v := 16) (lv' := [(3, .int 16), (2, .int 13), (1, .int 2), (0, .ref (b 0)), (4, .int x1_120), (5, .int (nI i_120))]) hx hb dX12_key_36 hl (k := 0) rfl (by decide) (by decide) rfl (fun ls hl => ?_)
                  refine lv_goto (tgt := 25) hx hb dX12_key_39 (by decide) ?_
                  refine va_ldcS hx hb hown hZ dX12_key_25 ?_
                  refine lv_iload_n hx hb dX12_key_27 rfl (lv_at hl 0 rfl) ?_
                  refine vp_callSi (va_Run.run (va_runV (As := [.int (nI 16)]) (rest := []) ⟨hx, hb, hml, hown, noTs⟩ (s_J0_charAt l adK adV 3 16 (by decide) (by show _ < 18; omega)) ⟨cbE 1 (wd_498 hE) (wd_129 hE) (wd_1528 hE) rfl rfl (by decide +kernel) ⟨Nat.le_of_ble_eq_true rfl, Nat.le_of_ble_eq_true rfl⟩, (wd_496 hE), (wd_497 hE)⟩ ⟨PS.blind, vk_recv hX.1 (by decide) hS, ps_pre (av := [.ref (adK 3), .int (nI 16)]) hX hS hE⟩ rfl rfl hl.1 rfl (lv_room (Nat.le_of_ble_eq_true rfl)) dX12_key_28 ⟨Nat.le_of_ble_eq_true rfl, Nat.le_of_ble_eq_true rfl⟩)) (fun r170 hr170 => ?_)
                  have hr170 : r170 = 100 := hr170.trans (by decide)
                  subst hr170
                  refine lv_bipush (v := 32) hx hb dX12_key_31 (by decide) ?_
                  refine lv_icmp_eq (tgt := 42) hx hb dX12_key_33 (by decide) (fun c171 => absurd c171 (by decide)) (fun c171 => ?_)
                  refine lv_iinc (v := 17) (lv' := [(3, .int 17), (2, .int 13), (1, .int 2), (0, .ref (b 0)), (4, .int x1_120), (5, .int (nI i_120))]) hx hb dX12_key_36 hl (k := 0) rfl (by decide) (by decide) rfl (fun ls hl => ?_)
                  refine lv_goto (tgt := 25) hx hb dX12_key_39 (by decide) ?_
                  refine va_ldcS hx hb hown hZ dX12_key_25 ?_
                  refine lv_iload_n hx hb dX12_key_27 rfl (lv_at hl 0 rfl) ?_
                  refine vp_callSi (va_Run.run (va_runV (As := [.int (nI 17)]) (rest := []) ⟨hx, hb, hml, hown, noTs⟩ (s_J0_charAt l adK adV 3 17 (by decide) (by show _ < 18; omega)) ⟨cbE 1 (wd_498 hE) (wd_129 hE) (wd_1528 hE) rfl rfl (by decide +kernel) ⟨Nat.le_of_ble_eq_true rfl, Nat.le_of_ble_eq_true rfl⟩, (wd_496 hE), (wd_497 hE)⟩ ⟨PS.blind, vk_recv hX.1 (by decide) hS, ps_pre (av := [.ref (adK 3), .int (nI 17)]) hX hS hE⟩ rfl rfl hl.1 rfl (lv_room (Nat.le_of_ble_eq_true rfl)) dX12_key_28 ⟨Nat.le_of_ble_eq_true rfl, Nat.le_of_ble_eq_true rfl⟩)) (fun r172 hr172 => ?_)
                  have hr172 : r172 = 32 := hr172.trans (by decide)
                  subst hr172
                  refine lv_bipush (v := 32) hx hb dX12_key_31 (by decide) ?_
                  refine lv_icmp_eq (tgt := 42) hx hb dX12_key_33 (by decide) (fun c173 => ?_) (fun c173 => absurd c173 (by decide))
                  refine lv_iload_n hx hb dX12_key_42 rfl (lv_at hl 0 rfl) ?_
                  refine lv_iload_n hx hb dX12_key_43 rfl (lv_at hl 1 rfl) ?_
                  refine lv_isub hx hb dX12_key_44 ?_
                  refine W.eq (g2 := F0 m 45 ls [.int 4]) rfl ?_
                  refine lv_aload_n hx hb dX12_key_45 rfl (lv_at hl 3 rfl) ?_
                  refine r_get (v := .int (nI (tnd tx sz1 p0))) hx hb (ly_X12 hE) hown hK hP rfl 14 (by decide) (wd_1395 hE) (fun _ h9 => h9) (congrArg (fun z : Int32 => some (Value.int z)) te14_2) dX12_key_46 ?_
                  refine lv_aload_n hx hb dX12_key_49 rfl (lv_at hl 3 rfl) ?_
                  refine r_get (v := .int (nI p0)) hx hb (ly_X12 hE) hown hK hP rfl 13 (by decide) (wd_1394 hE) (fun _ h9 => h9) (congrArg (fun z : Int32 => some (Value.int z)) te13_2) dX12_key_50 ?_
                  refine lv_isub hx hb dX12_key_53 ?_
                  refine W.eq (g2 := F0 m 54 ls [.int (nI ((tnd tx sz1 p0) - p0)), .int 4]) (congrArg (fun z : Int32 => F0 m 54 ls (.int z :: [.int 4])) (pk_sub (a := tnd tx sz1 p0) (b := p0) (by omega))) ?_
                  refine lv_icmp_ne (tgt := 61) hx hb dX12_key_54 (by decide) (fun c174 => ?_) (fun c174 => ?_)
                  · have c174 := mt (b_eq (show Int32.toInt 4 = 4 from rfl) (nI_toInt (n := (tnd tx sz1 p0) - p0) (by omega))).mpr c174
                    refine lv_iconst (v := 0) hx hb dX12_key_61 (by decide) ?_
                    refine lv_istore (lv' := [(4, .int 0), (3, .int 17), (2, .int 13), (1, .int 2), (0, .ref (b 0)), (5, .int (nI i_120))]) hx hb dX12_key_62 hl (by decide) rfl (fun ls hl => ?_)
                    refine lv_iconst (v := 0) hx hb dX12_key_64 (by decide) ?_
                    refine lv_istore (lv' := [(5, .int 0), (4, .int 0), (3, .int 17), (2, .int 13), (1, .int 2), (0, .ref (b 0))]) hx hb dX12_key_65 hl (by decide) rfl (fun ls hl => ?_)
                    refine r_indP (I := fun n ls => ∃ (i_175 : Nat) (x1_175 : Int32), n = 17 - 13 - i_175 ∧ (i_175 ≤ 17 - 13) ∧ (x1_175 = 0 ∨ x1_175 = 1) ∧ (x1_175 = 1 → tnd tx sz1 p0 - p0 = 17 - 13 ∧ ∀ q, q < i_175 → bA tx sz1 (p0 + q) = (kW 13).getD q 0) ∧ (x1_175 = 0 → eqw tx sz1 (kW 13) p0 = false) ∧ lv_has ls 6 [(0, .ref (b 0)), (1, .int 2), (2, .int 13), (3, .int 17), (4, .int x1_175), (5, .int (nI i_175))]) (fun n ls hI ih175 => ?_) _ _ ⟨0, 0, rfl, (by first | assumption | omega | rfl | (congr 1; omega)), (by first | exact Or.inl rfl | exact Or.inr rfl), (by first | (intro _; exact ⟨by omega, fun q hq => absurd hq (by omega)⟩) | (intro h; exact absurd h (by decide))), (by first | (intro h; exact absurd h (by decide)) | (intro _; exact eqw_len (w := kW 13) (l := 17 - 13) rfl (by omega))), lv_sub hl [5, 4, 3, 2, 1, 0] rfl⟩
                    obtain ⟨i_175, x1_175, hmu175, hL175_0, hL175_1, hL175_2, hL175_3, hl⟩ := hI
                    subst hmu175
                    refine lv_iload hx hb dX12_key_67 (lv_at hl 5 rfl) ?_
                    refine lv_iload_n hx hb dX12_key_69 rfl (lv_at hl 3 rfl) ?_
                    refine lv_iload_n hx hb dX12_key_70 rfl (lv_at hl 2 rfl) ?_
                    refine lv_isub hx hb dX12_key_71 ?_
                    refine W.eq (g2 := F0 m 72 ls [.int 4, .int (nI i_175)]) rfl ?_
                    refine lv_icmp_ge (tgt := 116) hx hb dX12_key_72 (by decide) (fun c176 => ?_) (fun c176 => ?_)
                    · have c176 := (b_le (show Int32.toInt 4 = 4 from rfl) (nI_toInt (n := i_175) (by omega))).mp c176
                      refine lv_iload hx hb dX12_key_116 (lv_at hl 4 rfl) ?_
                      refine lv_if_eq (tgt := 123) hx hb dX12_key_118 (by decide) (fun c177 => ?_) (fun c177 => ?_)
                      · have c177 := (b_eq (rfl : Int32.toInt x1_175 = _) (show Int32.toInt 0 = 0 from rfl)).mp c177
                        have EW13 : eqw tx sz1 (kW 13) p0 = false := hL175_3 (i0_of (by omega))
                        refine lv_iinc (v := 3) (lv' := [(1, .int 3), (0, .ref (b 0)), (2, .int 13), (3, .int 17), (4, .int x1_175), (5, .int (nI i_175))]) hx hb dX12_key_123 hl (k := 1) rfl (by decide) (by decide) rfl (fun ls hl => ?_)
                        refine lv_iload_n hx hb dX12_key_126 rfl (lv_at hl 3 rfl) ?_
                        refine lv_iconst (v := 1) hx hb dX12_key_127 (by decide) ?_
                        refine lv_iadd hx hb dX12_key_128 ?_
                        refine W.eq (g2 := F0 m 129 ls [.int 18]) rfl ?_
                        refine lv_istore_n (lv' := [(2, .int 18), (1, .int 3), (0, .ref (b 0)), (3, .int 17), (4, .int x1_175), (5, .int (nI i_175))]) hx hb dX12_key_129 rfl hl (by decide) rfl (fun ls hl => ?_)
                        refine lv_goto (tgt := 14) hx hb dX12_key_130 (by decide) ?_
                        refine lv_iload_n hx hb dX12_key_14 rfl (lv_at hl 0 rfl) ?_
                        refine va_ldcS hx hb hown hZ dX12_key_15 ?_
                        refine vp_callSi (va_Run.run (va_runV (As := []) (rest := [.int 18]) ⟨hx, hb, hml, hown, noTs⟩ (s_J0_length l adK adV 3 (by decide)) ⟨cbE 0 (wd_488 hE) (wd_129 hE) (wd_1527 hE) rfl rfl (by decide +kernel) ⟨Nat.le_of_ble_eq_true rfl, Nat.le_of_ble_eq_true rfl⟩, (wd_486 hE), (wd_487 hE)⟩ ⟨PS.blind, vk_recv hX.1 (by decide) hS, ps_pre (av := [.ref (adK 3)]) hX hS hE⟩ rfl rfl hl.1 rfl (lv_room (Nat.le_of_ble_eq_true rfl)) dX12_key_17 ⟨Nat.le_of_ble_eq_true rfl, Nat.le_of_ble_eq_true rfl⟩)) (fun r178 hr178 => ?_)
                        have hr178 : r178 = 18 := hr178
                        subst hr178
                        refine lv_icmp_ge (tgt := 133) hx hb dX12_key_20 (by decide) (fun c179 => ?_) (fun c179 => absurd c179 (by decide))
                        refine lv_iconst (v := -1) hx hb dX12_key_133 (by decide) ?_
                        exact W.iret (v := -1) hx hb hr (fun t ht hW => ⟨-1, rfl, Or.inr (Or.inr (Or.inr (⟨rfl, by first | omega | (have q := (kd_word (tx := tx) (n := sz1) (p := p0) (by omega)).trans ((if_neg (by rw [show eqw tx sz1 wVx p0 = false from EW1]; decide)).trans ((if_neg (by rw [show eqw tx sz1 wEd p0 = false from EW8]; decide)).trans (if_neg (by rw [show eqw tx sz1 wWo p0 = false from EW13]; decide)))); omega)⟩))), ht⟩) (fun _ h => absurd h List.not_mem_nil) dX12_key_134
                      · have c177 := mt (b_eq (rfl : Int32.toInt x1_175 = _) (show Int32.toInt 0 = 0 from rfl)).mpr c177
                        have X2 : x1_175 = 1 := i1_of hL175_1 (by omega)
                        have EW13 : eqw tx sz1 (kW 13) p0 = true := by first | exact eqw_t.mpr ⟨(hL175_2 X2).1.trans rfl, fun q hq => (hL175_2 X2).2 q (by have : (kW 13).length = 17 - 13 := rfl; omega)⟩ | (exfalso; omega)
                        refine lv_iload_n hx hb dX12_key_121 rfl (lv_at hl 1 rfl) ?_
                        exact W.iret (v := 2) hx hb hr (fun t ht hW => ⟨2, rfl, Or.inr (Or.inr (Or.inl ⟨rfl, by exact (kd_word (by omega)).trans ((if_neg (by rw [show eqw tx sz1 wVx p0 = false from EW1]; decide)).trans ((if_neg (by rw [show eqw tx sz1 wEd p0 = false from EW8]; decide)).trans (if_pos EW13)))⟩)), ht⟩) (fun _ h => absurd h List.not_mem_nil) dX12_key_122
                    · have c176 := mt (b_le (show Int32.toInt 4 = 4 from rfl) (nI_toInt (n := i_175) (by omega))).mpr c176
                      refine lv_iload hx hb dX12_key_75 (lv_at hl 4 rfl) ?_
                      refine lv_if_eq (tgt := 116) hx hb dX12_key_77 (by decide) (fun c180 => ?_) (fun c180 => ?_)
                      · have c180 := (b_eq (rfl : Int32.toInt x1_175 = _) (show Int32.toInt 0 = 0 from rfl)).mp c180
                        refine lv_iload hx hb dX12_key_116 (lv_at hl 4 rfl) ?_
                        refine lv_if_eq (tgt := 123) hx hb dX12_key_118 (by decide) (fun c181 => ?_) (fun c181 => ?_)
                        · have c181 := (b_eq (rfl : Int32.toInt x1_175 = _) (show Int32.toInt 0 = 0 from rfl)).mp c181
                          have EW13 : eqw tx sz1 (kW 13) p0 = false := hL175_3 (i0_of (by omega))
                          refine lv_iinc (v := 3) (lv' := [(1, .int 3), (0, .ref (b 0)), (2, .int 13), (3, .int 17), (4, .int x1_175), (5, .int (nI i_175))]) hx hb dX12_key_123 hl (k := 1) rfl (by decide) (by decide) rfl (fun ls hl => ?_)
                          refine lv_iload_n hx hb dX12_key_126 rfl (lv_at hl 3 rfl) ?_
                          refine lv_iconst (v := 1) hx hb dX12_key_127 (by decide) ?_
                          refine lv_iadd hx hb dX12_key_128 ?_
                          refine W.eq (g2 := F0 m 129 ls [.int 18]) rfl ?_
                          refine lv_istore_n (lv' := [(2, .int 18), (1, .int 3), (0, .ref (b 0)), (3, .int 17), (4, .int x1_175), (5, .int (nI i_175))]) hx hb dX12_key_129 rfl hl (by decide) rfl (fun ls hl => ?_)
                          refine lv_goto (tgt := 14) hx hb dX12_key_130 (by decide) ?_
                          refine lv_iload_n hx hb dX12_key_14 rfl (lv_at hl 0 rfl) ?_
                          refine va_ldcS hx hb hown hZ dX12_key_15 ?_
                          refine vp_callSi (va_Run.run (va_runV (As := []) (rest := [.int 18]) ⟨hx, hb, hml, hown, noTs⟩ (s_J0_length l adK adV 3 (by decide)) ⟨cbE 0 (wd_488 hE) (wd_129 hE) (wd_1527 hE) rfl rfl (by decide +kernel) ⟨Nat.le_of_ble_eq_true rfl, Nat.le_of_ble_eq_true rfl⟩, (wd_486 hE), (wd_487 hE)⟩ ⟨PS.blind, vk_recv hX.1 (by decide) hS, ps_pre (av := [.ref (adK 3)]) hX hS hE⟩ rfl rfl hl.1 rfl (lv_room (Nat.le_of_ble_eq_true rfl)) dX12_key_17 ⟨Nat.le_of_ble_eq_true rfl, Nat.le_of_ble_eq_true rfl⟩)) (fun r182 hr182 => ?_)
                          have hr182 : r182 = 18 := hr182
                          subst hr182
                          refine lv_icmp_ge (tgt := 133) hx hb dX12_key_20 (by decide) (fun c183 => ?_) (fun c183 => absurd c183 (by decide))
                          refine lv_iconst (v := -1) hx hb dX12_key_133 (by decide) ?_
                          exact W.iret (v := -1) hx hb hr (fun t ht hW => ⟨-1, rfl, Or.inr (Or.inr (Or.inr (⟨rfl, by first | omega | (have q := (kd_word (tx := tx) (n := sz1) (p := p0) (by omega)).trans ((if_neg (by rw [show eqw tx sz1 wVx p0 = false from EW1]; decide)).trans ((if_neg (by rw [show eqw tx sz1 wEd p0 = false from EW8]; decide)).trans (if_neg (by rw [show eqw tx sz1 wWo p0 = false from EW13]; decide)))); omega)⟩))), ht⟩) (fun _ h => absurd h List.not_mem_nil) dX12_key_134
                        · have c181 := mt (b_eq (rfl : Int32.toInt x1_175 = _) (show Int32.toInt 0 = 0 from rfl)).mpr c181
                          have X2 : x1_175 = 1 := i1_of hL175_1 (by omega)
                          have EW13 : eqw tx sz1 (kW 13) p0 = true := by first | exact eqw_t.mpr ⟨(hL175_2 X2).1.trans rfl, fun q hq => (hL175_2 X2).2 q (by have : (kW 13).length = 17 - 13 := rfl; omega)⟩ | (exfalso; omega)
                          refine lv_iload_n hx hb dX12_key_121 rfl (lv_at hl 1 rfl) ?_
                          exact W.iret (v := 2) hx hb hr (fun t ht hW => ⟨2, rfl, Or.inr (Or.inr (Or.inl ⟨rfl, by exact (kd_word (by omega)).trans ((if_neg (by rw [show eqw tx sz1 wVx p0 = false from EW1]; decide)).trans ((if_neg (by rw [show eqw tx sz1 wEd p0 = false from EW8]; decide)).trans (if_pos EW13)))⟩)), ht⟩) (fun _ h => absurd h List.not_mem_nil) dX12_key_122
                      · have c180 := mt (b_eq (rfl : Int32.toInt x1_175 = _) (show Int32.toInt 0 = 0 from rfl)).mpr c180
                        have X1 : x1_175 = 1 := i1_of hL175_1 (by omega)
                        refine va_ldcS hx hb hown hZ dX12_key_80 ?_
                        refine lv_iload_n hx hb dX12_key_82 rfl (lv_at hl 2 rfl) ?_
                        refine lv_iload hx hb dX12_key_83 (lv_at hl 5 rfl) ?_
                        refine lv_iadd hx hb dX12_key_85 ?_
                        refine W.eq (g2 := F0 m 86 ls [.int (nI (13 + i_175)), .ref (adK 3)]) (congrArg (fun z : Int32 => F0 m 86 ls (.int z :: [.ref (adK 3)])) (nI_add 13 i_175)) ?_
                        refine vp_callSi (va_Run.run (va_runV (As := [.int (nI (13 + i_175))]) (rest := []) ⟨hx, hb, hml, hown, noTs⟩ (s_J0_charAt l adK adV 3 (13 + i_175) (by decide) (by show _ < 18; omega)) ⟨cbE 1 (wd_498 hE) (wd_129 hE) (wd_1528 hE) rfl rfl (by decide +kernel) ⟨Nat.le_of_ble_eq_true rfl, Nat.le_of_ble_eq_true rfl⟩, (wd_496 hE), (wd_497 hE)⟩ ⟨PS.blind, vk_recv hX.1 (by decide) hS, ps_pre (av := [.ref (adK 3), .int (nI (13 + i_175))]) hX hS hE⟩ rfl rfl hl.1 rfl (lv_room (Nat.le_of_ble_eq_true rfl)) dX12_key_86 ⟨Nat.le_of_ble_eq_true rfl, Nat.le_of_ble_eq_true rfl⟩)) (fun r184 hr184 => ?_)
                        refine lv_aload_n hx hb dX12_key_89 rfl (lv_at hl 0 rfl) ?_
                        refine lv_aload_n hx hb dX12_key_90 rfl (lv_at hl 0 rfl) ?_
                        refine r_get (v := .int (nI p0)) hx hb (ly_X12 hE) hown hK hP rfl 13 (by decide) (wd_1394 hE) (fun _ h9 => h9) (congrArg (fun z : Int32 => some (Value.int z)) te13_2) dX12_key_91 ?_
                        refine lv_iload hx hb dX12_key_94 (lv_at hl 5 rfl) ?_
                        refine lv_iadd hx hb dX12_key_96 ?_
                        refine W.eq (g2 := F0 m 97 ls [.int (nI (p0 + i_175)), .ref (b 0), .int r184]) (congrArg (fun z : Int32 => F0 m 97 ls (.int z :: [.ref (b 0), .int r184])) (nI_add p0 i_175)) ?_
                        refine vp_callSi (va_Run.run (va_runV (As := [.int (nI (p0 + i_175))]) (rest := [.int r184]) ⟨hx, hb, hml, hown, noTs⟩ (r_X12_byteAt l dC dI s.heap.size cs b u tx hAc16 (p0 + i_175) sz1 hF11 (by first | assumption | omega | rfl | (congr 1; omega)) (by first | assumption | omega | rfl | (congr 1; omega))) ⟨cbE 1 (wd_1510 hE) (wd_126 hE) (wd_1507 hE) rfl rfl (by decide +kernel) ⟨Nat.le_of_ble_eq_true rfl, Nat.le_of_ble_eq_true rfl⟩, (wd_1509 hE), (wd_57 hE)⟩ ⟨PR.blind, r_recv hK hP rfl, (r_pre (av := [.ref (b 0), .int (nI (p0 + i_175))]) hK hP hJ hE)⟩ rfl rfl hl.1 rfl (lv_room (Nat.le_of_ble_eq_true rfl)) dX12_key_97 ⟨Nat.le_of_ble_eq_true rfl, Nat.le_of_ble_eq_true rfl⟩)) (fun r185 hr185 => ?_)
                        subst hr185
                        have htf185 := bA_f tx sz1 (p0 + i_175)
                        have HRC := hr184
                        have RCH := ch_13 i_175 (by omega)
                        refine lv_icmp_ne (tgt := 107) hx hb dX12_key_100 (by decide) (fun c186 => ?_) (fun c186 => ?_)
                        · have c186 := mt (b_eq (rfl : Int32.toInt r184 = _) (rfl : Int32.toInt (bA tx sz1 (p0 + i_175)) = _)).mpr c186
                          have NE : bA tx sz1 (p0 + i_175) ≠ (kW 13).getD i_175 0 := by rw [← RCH, ← HRC]; intro e; have := congrArg Int32.toInt e; omega
                          refine lv_iconst (v := 0) hx hb dX12_key_107 (by decide) ?_
                          refine lv_istore (lv' := [(4, .int 0), (0, .ref (b 0)), (1, .int 2), (2, .int 13), (3, .int 17), (5, .int (nI i_175))]) hx hb dX12_key_108 hl (by decide) rfl (fun ls hl => ?_)
                          refine lv_iinc (v := nI (i_175 + 1)) (lv' := [(5, .int (nI (i_175 + 1))), (4, .int 0), (0, .ref (b 0)), (1, .int 2), (2, .int 13), (3, .int 17)]) hx hb dX12_key_110 hl (k := 5) rfl (nI_1 i_175) (by decide) rfl (fun ls hl => ?_)
                          refine lv_goto (tgt := 67) hx hb dX12_key_113 (by decide) ?_
                          exact ih175 _ _ (by omega) ⟨(i_175 + 1), 0, rfl, (by first | assumption | omega | rfl | (congr 1; omega)), (by first | exact Or.inl rfl | exact Or.inr rfl), (by first | (intro _; exact ⟨(hL175_2 X1).1, fun q hq => by rcases Nat.lt_or_ge q i_175 with h | h; (exact (hL175_2 X1).2 q h); (obtain rfl : q = i_175 := by omega); exact EQ⟩) | (intro h; exact absurd h (by decide))), (by first | (intro h; exact absurd h (by decide)) | (intro _; exact eqw_at (w := kW 13) (by have : (kW 13).length = 17 - 13 := rfl; omega) NE)), lv_sub hl [2, 3, 4, 5, 1, 0] rfl⟩
                        · have c186 := (b_eq (rfl : Int32.toInt r184 = _) (rfl : Int32.toInt (bA tx sz1 (p0 + i_175)) = _)).mp c186
                          have EQ : bA tx sz1 (p0 + i_175) = (kW 13).getD i_175 0 := by rw [← RCH, ← HRC]; exact Int32.toInt_inj.mp (by omega)
                          refine lv_iconst (v := 1) hx hb dX12_key_103 (by decide) ?_
                          refine lv_goto (tgt := 108) hx hb dX12_key_104 (by decide) ?_
                          refine lv_istore (lv' := [(4, .int 1), (0, .ref (b 0)), (1, .int 2), (2, .int 13), (3, .int 17), (5, .int (nI i_175))]) hx hb dX12_key_108 hl (by decide) rfl (fun ls hl => ?_)
                          refine lv_iinc (v := nI (i_175 + 1)) (lv' := [(5, .int (nI (i_175 + 1))), (4, .int 1), (0, .ref (b 0)), (1, .int 2), (2, .int 13), (3, .int 17)]) hx hb dX12_key_110 hl (k := 5) rfl (nI_1 i_175) (by decide) rfl (fun ls hl => ?_)
                          refine lv_goto (tgt := 67) hx hb dX12_key_113 (by decide) ?_
                          exact ih175 _ _ (by omega) ⟨(i_175 + 1), 1, rfl, (by first | assumption | omega | rfl | (congr 1; omega)), (by first | exact Or.inl rfl | exact Or.inr rfl), (by first | (intro _; exact ⟨(hL175_2 X1).1, fun q hq => by rcases Nat.lt_or_ge q i_175 with h | h; (exact (hL175_2 X1).2 q h); (obtain rfl : q = i_175 := by omega); exact EQ⟩) | (intro h; exact absurd h (by decide))), (by first | (intro h; exact absurd h (by decide)) | (intro _; exact eqw_at (w := kW 13) (by have : (kW 13).length = 17 - 13 := rfl; omega) NE)), lv_sub hl [2, 3, 4, 5, 1, 0] rfl⟩
                  · have c174 := (b_eq (show Int32.toInt 4 = 4 from rfl) (nI_toInt (n := (tnd tx sz1 p0) - p0) (by omega))).mp c174
                    refine lv_iconst (v := 1) hx hb dX12_key_57 (by decide) ?_
                    refine lv_goto (tgt := 62) hx hb dX12_key_58 (by decide) ?_
                    refine lv_istore (lv' := [(4, .int 1), (3, .int 17), (2, .int 13), (1, .int 2), (0, .ref (b 0)), (5, .int (nI i_120))]) hx hb dX12_key_62 hl (by decide) rfl (fun ls hl => ?_)
                    refine lv_iconst (v := 0) hx hb dX12_key_64 (by decide) ?_
                    refine lv_istore (lv' := [(5, .int 0), (4, .int 1), (3, .int 17), (2, .int 13), (1, .int 2), (0, .ref (b 0))]) hx hb dX12_key_65 hl (by decide) rfl (fun ls hl => ?_)
                    refine r_indP (I := fun n ls => ∃ (i_187 : Nat) (x1_187 : Int32), n = 17 - 13 - i_187 ∧ (i_187 ≤ 17 - 13) ∧ (x1_187 = 0 ∨ x1_187 = 1) ∧ (x1_187 = 1 → tnd tx sz1 p0 - p0 = 17 - 13 ∧ ∀ q, q < i_187 → bA tx sz1 (p0 + q) = (kW 13).getD q 0) ∧ (x1_187 = 0 → eqw tx sz1 (kW 13) p0 = false) ∧ lv_has ls 6 [(0, .ref (b 0)), (1, .int 2), (2, .int 13), (3, .int 17), (4, .int x1_187), (5, .int (nI i_187))]) (fun n ls hI ih187 => ?_) _ _ ⟨0, 1, rfl, (by first | assumption | omega | rfl | (congr 1; omega)), (by first | exact Or.inl rfl | exact Or.inr rfl), (by first | (intro _; exact ⟨by omega, fun q hq => absurd hq (by omega)⟩) | (intro h; exact absurd h (by decide))), (by first | (intro h; exact absurd h (by decide)) | (intro _; exact eqw_len (w := kW 13) (l := 17 - 13) rfl (by omega))), lv_sub hl [5, 4, 3, 2, 1, 0] rfl⟩
                    obtain ⟨i_187, x1_187, hmu187, hL187_0, hL187_1, hL187_2, hL187_3, hl⟩ := hI
                    subst hmu187
                    refine lv_iload hx hb dX12_key_67 (lv_at hl 5 rfl) ?_
                    refine lv_iload_n hx hb dX12_key_69 rfl (lv_at hl 3 rfl) ?_
                    refine lv_iload_n hx hb dX12_key_70 rfl (lv_at hl 2 rfl) ?_
                    refine lv_isub hx hb dX12_key_71 ?_
                    refine W.eq (g2 := F0 m 72 ls [.int 4, .int (nI i_187)]) rfl ?_
                    refine lv_icmp_ge (tgt := 116) hx hb dX12_key_72 (by decide) (fun c188 => ?_) (fun c188 => ?_)
                    · have c188 := (b_le (show Int32.toInt 4 = 4 from rfl) (nI_toInt (n := i_187) (by omega))).mp c188
                      refine lv_iload hx hb dX12_key_116 (lv_at hl 4 rfl) ?_
                      refine lv_if_eq (tgt := 123) hx hb dX12_key_118 (by decide) (fun c189 => ?_) (fun c189 => ?_)
                      · have c189 := (b_eq (rfl : Int32.toInt x1_187 = _) (show Int32.toInt 0 = 0 from rfl)).mp c189
                        have EW13 : eqw tx sz1 (kW 13) p0 = false := hL187_3 (i0_of (by omega))
                        refine lv_iinc (v := 3) (lv' := [(1, .int 3), (0, .ref (b 0)), (2, .int 13), (3, .int 17), (4, .int x1_187), (5, .int (nI i_187))]) hx hb dX12_key_123 hl (k := 1) rfl (by decide) (by decide) rfl (fun ls hl => ?_)
                        refine lv_iload_n hx hb dX12_key_126 rfl (lv_at hl 3 rfl) ?_
                        refine lv_iconst (v := 1) hx hb dX12_key_127 (by decide) ?_
                        refine lv_iadd hx hb dX12_key_128 ?_
                        refine W.eq (g2 := F0 m 129 ls [.int 18]) rfl ?_
                        refine lv_istore_n (lv' := [(2, .int 18), (1, .int 3), (0, .ref (b 0)), (3, .int 17), (4, .int x1_187), (5, .int (nI i_187))]) hx hb dX12_key_129 rfl hl (by decide) rfl (fun ls hl => ?_)
                        refine lv_goto (tgt := 14) hx hb dX12_key_130 (by decide) ?_
                        refine lv_iload_n hx hb dX12_key_14 rfl (lv_at hl 0 rfl) ?_
                        refine va_ldcS hx hb hown hZ dX12_key_15 ?_
                        refine vp_callSi (va_Run.run (va_runV (As := []) (rest := [.int 18]) ⟨hx, hb, hml, hown, noTs⟩ (s_J0_length l adK adV 3 (by decide)) ⟨cbE 0 (wd_488 hE) (wd_129 hE) (wd_1527 hE) rfl rfl (by decide +kernel) ⟨Nat.le_of_ble_eq_true rfl, Nat.le_of_ble_eq_true rfl⟩, (wd_486 hE), (wd_487 hE)⟩ ⟨PS.blind, vk_recv hX.1 (by decide) hS, ps_pre (av := [.ref (adK 3)]) hX hS hE⟩ rfl rfl hl.1 rfl (lv_room (Nat.le_of_ble_eq_true rfl)) dX12_key_17 ⟨Nat.le_of_ble_eq_true rfl, Nat.le_of_ble_eq_true rfl⟩)) (fun r190 hr190 => ?_)
                        have hr190 : r190 = 18 := hr190
                        subst hr190
                        refine lv_icmp_ge (tgt := 133) hx hb dX12_key_20 (by decide) (fun c191 => ?_) (fun c191 => absurd c191 (by decide))
                        refine lv_iconst (v := -1) hx hb dX12_key_133 (by decide) ?_
                        exact W.iret (v := -1) hx hb hr (fun t ht hW => ⟨-1, rfl, Or.inr (Or.inr (Or.inr (⟨rfl, by first | omega | (have q := (kd_word (tx := tx) (n := sz1) (p := p0) (by omega)).trans ((if_neg (by rw [show eqw tx sz1 wVx p0 = false from EW1]; decide)).trans ((if_neg (by rw [show eqw tx sz1 wEd p0 = false from EW8]; decide)).trans (if_neg (by rw [show eqw tx sz1 wWo p0 = false from EW13]; decide)))); omega)⟩))), ht⟩) (fun _ h => absurd h List.not_mem_nil) dX12_key_134
                      · have c189 := mt (b_eq (rfl : Int32.toInt x1_187 = _) (show Int32.toInt 0 = 0 from rfl)).mpr c189
                        have X2 : x1_187 = 1 := i1_of hL187_1 (by omega)
                        have EW13 : eqw tx sz1 (kW 13) p0 = true := by first | exact eqw_t.mpr ⟨(hL187_2 X2).1.trans rfl, fun q hq => (hL187_2 X2).2 q (by have : (kW 13).length = 17 - 13 := rfl; omega)⟩ | (exfalso; omega)
                        refine lv_iload_n hx hb dX12_key_121 rfl (lv_at hl 1 rfl) ?_
                        exact W.iret (v := 2) hx hb hr (fun t ht hW => ⟨2, rfl, Or.inr (Or.inr (Or.inl ⟨rfl, by exact (kd_word (by omega)).trans ((if_neg (by rw [show eqw tx sz1 wVx p0 = false from EW1]; decide)).trans ((if_neg (by rw [show eqw tx sz1 wEd p0 = false from EW8]; decide)).trans (if_pos EW13)))⟩)), ht⟩) (fun _ h => absurd h List.not_mem_nil) dX12_key_122
                    · have c188 := mt (b_le (show Int32.toInt 4 = 4 from rfl) (nI_toInt (n := i_187) (by omega))).mpr c188
                      refine lv_iload hx hb dX12_key_75 (lv_at hl 4 rfl) ?_
                      refine lv_if_eq (tgt := 116) hx hb dX12_key_77 (by decide) (fun c192 => ?_) (fun c192 => ?_)
                      · have c192 := (b_eq (rfl : Int32.toInt x1_187 = _) (show Int32.toInt 0 = 0 from rfl)).mp c192
                        refine lv_iload hx hb dX12_key_116 (lv_at hl 4 rfl) ?_
                        refine lv_if_eq (tgt := 123) hx hb dX12_key_118 (by decide) (fun c193 => ?_) (fun c193 => ?_)
                        · have c193 := (b_eq (rfl : Int32.toInt x1_187 = _) (show Int32.toInt 0 = 0 from rfl)).mp c193
                          have EW13 : eqw tx sz1 (kW 13) p0 = false := hL187_3 (i0_of (by omega))
                          refine lv_iinc (v := 3) (lv' := [(1, .int 3), (0, .ref (b 0)), (2, .int 13), (3, .int 17), (4, .int x1_187), (5, .int (nI i_187))]) hx hb dX12_key_123 hl (k := 1) rfl (by decide) (by decide) rfl (fun ls hl => ?_)
                          refine lv_iload_n hx hb dX12_key_126 rfl (lv_at hl 3 rfl) ?_
                          refine lv_iconst (v := 1) hx hb dX12_key_127 (by decide) ?_
                          refine lv_iadd hx hb dX12_key_128 ?_
                          refine W.eq (g2 := F0 m 129 ls [.int 18]) rfl ?_
                          refine lv_istore_n (lv' := [(2, .int 18), (1, .int 3), (0, .ref (b 0)), (3, .int 17), (4, .int x1_187), (5, .int (nI i_187))]) hx hb dX12_key_129 rfl hl (by decide) rfl (fun ls hl => ?_)
                          refine lv_goto (tgt := 14) hx hb dX12_key_130 (by decide) ?_
                          refine lv_iload_n hx hb dX12_key_14 rfl (lv_at hl 0 rfl) ?_
                          refine va_ldcS hx hb hown hZ dX12_key_15 ?_
                          refine vp_callSi (va_Run.run (va_runV (As := []) (rest := [.int 18]) ⟨hx, hb, hml, hown, noTs⟩ (s_J0_length l adK adV 3 (by decide)) ⟨cbE 0 (wd_488 hE) (wd_129 hE) (wd_1527 hE) rfl rfl (by decide +kernel) ⟨Nat.le_of_ble_eq_true rfl, Nat.le_of_ble_eq_true rfl⟩, (wd_486 hE), (wd_487 hE)⟩ ⟨PS.blind, vk_recv hX.1 (by decide) hS, ps_pre (av := [.ref (adK 3)]) hX hS hE⟩ rfl rfl hl.1 rfl (lv_room (Nat.le_of_ble_eq_true rfl)) dX12_key_17 ⟨Nat.le_of_ble_eq_true rfl, Nat.le_of_ble_eq_true rfl⟩)) (fun r194 hr194 => ?_)
                          have hr194 : r194 = 18 := hr194
                          subst hr194
                          refine lv_icmp_ge (tgt := 133) hx hb dX12_key_20 (by decide) (fun c195 => ?_) (fun c195 => absurd c195 (by decide))
                          refine lv_iconst (v := -1) hx hb dX12_key_133 (by decide) ?_
                          exact W.iret (v := -1) hx hb hr (fun t ht hW => ⟨-1, rfl, Or.inr (Or.inr (Or.inr (⟨rfl, by first | omega | (have q := (kd_word (tx := tx) (n := sz1) (p := p0) (by omega)).trans ((if_neg (by rw [show eqw tx sz1 wVx p0 = false from EW1]; decide)).trans ((if_neg (by rw [show eqw tx sz1 wEd p0 = false from EW8]; decide)).trans (if_neg (by rw [show eqw tx sz1 wWo p0 = false from EW13]; decide)))); omega)⟩))), ht⟩) (fun _ h => absurd h List.not_mem_nil) dX12_key_134
                        · have c193 := mt (b_eq (rfl : Int32.toInt x1_187 = _) (show Int32.toInt 0 = 0 from rfl)).mpr c193
                          have X2 : x1_187 = 1 := i1_of hL187_1 (by omega)
                          have EW13 : eqw tx sz1 (kW 13) p0 = true := by first | exact eqw_t.mpr ⟨(hL187_2 X2).1.trans rfl, fun q hq => (hL187_2 X2).2 q (by have : (kW 13).length = 17 - 13 := rfl; omega)⟩ | (exfalso; omega)
                          refine lv_iload_n hx hb dX12_key_121 rfl (lv_at hl 1 rfl) ?_
                          exact W.iret (v := 2) hx hb hr (fun t ht hW => ⟨2, rfl, Or.inr (Or.inr (Or.inl ⟨rfl, by exact (kd_word (by omega)).trans ((if_neg (by rw [show eqw tx sz1 wVx p0 = false from EW1]; decide)).trans ((if_neg (by rw [show eqw tx sz1 wEd p0 = false from EW8]; decide)).trans (if_pos EW13)))⟩)), ht⟩) (fun _ h => absurd h List.not_mem_nil) dX12_key_122
                      · have c192 := mt (b_eq (rfl : Int32.toInt x1_187 = _) (show Int32.toInt 0 = 0 from rfl)).mpr c192
                        have X1 : x1_187 = 1 := i1_of hL187_1 (by omega)
                        refine va_ldcS hx hb hown hZ dX12_key_80 ?_
                        refine lv_iload_n hx hb dX12_key_82 rfl (lv_at hl 2 rfl) ?_
                        refine lv_iload hx hb dX12_key_83 (lv_at hl 5 rfl) ?_
                        refine lv_iadd hx hb dX12_key_85 ?_
                        refine W.eq (g2 := F0 m 86 ls [.int (nI (13 + i_187)), .ref (adK 3)]) (congrArg (fun z : Int32 => F0 m 86 ls (.int z :: [.ref (adK 3)])) (nI_add 13 i_187)) ?_
                        refine vp_callSi (va_Run.run (va_runV (As := [.int (nI (13 + i_187))]) (rest := []) ⟨hx, hb, hml, hown, noTs⟩ (s_J0_charAt l adK adV 3 (13 + i_187) (by decide) (by show _ < 18; omega)) ⟨cbE 1 (wd_498 hE) (wd_129 hE) (wd_1528 hE) rfl rfl (by decide +kernel) ⟨Nat.le_of_ble_eq_true rfl, Nat.le_of_ble_eq_true rfl⟩, (wd_496 hE), (wd_497 hE)⟩ ⟨PS.blind, vk_recv hX.1 (by decide) hS, ps_pre (av := [.ref (adK 3), .int (nI (13 + i_187))]) hX hS hE⟩ rfl rfl hl.1 rfl (lv_room (Nat.le_of_ble_eq_true rfl)) dX12_key_86 ⟨Nat.le_of_ble_eq_true rfl, Nat.le_of_ble_eq_true rfl⟩)) (fun r196 hr196 => ?_)
                        refine lv_aload_n hx hb dX12_key_89 rfl (lv_at hl 0 rfl) ?_
                        refine lv_aload_n hx hb dX12_key_90 rfl (lv_at hl 0 rfl) ?_
                        refine r_get (v := .int (nI p0)) hx hb (ly_X12 hE) hown hK hP rfl 13 (by decide) (wd_1394 hE) (fun _ h9 => h9) (congrArg (fun z : Int32 => some (Value.int z)) te13_2) dX12_key_91 ?_
                        refine lv_iload hx hb dX12_key_94 (lv_at hl 5 rfl) ?_
                        refine lv_iadd hx hb dX12_key_96 ?_
                        refine W.eq (g2 := F0 m 97 ls [.int (nI (p0 + i_187)), .ref (b 0), .int r196]) (congrArg (fun z : Int32 => F0 m 97 ls (.int z :: [.ref (b 0), .int r196])) (nI_add p0 i_187)) ?_
                        refine vp_callSi (va_Run.run (va_runV (As := [.int (nI (p0 + i_187))]) (rest := [.int r196]) ⟨hx, hb, hml, hown, noTs⟩ (r_X12_byteAt l dC dI s.heap.size cs b u tx hAc16 (p0 + i_187) sz1 hF11 (by first | assumption | omega | rfl | (congr 1; omega)) (by first | assumption | omega | rfl | (congr 1; omega))) ⟨cbE 1 (wd_1510 hE) (wd_126 hE) (wd_1507 hE) rfl rfl (by decide +kernel) ⟨Nat.le_of_ble_eq_true rfl, Nat.le_of_ble_eq_true rfl⟩, (wd_1509 hE), (wd_57 hE)⟩ ⟨PR.blind, r_recv hK hP rfl, (r_pre (av := [.ref (b 0), .int (nI (p0 + i_187))]) hK hP hJ hE)⟩ rfl rfl hl.1 rfl (lv_room (Nat.le_of_ble_eq_true rfl)) dX12_key_97 ⟨Nat.le_of_ble_eq_true rfl, Nat.le_of_ble_eq_true rfl⟩)) (fun r197 hr197 => ?_)
                        subst hr197
                        have htf197 := bA_f tx sz1 (p0 + i_187)
                        have HRC := hr196
                        have RCH := ch_13 i_187 (by omega)
                        refine lv_icmp_ne (tgt := 107) hx hb dX12_key_100 (by decide) (fun c198 => ?_) (fun c198 => ?_)
                        · have c198 := mt (b_eq (rfl : Int32.toInt r196 = _) (rfl : Int32.toInt (bA tx sz1 (p0 + i_187)) = _)).mpr c198
                          have NE : bA tx sz1 (p0 + i_187) ≠ (kW 13).getD i_187 0 := by rw [← RCH, ← HRC]; intro e; have := congrArg Int32.toInt e; omega
                          refine lv_iconst (v := 0) hx hb dX12_key_107 (by decide) ?_
                          refine lv_istore (lv' := [(4, .int 0), (0, .ref (b 0)), (1, .int 2), (2, .int 13), (3, .int 17), (5, .int (nI i_187))]) hx hb dX12_key_108 hl (by decide) rfl (fun ls hl => ?_)
                          refine lv_iinc (v := nI (i_187 + 1)) (lv' := [(5, .int (nI (i_187 + 1))), (4, .int 0), (0, .ref (b 0)), (1, .int 2), (2, .int 13), (3, .int 17)]) hx hb dX12_key_110 hl (k := 5) rfl (nI_1 i_187) (by decide) rfl (fun ls hl => ?_)
                          refine lv_goto (tgt := 67) hx hb dX12_key_113 (by decide) ?_
                          exact ih187 _ _ (by omega) ⟨(i_187 + 1), 0, rfl, (by first | assumption | omega | rfl | (congr 1; omega)), (by first | exact Or.inl rfl | exact Or.inr rfl), (by first | (intro _; exact ⟨(hL187_2 X1).1, fun q hq => by rcases Nat.lt_or_ge q i_187 with h | h; (exact (hL187_2 X1).2 q h); (obtain rfl : q = i_187 := by omega); exact EQ⟩) | (intro h; exact absurd h (by decide))), (by first | (intro h; exact absurd h (by decide)) | (intro _; exact eqw_at (w := kW 13) (by have : (kW 13).length = 17 - 13 := rfl; omega) NE)), lv_sub hl [2, 3, 4, 5, 1, 0] rfl⟩
                        · have c198 := (b_eq (rfl : Int32.toInt r196 = _) (rfl : Int32.toInt (bA tx sz1 (p0 + i_187)) = _)).mp c198
                          have EQ : bA tx sz1 (p0 + i_187) = (kW 13).getD i_187 0 := by rw [← RCH, ← HRC]; exact Int32.toInt_inj.mp (by omega)
                          refine lv_iconst (v := 1) hx hb dX12_key_103 (by decide) ?_
                          refine lv_goto (tgt := 108) hx hb dX12_key_104 (by decide) ?_
                          refine lv_istore (lv' := [(4, .int 1), (0, .ref (b 0)), (1, .int 2), (2, .int 13), (3, .int 17), (5, .int (nI i_187))]) hx hb dX12_key_108 hl (by decide) rfl (fun ls hl => ?_)
                          refine lv_iinc (v := nI (i_187 + 1)) (lv' := [(5, .int (nI (i_187 + 1))), (4, .int 1), (0, .ref (b 0)), (1, .int 2), (2, .int 13), (3, .int 17)]) hx hb dX12_key_110 hl (k := 5) rfl (nI_1 i_187) (by decide) rfl (fun ls hl => ?_)
                          refine lv_goto (tgt := 67) hx hb dX12_key_113 (by decide) ?_
                          exact ih187 _ _ (by omega) ⟨(i_187 + 1), 1, rfl, (by first | assumption | omega | rfl | (congr 1; omega)), (by first | exact Or.inl rfl | exact Or.inr rfl), (by first | (intro _; exact ⟨(hL187_2 X1).1, fun q hq => by rcases Nat.lt_or_ge q i_187 with h | h; (exact (hL187_2 X1).2 q h); (obtain rfl : q = i_187 := by omega); exact EQ⟩) | (intro h; exact absurd h (by decide))), (by first | (intro h; exact absurd h (by decide)) | (intro _; exact eqw_at (w := kW 13) (by have : (kW 13).length = 17 - 13 := rfl; omega) NE)), lv_sub hl [2, 3, 4, 5, 1, 0] rfl⟩
                · have c161 := mt (b_eq (rfl : Int32.toInt x1_120 = _) (show Int32.toInt 0 = 0 from rfl)).mpr c161
                  have X2 : x1_120 = 1 := i1_of hL120_1 (by omega)
                  have EW8 : eqw tx sz1 (kW 8) p0 = true := by first | exact eqw_t.mpr ⟨(hL120_2 X2).1.trans rfl, fun q hq => (hL120_2 X2).2 q (by have : (kW 8).length = 12 - 8 := rfl; omega)⟩ | (exfalso; omega)
                  refine lv_iload_n hx hb dX12_key_121 rfl (lv_at hl 1 rfl) ?_
                  exact W.iret (v := 1) hx hb hr (fun t ht hW => ⟨1, rfl, Or.inr (Or.inl ⟨rfl, by exact (kd_word (by omega)).trans ((if_neg (by rw [show eqw tx sz1 wVx p0 = false from EW1]; decide)).trans (if_pos EW8))⟩), ht⟩) (fun _ h => absurd h List.not_mem_nil) dX12_key_122
              · have c160 := mt (b_eq (rfl : Int32.toInt x1_120 = _) (show Int32.toInt 0 = 0 from rfl)).mpr c160
                have X1 : x1_120 = 1 := i1_of hL120_1 (by omega)
                refine va_ldcS hx hb hown hZ dX12_key_80 ?_
                refine lv_iload_n hx hb dX12_key_82 rfl (lv_at hl 2 rfl) ?_
                refine lv_iload hx hb dX12_key_83 (lv_at hl 5 rfl) ?_
                refine lv_iadd hx hb dX12_key_85 ?_
                refine W.eq (g2 := F0 m 86 ls [.int (nI (8 + i_120)), .ref (adK 3)]) (congrArg (fun z : Int32 => F0 m 86 ls (.int z :: [.ref (adK 3)])) (nI_add 8 i_120)) ?_
                refine vp_callSi (va_Run.run (va_runV (As := [.int (nI (8 + i_120))]) (rest := []) ⟨hx, hb, hml, hown, noTs⟩ (s_J0_charAt l adK adV 3 (8 + i_120) (by decide) (by show _ < 18; omega)) ⟨cbE 1 (wd_498 hE) (wd_129 hE) (wd_1528 hE) rfl rfl (by decide +kernel) ⟨Nat.le_of_ble_eq_true rfl, Nat.le_of_ble_eq_true rfl⟩, (wd_496 hE), (wd_497 hE)⟩ ⟨PS.blind, vk_recv hX.1 (by decide) hS, ps_pre (av := [.ref (adK 3), .int (nI (8 + i_120))]) hX hS hE⟩ rfl rfl hl.1 rfl (lv_room (Nat.le_of_ble_eq_true rfl)) dX12_key_86 ⟨Nat.le_of_ble_eq_true rfl, Nat.le_of_ble_eq_true rfl⟩)) (fun r199 hr199 => ?_)
                refine lv_aload_n hx hb dX12_key_89 rfl (lv_at hl 0 rfl) ?_
                refine lv_aload_n hx hb dX12_key_90 rfl (lv_at hl 0 rfl) ?_
                refine r_get (v := .int (nI p0)) hx hb (ly_X12 hE) hown hK hP rfl 13 (by decide) (wd_1394 hE) (fun _ h9 => h9) (congrArg (fun z : Int32 => some (Value.int z)) te13_2) dX12_key_91 ?_
                refine lv_iload hx hb dX12_key_94 (lv_at hl 5 rfl) ?_
                refine lv_iadd hx hb dX12_key_96 ?_
                refine W.eq (g2 := F0 m 97 ls [.int (nI (p0 + i_120)), .ref (b 0), .int r199]) (congrArg (fun z : Int32 => F0 m 97 ls (.int z :: [.ref (b 0), .int r199])) (nI_add p0 i_120)) ?_
                refine vp_callSi (va_Run.run (va_runV (As := [.int (nI (p0 + i_120))]) (rest := [.int r199]) ⟨hx, hb, hml, hown, noTs⟩ (r_X12_byteAt l dC dI s.heap.size cs b u tx hAc16 (p0 + i_120) sz1 hF11 (by first | assumption | omega | rfl | (congr 1; omega)) (by first | assumption | omega | rfl | (congr 1; omega))) ⟨cbE 1 (wd_1510 hE) (wd_126 hE) (wd_1507 hE) rfl rfl (by decide +kernel) ⟨Nat.le_of_ble_eq_true rfl, Nat.le_of_ble_eq_true rfl⟩, (wd_1509 hE), (wd_57 hE)⟩ ⟨PR.blind, r_recv hK hP rfl, (r_pre (av := [.ref (b 0), .int (nI (p0 + i_120))]) hK hP hJ hE)⟩ rfl rfl hl.1 rfl (lv_room (Nat.le_of_ble_eq_true rfl)) dX12_key_97 ⟨Nat.le_of_ble_eq_true rfl, Nat.le_of_ble_eq_true rfl⟩)) (fun r200 hr200 => ?_)
                subst hr200
                have htf200 := bA_f tx sz1 (p0 + i_120)
                have HRC := hr199
                have RCH := ch_8 i_120 (by omega)
                refine lv_icmp_ne (tgt := 107) hx hb dX12_key_100 (by decide) (fun c201 => ?_) (fun c201 => ?_)
                · have c201 := mt (b_eq (rfl : Int32.toInt r199 = _) (rfl : Int32.toInt (bA tx sz1 (p0 + i_120)) = _)).mpr c201
                  have NE : bA tx sz1 (p0 + i_120) ≠ (kW 8).getD i_120 0 := by rw [← RCH, ← HRC]; intro e; have := congrArg Int32.toInt e; omega
                  refine lv_iconst (v := 0) hx hb dX12_key_107 (by decide) ?_
                  refine lv_istore (lv' := [(4, .int 0), (0, .ref (b 0)), (1, .int 1), (2, .int 8), (3, .int 12), (5, .int (nI i_120))]) hx hb dX12_key_108 hl (by decide) rfl (fun ls hl => ?_)
                  refine lv_iinc (v := nI (i_120 + 1)) (lv' := [(5, .int (nI (i_120 + 1))), (4, .int 0), (0, .ref (b 0)), (1, .int 1), (2, .int 8), (3, .int 12)]) hx hb dX12_key_110 hl (k := 5) rfl (nI_1 i_120) (by decide) rfl (fun ls hl => ?_)
                  refine lv_goto (tgt := 67) hx hb dX12_key_113 (by decide) ?_
                  exact ih120 _ _ (by omega) ⟨(i_120 + 1), 0, rfl, (by first | assumption | omega | rfl | (congr 1; omega)), (by first | exact Or.inl rfl | exact Or.inr rfl), (by first | (intro _; exact ⟨(hL120_2 X1).1, fun q hq => by rcases Nat.lt_or_ge q i_120 with h | h; (exact (hL120_2 X1).2 q h); (obtain rfl : q = i_120 := by omega); exact EQ⟩) | (intro h; exact absurd h (by decide))), (by first | (intro h; exact absurd h (by decide)) | (intro _; exact eqw_at (w := kW 8) (by have : (kW 8).length = 12 - 8 := rfl; omega) NE)), lv_sub hl [2, 3, 4, 5, 1, 0] rfl⟩
                · have c201 := (b_eq (rfl : Int32.toInt r199 = _) (rfl : Int32.toInt (bA tx sz1 (p0 + i_120)) = _)).mp c201
                  have EQ : bA tx sz1 (p0 + i_120) = (kW 8).getD i_120 0 := by rw [← RCH, ← HRC]; exact Int32.toInt_inj.mp (by omega)
                  refine lv_iconst (v := 1) hx hb dX12_key_103 (by decide) ?_
                  refine lv_goto (tgt := 108) hx hb dX12_key_104 (by decide) ?_
                  refine lv_istore (lv' := [(4, .int 1), (0, .ref (b 0)), (1, .int 1), (2, .int 8), (3, .int 12), (5, .int (nI i_120))]) hx hb dX12_key_108 hl (by decide) rfl (fun ls hl => ?_)
                  refine lv_iinc (v := nI (i_120 + 1)) (lv' := [(5, .int (nI (i_120 + 1))), (4, .int 1), (0, .ref (b 0)), (1, .int 1), (2, .int 8), (3, .int 12)]) hx hb dX12_key_110 hl (k := 5) rfl (nI_1 i_120) (by decide) rfl (fun ls hl => ?_)
                  refine lv_goto (tgt := 67) hx hb dX12_key_113 (by decide) ?_
                  exact ih120 _ _ (by omega) ⟨(i_120 + 1), 1, rfl, (by first | assumption | omega | rfl | (congr 1; omega)), (by first | exact Or.inl rfl | exact Or.inr rfl), (by first | (intro _; exact ⟨(hL120_2 X1).1, fun q hq => by rcases Nat.lt_or_ge q i_120 with h | h; (exact (hL120_2 X1).2 q h); (obtain rfl : q = i_120 := by omega); exact EQ⟩) | (intro h; exact absurd h (by decide))), (by first | (intro h; exact absurd h (by decide)) | (intro _; exact eqw_at (w := kW 8) (by have : (kW 8).length = 12 - 8 := rfl; omega) NE)), lv_sub hl [2, 3, 4, 5, 1, 0] rfl⟩
        · have c24 := mt (b_eq (rfl : Int32.toInt x1_22 = _) (show Int32.toInt 0 = 0 from rfl)).mpr c24
          have X2 : x1_22 = 1 := i1_of hL22_1 (by omega)
          have EW1 : eqw tx sz1 (kW 1) p0 = true := by first | exact eqw_t.mpr ⟨(hL22_2 X2).1.trans rfl, fun q hq => (hL22_2 X2).2 q (by have : (kW 1).length = 7 - 1 := rfl; omega)⟩ | (exfalso; omega)
          refine lv_iload_n hx hb dX12_key_121 rfl (lv_at hl 1 rfl) ?_
          exact W.iret (v := 0) hx hb hr (fun t ht hW => ⟨0, rfl, Or.inl ⟨rfl, by exact (kd_word (by omega)).trans (if_pos EW1)⟩, ht⟩) (fun _ h => absurd h List.not_mem_nil) dX12_key_122
      · have c23 := mt (b_le (show Int32.toInt 6 = 6 from rfl) (nI_toInt (n := i_22) (by omega))).mpr c23
        refine lv_iload hx hb dX12_key_75 (lv_at hl 4 rfl) ?_
        refine lv_if_eq (tgt := 116) hx hb dX12_key_77 (by decide) (fun c202 => ?_) (fun c202 => ?_)
        · have c202 := (b_eq (rfl : Int32.toInt x1_22 = _) (show Int32.toInt 0 = 0 from rfl)).mp c202
          refine lv_iload hx hb dX12_key_116 (lv_at hl 4 rfl) ?_
          refine lv_if_eq (tgt := 123) hx hb dX12_key_118 (by decide) (fun c203 => ?_) (fun c203 => ?_)
          · have c203 := (b_eq (rfl : Int32.toInt x1_22 = _) (show Int32.toInt 0 = 0 from rfl)).mp c203
            have EW1 : eqw tx sz1 (kW 1) p0 = false := hL22_3 (i0_of (by omega))
            refine lv_iinc (v := 1) (lv' := [(1, .int 1), (0, .ref (b 0)), (2, .int 1), (3, .int 7), (4, .int x1_22), (5, .int (nI i_22))]) hx hb dX12_key_123 hl (k := 1) rfl (by decide) (by decide) rfl (fun ls hl => ?_)
            refine lv_iload_n hx hb dX12_key_126 rfl (lv_at hl 3 rfl) ?_
            refine lv_iconst (v := 1) hx hb dX12_key_127 (by decide) ?_
            refine lv_iadd hx hb dX12_key_128 ?_
            refine W.eq (g2 := F0 m 129 ls [.int 8]) rfl ?_
            refine lv_istore_n (lv' := [(2, .int 8), (1, .int 1), (0, .ref (b 0)), (3, .int 7), (4, .int x1_22), (5, .int (nI i_22))]) hx hb dX12_key_129 rfl hl (by decide) rfl (fun ls hl => ?_)
            refine lv_goto (tgt := 14) hx hb dX12_key_130 (by decide) ?_
            refine lv_iload_n hx hb dX12_key_14 rfl (lv_at hl 0 rfl) ?_
            refine va_ldcS hx hb hown hZ dX12_key_15 ?_
            refine vp_callSi (va_Run.run (va_runV (As := []) (rest := [.int 8]) ⟨hx, hb, hml, hown, noTs⟩ (s_J0_length l adK adV 3 (by decide)) ⟨cbE 0 (wd_488 hE) (wd_129 hE) (wd_1527 hE) rfl rfl (by decide +kernel) ⟨Nat.le_of_ble_eq_true rfl, Nat.le_of_ble_eq_true rfl⟩, (wd_486 hE), (wd_487 hE)⟩ ⟨PS.blind, vk_recv hX.1 (by decide) hS, ps_pre (av := [.ref (adK 3)]) hX hS hE⟩ rfl rfl hl.1 rfl (lv_room (Nat.le_of_ble_eq_true rfl)) dX12_key_17 ⟨Nat.le_of_ble_eq_true rfl, Nat.le_of_ble_eq_true rfl⟩)) (fun r204 hr204 => ?_)
            have hr204 : r204 = 18 := hr204
            subst hr204
            refine lv_icmp_ge (tgt := 133) hx hb dX12_key_20 (by decide) (fun c205 => absurd c205 (by decide)) (fun c205 => ?_)
            refine lv_iload_n hx hb dX12_key_23 rfl (lv_at hl 0 rfl) ?_
            refine lv_istore_n (lv' := [(3, .int 8), (2, .int 8), (1, .int 1), (0, .ref (b 0)), (4, .int x1_22), (5, .int (nI i_22))]) hx hb dX12_key_24 rfl hl (by decide) rfl (fun ls hl => ?_)
            refine va_ldcS hx hb hown hZ dX12_key_25 ?_
            refine lv_iload_n hx hb dX12_key_27 rfl (lv_at hl 0 rfl) ?_
            refine vp_callSi (va_Run.run (va_runV (As := [.int (nI 8)]) (rest := []) ⟨hx, hb, hml, hown, noTs⟩ (s_J0_charAt l adK adV 3 8 (by decide) (by show _ < 18; omega)) ⟨cbE 1 (wd_498 hE) (wd_129 hE) (wd_1528 hE) rfl rfl (by decide +kernel) ⟨Nat.le_of_ble_eq_true rfl, Nat.le_of_ble_eq_true rfl⟩, (wd_496 hE), (wd_497 hE)⟩ ⟨PS.blind, vk_recv hX.1 (by decide) hS, ps_pre (av := [.ref (adK 3), .int (nI 8)]) hX hS hE⟩ rfl rfl hl.1 rfl (lv_room (Nat.le_of_ble_eq_true rfl)) dX12_key_28 ⟨Nat.le_of_ble_eq_true rfl, Nat.le_of_ble_eq_true rfl⟩)) (fun r206 hr206 => ?_)
            have hr206 : r206 = 101 := hr206.trans (by decide)
            subst hr206
            refine lv_bipush (v := 32) hx hb dX12_key_31 (by decide) ?_
            refine lv_icmp_eq (tgt := 42) hx hb dX12_key_33 (by decide) (fun c207 => absurd c207 (by decide)) (fun c207 => ?_)
            refine lv_iinc (v := 9) (lv' := [(3, .int 9), (2, .int 8), (1, .int 1), (0, .ref (b 0)), (4, .int x1_22), (5, .int (nI i_22))]) hx hb dX12_key_36 hl (k := 0) rfl (by decide) (by decide) rfl (fun ls hl => ?_)
            refine lv_goto (tgt := 25) hx hb dX12_key_39 (by decide) ?_
            refine va_ldcS hx hb hown hZ dX12_key_25 ?_
            refine lv_iload_n hx hb dX12_key_27 rfl (lv_at hl 0 rfl) ?_
            refine vp_callSi (va_Run.run (va_runV (As := [.int (nI 9)]) (rest := []) ⟨hx, hb, hml, hown, noTs⟩ (s_J0_charAt l adK adV 3 9 (by decide) (by show _ < 18; omega)) ⟨cbE 1 (wd_498 hE) (wd_129 hE) (wd_1528 hE) rfl rfl (by decide +kernel) ⟨Nat.le_of_ble_eq_true rfl, Nat.le_of_ble_eq_true rfl⟩, (wd_496 hE), (wd_497 hE)⟩ ⟨PS.blind, vk_recv hX.1 (by decide) hS, ps_pre (av := [.ref (adK 3), .int (nI 9)]) hX hS hE⟩ rfl rfl hl.1 rfl (lv_room (Nat.le_of_ble_eq_true rfl)) dX12_key_28 ⟨Nat.le_of_ble_eq_true rfl, Nat.le_of_ble_eq_true rfl⟩)) (fun r208 hr208 => ?_)
            have hr208 : r208 = 100 := hr208.trans (by decide)
            subst hr208
            refine lv_bipush (v := 32) hx hb dX12_key_31 (by decide) ?_
            refine lv_icmp_eq (tgt := 42) hx hb dX12_key_33 (by decide) (fun c209 => absurd c209 (by decide)) (fun c209 => ?_)
            refine lv_iinc (v := 10) (lv' := [(3, .int 10), (2, .int 8), (1, .int 1), (0, .ref (b 0)), (4, .int x1_22), (5, .int (nI i_22))]) hx hb dX12_key_36 hl (k := 0) rfl (by decide) (by decide) rfl (fun ls hl => ?_)
            refine lv_goto (tgt := 25) hx hb dX12_key_39 (by decide) ?_
            refine va_ldcS hx hb hown hZ dX12_key_25 ?_
            refine lv_iload_n hx hb dX12_key_27 rfl (lv_at hl 0 rfl) ?_
            refine vp_callSi (va_Run.run (va_runV (As := [.int (nI 10)]) (rest := []) ⟨hx, hb, hml, hown, noTs⟩ (s_J0_charAt l adK adV 3 10 (by decide) (by show _ < 18; omega)) ⟨cbE 1 (wd_498 hE) (wd_129 hE) (wd_1528 hE) rfl rfl (by decide +kernel) ⟨Nat.le_of_ble_eq_true rfl, Nat.le_of_ble_eq_true rfl⟩, (wd_496 hE), (wd_497 hE)⟩ ⟨PS.blind, vk_recv hX.1 (by decide) hS, ps_pre (av := [.ref (adK 3), .int (nI 10)]) hX hS hE⟩ rfl rfl hl.1 rfl (lv_room (Nat.le_of_ble_eq_true rfl)) dX12_key_28 ⟨Nat.le_of_ble_eq_true rfl, Nat.le_of_ble_eq_true rfl⟩)) (fun r210 hr210 => ?_)
            have hr210 : r210 = 103 := hr210.trans (by decide)
            subst hr210
            refine lv_bipush (v := 32) hx hb dX12_key_31 (by decide) ?_
            refine lv_icmp_eq (tgt := 42) hx hb dX12_key_33 (by decide) (fun c211 => absurd c211 (by decide)) (fun c211 => ?_)
            refine lv_iinc (v := 11) (lv' := [(3, .int 11), (2, .int 8), (1, .int 1), (0, .ref (b 0)), (4, .int x1_22), (5, .int (nI i_22))]) hx hb dX12_key_36 hl (k := 0) rfl (by decide) (by decide) rfl (fun ls hl => ?_)
            refine lv_goto (tgt := 25) hx hb dX12_key_39 (by decide) ?_
            refine va_ldcS hx hb hown hZ dX12_key_25 ?_
            refine lv_iload_n hx hb dX12_key_27 rfl (lv_at hl 0 rfl) ?_
            refine vp_callSi (va_Run.run (va_runV (As := [.int (nI 11)]) (rest := []) ⟨hx, hb, hml, hown, noTs⟩ (s_J0_charAt l adK adV 3 11 (by decide) (by show _ < 18; omega)) ⟨cbE 1 (wd_498 hE) (wd_129 hE) (wd_1528 hE) rfl rfl (by decide +kernel) ⟨Nat.le_of_ble_eq_true rfl, Nat.le_of_ble_eq_true rfl⟩, (wd_496 hE), (wd_497 hE)⟩ ⟨PS.blind, vk_recv hX.1 (by decide) hS, ps_pre (av := [.ref (adK 3), .int (nI 11)]) hX hS hE⟩ rfl rfl hl.1 rfl (lv_room (Nat.le_of_ble_eq_true rfl)) dX12_key_28 ⟨Nat.le_of_ble_eq_true rfl, Nat.le_of_ble_eq_true rfl⟩)) (fun r212 hr212 => ?_)
            have hr212 : r212 = 101 := hr212.trans (by decide)
            subst hr212
            refine lv_bipush (v := 32) hx hb dX12_key_31 (by decide) ?_
            refine lv_icmp_eq (tgt := 42) hx hb dX12_key_33 (by decide) (fun c213 => absurd c213 (by decide)) (fun c213 => ?_)
            refine lv_iinc (v := 12) (lv' := [(3, .int 12), (2, .int 8), (1, .int 1), (0, .ref (b 0)), (4, .int x1_22), (5, .int (nI i_22))]) hx hb dX12_key_36 hl (k := 0) rfl (by decide) (by decide) rfl (fun ls hl => ?_)
            refine lv_goto (tgt := 25) hx hb dX12_key_39 (by decide) ?_
            refine va_ldcS hx hb hown hZ dX12_key_25 ?_
            refine lv_iload_n hx hb dX12_key_27 rfl (lv_at hl 0 rfl) ?_
            refine vp_callSi (va_Run.run (va_runV (As := [.int (nI 12)]) (rest := []) ⟨hx, hb, hml, hown, noTs⟩ (s_J0_charAt l adK adV 3 12 (by decide) (by show _ < 18; omega)) ⟨cbE 1 (wd_498 hE) (wd_129 hE) (wd_1528 hE) rfl rfl (by decide +kernel) ⟨Nat.le_of_ble_eq_true rfl, Nat.le_of_ble_eq_true rfl⟩, (wd_496 hE), (wd_497 hE)⟩ ⟨PS.blind, vk_recv hX.1 (by decide) hS, ps_pre (av := [.ref (adK 3), .int (nI 12)]) hX hS hE⟩ rfl rfl hl.1 rfl (lv_room (Nat.le_of_ble_eq_true rfl)) dX12_key_28 ⟨Nat.le_of_ble_eq_true rfl, Nat.le_of_ble_eq_true rfl⟩)) (fun r214 hr214 => ?_)
            have hr214 : r214 = 32 := hr214.trans (by decide)
            subst hr214
            refine lv_bipush (v := 32) hx hb dX12_key_31 (by decide) ?_
            refine lv_icmp_eq (tgt := 42) hx hb dX12_key_33 (by decide) (fun c215 => ?_) (fun c215 => absurd c215 (by decide))
            refine lv_iload_n hx hb dX12_key_42 rfl (lv_at hl 0 rfl) ?_
            refine lv_iload_n hx hb dX12_key_43 rfl (lv_at hl 1 rfl) ?_
            refine lv_isub hx hb dX12_key_44 ?_
            refine W.eq (g2 := F0 m 45 ls [.int 4]) rfl ?_
            refine lv_aload_n hx hb dX12_key_45 rfl (lv_at hl 3 rfl) ?_
            refine r_get (v := .int (nI (tnd tx sz1 p0))) hx hb (ly_X12 hE) hown hK hP rfl 14 (by decide) (wd_1395 hE) (fun _ h9 => h9) (congrArg (fun z : Int32 => some (Value.int z)) te14_2) dX12_key_46 ?_
            refine lv_aload_n hx hb dX12_key_49 rfl (lv_at hl 3 rfl) ?_
            refine r_get (v := .int (nI p0)) hx hb (ly_X12 hE) hown hK hP rfl 13 (by decide) (wd_1394 hE) (fun _ h9 => h9) (congrArg (fun z : Int32 => some (Value.int z)) te13_2) dX12_key_50 ?_
            refine lv_isub hx hb dX12_key_53 ?_
            refine W.eq (g2 := F0 m 54 ls [.int (nI ((tnd tx sz1 p0) - p0)), .int 4]) (congrArg (fun z : Int32 => F0 m 54 ls (.int z :: [.int 4])) (pk_sub (a := tnd tx sz1 p0) (b := p0) (by omega))) ?_
            refine lv_icmp_ne (tgt := 61) hx hb dX12_key_54 (by decide) (fun c216 => ?_) (fun c216 => ?_)
            · have c216 := mt (b_eq (show Int32.toInt 4 = 4 from rfl) (nI_toInt (n := (tnd tx sz1 p0) - p0) (by omega))).mpr c216
              refine lv_iconst (v := 0) hx hb dX12_key_61 (by decide) ?_
              refine lv_istore (lv' := [(4, .int 0), (3, .int 12), (2, .int 8), (1, .int 1), (0, .ref (b 0)), (5, .int (nI i_22))]) hx hb dX12_key_62 hl (by decide) rfl (fun ls hl => ?_)
              refine lv_iconst (v := 0) hx hb dX12_key_64 (by decide) ?_
              refine lv_istore (lv' := [(5, .int 0), (4, .int 0), (3, .int 12), (2, .int 8), (1, .int 1), (0, .ref (b 0))]) hx hb dX12_key_65 hl (by decide) rfl (fun ls hl => ?_)
              refine r_indP (I := fun n ls => ∃ (i_217 : Nat) (x1_217 : Int32), n = 12 - 8 - i_217 ∧ (i_217 ≤ 12 - 8) ∧ (x1_217 = 0 ∨ x1_217 = 1) ∧ (x1_217 = 1 → tnd tx sz1 p0 - p0 = 12 - 8 ∧ ∀ q, q < i_217 → bA tx sz1 (p0 + q) = (kW 8).getD q 0) ∧ (x1_217 = 0 → eqw tx sz1 (kW 8) p0 = false) ∧ lv_has ls 6 [(0, .ref (b 0)), (1, .int 1), (2, .int 8), (3, .int 12), (4, .int x1_217), (5, .int (nI i_217))]) (fun n ls hI ih217 => ?_) _ _ ⟨0, 0, rfl, (by first | assumption | omega | rfl | (congr 1; omega)), (by first | exact Or.inl rfl | exact Or.inr rfl), (by first | (intro _; exact ⟨by omega, fun q hq => absurd hq (by omega)⟩) | (intro h; exact absurd h (by decide))), (by first | (intro h; exact absurd h (by decide)) | (intro _; exact eqw_len (w := kW 8) (l := 12 - 8) rfl (by omega))), lv_sub hl [5, 4, 3, 2, 1, 0] rfl⟩
              obtain ⟨i_217, x1_217, hmu217, hL217_0, hL217_1, hL217_2, hL217_3, hl⟩ := hI
              subst hmu217
              refine lv_iload hx hb dX12_key_67 (lv_at hl 5 rfl) ?_
              refine lv_iload_n hx hb dX12_key_69 rfl (lv_at hl 3 rfl) ?_
              refine lv_iload_n hx hb dX12_key_70 rfl (lv_at hl 2 rfl) ?_
              refine lv_isub hx hb dX12_key_71 ?_
              refine W.eq (g2 := F0 m 72 ls [.int 4, .int (nI i_217)]) rfl ?_
              refine lv_icmp_ge (tgt := 116) hx hb dX12_key_72 (by decide) (fun c218 => ?_) (fun c218 => ?_)
              · have c218 := (b_le (show Int32.toInt 4 = 4 from rfl) (nI_toInt (n := i_217) (by omega))).mp c218
                refine lv_iload hx hb dX12_key_116 (lv_at hl 4 rfl) ?_
                refine lv_if_eq (tgt := 123) hx hb dX12_key_118 (by decide) (fun c219 => ?_) (fun c219 => ?_)
                · have c219 := (b_eq (rfl : Int32.toInt x1_217 = _) (show Int32.toInt 0 = 0 from rfl)).mp c219
                  have EW8 : eqw tx sz1 (kW 8) p0 = false := hL217_3 (i0_of (by omega))
                  refine lv_iinc (v := 2) (lv' := [(1, .int 2), (0, .ref (b 0)), (2, .int 8), (3, .int 12), (4, .int x1_217), (5, .int (nI i_217))]) hx hb dX12_key_123 hl (k := 1) rfl (by decide) (by decide) rfl (fun ls hl => ?_)
                  refine lv_iload_n hx hb dX12_key_126 rfl (lv_at hl 3 rfl) ?_
                  refine lv_iconst (v := 1) hx hb dX12_key_127 (by decide) ?_
                  refine lv_iadd hx hb dX12_key_128 ?_
                  refine W.eq (g2 := F0 m 129 ls [.int 13]) rfl ?_
                  refine lv_istore_n (lv' := [(2, .int 13), (1, .int 2), (0, .ref (b 0)), (3, .int 12), (4, .int x1_217), (5, .int (nI i_217))]) hx hb dX12_key_129 rfl hl (by decide) rfl (fun ls hl => ?_)
                  refine lv_goto (tgt := 14) hx hb dX12_key_130 (by decide) ?_
                  refine lv_iload_n hx hb dX12_key_14 rfl (lv_at hl 0 rfl) ?_
                  refine va_ldcS hx hb hown hZ dX12_key_15 ?_
                  refine vp_callSi (va_Run.run (va_runV (As := []) (rest := [.int 13]) ⟨hx, hb, hml, hown, noTs⟩ (s_J0_length l adK adV 3 (by decide)) ⟨cbE 0 (wd_488 hE) (wd_129 hE) (wd_1527 hE) rfl rfl (by decide +kernel) ⟨Nat.le_of_ble_eq_true rfl, Nat.le_of_ble_eq_true rfl⟩, (wd_486 hE), (wd_487 hE)⟩ ⟨PS.blind, vk_recv hX.1 (by decide) hS, ps_pre (av := [.ref (adK 3)]) hX hS hE⟩ rfl rfl hl.1 rfl (lv_room (Nat.le_of_ble_eq_true rfl)) dX12_key_17 ⟨Nat.le_of_ble_eq_true rfl, Nat.le_of_ble_eq_true rfl⟩)) (fun r220 hr220 => ?_)
                  have hr220 : r220 = 18 := hr220
                  subst hr220
                  refine lv_icmp_ge (tgt := 133) hx hb dX12_key_20 (by decide) (fun c221 => absurd c221 (by decide)) (fun c221 => ?_)
                  refine lv_iload_n hx hb dX12_key_23 rfl (lv_at hl 0 rfl) ?_
                  refine lv_istore_n (lv' := [(3, .int 13), (2, .int 13), (1, .int 2), (0, .ref (b 0)), (4, .int x1_217), (5, .int (nI i_217))]) hx hb dX12_key_24 rfl hl (by decide) rfl (fun ls hl => ?_)
                  refine va_ldcS hx hb hown hZ dX12_key_25 ?_
                  refine lv_iload_n hx hb dX12_key_27 rfl (lv_at hl 0 rfl) ?_
                  refine vp_callSi (va_Run.run (va_runV (As := [.int (nI 13)]) (rest := []) ⟨hx, hb, hml, hown, noTs⟩ (s_J0_charAt l adK adV 3 13 (by decide) (by show _ < 18; omega)) ⟨cbE 1 (wd_498 hE) (wd_129 hE) (wd_1528 hE) rfl rfl (by decide +kernel) ⟨Nat.le_of_ble_eq_true rfl, Nat.le_of_ble_eq_true rfl⟩, (wd_496 hE), (wd_497 hE)⟩ ⟨PS.blind, vk_recv hX.1 (by decide) hS, ps_pre (av := [.ref (adK 3), .int (nI 13)]) hX hS hE⟩ rfl rfl hl.1 rfl (lv_room (Nat.le_of_ble_eq_true rfl)) dX12_key_28 ⟨Nat.le_of_ble_eq_true rfl, Nat.le_of_ble_eq_true rfl⟩)) (fun r222 hr222 => ?_)
                  have hr222 : r222 = 119 := hr222.trans (by decide)
                  subst hr222
                  refine lv_bipush (v := 32) hx hb dX12_key_31 (by decide) ?_
                  refine lv_icmp_eq (tgt := 42) hx hb dX12_key_33 (by decide) (fun c223 => absurd c223 (by decide)) (fun c223 => ?_)
                  refine lv_iinc (v := 14) (lv' := [(3, .int 14), (2, .int 13), (1, .int 2), (0, .ref (b 0)), (4, .int x1_217), (5, .int (nI i_217))]) hx hb dX12_key_36 hl (k := 0) rfl (by decide) (by decide) rfl (fun ls hl => ?_)
                  refine lv_goto (tgt := 25) hx hb dX12_key_39 (by decide) ?_
                  refine va_ldcS hx hb hown hZ dX12_key_25 ?_
                  refine lv_iload_n hx hb dX12_key_27 rfl (lv_at hl 0 rfl) ?_
                  refine vp_callSi (va_Run.run (va_runV (As := [.int (nI 14)]) (rest := []) ⟨hx, hb, hml, hown, noTs⟩ (s_J0_charAt l adK adV 3 14 (by decide) (by show _ < 18; omega)) ⟨cbE 1 (wd_498 hE) (wd_129 hE) (wd_1528 hE) rfl rfl (by decide +kernel) ⟨Nat.le_of_ble_eq_true rfl, Nat.le_of_ble_eq_true rfl⟩, (wd_496 hE), (wd_497 hE)⟩ ⟨PS.blind, vk_recv hX.1 (by decide) hS, ps_pre (av := [.ref (adK 3), .int (nI 14)]) hX hS hE⟩ rfl rfl hl.1 rfl (lv_room (Nat.le_of_ble_eq_true rfl)) dX12_key_28 ⟨Nat.le_of_ble_eq_true rfl, Nat.le_of_ble_eq_true rfl⟩)) (fun r224 hr224 => ?_)
                  have hr224 : r224 = 111 := hr224.trans (by decide)
                  subst hr224
                  refine lv_bipush (v := 32) hx hb dX12_key_31 (by decide) ?_
                  refine lv_icmp_eq (tgt := 42) hx hb dX12_key_33 (by decide) (fun c225 => absurd c225 (by decide)) (fun c225 => ?_)
                  refine lv_iinc (v := 15) (lv' := [(3, .int 15), (2, .int 13), (1, .int 2), (0, .ref (b 0)), (4, .int x1_217), (5, .int (nI i_217))]) hx hb dX12_key_36 hl (k := 0) rfl (by decide) (by decide) rfl (fun ls hl => ?_)
                  refine lv_goto (tgt := 25) hx hb dX12_key_39 (by decide) ?_
                  refine va_ldcS hx hb hown hZ dX12_key_25 ?_
                  refine lv_iload_n hx hb dX12_key_27 rfl (lv_at hl 0 rfl) ?_
                  refine vp_callSi (va_Run.run (va_runV (As := [.int (nI 15)]) (rest := []) ⟨hx, hb, hml, hown, noTs⟩ (s_J0_charAt l adK adV 3 15 (by decide) (by show _ < 18; omega)) ⟨cbE 1 (wd_498 hE) (wd_129 hE) (wd_1528 hE) rfl rfl (by decide +kernel) ⟨Nat.le_of_ble_eq_true rfl, Nat.le_of_ble_eq_true rfl⟩, (wd_496 hE), (wd_497 hE)⟩ ⟨PS.blind, vk_recv hX.1 (by decide) hS, ps_pre (av := [.ref (adK 3), .int (nI 15)]) hX hS hE⟩ rfl rfl hl.1 rfl (lv_room (Nat.le_of_ble_eq_true rfl)) dX12_key_28 ⟨Nat.le_of_ble_eq_true rfl, Nat.le_of_ble_eq_true rfl⟩)) (fun r226 hr226 => ?_)
                  have hr226 : r226 = 114 := hr226.trans (by decide)
                  subst hr226
                  refine lv_bipush (v := 32) hx hb dX12_key_31 (by decide) ?_
                  refine lv_icmp_eq (tgt := 42) hx hb dX12_key_33 (by decide) (fun c227 => absurd c227 (by decide)) (fun c227 => ?_)
                  refine lv_iinc (v := 16) (lv' := [(3, .int 16), (2, .int 13), (1, .int 2), (0, .ref (b 0)), (4, .int x1_217), (5, .int (nI i_217))]) hx hb dX12_key_36 hl (k := 0) rfl (by decide) (by decide) rfl (fun ls hl => ?_)
                  refine lv_goto (tgt := 25) hx hb dX12_key_39 (by decide) ?_
                  refine va_ldcS hx hb hown hZ dX12_key_25 ?_
                  refine lv_iload_n hx hb dX12_key_27 rfl (lv_at hl 0 rfl) ?_
                  refine vp_callSi (va_Run.run (va_runV (As := [.int (nI 16)]) (rest := []) ⟨hx, hb, hml, hown, noTs⟩ (s_J0_charAt l adK adV 3 16 (by decide) (by show _ < 18; omega)) ⟨cbE 1 (wd_498 hE) (wd_129 hE) (wd_1528 hE) rfl rfl (by decide +kernel) ⟨Nat.le_of_ble_eq_true rfl, Nat.le_of_ble_eq_true rfl⟩, (wd_496 hE), (wd_497 hE)⟩ ⟨PS.blind, vk_recv hX.1 (by decide) hS, ps_pre (av := [.ref (adK 3), .int (nI 16)]) hX hS hE⟩ rfl rfl hl.1 rfl (lv_room (Nat.le_of_ble_eq_true rfl)) dX12_key_28 ⟨Nat.le_of_ble_eq_true rfl, Nat.le_of_ble_eq_true rfl⟩)) (fun r228 hr228 => ?_)
                  have hr228 : r228 = 100 := hr228.trans (by decide)
                  subst hr228
                  refine lv_bipush (v := 32) hx hb dX12_key_31 (by decide) ?_
                  refine lv_icmp_eq (tgt := 42) hx hb dX12_key_33 (by decide) (fun c229 => absurd c229 (by decide)) (fun c229 => ?_)
                  refine lv_iinc (v := 17) (lv' := [(3, .int 17), (2, .int 13), (1, .int 2), (0, .ref (b 0)), (4, .int x1_217), (5, .int (nI i_217))]) hx hb dX12_key_36 hl (k := 0) rfl (by decide) (by decide) rfl (fun ls hl => ?_)
                  refine lv_goto (tgt := 25) hx hb dX12_key_39 (by decide) ?_
                  refine va_ldcS hx hb hown hZ dX12_key_25 ?_
                  refine lv_iload_n hx hb dX12_key_27 rfl (lv_at hl 0 rfl) ?_
                  refine vp_callSi (va_Run.run (va_runV (As := [.int (nI 17)]) (rest := []) ⟨hx, hb, hml, hown, noTs⟩ (s_J0_charAt l adK adV 3 17 (by decide) (by show _ < 18; omega)) ⟨cbE 1 (wd_498 hE) (wd_129 hE) (wd_1528 hE) rfl rfl (by decide +kernel) ⟨Nat.le_of_ble_eq_true rfl, Nat.le_of_ble_eq_true rfl⟩, (wd_496 hE), (wd_497 hE)⟩ ⟨PS.blind, vk_recv hX.1 (by decide) hS, ps_pre (av := [.ref (adK 3), .int (nI 17)]) hX hS hE⟩ rfl rfl hl.1 rfl (lv_room (Nat.le_of_ble_eq_true rfl)) dX12_key_28 ⟨Nat.le_of_ble_eq_true rfl, Nat.le_of_ble_eq_true rfl⟩)) (fun r230 hr230 => ?_)
                  have hr230 : r230 = 32 := hr230.trans (by decide)
                  subst hr230
                  refine lv_bipush (v := 32) hx hb dX12_key_31 (by decide) ?_
                  refine lv_icmp_eq (tgt := 42) hx hb dX12_key_33 (by decide) (fun c231 => ?_) (fun c231 => absurd c231 (by decide))
                  refine lv_iload_n hx hb dX12_key_42 rfl (lv_at hl 0 rfl) ?_
                  refine lv_iload_n hx hb dX12_key_43 rfl (lv_at hl 1 rfl) ?_
                  refine lv_isub hx hb dX12_key_44 ?_
                  refine W.eq (g2 := F0 m 45 ls [.int 4]) rfl ?_
                  refine lv_aload_n hx hb dX12_key_45 rfl (lv_at hl 3 rfl) ?_
                  refine r_get (v := .int (nI (tnd tx sz1 p0))) hx hb (ly_X12 hE) hown hK hP rfl 14 (by decide) (wd_1395 hE) (fun _ h9 => h9) (congrArg (fun z : Int32 => some (Value.int z)) te14_2) dX12_key_46 ?_
                  refine lv_aload_n hx hb dX12_key_49 rfl (lv_at hl 3 rfl) ?_
                  refine r_get (v := .int (nI p0)) hx hb (ly_X12 hE) hown hK hP rfl 13 (by decide) (wd_1394 hE) (fun _ h9 => h9) (congrArg (fun z : Int32 => some (Value.int z)) te13_2) dX12_key_50 ?_
                  refine lv_isub hx hb dX12_key_53 ?_
                  refine W.eq (g2 := F0 m 54 ls [.int (nI ((tnd tx sz1 p0) - p0)), .int 4]) (congrArg (fun z : Int32 => F0 m 54 ls (.int z :: [.int 4])) (pk_sub (a := tnd tx sz1 p0) (b := p0) (by omega))) ?_
                  refine lv_icmp_ne (tgt := 61) hx hb dX12_key_54 (by decide) (fun c232 => ?_) (fun c232 => ?_)
                  · have c232 := mt (b_eq (show Int32.toInt 4 = 4 from rfl) (nI_toInt (n := (tnd tx sz1 p0) - p0) (by omega))).mpr c232
                    refine lv_iconst (v := 0) hx hb dX12_key_61 (by decide) ?_
                    refine lv_istore (lv' := [(4, .int 0), (3, .int 17), (2, .int 13), (1, .int 2), (0, .ref (b 0)), (5, .int (nI i_217))]) hx hb dX12_key_62 hl (by decide) rfl (fun ls hl => ?_)
                    refine lv_iconst (v := 0) hx hb dX12_key_64 (by decide) ?_
                    refine lv_istore (lv' := [(5, .int 0), (4, .int 0), (3, .int 17), (2, .int 13), (1, .int 2), (0, .ref (b 0))]) hx hb dX12_key_65 hl (by decide) rfl (fun ls hl => ?_)
                    refine r_indP (I := fun n ls => ∃ (i_233 : Nat) (x1_233 : Int32), n = 17 - 13 - i_233 ∧ (i_233 ≤ 17 - 13) ∧ (x1_233 = 0 ∨ x1_233 = 1) ∧ (x1_233 = 1 → tnd tx sz1 p0 - p0 = 17 - 13 ∧ ∀ q, q < i_233 → bA tx sz1 (p0 + q) = (kW 13).getD q 0) ∧ (x1_233 = 0 → eqw tx sz1 (kW 13) p0 = false) ∧ lv_has ls 6 [(0, .ref (b 0)), (1, .int 2), (2, .int 13), (3, .int 17), (4, .int x1_233), (5, .int (nI i_233))]) (fun n ls hI ih233 => ?_) _ _ ⟨0, 0, rfl, (by first | assumption | omega | rfl | (congr 1; omega)), (by first | exact Or.inl rfl | exact Or.inr rfl), (by first | (intro _; exact ⟨by omega, fun q hq => absurd hq (by omega)⟩) | (intro h; exact absurd h (by decide))), (by first | (intro h; exact absurd h (by decide)) | (intro _; exact eqw_len (w := kW 13) (l := 17 - 13) rfl (by omega))), lv_sub hl [5, 4, 3, 2, 1, 0] rfl⟩
                    obtain ⟨i_233, x1_233, hmu233, hL233_0, hL233_1, hL233_2, hL233_3, hl⟩ := hI
                    subst hmu233
                    refine lv_iload hx hb dX12_key_67 (lv_at hl 5 rfl) ?_
                    refine lv_iload_n hx hb dX12_key_69 rfl (lv_at hl 3 rfl) ?_
                    refine lv_iload_n hx hb dX12_key_70 rfl (lv_at hl 2 rfl) ?_
                    refine lv_isub hx hb dX12_key_71 ?_
                    refine W.eq (g2 := F0 m 72 ls [.int 4, .int (nI i_233)]) rfl ?_
                    refine lv_icmp_ge (tgt := 116) hx hb dX12_key_72 (by decide) (fun c234 => ?_) (fun c234 => ?_)
                    · have c234 := (b_le (show Int32.toInt 4 = 4 from rfl) (nI_toInt (n := i_233) (by omega))).mp c234
                      refine lv_iload hx hb dX12_key_116 (lv_at hl 4 rfl) ?_
                      refine lv_if_eq (tgt := 123) hx hb dX12_key_118 (by decide) (fun c235 => ?_) (fun c235 => ?_)
                      · have c235 := (b_eq (rfl : Int32.toInt x1_233 = _) (show Int32.toInt 0 = 0 from rfl)).mp c235
                        have EW13 : eqw tx sz1 (kW 13) p0 = false := hL233_3 (i0_of (by omega))
                        refine lv_iinc (v := 3) (lv' := [(1, .int 3), (0, .ref (b 0)), (2, .int 13), (3, .int 17), (4, .int x1_233), (5, .int (nI i_233))]) hx hb dX12_key_123 hl (k := 1) rfl (by decide) (by decide) rfl (fun ls hl => ?_)
                        refine lv_iload_n hx hb dX12_key_126 rfl (lv_at hl 3 rfl) ?_
                        refine lv_iconst (v := 1) hx hb dX12_key_127 (by decide) ?_
                        refine lv_iadd hx hb dX12_key_128 ?_
                        refine W.eq (g2 := F0 m 129 ls [.int 18]) rfl ?_
                        refine lv_istore_n (lv' := [(2, .int 18), (1, .int 3), (0, .ref (b 0)), (3, .int 17), (4, .int x1_233), (5, .int (nI i_233))]) hx hb dX12_key_129 rfl hl (by decide) rfl (fun ls hl => ?_)
                        refine lv_goto (tgt := 14) hx hb dX12_key_130 (by decide) ?_
                        refine lv_iload_n hx hb dX12_key_14 rfl (lv_at hl 0 rfl) ?_
                        refine va_ldcS hx hb hown hZ dX12_key_15 ?_
                        refine vp_callSi (va_Run.run (va_runV (As := []) (rest := [.int 18]) ⟨hx, hb, hml, hown, noTs⟩ (s_J0_length l adK adV 3 (by decide)) ⟨cbE 0 (wd_488 hE) (wd_129 hE) (wd_1527 hE) rfl rfl (by decide +kernel) ⟨Nat.le_of_ble_eq_true rfl, Nat.le_of_ble_eq_true rfl⟩, (wd_486 hE), (wd_487 hE)⟩ ⟨PS.blind, vk_recv hX.1 (by decide) hS, ps_pre (av := [.ref (adK 3)]) hX hS hE⟩ rfl rfl hl.1 rfl (lv_room (Nat.le_of_ble_eq_true rfl)) dX12_key_17 ⟨Nat.le_of_ble_eq_true rfl, Nat.le_of_ble_eq_true rfl⟩)) (fun r236 hr236 => ?_)
                        have hr236 : r236 = 18 := hr236
                        subst hr236
                        refine lv_icmp_ge (tgt := 133) hx hb dX12_key_20 (by decide) (fun c237 => ?_) (fun c237 => absurd c237 (by decide))
                        refine lv_iconst (v := -1) hx hb dX12_key_133 (by decide) ?_
                        exact W.iret (v := -1) hx hb hr (fun t ht hW => ⟨-1, rfl, Or.inr (Or.inr (Or.inr (⟨rfl, by first | omega | (have q := (kd_word (tx := tx) (n := sz1) (p := p0) (by omega)).trans ((if_neg (by rw [show eqw tx sz1 wVx p0 = false from EW1]; decide)).trans ((if_neg (by rw [show eqw tx sz1 wEd p0 = false from EW8]; decide)).trans (if_neg (by rw [show eqw tx sz1 wWo p0 = false from EW13]; decide)))); omega)⟩))), ht⟩) (fun _ h => absurd h List.not_mem_nil) dX12_key_134
                      · have c235 := mt (b_eq (rfl : Int32.toInt x1_233 = _) (show Int32.toInt 0 = 0 from rfl)).mpr c235
                        have X2 : x1_233 = 1 := i1_of hL233_1 (by omega)
                        have EW13 : eqw tx sz1 (kW 13) p0 = true := by first | exact eqw_t.mpr ⟨(hL233_2 X2).1.trans rfl, fun q hq => (hL233_2 X2).2 q (by have : (kW 13).length = 17 - 13 := rfl; omega)⟩ | (exfalso; omega)
                        refine lv_iload_n hx hb dX12_key_121 rfl (lv_at hl 1 rfl) ?_
                        exact W.iret (v := 2) hx hb hr (fun t ht hW => ⟨2, rfl, Or.inr (Or.inr (Or.inl ⟨rfl, by exact (kd_word (by omega)).trans ((if_neg (by rw [show eqw tx sz1 wVx p0 = false from EW1]; decide)).trans ((if_neg (by rw [show eqw tx sz1 wEd p0 = false from EW8]; decide)).trans (if_pos EW13)))⟩)), ht⟩) (fun _ h => absurd h List.not_mem_nil) dX12_key_122
                    · have c234 := mt (b_le (show Int32.toInt 4 = 4 from rfl) (nI_toInt (n := i_233) (by omega))).mpr c234
                      refine lv_iload hx hb dX12_key_75 (lv_at hl 4 rfl) ?_
                      refine lv_if_eq (tgt := 116) hx hb dX12_key_77 (by decide) (fun c238 => ?_) (fun c238 => ?_)
                      · have c238 := (b_eq (rfl : Int32.toInt x1_233 = _) (show Int32.toInt 0 = 0 from rfl)).mp c238
                        refine lv_iload hx hb dX12_key_116 (lv_at hl 4 rfl) ?_
                        refine lv_if_eq (tgt := 123) hx hb dX12_key_118 (by decide) (fun c239 => ?_) (fun c239 => ?_)
                        · have c239 := (b_eq (rfl : Int32.toInt x1_233 = _) (show Int32.toInt 0 = 0 from rfl)).mp c239
                          have EW13 : eqw tx sz1 (kW 13) p0 = false := hL233_3 (i0_of (by omega))
                          refine lv_iinc (v := 3) (lv' := [(1, .int 3), (0, .ref (b 0)), (2, .int 13), (3, .int 17), (4, .int x1_233), (5, .int (nI i_233))]) hx hb dX12_key_123 hl (k := 1) rfl (by decide) (by decide) rfl (fun ls hl => ?_)
                          refine lv_iload_n hx hb dX12_key_126 rfl (lv_at hl 3 rfl) ?_
                          refine lv_iconst (v := 1) hx hb dX12_key_127 (by decide) ?_
                          refine lv_iadd hx hb dX12_key_128 ?_
                          refine W.eq (g2 := F0 m 129 ls [.int 18]) rfl ?_
                          refine lv_istore_n (lv' := [(2, .int 18), (1, .int 3), (0, .ref (b 0)), (3, .int 17), (4, .int x1_233), (5, .int (nI i_233))]) hx hb dX12_key_129 rfl hl (by decide) rfl (fun ls hl => ?_)
                          refine lv_goto (tgt := 14) hx hb dX12_key_130 (by decide) ?_
                          refine lv_iload_n hx hb dX12_key_14 rfl (lv_at hl 0 rfl) ?_
                          refine va_ldcS hx hb hown hZ dX12_key_15 ?_
                          refine vp_callSi (va_Run.run (va_runV (As := []) (rest := [.int 18]) ⟨hx, hb, hml, hown, noTs⟩ (s_J0_length l adK adV 3 (by decide)) ⟨cbE 0 (wd_488 hE) (wd_129 hE) (wd_1527 hE) rfl rfl (by decide +kernel) ⟨Nat.le_of_ble_eq_true rfl, Nat.le_of_ble_eq_true rfl⟩, (wd_486 hE), (wd_487 hE)⟩ ⟨PS.blind, vk_recv hX.1 (by decide) hS, ps_pre (av := [.ref (adK 3)]) hX hS hE⟩ rfl rfl hl.1 rfl (lv_room (Nat.le_of_ble_eq_true rfl)) dX12_key_17 ⟨Nat.le_of_ble_eq_true rfl, Nat.le_of_ble_eq_true rfl⟩)) (fun r240 hr240 => ?_)
                          have hr240 : r240 = 18 := hr240
                          subst hr240
                          refine lv_icmp_ge (tgt := 133) hx hb dX12_key_20 (by decide) (fun c241 => ?_) (fun c241 => absurd c241 (by decide))
                          refine lv_iconst (v := -1) hx hb dX12_key_133 (by decide) ?_
                          exact W.iret (v := -1) hx hb hr (fun t ht hW => ⟨-1, rfl, Or.inr (Or.inr (Or.inr (⟨rfl, by first | omega | (have q := (kd_word (tx := tx) (n := sz1) (p := p0) (by omega)).trans ((if_neg (by rw [show eqw tx sz1 wVx p0 = false from EW1]; decide)).trans ((if_neg (by rw [show eqw tx sz1 wEd p0 = false from EW8]; decide)).trans (if_neg (by rw [show eqw tx sz1 wWo p0 = false from EW13]; decide)))); omega)⟩))), ht⟩) (fun _ h => absurd h List.not_mem_nil) dX12_key_134
                        · have c239 := mt (b_eq (rfl : Int32.toInt x1_233 = _) (show Int32.toInt 0 = 0 from rfl)).mpr c239
                          have X2 : x1_233 = 1 := i1_of hL233_1 (by omega)
                          have EW13 : eqw tx sz1 (kW 13) p0 = true := by first | exact eqw_t.mpr ⟨(hL233_2 X2).1.trans rfl, fun q hq => (hL233_2 X2).2 q (by have : (kW 13).length = 17 - 13 := rfl; omega)⟩ | (exfalso; omega)
                          refine lv_iload_n hx hb dX12_key_121 rfl (lv_at hl 1 rfl) ?_
                          exact W.iret (v := 2) hx hb hr (fun t ht hW => ⟨2, rfl, Or.inr (Or.inr (Or.inl ⟨rfl, by exact (kd_word (by omega)).trans ((if_neg (by rw [show eqw tx sz1 wVx p0 = false from EW1]; decide)).trans ((if_neg (by rw [show eqw tx sz1 wEd p0 = false from EW8]; decide)).trans (if_pos EW13)))⟩)), ht⟩) (fun _ h => absurd h List.not_mem_nil) dX12_key_122
                      · have c238 := mt (b_eq (rfl : Int32.toInt x1_233 = _) (show Int32.toInt 0 = 0 from rfl)).mpr c238
                        have X1 : x1_233 = 1 := i1_of hL233_1 (by omega)
                        refine va_ldcS hx hb hown hZ dX12_key_80 ?_
                        refine lv_iload_n hx hb dX12_key_82 rfl (lv_at hl 2 rfl) ?_
                        refine lv_iload hx hb dX12_key_83 (lv_at hl 5 rfl) ?_
                        refine lv_iadd hx hb dX12_key_85 ?_
                        refine W.eq (g2 := F0 m 86 ls [.int (nI (13 + i_233)), .ref (adK 3)]) (congrArg (fun z : Int32 => F0 m 86 ls (.int z :: [.ref (adK 3)])) (nI_add 13 i_233)) ?_
                        refine vp_callSi (va_Run.run (va_runV (As := [.int (nI (13 + i_233))]) (rest := []) ⟨hx, hb, hml, hown, noTs⟩ (s_J0_charAt l adK adV 3 (13 + i_233) (by decide) (by show _ < 18; omega)) ⟨cbE 1 (wd_498 hE) (wd_129 hE) (wd_1528 hE) rfl rfl (by decide +kernel) ⟨Nat.le_of_ble_eq_true rfl, Nat.le_of_ble_eq_true rfl⟩, (wd_496 hE), (wd_497 hE)⟩ ⟨PS.blind, vk_recv hX.1 (by decide) hS, ps_pre (av := [.ref (adK 3), .int (nI (13 + i_233))]) hX hS hE⟩ rfl rfl hl.1 rfl (lv_room (Nat.le_of_ble_eq_true rfl)) dX12_key_86 ⟨Nat.le_of_ble_eq_true rfl, Nat.le_of_ble_eq_true rfl⟩)) (fun r242 hr242 => ?_)
                        refine lv_aload_n hx hb dX12_key_89 rfl (lv_at hl 0 rfl) ?_
                        refine lv_aload_n hx hb dX12_key_90 rfl (lv_at hl 0 rfl) ?_
                        refine r_get (v := .int (nI p0)) hx hb (ly_X12 hE) hown hK hP rfl 13 (by decide) (wd_1394 hE) (fun _ h9 => h9) (congrArg (fun z : Int32 => some (Value.int z)) te13_2) dX12_key_91 ?_
                        refine lv_iload hx hb dX12_key_94 (lv_at hl 5 rfl) ?_
                        refine lv_iadd hx hb dX12_key_96 ?_
                        refine W.eq (g2 := F0 m 97 ls [.int (nI (p0 + i_233)), .ref (b 0), .int r242]) (congrArg (fun z : Int32 => F0 m 97 ls (.int z :: [.ref (b 0), .int r242])) (nI_add p0 i_233)) ?_
                        refine vp_callSi (va_Run.run (va_runV (As := [.int (nI (p0 + i_233))]) (rest := [.int r242]) ⟨hx, hb, hml, hown, noTs⟩ (r_X12_byteAt l dC dI s.heap.size cs b u tx hAc16 (p0 + i_233) sz1 hF11 (by first | assumption | omega | rfl | (congr 1; omega)) (by first | assumption | omega | rfl | (congr 1; omega))) ⟨cbE 1 (wd_1510 hE) (wd_126 hE) (wd_1507 hE) rfl rfl (by decide +kernel) ⟨Nat.le_of_ble_eq_true rfl, Nat.le_of_ble_eq_true rfl⟩, (wd_1509 hE), (wd_57 hE)⟩ ⟨PR.blind, r_recv hK hP rfl, (r_pre (av := [.ref (b 0), .int (nI (p0 + i_233))]) hK hP hJ hE)⟩ rfl rfl hl.1 rfl (lv_room (Nat.le_of_ble_eq_true rfl)) dX12_key_97 ⟨Nat.le_of_ble_eq_true rfl, Nat.le_of_ble_eq_true rfl⟩)) (fun r243 hr243 => ?_)
                        subst hr243
                        have htf243 := bA_f tx sz1 (p0 + i_233)
                        have HRC := hr242
                        have RCH := ch_13 i_233 (by omega)
                        refine lv_icmp_ne (tgt := 107) hx hb dX12_key_100 (by decide) (fun c244 => ?_) (fun c244 => ?_)
                        · have c244 := mt (b_eq (rfl : Int32.toInt r242 = _) (rfl : Int32.toInt (bA tx sz1 (p0 + i_233)) = _)).mpr c244
                          have NE : bA tx sz1 (p0 + i_233) ≠ (kW 13).getD i_233 0 := by rw [← RCH, ← HRC]; intro e; have := congrArg Int32.toInt e; omega
                          refine lv_iconst (v := 0) hx hb dX12_key_107 (by decide) ?_
                          refine lv_istore (lv' := [(4, .int 0), (0, .ref (b 0)), (1, .int 2), (2, .int 13), (3, .int 17), (5, .int (nI i_233))]) hx hb dX12_key_108 hl (by decide) rfl (fun ls hl => ?_)
                          refine lv_iinc (v := nI (i_233 + 1)) (lv' := [(5, .int (nI (i_233 + 1))), (4, .int 0), (0, .ref (b 0)), (1, .int 2), (2, .int 13), (3, .int 17)]) hx hb dX12_key_110 hl (k := 5) rfl (nI_1 i_233) (by decide) rfl (fun ls hl => ?_)
                          refine lv_goto (tgt := 67) hx hb dX12_key_113 (by decide) ?_
                          exact ih233 _ _ (by omega) ⟨(i_233 + 1), 0, rfl, (by first | assumption | omega | rfl | (congr 1; omega)), (by first | exact Or.inl rfl | exact Or.inr rfl), (by first | (intro _; exact ⟨(hL233_2 X1).1, fun q hq => by rcases Nat.lt_or_ge q i_233 with h | h; (exact (hL233_2 X1).2 q h); (obtain rfl : q = i_233 := by omega); exact EQ⟩) | (intro h; exact absurd h (by decide))), (by first | (intro h; exact absurd h (by decide)) | (intro _; exact eqw_at (w := kW 13) (by have : (kW 13).length = 17 - 13 := rfl; omega) NE)), lv_sub hl [2, 3, 4, 5, 1, 0] rfl⟩
                        · have c244 := (b_eq (rfl : Int32.toInt r242 = _) (rfl : Int32.toInt (bA tx sz1 (p0 + i_233)) = _)).mp c244
                          have EQ : bA tx sz1 (p0 + i_233) = (kW 13).getD i_233 0 := by rw [← RCH, ← HRC]; exact Int32.toInt_inj.mp (by omega)
                          refine lv_iconst (v := 1) hx hb dX12_key_103 (by decide) ?_
                          refine lv_goto (tgt := 108) hx hb dX12_key_104 (by decide) ?_
                          refine lv_istore (lv' := [(4, .int 1), (0, .ref (b 0)), (1, .int 2), (2, .int 13), (3, .int 17), (5, .int (nI i_233))]) hx hb dX12_key_108 hl (by decide) rfl (fun ls hl => ?_)
                          refine lv_iinc (v := nI (i_233 + 1)) (lv' := [(5, .int (nI (i_233 + 1))), (4, .int 1), (0, .ref (b 0)), (1, .int 2), (2, .int 13), (3, .int 17)]) hx hb dX12_key_110 hl (k := 5) rfl (nI_1 i_233) (by decide) rfl (fun ls hl => ?_)
                          refine lv_goto (tgt := 67) hx hb dX12_key_113 (by decide) ?_
                          exact ih233 _ _ (by omega) ⟨(i_233 + 1), 1, rfl, (by first | assumption | omega | rfl | (congr 1; omega)), (by first | exact Or.inl rfl | exact Or.inr rfl), (by first | (intro _; exact ⟨(hL233_2 X1).1, fun q hq => by rcases Nat.lt_or_ge q i_233 with h | h; (exact (hL233_2 X1).2 q h); (obtain rfl : q = i_233 := by omega); exact EQ⟩) | (intro h; exact absurd h (by decide))), (by first | (intro h; exact absurd h (by decide)) | (intro _; exact eqw_at (w := kW 13) (by have : (kW 13).length = 17 - 13 := rfl; omega) NE)), lv_sub hl [2, 3, 4, 5, 1, 0] rfl⟩
                  · have c232 := (b_eq (show Int32.toInt 4 = 4 from rfl) (nI_toInt (n := (tnd tx sz1 p0) - p0) (by omega))).mp c232
                    refine lv_iconst (v := 1) hx hb dX12_key_57 (by decide) ?_
                    refine lv_goto (tgt := 62) hx hb dX12_key_58 (by decide) ?_
                    refine lv_istore (lv' := [(4, .int 1), (3, .int 17), (2, .int 13), (1, .int 2), (0, .ref (b 0)), (5, .int (nI i_217))]) hx hb dX12_key_62 hl (by decide) rfl (fun ls hl => ?_)
                    refine lv_iconst (v := 0) hx hb dX12_key_64 (by decide) ?_
                    refine lv_istore (lv' := [(5, .int 0), (4, .int 1), (3, .int 17), (2, .int 13), (1, .int 2), (0, .ref (b 0))]) hx hb dX12_key_65 hl (by decide) rfl (fun ls hl => ?_)
                    refine r_indP (I := fun n ls => ∃ (i_245 : Nat) (x1_245 : Int32), n = 17 - 13 - i_245 ∧ (i_245 ≤ 17 - 13) ∧ (x1_245 = 0 ∨ x1_245 = 1) ∧ (x1_245 = 1 → tnd tx sz1 p0 - p0 = 17 - 13 ∧ ∀ q, q < i_245 → bA tx sz1 (p0 + q) = (kW 13).getD q 0) ∧ (x1_245 = 0 → eqw tx sz1 (kW 13) p0 = false) ∧ lv_has ls 6 [(0, .ref (b 0)), (1, .int 2), (2, .int 13), (3, .int 17), (4, .int x1_245), (5, .int (nI i_245))]) (fun n ls hI ih245 => ?_) _ _ ⟨0, 1, rfl, (by first | assumption | omega | rfl | (congr 1; omega)), (by first | exact Or.inl rfl | exact Or.inr rfl), (by first | (intro _; exact ⟨by omega, fun q hq => absurd hq (by omega)⟩) | (intro h; exact absurd h (by decide))), (by first | (intro h; exact absurd h (by decide)) | (intro _; exact eqw_len (w := kW 13) (l := 17 - 13) rfl (by omega))), lv_sub hl [5, 4, 3, 2, 1, 0] rfl⟩
                    obtain ⟨i_245, x1_245, hmu245, hL245_0, hL245_1, hL245_2, hL245_3, hl⟩ := hI
                    subst hmu245
                    refine lv_iload hx hb dX12_key_67 (lv_at hl 5 rfl) ?_
                    refine lv_iload_n hx hb dX12_key_69 rfl (lv_at hl 3 rfl) ?_
                    refine lv_iload_n hx hb dX12_key_70 rfl (lv_at hl 2 rfl) ?_
                    refine lv_isub hx hb dX12_key_71 ?_
                    refine W.eq (g2 := F0 m 72 ls [.int 4, .int (nI i_245)]) rfl ?_
                    refine lv_icmp_ge (tgt := 116) hx hb dX12_key_72 (by decide) (fun c246 => ?_) (fun c246 => ?_)
                    · have c246 := (b_le (show Int32.toInt 4 = 4 from rfl) (nI_toInt (n := i_245) (by omega))).mp c246
                      refine lv_iload hx hb dX12_key_116 (lv_at hl 4 rfl) ?_
                      refine lv_if_eq (tgt := 123) hx hb dX12_key_118 (by decide) (fun c247 => ?_) (fun c247 => ?_)
                      · have c247 := (b_eq (rfl : Int32.toInt x1_245 = _) (show Int32.toInt 0 = 0 from rfl)).mp c247
                        have EW13 : eqw tx sz1 (kW 13) p0 = false := hL245_3 (i0_of (by omega))
                        refine lv_iinc (v := 3) (lv' := [(1, .int 3), (0, .ref (b 0)), (2, .int 13), (3, .int 17), (4, .int x1_245), (5, .int (nI i_245))]) hx hb dX12_key_123 hl (k := 1) rfl (by decide) (by decide) rfl (fun ls hl => ?_)
                        refine lv_iload_n hx hb dX12_key_126 rfl (lv_at hl 3 rfl) ?_
                        refine lv_iconst (v := 1) hx hb dX12_key_127 (by decide) ?_
                        refine lv_iadd hx hb dX12_key_128 ?_
                        refine W.eq (g2 := F0 m 129 ls [.int 18]) rfl ?_
                        refine lv_istore_n (lv' := [(2, .int 18), (1, .int 3), (0, .ref (b 0)), (3, .int 17), (4, .int x1_245), (5, .int (nI i_245))]) hx hb dX12_key_129 rfl hl (by decide) rfl (fun ls hl => ?_)
                        refine lv_goto (tgt := 14) hx hb dX12_key_130 (by decide) ?_
                        refine lv_iload_n hx hb dX12_key_14 rfl (lv_at hl 0 rfl) ?_
                        refine va_ldcS hx hb hown hZ dX12_key_15 ?_
                        refine vp_callSi (va_Run.run (va_runV (As := []) (rest := [.int 18]) ⟨hx, hb, hml, hown, noTs⟩ (s_J0_length l adK adV 3 (by decide)) ⟨cbE 0 (wd_488 hE) (wd_129 hE) (wd_1527 hE) rfl rfl (by decide +kernel) ⟨Nat.le_of_ble_eq_true rfl, Nat.le_of_ble_eq_true rfl⟩, (wd_486 hE), (wd_487 hE)⟩ ⟨PS.blind, vk_recv hX.1 (by decide) hS, ps_pre (av := [.ref (adK 3)]) hX hS hE⟩ rfl rfl hl.1 rfl (lv_room (Nat.le_of_ble_eq_true rfl)) dX12_key_17 ⟨Nat.le_of_ble_eq_true rfl, Nat.le_of_ble_eq_true rfl⟩)) (fun r248 hr248 => ?_)
                        have hr248 : r248 = 18 := hr248
                        subst hr248
                        refine lv_icmp_ge (tgt := 133) hx hb dX12_key_20 (by decide) (fun c249 => ?_) (fun c249 => absurd c249 (by decide))
                        refine lv_iconst (v := -1) hx hb dX12_key_133 (by decide) ?_
                        exact W.iret (v := -1) hx hb hr (fun t ht hW => ⟨-1, rfl, Or.inr (Or.inr (Or.inr (⟨rfl, by first | omega | (have q := (kd_word (tx := tx) (n := sz1) (p := p0) (by omega)).trans ((if_neg (by rw [show eqw tx sz1 wVx p0 = false from EW1]; decide)).trans ((if_neg (by rw [show eqw tx sz1 wEd p0 = false from EW8]; decide)).trans (if_neg (by rw [show eqw tx sz1 wWo p0 = false from EW13]; decide)))); omega)⟩))), ht⟩) (fun _ h => absurd h List.not_mem_nil) dX12_key_134
                      · have c247 := mt (b_eq (rfl : Int32.toInt x1_245 = _) (show Int32.toInt 0 = 0 from rfl)).mpr c247
                        have X2 : x1_245 = 1 := i1_of hL245_1 (by omega)
                        have EW13 : eqw tx sz1 (kW 13) p0 = true := by first | exact eqw_t.mpr ⟨(hL245_2 X2).1.trans rfl, fun q hq => (hL245_2 X2).2 q (by have : (kW 13).length = 17 - 13 := rfl; omega)⟩ | (exfalso; omega)
                        refine lv_iload_n hx hb dX12_key_121 rfl (lv_at hl 1 rfl) ?_
                        exact W.iret (v := 2) hx hb hr (fun t ht hW => ⟨2, rfl, Or.inr (Or.inr (Or.inl ⟨rfl, by exact (kd_word (by omega)).trans ((if_neg (by rw [show eqw tx sz1 wVx p0 = false from EW1]; decide)).trans ((if_neg (by rw [show eqw tx sz1 wEd p0 = false from EW8]; decide)).trans (if_pos EW13)))⟩)), ht⟩) (fun _ h => absurd h List.not_mem_nil) dX12_key_122
                    · have c246 := mt (b_le (show Int32.toInt 4 = 4 from rfl) (nI_toInt (n := i_245) (by omega))).mpr c246
                      refine lv_iload hx hb dX12_key_75 (lv_at hl 4 rfl) ?_
                      refine lv_if_eq (tgt := 116) hx hb dX12_key_77 (by decide) (fun c250 => ?_) (fun c250 => ?_)
                      · have c250 := (b_eq (rfl : Int32.toInt x1_245 = _) (show Int32.toInt 0 = 0 from rfl)).mp c250
                        refine lv_iload hx hb dX12_key_116 (lv_at hl 4 rfl) ?_
                        refine lv_if_eq (tgt := 123) hx hb dX12_key_118 (by decide) (fun c251 => ?_) (fun c251 => ?_)
                        · have c251 := (b_eq (rfl : Int32.toInt x1_245 = _) (show Int32.toInt 0 = 0 from rfl)).mp c251
                          have EW13 : eqw tx sz1 (kW 13) p0 = false := hL245_3 (i0_of (by omega))
                          refine lv_iinc (v := 3) (lv' := [(1, .int 3), (0, .ref (b 0)), (2, .int 13), (3, .int 17), (4, .int x1_245), (5, .int (nI i_245))]) hx hb dX12_key_123 hl (k := 1) rfl (by decide) (by decide) rfl (fun ls hl => ?_)
                          refine lv_iload_n hx hb dX12_key_126 rfl (lv_at hl 3 rfl) ?_
                          refine lv_iconst (v := 1) hx hb dX12_key_127 (by decide) ?_
                          refine lv_iadd hx hb dX12_key_128 ?_
                          refine W.eq (g2 := F0 m 129 ls [.int 18]) rfl ?_
                          refine lv_istore_n (lv' := [(2, .int 18), (1, .int 3), (0, .ref (b 0)), (3, .int 17), (4, .int x1_245), (5, .int (nI i_245))]) hx hb dX12_key_129 rfl hl (by decide) rfl (fun ls hl => ?_)
                          refine lv_goto (tgt := 14) hx hb dX12_key_130 (by decide) ?_
                          refine lv_iload_n hx hb dX12_key_14 rfl (lv_at hl 0 rfl) ?_
                          refine va_ldcS hx hb hown hZ dX12_key_15 ?_
                          refine vp_callSi (va_Run.run (va_runV (As := []) (rest := [.int 18]) ⟨hx, hb, hml, hown, noTs⟩ (s_J0_length l adK adV 3 (by decide)) ⟨cbE 0 (wd_488 hE) (wd_129 hE) (wd_1527 hE) rfl rfl (by decide +kernel) ⟨Nat.le_of_ble_eq_true rfl, Nat.le_of_ble_eq_true rfl⟩, (wd_486 hE), (wd_487 hE)⟩ ⟨PS.blind, vk_recv hX.1 (by decide) hS, ps_pre (av := [.ref (adK 3)]) hX hS hE⟩ rfl rfl hl.1 rfl (lv_room (Nat.le_of_ble_eq_true rfl)) dX12_key_17 ⟨Nat.le_of_ble_eq_true rfl, Nat.le_of_ble_eq_true rfl⟩)) (fun r252 hr252 => ?_)
                          have hr252 : r252 = 18 := hr252
                          subst hr252
                          refine lv_icmp_ge (tgt := 133) hx hb dX12_key_20 (by decide) (fun c253 => ?_) (fun c253 => absurd c253 (by decide))
                          refine lv_iconst (v := -1) hx hb dX12_key_133 (by decide) ?_
                          exact W.iret (v := -1) hx hb hr (fun t ht hW => ⟨-1, rfl, Or.inr (Or.inr (Or.inr (⟨rfl, by first | omega | (have q := (kd_word (tx := tx) (n := sz1) (p := p0) (by omega)).trans ((if_neg (by rw [show eqw tx sz1 wVx p0 = false from EW1]; decide)).trans ((if_neg (by rw [show eqw tx sz1 wEd p0 = false from EW8]; decide)).trans (if_neg (by rw [show eqw tx sz1 wWo p0 = false from EW13]; decide)))); omega)⟩))), ht⟩) (fun _ h => absurd h List.not_mem_nil) dX12_key_134
                        · have c251 := mt (b_eq (rfl : Int32.toInt x1_245 = _) (show Int32.toInt 0 = 0 from rfl)).mpr c251
                          have X2 : x1_245 = 1 := i1_of hL245_1 (by omega)
                          have EW13 : eqw tx sz1 (kW 13) p0 = true := by first | exact eqw_t.mpr ⟨(hL245_2 X2).1.trans rfl, fun q hq => (hL245_2 X2).2 q (by have : (kW 13).length = 17 - 13 := rfl; omega)⟩ | (exfalso; omega)
                          refine lv_iload_n hx hb dX12_key_121 rfl (lv_at hl 1 rfl) ?_
                          exact W.iret (v := 2) hx hb hr (fun t ht hW => ⟨2, rfl, Or.inr (Or.inr (Or.inl ⟨rfl, by exact (kd_word (by omega)).trans ((if_neg (by rw [show eqw tx sz1 wVx p0 = false from EW1]; decide)).trans ((if_neg (by rw [show eqw tx sz1 wEd p0 = false from EW8]; decide)).trans (if_pos EW13)))⟩)), ht⟩) (fun _ h => absurd h List.not_mem_nil) dX12_key_122
                      · have c250 := mt (b_eq (rfl : Int32.toInt x1_245 = _) (show Int32.toInt 0 = 0 from rfl)).mpr c250
                        have X1 : x1_245 = 1 := i1_of hL245_1 (by omega)
                        refine va_ldcS hx hb hown hZ dX12_key_80 ?_
                        refine lv_iload_n hx hb dX12_key_82 rfl (lv_at hl 2 rfl) ?_
                        refine lv_iload hx hb dX12_key_83 (lv_at hl 5 rfl) ?_
                        refine lv_iadd hx hb dX12_key_85 ?_
                        refine W.eq (g2 := F0 m 86 ls [.int (nI (13 + i_245)), .ref (adK 3)]) (congrArg (fun z : Int32 => F0 m 86 ls (.int z :: [.ref (adK 3)])) (nI_add 13 i_245)) ?_
                        refine vp_callSi (va_Run.run (va_runV (As := [.int (nI (13 + i_245))]) (rest := []) ⟨hx, hb, hml, hown, noTs⟩ (s_J0_charAt l adK adV 3 (13 + i_245) (by decide) (by show _ < 18; omega)) ⟨cbE 1 (wd_498 hE) (wd_129 hE) (wd_1528 hE) rfl rfl (by decide +kernel) ⟨Nat.le_of_ble_eq_true rfl, Nat.le_of_ble_eq_true rfl⟩, (wd_496 hE), (wd_497 hE)⟩ ⟨PS.blind, vk_recv hX.1 (by decide) hS, ps_pre (av := [.ref (adK 3), .int (nI (13 + i_245))]) hX hS hE⟩ rfl rfl hl.1 rfl (lv_room (Nat.le_of_ble_eq_true rfl)) dX12_key_86 ⟨Nat.le_of_ble_eq_true rfl, Nat.le_of_ble_eq_true rfl⟩)) (fun r254 hr254 => ?_)
                        refine lv_aload_n hx hb dX12_key_89 rfl (lv_at hl 0 rfl) ?_
                        refine lv_aload_n hx hb dX12_key_90 rfl (lv_at hl 0 rfl) ?_
                        refine r_get (v := .int (nI p0)) hx hb (ly_X12 hE) hown hK hP rfl 13 (by decide) (wd_1394 hE) (fun _ h9 => h9) (congrArg (fun z : Int32 => some (Value.int z)) te13_2) dX12_key_91 ?_
                        refine lv_iload hx hb dX12_key_94 (lv_at hl 5 rfl) ?_
                        refine lv_iadd hx hb dX12_key_96 ?_
                        refine W.eq (g2 := F0 m 97 ls [.int (nI (p0 + i_245)), .ref (b 0), .int r254]) (congrArg (fun z : Int32 => F0 m 97 ls (.int z :: [.ref (b 0), .int r254])) (nI_add p0 i_245)) ?_
                        refine vp_callSi (va_Run.run (va_runV (As := [.int (nI (p0 + i_245))]) (rest := [.int r254]) ⟨hx, hb, hml, hown, noTs⟩ (r_X12_byteAt l dC dI s.heap.size cs b u tx hAc16 (p0 + i_245) sz1 hF11 (by first | assumption | omega | rfl | (congr 1; omega)) (by first | assumption | omega | rfl | (congr 1; omega))) ⟨cbE 1 (wd_1510 hE) (wd_126 hE) (wd_1507 hE) rfl rfl (by decide +kernel) ⟨Nat.le_of_ble_eq_true rfl, Nat.le_of_ble_eq_true rfl⟩, (wd_1509 hE), (wd_57 hE)⟩ ⟨PR.blind, r_recv hK hP rfl, (r_pre (av := [.ref (b 0), .int (nI (p0 + i_245))]) hK hP hJ hE)⟩ rfl rfl hl.1 rfl (lv_room (Nat.le_of_ble_eq_true rfl)) dX12_key_97 ⟨Nat.le_of_ble_eq_true rfl, Nat.le_of_ble_eq_true rfl⟩)) (fun r255 hr255 => ?_)
                        subst hr255
                        have htf255 := bA_f tx sz1 (p0 + i_245)
                        have HRC := hr254
                        have RCH := ch_13 i_245 (by omega)
                        refine lv_icmp_ne (tgt := 107) hx hb dX12_key_100 (by decide) (fun c256 => ?_) (fun c256 => ?_)
                        · have c256 := mt (b_eq (rfl : Int32.toInt r254 = _) (rfl : Int32.toInt (bA tx sz1 (p0 + i_245)) = _)).mpr c256
                          have NE : bA tx sz1 (p0 + i_245) ≠ (kW 13).getD i_245 0 := by rw [← RCH, ← HRC]; intro e; have := congrArg Int32.toInt e; omega
                          refine lv_iconst (v := 0) hx hb dX12_key_107 (by decide) ?_
                          refine lv_istore (lv' := [(4, .int 0), (0, .ref (b 0)), (1, .int 2), (2, .int 13), (3, .int 17), (5, .int (nI i_245))]) hx hb dX12_key_108 hl (by decide) rfl (fun ls hl => ?_)
                          refine lv_iinc (v := nI (i_245 + 1)) (lv' := [(5, .int (nI (i_245 + 1))), (4, .int 0), (0, .ref (b 0)), (1, .int 2), (2, .int 13), (3, .int 17)]) hx hb dX12_key_110 hl (k := 5) rfl (nI_1 i_245) (by decide) rfl (fun ls hl => ?_)
                          refine lv_goto (tgt := 67) hx hb dX12_key_113 (by decide) ?_
                          exact ih245 _ _ (by omega) ⟨(i_245 + 1), 0, rfl, (by first | assumption | omega | rfl | (congr 1; omega)), (by first | exact Or.inl rfl | exact Or.inr rfl), (by first | (intro _; exact ⟨(hL245_2 X1).1, fun q hq => by rcases Nat.lt_or_ge q i_245 with h | h; (exact (hL245_2 X1).2 q h); (obtain rfl : q = i_245 := by omega); exact EQ⟩) | (intro h; exact absurd h (by decide))), (by first | (intro h; exact absurd h (by decide)) | (intro _; exact eqw_at (w := kW 13) (by have : (kW 13).length = 17 - 13 := rfl; omega) NE)), lv_sub hl [2, 3, 4, 5, 1, 0] rfl⟩
                        · have c256 := (b_eq (rfl : Int32.toInt r254 = _) (rfl : Int32.toInt (bA tx sz1 (p0 + i_245)) = _)).mp c256
                          have EQ : bA tx sz1 (p0 + i_245) = (kW 13).getD i_245 0 := by rw [← RCH, ← HRC]; exact Int32.toInt_inj.mp (by omega)
                          refine lv_iconst (v := 1) hx hb dX12_key_103 (by decide) ?_
                          refine lv_goto (tgt := 108) hx hb dX12_key_104 (by decide) ?_
                          refine lv_istore (lv' := [(4, .int 1), (0, .ref (b 0)), (1, .int 2), (2, .int 13), (3, .int 17), (5, .int (nI i_245))]) hx hb dX12_key_108 hl (by decide) rfl (fun ls hl => ?_)
                          refine lv_iinc (v := nI (i_245 + 1)) (lv' := [(5, .int (nI (i_245 + 1))), (4, .int 1), (0, .ref (b 0)), (1, .int 2), (2, .int 13), (3, .int 17)]) hx hb dX12_key_110 hl (k := 5) rfl (nI_1 i_245) (by decide) rfl (fun ls hl => ?_)
                          refine lv_goto (tgt := 67) hx hb dX12_key_113 (by decide) ?_
                          exact ih245 _ _ (by omega) ⟨(i_245 + 1), 1, rfl, (by first | assumption | omega | rfl | (congr 1; omega)), (by first | exact Or.inl rfl | exact Or.inr rfl), (by first | (intro _; exact ⟨(hL245_2 X1).1, fun q hq => by rcases Nat.lt_or_ge q i_245 with h | h; (exact (hL245_2 X1).2 q h); (obtain rfl : q = i_245 := by omega); exact EQ⟩) | (intro h; exact absurd h (by decide))), (by first | (intro h; exact absurd h (by decide)) | (intro _; exact eqw_at (w := kW 13) (by have : (kW 13).length = 17 - 13 := rfl; omega) NE)), lv_sub hl [2, 3, 4, 5, 1, 0] rfl⟩
                · have c219 := mt (b_eq (rfl : Int32.toInt x1_217 = _) (show Int32.toInt 0 = 0 from rfl)).mpr c219
                  have X2 : x1_217 = 1 := i1_of hL217_1 (by omega)
                  have EW8 : eqw tx sz1 (kW 8) p0 = true := by first | exact eqw_t.mpr ⟨(hL217_2 X2).1.trans rfl, fun q hq => (hL217_2 X2).2 q (by have : (kW 8).length = 12 - 8 := rfl; omega)⟩ | (exfalso; omega)
                  refine lv_iload_n hx hb dX12_key_121 rfl (lv_at hl 1 rfl) ?_
                  exact W.iret (v := 1) hx hb hr (fun t ht hW => ⟨1, rfl, Or.inr (Or.inl ⟨rfl, by exact (kd_word (by omega)).trans ((if_neg (by rw [show eqw tx sz1 wVx p0 = false from EW1]; decide)).trans (if_pos EW8))⟩), ht⟩) (fun _ h => absurd h List.not_mem_nil) dX12_key_122
              · have c218 := mt (b_le (show Int32.toInt 4 = 4 from rfl) (nI_toInt (n := i_217) (by omega))).mpr c218
                refine lv_iload hx hb dX12_key_75 (lv_at hl 4 rfl) ?_
                refine lv_if_eq (tgt := 116) hx hb dX12_key_77 (by decide) (fun c257 => ?_) (fun c257 => ?_)
                · have c257 := (b_eq (rfl : Int32.toInt x1_217 = _) (show Int32.toInt 0 = 0 from rfl)).mp c257
                  refine lv_iload hx hb dX12_key_116 (lv_at hl 4 rfl) ?_
                  refine lv_if_eq (tgt := 123) hx hb dX12_key_118 (by decide) (fun c258 => ?_) (fun c258 => ?_)
                  · have c258 := (b_eq (rfl : Int32.toInt x1_217 = _) (show Int32.toInt 0 = 0 from rfl)).mp c258
                    have EW8 : eqw tx sz1 (kW 8) p0 = false := hL217_3 (i0_of (by omega))
                    refine lv_iinc (v := 2) (lv' := [(1, .int 2), (0, .ref (b 0)), (2, .int 8), (3, .int 12), (4, .int x1_217), (5, .int (nI i_217))]) hx hb dX12_key_123 hl (k := 1) rfl (by decide) (by decide) rfl (fun ls hl => ?_)
                    refine lv_iload_n hx hb dX12_key_126 rfl (lv_at hl 3 rfl) ?_
                    refine lv_iconst (v := 1) hx hb dX12_key_127 (by decide) ?_
                    refine lv_iadd hx hb dX12_key_128 ?_
                    refine W.eq (g2 := F0 m 129 ls [.int 13]) rfl ?_
                    refine lv_istore_n (lv' := [(2, .int 13), (1, .int 2), (0, .ref (b 0)), (3, .int 12), (4, .int x1_217), (5, .int (nI i_217))]) hx hb dX12_key_129 rfl hl (by decide) rfl (fun ls hl => ?_)
                    refine lv_goto (tgt := 14) hx hb dX12_key_130 (by decide) ?_
                    refine lv_iload_n hx hb dX12_key_14 rfl (lv_at hl 0 rfl) ?_
                    refine va_ldcS hx hb hown hZ dX12_key_15 ?_
                    refine vp_callSi (va_Run.run (va_runV (As := []) (rest := [.int 13]) ⟨hx, hb, hml, hown, noTs⟩ (s_J0_length l adK adV 3 (by decide)) ⟨cbE 0 (wd_488 hE) (wd_129 hE) (wd_1527 hE) rfl rfl (by decide +kernel) ⟨Nat.le_of_ble_eq_true rfl, Nat.le_of_ble_eq_true rfl⟩, (wd_486 hE), (wd_487 hE)⟩ ⟨PS.blind, vk_recv hX.1 (by decide) hS, ps_pre (av := [.ref (adK 3)]) hX hS hE⟩ rfl rfl hl.1 rfl (lv_room (Nat.le_of_ble_eq_true rfl)) dX12_key_17 ⟨Nat.le_of_ble_eq_true rfl, Nat.le_of_ble_eq_true rfl⟩)) (fun r259 hr259 => ?_)
                    have hr259 : r259 = 18 := hr259
                    subst hr259
                    refine lv_icmp_ge (tgt := 133) hx hb dX12_key_20 (by decide) (fun c260 => absurd c260 (by decide)) (fun c260 => ?_)
                    refine lv_iload_n hx hb dX12_key_23 rfl (lv_at hl 0 rfl) ?_
                    refine lv_istore_n (lv' := [(3, .int 13), (2, .int 13), (1, .int 2), (0, .ref (b 0)), (4, .int x1_217), (5, .int (nI i_217))]) hx hb dX12_key_24 rfl hl (by decide) rfl (fun ls hl => ?_)
                    refine va_ldcS hx hb hown hZ dX12_key_25 ?_
                    refine lv_iload_n hx hb dX12_key_27 rfl (lv_at hl 0 rfl) ?_
                    refine vp_callSi (va_Run.run (va_runV (As := [.int (nI 13)]) (rest := []) ⟨hx, hb, hml, hown, noTs⟩ (s_J0_charAt l adK adV 3 13 (by decide) (by show _ < 18; omega)) ⟨cbE 1 (wd_498 hE) (wd_129 hE) (wd_1528 hE) rfl rfl (by decide +kernel) ⟨Nat.le_of_ble_eq_true rfl, Nat.le_of_ble_eq_true rfl⟩, (wd_496 hE), (wd_497 hE)⟩ ⟨PS.blind, vk_recv hX.1 (by decide) hS, ps_pre (av := [.ref (adK 3), .int (nI 13)]) hX hS hE⟩ rfl rfl hl.1 rfl (lv_room (Nat.le_of_ble_eq_true rfl)) dX12_key_28 ⟨Nat.le_of_ble_eq_true rfl, Nat.le_of_ble_eq_true rfl⟩)) (fun r261 hr261 => ?_)
                    have hr261 : r261 = 119 := hr261.trans (by decide)
                    subst hr261
                    refine lv_bipush (v := 32) hx hb dX12_key_31 (by decide) ?_
                    refine lv_icmp_eq (tgt := 42) hx hb dX12_key_33 (by decide) (fun c262 => absurd c262 (by decide)) (fun c262 => ?_)
                    refine lv_iinc (v := 14) (lv' := [(3, .int 14), (2, .int 13), (1, .int 2), (0, .ref (b 0)), (4, .int x1_217), (5, .int (nI i_217))]) hx hb dX12_key_36 hl (k := 0) rfl (by decide) (by decide) rfl (fun ls hl => ?_)
                    refine lv_goto (tgt := 25) hx hb dX12_key_39 (by decide) ?_
                    refine va_ldcS hx hb hown hZ dX12_key_25 ?_
                    refine lv_iload_n hx hb dX12_key_27 rfl (lv_at hl 0 rfl) ?_
                    refine vp_callSi (va_Run.run (va_runV (As := [.int (nI 14)]) (rest := []) ⟨hx, hb, hml, hown, noTs⟩ (s_J0_charAt l adK adV 3 14 (by decide) (by show _ < 18; omega)) ⟨cbE 1 (wd_498 hE) (wd_129 hE) (wd_1528 hE) rfl rfl (by decide +kernel) ⟨Nat.le_of_ble_eq_true rfl, Nat.le_of_ble_eq_true rfl⟩, (wd_496 hE), (wd_497 hE)⟩ ⟨PS.blind, vk_recv hX.1 (by decide) hS, ps_pre (av := [.ref (adK 3), .int (nI 14)]) hX hS hE⟩ rfl rfl hl.1 rfl (lv_room (Nat.le_of_ble_eq_true rfl)) dX12_key_28 ⟨Nat.le_of_ble_eq_true rfl, Nat.le_of_ble_eq_true rfl⟩)) (fun r263 hr263 => ?_)
                    have hr263 : r263 = 111 := hr263.trans (by decide)
                    subst hr263
                    refine lv_bipush (v := 32) hx hb dX12_key_31 (by decide) ?_
                    refine lv_icmp_eq (tgt := 42) hx hb dX12_key_33 (by decide) (fun c264 => absurd c264 (by decide)) (fun c264 => ?_)
                    refine lv_iinc (v := 15) (lv' := [(3, .int 15), (2, .int 13), (1, .int 2), (0, .ref (b 0)), (4, .int x1_217), (5, .int (nI i_217))]) hx hb dX12_key_36 hl (k := 0) rfl (by decide) (by decide) rfl (fun ls hl => ?_)
                    refine lv_goto (tgt := 25) hx hb dX12_key_39 (by decide) ?_
                    refine va_ldcS hx hb hown hZ dX12_key_25 ?_
                    refine lv_iload_n hx hb dX12_key_27 rfl (lv_at hl 0 rfl) ?_
                    refine vp_callSi (va_Run.run (va_runV (As := [.int (nI 15)]) (rest := []) ⟨hx, hb, hml, hown, noTs⟩ (s_J0_charAt l adK adV 3 15 (by decide) (by show _ < 18; omega)) ⟨cbE 1 (wd_498 hE) (wd_129 hE) (wd_1528 hE) rfl rfl (by decide +kernel) ⟨Nat.le_of_ble_eq_true rfl, Nat.le_of_ble_eq_true rfl⟩, (wd_496 hE), (wd_497 hE)⟩ ⟨PS.blind, vk_recv hX.1 (by decide) hS, ps_pre (av := [.ref (adK 3), .int (nI 15)]) hX hS hE⟩ rfl rfl hl.1 rfl (lv_room (Nat.le_of_ble_eq_true rfl)) dX12_key_28 ⟨Nat.le_of_ble_eq_true rfl, Nat.le_of_ble_eq_true rfl⟩)) (fun r265 hr265 => ?_)
                    have hr265 : r265 = 114 := hr265.trans (by decide)
                    subst hr265
                    refine lv_bipush (v := 32) hx hb dX12_key_31 (by decide) ?_
                    refine lv_icmp_eq (tgt := 42) hx hb dX12_key_33 (by decide) (fun c266 => absurd c266 (by decide)) (fun c266 => ?_)
                    refine lv_iinc (v := 16) (lv' := [(3, .int 16), (2, .int 13), (1, .int 2), (0, .ref (b 0)), (4, .int x1_217), (5, .int (nI i_217))]) hx hb dX12_key_36 hl (k := 0) rfl (by decide) (by decide) rfl (fun ls hl => ?_)
                    refine lv_goto (tgt := 25) hx hb dX12_key_39 (by decide) ?_
                    refine va_ldcS hx hb hown hZ dX12_key_25 ?_
                    refine lv_iload_n hx hb dX12_key_27 rfl (lv_at hl 0 rfl) ?_
                    refine vp_callSi (va_Run.run (va_runV (As := [.int (nI 16)]) (rest := []) ⟨hx, hb, hml, hown, noTs⟩ (s_J0_charAt l adK adV 3 16 (by decide) (by show _ < 18; omega)) ⟨cbE 1 (wd_498 hE) (wd_129 hE) (wd_1528 hE) rfl rfl (by decide +kernel) ⟨Nat.le_of_ble_eq_true rfl, Nat.le_of_ble_eq_true rfl⟩, (wd_496 hE), (wd_497 hE)⟩ ⟨PS.blind, vk_recv hX.1 (by decide) hS, ps_pre (av := [.ref (adK 3), .int (nI 16)]) hX hS hE⟩ rfl rfl hl.1 rfl (lv_room (Nat.le_of_ble_eq_true rfl)) dX12_key_28 ⟨Nat.le_of_ble_eq_true rfl, Nat.le_of_ble_eq_true rfl⟩)) (fun r267 hr267 => ?_)
                    have hr267 : r267 = 100 := hr267.trans (by decide)
                    subst hr267
                    refine lv_bipush (v := 32) hx hb dX12_key_31 (by decide) ?_
                    refine lv_icmp_eq (tgt := 42) hx hb dX12_key_33 (by decide) (fun c268 => absurd c268 (by decide)) (fun c268 => ?_)
                    refine lv_iinc (v := 17) (lv' := [(3, .int 17), (2, .int 13), (1, .int 2), (0, .ref (b 0)), (4, .int x1_217), (5, .int (nI i_217))]) hx hb dX12_key_36 hl (k := 0) rfl (by decide) (by decide) rfl (fun ls hl => ?_)
                    refine lv_goto (tgt := 25) hx hb dX12_key_39 (by decide) ?_
                    refine va_ldcS hx hb hown hZ dX12_key_25 ?_
                    refine lv_iload_n hx hb dX12_key_27 rfl (lv_at hl 0 rfl) ?_
                    refine vp_callSi (va_Run.run (va_runV (As := [.int (nI 17)]) (rest := []) ⟨hx, hb, hml, hown, noTs⟩ (s_J0_charAt l adK adV 3 17 (by decide) (by show _ < 18; omega)) ⟨cbE 1 (wd_498 hE) (wd_129 hE) (wd_1528 hE) rfl rfl (by decide +kernel) ⟨Nat.le_of_ble_eq_true rfl, Nat.le_of_ble_eq_true rfl⟩, (wd_496 hE), (wd_497 hE)⟩ ⟨PS.blind, vk_recv hX.1 (by decide) hS, ps_pre (av := [.ref (adK 3), .int (nI 17)]) hX hS hE⟩ rfl rfl hl.1 rfl (lv_room (Nat.le_of_ble_eq_true rfl)) dX12_key_28 ⟨Nat.le_of_ble_eq_true rfl, Nat.le_of_ble_eq_true rfl⟩)) (fun r269 hr269 => ?_)
                    have hr269 : r269 = 32 := hr269.trans (by decide)
                    subst hr269
                    refine lv_bipush (v := 32) hx hb dX12_key_31 (by decide) ?_
                    refine lv_icmp_eq (tgt := 42) hx hb dX12_key_33 (by decide) (fun c270 => ?_) (fun c270 => absurd c270 (by decide))
                    refine lv_iload_n hx hb dX12_key_42 rfl (lv_at hl 0 rfl) ?_
                    refine lv_iload_n hx hb dX12_key_43 rfl (lv_at hl 1 rfl) ?_
                    refine lv_isub hx hb dX12_key_44 ?_
                    refine W.eq (g2 := F0 m 45 ls [.int 4]) rfl ?_
                    refine lv_aload_n hx hb dX12_key_45 rfl (lv_at hl 3 rfl) ?_
                    refine r_get (v := .int (nI (tnd tx sz1 p0))) hx hb (ly_X12 hE) hown hK hP rfl 14 (by decide) (wd_1395 hE) (fun _ h9 => h9) (congrArg (fun z : Int32 => some (Value.int z)) te14_2) dX12_key_46 ?_
                    refine lv_aload_n hx hb dX12_key_49 rfl (lv_at hl 3 rfl) ?_
                    refine r_get (v := .int (nI p0)) hx hb (ly_X12 hE) hown hK hP rfl 13 (by decide) (wd_1394 hE) (fun _ h9 => h9) (congrArg (fun z : Int32 => some (Value.int z)) te13_2) dX12_key_50 ?_
                    refine lv_isub hx hb dX12_key_53 ?_
                    refine W.eq (g2 := F0 m 54 ls [.int (nI ((tnd tx sz1 p0) - p0)), .int 4]) (congrArg (fun z : Int32 => F0 m 54 ls (.int z :: [.int 4])) (pk_sub (a := tnd tx sz1 p0) (b := p0) (by omega))) ?_
                    refine lv_icmp_ne (tgt := 61) hx hb dX12_key_54 (by decide) (fun c271 => ?_) (fun c271 => ?_)
                    · have c271 := mt (b_eq (show Int32.toInt 4 = 4 from rfl) (nI_toInt (n := (tnd tx sz1 p0) - p0) (by omega))).mpr c271
                      refine lv_iconst (v := 0) hx hb dX12_key_61 (by decide) ?_
                      refine lv_istore (lv' := [(4, .int 0), (3, .int 17), (2, .int 13), (1, .int 2), (0, .ref (b 0)), (5, .int (nI i_217))]) hx hb dX12_key_62 hl (by decide) rfl (fun ls hl => ?_)
                      refine lv_iconst (v := 0) hx hb dX12_key_64 (by decide) ?_
                      refine lv_istore (lv' := [(5, .int 0), (4, .int 0), (3, .int 17), (2, .int 13), (1, .int 2), (0, .ref (b 0))]) hx hb dX12_key_65 hl (by decide) rfl (fun ls hl => ?_)
                      refine r_indP (I := fun n ls => ∃ (i_272 : Nat) (x1_272 : Int32), n = 17 - 13 - i_272 ∧ (i_272 ≤ 17 - 13) ∧ (x1_272 = 0 ∨ x1_272 = 1) ∧ (x1_272 = 1 → tnd tx sz1 p0 - p0 = 17 - 13 ∧ ∀ q, q < i_272 → bA tx sz1 (p0 + q) = (kW 13).getD q 0) ∧ (x1_272 = 0 → eqw tx sz1 (kW 13) p0 = false) ∧ lv_has ls 6 [(0, .ref (b 0)), (1, .int 2), (2, .int 13), (3, .int 17), (4, .int x1_272), (5, .int (nI i_272))]) (fun n ls hI ih272 => ?_) _ _ ⟨0, 0, rfl, (by first | assumption | omega | rfl | (congr 1; omega)), (by first | exact Or.inl rfl | exact Or.inr rfl), (by first | (intro _; exact ⟨by omega, fun q hq => absurd hq (by omega)⟩) | (intro h; exact absurd h (by decide))), (by first | (intro h; exact absurd h (by decide)) | (intro _; exact eqw_len (w := kW 13) (l := 17 - 13) rfl (by omega))), lv_sub hl [5, 4, 3, 2, 1, 0] rfl⟩
                      obtain ⟨i_272, x1_272, hmu272, hL272_0, hL272_1, hL272_2, hL272_3, hl⟩ := hI
                      subst hmu272
                      refine lv_iload hx hb dX12_key_67 (lv_at hl 5 rfl) ?_
                      refine lv_iload_n hx hb dX12_key_69 rfl (lv_at hl 3 rfl) ?_
                      refine lv_iload_n hx hb dX12_key_70 rfl (lv_at hl 2 rfl) ?_
                      refine lv_isub hx hb dX12_key_71 ?_
                      refine W.eq (g2 := F0 m 72 ls [.int 4, .int (nI i_272)]) rfl ?_
                      refine lv_icmp_ge (tgt := 116) hx hb dX12_key_72 (by decide) (fun c273 => ?_) (fun c273 => ?_)
                      · have c273 := (b_le (show Int32.toInt 4 = 4 from rfl) (nI_toInt (n := i_272) (by omega))).mp c273
                        refine lv_iload hx hb dX12_key_116 (lv_at hl 4 rfl) ?_
                        refine lv_if_eq (tgt := 123) hx hb dX12_key_118 (by decide) (fun c274 => ?_) (fun c274 => ?_)
                        · have c274 := (b_eq (rfl : Int32.toInt x1_272 = _) (show Int32.toInt 0 = 0 from rfl)).mp c274
                          have EW13 : eqw tx sz1 (kW 13) p0 = false := hL272_3 (i0_of (by omega))
                          refine lv_iinc (v := 3) (lv' := [(1, .int 3), (0, .ref (b 0)), (2, .int 13), (3, .int 17), (4, .int x1_272), (5, .int (nI i_272))]) hx hb dX12_key_123 hl (k := 1) rfl (by decide) (by decide) rfl (fun ls hl => ?_)
                          refine lv_iload_n hx hb dX12_key_126 rfl (lv_at hl 3 rfl) ?_
                          refine lv_iconst (v := 1) hx hb dX12_key_127 (by decide) ?_
                          refine lv_iadd hx hb dX12_key_128 ?_
                          refine W.eq (g2 := F0 m 129 ls [.int 18]) rfl ?_
                          refine lv_istore_n (lv' := [(2, .int 18), (1, .int 3), (0, .ref (b 0)), (3, .int 17), (4, .int x1_272), (5, .int (nI i_272))]) hx hb dX12_key_129 rfl hl (by decide) rfl (fun ls hl => ?_)
                          refine lv_goto (tgt := 14) hx hb dX12_key_130 (by decide) ?_
                          refine lv_iload_n hx hb dX12_key_14 rfl (lv_at hl 0 rfl) ?_
                          refine va_ldcS hx hb hown hZ dX12_key_15 ?_
                          refine vp_callSi (va_Run.run (va_runV (As := []) (rest := [.int 18]) ⟨hx, hb, hml, hown, noTs⟩ (s_J0_length l adK adV 3 (by decide)) ⟨cbE 0 (wd_488 hE) (wd_129 hE) (wd_1527 hE) rfl rfl (by decide +kernel) ⟨Nat.le_of_ble_eq_true rfl, Nat.le_of_ble_eq_true rfl⟩, (wd_486 hE), (wd_487 hE)⟩ ⟨PS.blind, vk_recv hX.1 (by decide) hS, ps_pre (av := [.ref (adK 3)]) hX hS hE⟩ rfl rfl hl.1 rfl (lv_room (Nat.le_of_ble_eq_true rfl)) dX12_key_17 ⟨Nat.le_of_ble_eq_true rfl, Nat.le_of_ble_eq_true rfl⟩)) (fun r275 hr275 => ?_)
                          have hr275 : r275 = 18 := hr275
                          subst hr275
                          refine lv_icmp_ge (tgt := 133) hx hb dX12_key_20 (by decide) (fun c276 => ?_) (fun c276 => absurd c276 (by decide))
                          refine lv_iconst (v := -1) hx hb dX12_key_133 (by decide) ?_
                          exact W.iret (v := -1) hx hb hr (fun t ht hW => ⟨-1, rfl, Or.inr (Or.inr (Or.inr (⟨rfl, by first | omega | (have q := (kd_word (tx := tx) (n := sz1) (p := p0) (by omega)).trans ((if_neg (by rw [show eqw tx sz1 wVx p0 = false from EW1]; decide)).trans ((if_neg (by rw [show eqw tx sz1 wEd p0 = false from EW8]; decide)).trans (if_neg (by rw [show eqw tx sz1 wWo p0 = false from EW13]; decide)))); omega)⟩))), ht⟩) (fun _ h => absurd h List.not_mem_nil) dX12_key_134
                        · have c274 := mt (b_eq (rfl : Int32.toInt x1_272 = _) (show Int32.toInt 0 = 0 from rfl)).mpr c274
                          have X2 : x1_272 = 1 := i1_of hL272_1 (by omega)
                          have EW13 : eqw tx sz1 (kW 13) p0 = true := by first | exact eqw_t.mpr ⟨(hL272_2 X2).1.trans rfl, fun q hq => (hL272_2 X2).2 q (by have : (kW 13).length = 17 - 13 := rfl; omega)⟩ | (exfalso; omega)
                          refine lv_iload_n hx hb dX12_key_121 rfl (lv_at hl 1 rfl) ?_
                          exact W.iret (v := 2) hx hb hr (fun t ht hW => ⟨2, rfl, Or.inr (Or.inr (Or.inl ⟨rfl, by exact (kd_word (by omega)).trans ((if_neg (by rw [show eqw tx sz1 wVx p0 = false from EW1]; decide)).trans ((if_neg (by rw [show eqw tx sz1 wEd p0 = false from EW8]; decide)).trans (if_pos EW13)))⟩)), ht⟩) (fun _ h => absurd h List.not_mem_nil) dX12_key_122
                      · have c273 := mt (b_le (show Int32.toInt 4 = 4 from rfl) (nI_toInt (n := i_272) (by omega))).mpr c273
                        refine lv_iload hx hb dX12_key_75 (lv_at hl 4 rfl) ?_
                        refine lv_if_eq (tgt := 116) hx hb dX12_key_77 (by decide) (fun c277 => ?_) (fun c277 => ?_)
                        · have c277 := (b_eq (rfl : Int32.toInt x1_272 = _) (show Int32.toInt 0 = 0 from rfl)).mp c277
                          refine lv_iload hx hb dX12_key_116 (lv_at hl 4 rfl) ?_
                          refine lv_if_eq (tgt := 123) hx hb dX12_key_118 (by decide) (fun c278 => ?_) (fun c278 => ?_)
                          · have c278 := (b_eq (rfl : Int32.toInt x1_272 = _) (show Int32.toInt 0 = 0 from rfl)).mp c278
                            have EW13 : eqw tx sz1 (kW 13) p0 = false := hL272_3 (i0_of (by omega))
                            refine lv_iinc (v := 3) (lv' := [(1, .int 3), (0, .ref (b 0)), (2, .int 13), (3, .int 17), (4, .int x1_272), (5, .int (nI i_272))]) hx hb dX12_key_123 hl (k := 1) rfl (by decide) (by decide) rfl (fun ls hl => ?_)
                            refine lv_iload_n hx hb dX12_key_126 rfl (lv_at hl 3 rfl) ?_
                            refine lv_iconst (v := 1) hx hb dX12_key_127 (by decide) ?_
                            refine lv_iadd hx hb dX12_key_128 ?_
                            refine W.eq (g2 := F0 m 129 ls [.int 18]) rfl ?_
                            refine lv_istore_n (lv' := [(2, .int 18), (1, .int 3), (0, .ref (b 0)), (3, .int 17), (4, .int x1_272), (5, .int (nI i_272))]) hx hb dX12_key_129 rfl hl (by decide) rfl (fun ls hl => ?_)
                            refine lv_goto (tgt := 14) hx hb dX12_key_130 (by decide) ?_
                            refine lv_iload_n hx hb dX12_key_14 rfl (lv_at hl 0 rfl) ?_
                            refine va_ldcS hx hb hown hZ dX12_key_15 ?_
                            refine vp_callSi (va_Run.run (va_runV (As := []) (rest := [.int 18]) ⟨hx, hb, hml, hown, noTs⟩ (s_J0_length l adK adV 3 (by decide)) ⟨cbE 0 (wd_488 hE) (wd_129 hE) (wd_1527 hE) rfl rfl (by decide +kernel) ⟨Nat.le_of_ble_eq_true rfl, Nat.le_of_ble_eq_true rfl⟩, (wd_486 hE), (wd_487 hE)⟩ ⟨PS.blind, vk_recv hX.1 (by decide) hS, ps_pre (av := [.ref (adK 3)]) hX hS hE⟩ rfl rfl hl.1 rfl (lv_room (Nat.le_of_ble_eq_true rfl)) dX12_key_17 ⟨Nat.le_of_ble_eq_true rfl, Nat.le_of_ble_eq_true rfl⟩)) (fun r279 hr279 => ?_)
                            have hr279 : r279 = 18 := hr279
                            subst hr279
                            refine lv_icmp_ge (tgt := 133) hx hb dX12_key_20 (by decide) (fun c280 => ?_) (fun c280 => absurd c280 (by decide))
                            refine lv_iconst (v := -1) hx hb dX12_key_133 (by decide) ?_
                            exact W.iret (v := -1) hx hb hr (fun t ht hW => ⟨-1, rfl, Or.inr (Or.inr (Or.inr (⟨rfl, by first | omega | (have q := (kd_word (tx := tx) (n := sz1) (p := p0) (by omega)).trans ((if_neg (by rw [show eqw tx sz1 wVx p0 = false from EW1]; decide)).trans ((if_neg (by rw [show eqw tx sz1 wEd p0 = false from EW8]; decide)).trans (if_neg (by rw [show eqw tx sz1 wWo p0 = false from EW13]; decide)))); omega)⟩))), ht⟩) (fun _ h => absurd h List.not_mem_nil) dX12_key_134
                          · have c278 := mt (b_eq (rfl : Int32.toInt x1_272 = _) (show Int32.toInt 0 = 0 from rfl)).mpr c278
                            have X2 : x1_272 = 1 := i1_of hL272_1 (by omega)
                            have EW13 : eqw tx sz1 (kW 13) p0 = true := by first | exact eqw_t.mpr ⟨(hL272_2 X2).1.trans rfl, fun q hq => (hL272_2 X2).2 q (by have : (kW 13).length = 17 - 13 := rfl; omega)⟩ | (exfalso; omega)
                            refine lv_iload_n hx hb dX12_key_121 rfl (lv_at hl 1 rfl) ?_
                            exact W.iret (v := 2) hx hb hr (fun t ht hW => ⟨2, rfl, Or.inr (Or.inr (Or.inl ⟨rfl, by exact (kd_word (by omega)).trans ((if_neg (by rw [show eqw tx sz1 wVx p0 = false from EW1]; decide)).trans ((if_neg (by rw [show eqw tx sz1 wEd p0 = false from EW8]; decide)).trans (if_pos EW13)))⟩)), ht⟩) (fun _ h => absurd h List.not_mem_nil) dX12_key_122
                        · have c277 := mt (b_eq (rfl : Int32.toInt x1_272 = _) (show Int32.toInt 0 = 0 from rfl)).mpr c277
                          have X1 : x1_272 = 1 := i1_of hL272_1 (by omega)
                          refine va_ldcS hx hb hown hZ dX12_key_80 ?_
                          refine lv_iload_n hx hb dX12_key_82 rfl (lv_at hl 2 rfl) ?_
                          refine lv_iload hx hb dX12_key_83 (lv_at hl 5 rfl) ?_
                          refine lv_iadd hx hb dX12_key_85 ?_
                          refine W.eq (g2 := F0 m 86 ls [.int (nI (13 + i_272)), .ref (adK 3)]) (congrArg (fun z : Int32 => F0 m 86 ls (.int z :: [.ref (adK 3)])) (nI_add 13 i_272)) ?_
                          refine vp_callSi (va_Run.run (va_runV (As := [.int (nI (13 + i_272))]) (rest := []) ⟨hx, hb, hml, hown, noTs⟩ (s_J0_charAt l adK adV 3 (13 + i_272) (by decide) (by show _ < 18; omega)) ⟨cbE 1 (wd_498 hE) (wd_129 hE) (wd_1528 hE) rfl rfl (by decide +kernel) ⟨Nat.le_of_ble_eq_true rfl, Nat.le_of_ble_eq_true rfl⟩, (wd_496 hE), (wd_497 hE)⟩ ⟨PS.blind, vk_recv hX.1 (by decide) hS, ps_pre (av := [.ref (adK 3), .int (nI (13 + i_272))]) hX hS hE⟩ rfl rfl hl.1 rfl (lv_room (Nat.le_of_ble_eq_true rfl)) dX12_key_86 ⟨Nat.le_of_ble_eq_true rfl, Nat.le_of_ble_eq_true rfl⟩)) (fun r281 hr281 => ?_)
                          refine lv_aload_n hx hb dX12_key_89 rfl (lv_at hl 0 rfl) ?_
                          refine lv_aload_n hx hb dX12_key_90 rfl (lv_at hl 0 rfl) ?_
                          refine r_get (v := .int (nI p0)) hx hb (ly_X12 hE) hown hK hP rfl 13 (by decide) (wd_1394 hE) (fun _ h9 => h9) (congrArg (fun z : Int32 => some (Value.int z)) te13_2) dX12_key_91 ?_
                          refine lv_iload hx hb dX12_key_94 (lv_at hl 5 rfl) ?_
                          refine lv_iadd hx hb dX12_key_96 ?_
                          refine W.eq (g2 := F0 m 97 ls [.int (nI (p0 + i_272)), .ref (b 0), .int r281]) (congrArg (fun z : Int32 => F0 m 97 ls (.int z :: [.ref (b 0), .int r281])) (nI_add p0 i_272)) ?_
                          refine vp_callSi (va_Run.run (va_runV (As := [.int (nI (p0 + i_272))]) (rest := [.int r281]) ⟨hx, hb, hml, hown, noTs⟩ (r_X12_byteAt l dC dI s.heap.size cs b u tx hAc16 (p0 + i_272) sz1 hF11 (by first | assumption | omega | rfl | (congr 1; omega)) (by first | assumption | omega | rfl | (congr 1; omega))) ⟨cbE 1 (wd_1510 hE) (wd_126 hE) (wd_1507 hE) rfl rfl (by decide +kernel) ⟨Nat.le_of_ble_eq_true rfl, Nat.le_of_ble_eq_true rfl⟩, (wd_1509 hE), (wd_57 hE)⟩ ⟨PR.blind, r_recv hK hP rfl, (r_pre (av := [.ref (b 0), .int (nI (p0 + i_272))]) hK hP hJ hE)⟩ rfl rfl hl.1 rfl (lv_room (Nat.le_of_ble_eq_true rfl)) dX12_key_97 ⟨Nat.le_of_ble_eq_true rfl, Nat.le_of_ble_eq_true rfl⟩)) (fun r282 hr282 => ?_)
                          subst hr282
                          have htf282 := bA_f tx sz1 (p0 + i_272)
                          have HRC := hr281
                          have RCH := ch_13 i_272 (by omega)
                          refine lv_icmp_ne (tgt := 107) hx hb dX12_key_100 (by decide) (fun c283 => ?_) (fun c283 => ?_)
                          · have c283 := mt (b_eq (rfl : Int32.toInt r281 = _) (rfl : Int32.toInt (bA tx sz1 (p0 + i_272)) = _)).mpr c283
                            have NE : bA tx sz1 (p0 + i_272) ≠ (kW 13).getD i_272 0 := by rw [← RCH, ← HRC]; intro e; have := congrArg Int32.toInt e; omega
                            refine lv_iconst (v := 0) hx hb dX12_key_107 (by decide) ?_
                            refine lv_istore (lv' := [(4, .int 0), (0, .ref (b 0)), (1, .int 2), (2, .int 13), (3, .int 17), (5, .int (nI i_272))]) hx hb dX12_key_108 hl (by decide) rfl (fun ls hl => ?_)
                            refine lv_iinc (v := nI (i_272 + 1)) (lv' := [(5, .int (nI (i_272 + 1))), (4, .int 0), (0, .ref (b 0)), (1, .int 2), (2, .int 13), (3, .int 17)]) hx hb dX12_key_110 hl (k := 5) rfl (nI_1 i_272) (by decide) rfl (fun ls hl => ?_)
                            refine lv_goto (tgt := 67) hx hb dX12_key_113 (by decide) ?_
                            exact ih272 _ _ (by omega) ⟨(i_272 + 1), 0, rfl, (by first | assumption | omega | rfl | (congr 1; omega)), (by first | exact Or.inl rfl | exact Or.inr rfl), (by first | (intro _; exact ⟨(hL272_2 X1).1, fun q hq => by rcases Nat.lt_or_ge q i_272 with h | h; (exact (hL272_2 X1).2 q h); (obtain rfl : q = i_272 := by omega); exact EQ⟩) | (intro h; exact absurd h (by decide))), (by first | (intro h; exact absurd h (by decide)) | (intro _; exact eqw_at (w := kW 13) (by have : (kW 13).length = 17 - 13 := rfl; omega) NE)), lv_sub hl [2, 3, 4, 5, 1, 0] rfl⟩
                          · have c283 := (b_eq (rfl : Int32.toInt r281 = _) (rfl : Int32.toInt (bA tx sz1 (p0 + i_272)) = _)).mp c283
                            have EQ : bA tx sz1 (p0 + i_272) = (kW 13).getD i_272 0 := by rw [← RCH, ← HRC]; exact Int32.toInt_inj.mp (by omega)
                            refine lv_iconst (v := 1) hx hb dX12_key_103 (by decide) ?_
                            refine lv_goto (tgt := 108) hx hb dX12_key_104 (by decide) ?_
                            refine lv_istore (lv' := [(4, .int 1), (0, .ref (b 0)), (1, .int 2), (2, .int 13), (3, .int 17), (5, .int (nI i_272))]) hx hb dX12_key_108 hl (by decide) rfl (fun ls hl => ?_)
                            refine lv_iinc (v := nI (i_272 + 1)) (lv' := [(5, .int (nI (i_272 + 1))), (4, .int 1), (0, .ref (b 0)), (1, .int 2), (2, .int 13), (3, .int 17)]) hx hb dX12_key_110 hl (k := 5) rfl (nI_1 i_272) (by decide) rfl (fun ls hl => ?_)
                            refine lv_goto (tgt := 67) hx hb dX12_key_113 (by decide) ?_
                            exact ih272 _ _ (by omega) ⟨(i_272 + 1), 1, rfl, (by first | assumption | omega | rfl | (congr 1; omega)), (by first | exact Or.inl rfl | exact Or.inr rfl), (by first | (intro _; exact ⟨(hL272_2 X1).1, fun q hq => by rcases Nat.lt_or_ge q i_272 with h | h; (exact (hL272_2 X1).2 q h); (obtain rfl : q = i_272 := by omega); exact EQ⟩) | (intro h; exact absurd h (by decide))), (by first | (intro h; exact absurd h (by decide)) | (intro _; exact eqw_at (w := kW 13) (by have : (kW 13).length = 17 - 13 := rfl; omega) NE)), lv_sub hl [2, 3, 4, 5, 1, 0] rfl⟩
                    · have c271 := (b_eq (show Int32.toInt 4 = 4 from rfl) (nI_toInt (n := (tnd tx sz1 p0) - p0) (by omega))).mp c271
                      refine lv_iconst (v := 1) hx hb dX12_key_57 (by decide) ?_
                      refine lv_goto (tgt := 62) hx hb dX12_key_58 (by decide) ?_
                      refine lv_istore (lv' := [(4, .int 1), (3, .int 17), (2, .int 13), (1, .int 2), (0, .ref (b 0)), (5, .int (nI i_217))]) hx hb dX12_key_62 hl (by decide) rfl (fun ls hl => ?_)
                      refine lv_iconst (v := 0) hx hb dX12_key_64 (by decide) ?_
                      refine lv_istore (lv' := [(5, .int 0), (4, .int 1), (3, .int 17), (2, .int 13), (1, .int 2), (0, .ref (b 0))]) hx hb dX12_key_65 hl (by decide) rfl (fun ls hl => ?_)
                      refine r_indP (I := fun n ls => ∃ (i_284 : Nat) (x1_284 : Int32), n = 17 - 13 - i_284 ∧ (i_284 ≤ 17 - 13) ∧ (x1_284 = 0 ∨ x1_284 = 1) ∧ (x1_284 = 1 → tnd tx sz1 p0 - p0 = 17 - 13 ∧ ∀ q, q < i_284 → bA tx sz1 (p0 + q) = (kW 13).getD q 0) ∧ (x1_284 = 0 → eqw tx sz1 (kW 13) p0 = false) ∧ lv_has ls 6 [(0, .ref (b 0)), (1, .int 2), (2, .int 13), (3, .int 17), (4, .int x1_284), (5, .int (nI i_284))]) (fun n ls hI ih284 => ?_) _ _ ⟨0, 1, rfl, (by first | assumption | omega | rfl | (congr 1; omega)), (by first | exact Or.inl rfl | exact Or.inr rfl), (by first | (intro _; exact ⟨by omega, fun q hq => absurd hq (by omega)⟩) | (intro h; exact absurd h (by decide))), (by first | (intro h; exact absurd h (by decide)) | (intro _; exact eqw_len (w := kW 13) (l := 17 - 13) rfl (by omega))), lv_sub hl [5, 4, 3, 2, 1, 0] rfl⟩
                      obtain ⟨i_284, x1_284, hmu284, hL284_0, hL284_1, hL284_2, hL284_3, hl⟩ := hI
                      subst hmu284
                      refine lv_iload hx hb dX12_key_67 (lv_at hl 5 rfl) ?_
                      refine lv_iload_n hx hb dX12_key_69 rfl (lv_at hl 3 rfl) ?_
                      refine lv_iload_n hx hb dX12_key_70 rfl (lv_at hl 2 rfl) ?_
                      refine lv_isub hx hb dX12_key_71 ?_
                      refine W.eq (g2 := F0 m 72 ls [.int 4, .int (nI i_284)]) rfl ?_
                      refine lv_icmp_ge (tgt := 116) hx hb dX12_key_72 (by decide) (fun c285 => ?_) (fun c285 => ?_)
                      · have c285 := (b_le (show Int32.toInt 4 = 4 from rfl) (nI_toInt (n := i_284) (by omega))).mp c285
                        refine lv_iload hx hb dX12_key_116 (lv_at hl 4 rfl) ?_
                        refine lv_if_eq (tgt := 123) hx hb dX12_key_118 (by decide) (fun c286 => ?_) (fun c286 => ?_)
                        · have c286 := (b_eq (rfl : Int32.toInt x1_284 = _) (show Int32.toInt 0 = 0 from rfl)).mp c286
                          have EW13 : eqw tx sz1 (kW 13) p0 = false := hL284_3 (i0_of (by omega))
                          refine lv_iinc (v := 3) (lv' := [(1, .int 3), (0, .ref (b 0)), (2, .int 13), (3, .int 17), (4, .int x1_284), (5, .int (nI i_284))]) hx hb dX12_key_123 hl (k := 1) rfl (by decide) (by decide) rfl (fun ls hl => ?_)
                          refine lv_iload_n hx hb dX12_key_126 rfl (lv_at hl 3 rfl) ?_
                          refine lv_iconst (v := 1) hx hb dX12_key_127 (by decide) ?_
                          refine lv_iadd hx hb dX12_key_128 ?_
                          refine W.eq (g2 := F0 m 129 ls [.int 18]) rfl ?_
                          refine lv_istore_n (lv' := [(2, .int 18), (1, .int 3), (0, .ref (b 0)), (3, .int 17), (4, .int x1_284), (5, .int (nI i_284))]) hx hb dX12_key_129 rfl hl (by decide) rfl (fun ls hl => ?_)
                          refine lv_goto (tgt := 14) hx hb dX12_key_130 (by decide) ?_
                          refine lv_iload_n hx hb dX12_key_14 rfl (lv_at hl 0 rfl) ?_
                          refine va_ldcS hx hb hown hZ dX12_key_15 ?_
                          refine vp_callSi (va_Run.run (va_runV (As := []) (rest := [.int 18]) ⟨hx, hb, hml, hown, noTs⟩ (s_J0_length l adK adV 3 (by decide)) ⟨cbE 0 (wd_488 hE) (wd_129 hE) (wd_1527 hE) rfl rfl (by decide +kernel) ⟨Nat.le_of_ble_eq_true rfl, Nat.le_of_ble_eq_true rfl⟩, (wd_486 hE), (wd_487 hE)⟩ ⟨PS.blind, vk_recv hX.1 (by decide) hS, ps_pre (av := [.ref (adK 3)]) hX hS hE⟩ rfl rfl hl.1 rfl (lv_room (Nat.le_of_ble_eq_true rfl)) dX12_key_17 ⟨Nat.le_of_ble_eq_true rfl, Nat.le_of_ble_eq_true rfl⟩)) (fun r287 hr287 => ?_)
                          have hr287 : r287 = 18 := hr287
                          subst hr287
                          refine lv_icmp_ge (tgt := 133) hx hb dX12_key_20 (by decide) (fun c288 => ?_) (fun c288 => absurd c288 (by decide))
                          refine lv_iconst (v := -1) hx hb dX12_key_133 (by decide) ?_
                          exact W.iret (v := -1) hx hb hr (fun t ht hW => ⟨-1, rfl, Or.inr (Or.inr (Or.inr (⟨rfl, by first | omega | (have q := (kd_word (tx := tx) (n := sz1) (p := p0) (by omega)).trans ((if_neg (by rw [show eqw tx sz1 wVx p0 = false from EW1]; decide)).trans ((if_neg (by rw [show eqw tx sz1 wEd p0 = false from EW8]; decide)).trans (if_neg (by rw [show eqw tx sz1 wWo p0 = false from EW13]; decide)))); omega)⟩))), ht⟩) (fun _ h => absurd h List.not_mem_nil) dX12_key_134
                        · have c286 := mt (b_eq (rfl : Int32.toInt x1_284 = _) (show Int32.toInt 0 = 0 from rfl)).mpr c286
                          have X2 : x1_284 = 1 := i1_of hL284_1 (by omega)
                          have EW13 : eqw tx sz1 (kW 13) p0 = true := by first | exact eqw_t.mpr ⟨(hL284_2 X2).1.trans rfl, fun q hq => (hL284_2 X2).2 q (by have : (kW 13).length = 17 - 13 := rfl; omega)⟩ | (exfalso; omega)
                          refine lv_iload_n hx hb dX12_key_121 rfl (lv_at hl 1 rfl) ?_
                          exact W.iret (v := 2) hx hb hr (fun t ht hW => ⟨2, rfl, Or.inr (Or.inr (Or.inl ⟨rfl, by exact (kd_word (by omega)).trans ((if_neg (by rw [show eqw tx sz1 wVx p0 = false from EW1]; decide)).trans ((if_neg (by rw [show eqw tx sz1 wEd p0 = false from EW8]; decide)).trans (if_pos EW13)))⟩)), ht⟩) (fun _ h => absurd h List.not_mem_nil) dX12_key_122
                      · have c285 := mt (b_le (show Int32.toInt 4 = 4 from rfl) (nI_toInt (n := i_284) (by omega))).mpr c285
                        refine lv_iload hx hb dX12_key_75 (lv_at hl 4 rfl) ?_
                        refine lv_if_eq (tgt := 116) hx hb dX12_key_77 (by decide) (fun c289 => ?_) (fun c289 => ?_)
                        · have c289 := (b_eq (rfl : Int32.toInt x1_284 = _) (show Int32.toInt 0 = 0 from rfl)).mp c289
                          refine lv_iload hx hb dX12_key_116 (lv_at hl 4 rfl) ?_
                          refine lv_if_eq (tgt := 123) hx hb dX12_key_118 (by decide) (fun c290 => ?_) (fun c290 => ?_)
                          · have c290 := (b_eq (rfl : Int32.toInt x1_284 = _) (show Int32.toInt 0 = 0 from rfl)).mp c290
                            have EW13 : eqw tx sz1 (kW 13) p0 = false := hL284_3 (i0_of (by omega))
                            refine lv_iinc (v := 3) (lv' := [(1, .int 3), (0, .ref (b 0)), (2, .int 13), (3, .int 17), (4, .int x1_284), (5, .int (nI i_284))]) hx hb dX12_key_123 hl (k := 1) rfl (by decide) (by decide) rfl (fun ls hl => ?_)
                            refine lv_iload_n hx hb dX12_key_126 rfl (lv_at hl 3 rfl) ?_
                            refine lv_iconst (v := 1) hx hb dX12_key_127 (by decide) ?_
                            refine lv_iadd hx hb dX12_key_128 ?_
                            refine W.eq (g2 := F0 m 129 ls [.int 18]) rfl ?_
                            refine lv_istore_n (lv' := [(2, .int 18), (1, .int 3), (0, .ref (b 0)), (3, .int 17), (4, .int x1_284), (5, .int (nI i_284))]) hx hb dX12_key_129 rfl hl (by decide) rfl (fun ls hl => ?_)
                            refine lv_goto (tgt := 14) hx hb dX12_key_130 (by decide) ?_
                            refine lv_iload_n hx hb dX12_key_14 rfl (lv_at hl 0 rfl) ?_
                            refine va_ldcS hx hb hown hZ dX12_key_15 ?_
                            refine vp_callSi (va_Run.run (va_runV (As := []) (rest := [.int 18]) ⟨hx, hb, hml, hown, noTs⟩ (s_J0_length l adK adV 3 (by decide)) ⟨cbE 0 (wd_488 hE) (wd_129 hE) (wd_1527 hE) rfl rfl (by decide +kernel) ⟨Nat.le_of_ble_eq_true rfl, Nat.le_of_ble_eq_true rfl⟩, (wd_486 hE), (wd_487 hE)⟩ ⟨PS.blind, vk_recv hX.1 (by decide) hS, ps_pre (av := [.ref (adK 3)]) hX hS hE⟩ rfl rfl hl.1 rfl (lv_room (Nat.le_of_ble_eq_true rfl)) dX12_key_17 ⟨Nat.le_of_ble_eq_true rfl, Nat.le_of_ble_eq_true rfl⟩)) (fun r291 hr291 => ?_)
                            have hr291 : r291 = 18 := hr291
                            subst hr291
                            refine lv_icmp_ge (tgt := 133) hx hb dX12_key_20 (by decide) (fun c292 => ?_) (fun c292 => absurd c292 (by decide))
                            refine lv_iconst (v := -1) hx hb dX12_key_133 (by decide) ?_
                            exact W.iret (v := -1) hx hb hr (fun t ht hW => ⟨-1, rfl, Or.inr (Or.inr (Or.inr (⟨rfl, by first | omega | (have q := (kd_word (tx := tx) (n := sz1) (p := p0) (by omega)).trans ((if_neg (by rw [show eqw tx sz1 wVx p0 = false from EW1]; decide)).trans ((if_neg (by rw [show eqw tx sz1 wEd p0 = false from EW8]; decide)).trans (if_neg (by rw [show eqw tx sz1 wWo p0 = false from EW13]; decide)))); omega)⟩))), ht⟩) (fun _ h => absurd h List.not_mem_nil) dX12_key_134
                          · have c290 := mt (b_eq (rfl : Int32.toInt x1_284 = _) (show Int32.toInt 0 = 0 from rfl)).mpr c290
                            have X2 : x1_284 = 1 := i1_of hL284_1 (by omega)
                            have EW13 : eqw tx sz1 (kW 13) p0 = true := by first | exact eqw_t.mpr ⟨(hL284_2 X2).1.trans rfl, fun q hq => (hL284_2 X2).2 q (by have : (kW 13).length = 17 - 13 := rfl; omega)⟩ | (exfalso; omega)
                            refine lv_iload_n hx hb dX12_key_121 rfl (lv_at hl 1 rfl) ?_
                            exact W.iret (v := 2) hx hb hr (fun t ht hW => ⟨2, rfl, Or.inr (Or.inr (Or.inl ⟨rfl, by exact (kd_word (by omega)).trans ((if_neg (by rw [show eqw tx sz1 wVx p0 = false from EW1]; decide)).trans ((if_neg (by rw [show eqw tx sz1 wEd p0 = false from EW8]; decide)).trans (if_pos EW13)))⟩)), ht⟩) (fun _ h => absurd h List.not_mem_nil) dX12_key_122
                        · have c289 := mt (b_eq (rfl : Int32.toInt x1_284 = _) (show Int32.toInt 0 = 0 from rfl)).mpr c289
                          have X1 : x1_284 = 1 := i1_of hL284_1 (by omega)
                          refine va_ldcS hx hb hown hZ dX12_key_80 ?_
                          refine lv_iload_n hx hb dX12_key_82 rfl (lv_at hl 2 rfl) ?_
                          refine lv_iload hx hb dX12_key_83 (lv_at hl 5 rfl) ?_
                          refine lv_iadd hx hb dX12_key_85 ?_
                          refine W.eq (g2 := F0 m 86 ls [.int (nI (13 + i_284)), .ref (adK 3)]) (congrArg (fun z : Int32 => F0 m 86 ls (.int z :: [.ref (adK 3)])) (nI_add 13 i_284)) ?_
                          refine vp_callSi (va_Run.run (va_runV (As := [.int (nI (13 + i_284))]) (rest := []) ⟨hx, hb, hml, hown, noTs⟩ (s_J0_charAt l adK adV 3 (13 + i_284) (by decide) (by show _ < 18; omega)) ⟨cbE 1 (wd_498 hE) (wd_129 hE) (wd_1528 hE) rfl rfl (by decide +kernel) ⟨Nat.le_of_ble_eq_true rfl, Nat.le_of_ble_eq_true rfl⟩, (wd_496 hE), (wd_497 hE)⟩ ⟨PS.blind, vk_recv hX.1 (by decide) hS, ps_pre (av := [.ref (adK 3), .int (nI (13 + i_284))]) hX hS hE⟩ rfl rfl hl.1 rfl (lv_room (Nat.le_of_ble_eq_true rfl)) dX12_key_86 ⟨Nat.le_of_ble_eq_true rfl, Nat.le_of_ble_eq_true rfl⟩)) (fun r293 hr293 => ?_)
                          refine lv_aload_n hx hb dX12_key_89 rfl (lv_at hl 0 rfl) ?_
                          refine lv_aload_n hx hb dX12_key_90 rfl (lv_at hl 0 rfl) ?_
                          refine r_get (v := .int (nI p0)) hx hb (ly_X12 hE) hown hK hP rfl 13 (by decide) (wd_1394 hE) (fun _ h9 => h9) (congrArg (fun z : Int32 => some (Value.int z)) te13_2) dX12_key_91 ?_
                          refine lv_iload hx hb dX12_key_94 (lv_at hl 5 rfl) ?_
                          refine lv_iadd hx hb dX12_key_96 ?_
                          refine W.eq (g2 := F0 m 97 ls [.int (nI (p0 + i_284)), .ref (b 0), .int r293]) (congrArg (fun z : Int32 => F0 m 97 ls (.int z :: [.ref (b 0), .int r293])) (nI_add p0 i_284)) ?_
                          refine vp_callSi (va_Run.run (va_runV (As := [.int (nI (p0 + i_284))]) (rest := [.int r293]) ⟨hx, hb, hml, hown, noTs⟩ (r_X12_byteAt l dC dI s.heap.size cs b u tx hAc16 (p0 + i_284) sz1 hF11 (by first | assumption | omega | rfl | (congr 1; omega)) (by first | assumption | omega | rfl | (congr 1; omega))) ⟨cbE 1 (wd_1510 hE) (wd_126 hE) (wd_1507 hE) rfl rfl (by decide +kernel) ⟨Nat.le_of_ble_eq_true rfl, Nat.le_of_ble_eq_true rfl⟩, (wd_1509 hE), (wd_57 hE)⟩ ⟨PR.blind, r_recv hK hP rfl, (r_pre (av := [.ref (b 0), .int (nI (p0 + i_284))]) hK hP hJ hE)⟩ rfl rfl hl.1 rfl (lv_room (Nat.le_of_ble_eq_true rfl)) dX12_key_97 ⟨Nat.le_of_ble_eq_true rfl, Nat.le_of_ble_eq_true rfl⟩)) (fun r294 hr294 => ?_)
                          subst hr294
                          have htf294 := bA_f tx sz1 (p0 + i_284)
                          have HRC := hr293
                          have RCH := ch_13 i_284 (by omega)
                          refine lv_icmp_ne (tgt := 107) hx hb dX12_key_100 (by decide) (fun c295 => ?_) (fun c295 => ?_)
                          · have c295 := mt (b_eq (rfl : Int32.toInt r293 = _) (rfl : Int32.toInt (bA tx sz1 (p0 + i_284)) = _)).mpr c295
                            have NE : bA tx sz1 (p0 + i_284) ≠ (kW 13).getD i_284 0 := by rw [← RCH, ← HRC]; intro e; have := congrArg Int32.toInt e; omega
                            refine lv_iconst (v := 0) hx hb dX12_key_107 (by decide) ?_
                            refine lv_istore (lv' := [(4, .int 0), (0, .ref (b 0)), (1, .int 2), (2, .int 13), (3, .int 17), (5, .int (nI i_284))]) hx hb dX12_key_108 hl (by decide) rfl (fun ls hl => ?_)
                            refine lv_iinc (v := nI (i_284 + 1)) (lv' := [(5, .int (nI (i_284 + 1))), (4, .int 0), (0, .ref (b 0)), (1, .int 2), (2, .int 13), (3, .int 17)]) hx hb dX12_key_110 hl (k := 5) rfl (nI_1 i_284) (by decide) rfl (fun ls hl => ?_)
                            refine lv_goto (tgt := 67) hx hb dX12_key_113 (by decide) ?_
                            exact ih284 _ _ (by omega) ⟨(i_284 + 1), 0, rfl, (by first | assumption | omega | rfl | (congr 1; omega)), (by first | exact Or.inl rfl | exact Or.inr rfl), (by first | (intro _; exact ⟨(hL284_2 X1).1, fun q hq => by rcases Nat.lt_or_ge q i_284 with h | h; (exact (hL284_2 X1).2 q h); (obtain rfl : q = i_284 := by omega); exact EQ⟩) | (intro h; exact absurd h (by decide))), (by first | (intro h; exact absurd h (by decide)) | (intro _; exact eqw_at (w := kW 13) (by have : (kW 13).length = 17 - 13 := rfl; omega) NE)), lv_sub hl [2, 3, 4, 5, 1, 0] rfl⟩
                          · have c295 := (b_eq (rfl : Int32.toInt r293 = _) (rfl : Int32.toInt (bA tx sz1 (p0 + i_284)) = _)).mp c295
                            have EQ : bA tx sz1 (p0 + i_284) = (kW 13).getD i_284 0 := by rw [← RCH, ← HRC]; exact Int32.toInt_inj.mp (by omega)
                            refine lv_iconst (v := 1) hx hb dX12_key_103 (by decide) ?_
                            refine lv_goto (tgt := 108) hx hb dX12_key_104 (by decide) ?_
                            refine lv_istore (lv' := [(4, .int 1), (0, .ref (b 0)), (1, .int 2), (2, .int 13), (3, .int 17), (5, .int (nI i_284))]) hx hb dX12_key_108 hl (by decide) rfl (fun ls hl => ?_)
                            refine lv_iinc (v := nI (i_284 + 1)) (lv' := [(5, .int (nI (i_284 + 1))), (4, .int 1), (0, .ref (b 0)), (1, .int 2), (2, .int 13), (3, .int 17)]) hx hb dX12_key_110 hl (k := 5) rfl (nI_1 i_284) (by decide) rfl (fun ls hl => ?_)
                            refine lv_goto (tgt := 67) hx hb dX12_key_113 (by decide) ?_
                            exact ih284 _ _ (by omega) ⟨(i_284 + 1), 1, rfl, (by first | assumption | omega | rfl | (congr 1; omega)), (by first | exact Or.inl rfl | exact Or.inr rfl), (by first | (intro _; exact ⟨(hL284_2 X1).1, fun q hq => by rcases Nat.lt_or_ge q i_284 with h | h; (exact (hL284_2 X1).2 q h); (obtain rfl : q = i_284 := by omega); exact EQ⟩) | (intro h; exact absurd h (by decide))), (by first | (intro h; exact absurd h (by decide)) | (intro _; exact eqw_at (w := kW 13) (by have : (kW 13).length = 17 - 13 := rfl; omega) NE)), lv_sub hl [2, 3, 4, 5, 1, 0] rfl⟩
                  · have c258 := mt (b_eq (rfl : Int32.toInt x1_217 = _) (show Int32.toInt 0 = 0 from rfl)).mpr c258
                    have X2 : x1_217 = 1 := i1_of hL217_1 (by omega)
                    have EW8 : eqw tx sz1 (kW 8) p0 = true := by first | exact eqw_t.mpr ⟨(hL217_2 X2).1.trans rfl, fun q hq => (hL217_2 X2).2 q (by have : (kW 8).length = 12 - 8 := rfl; omega)⟩ | (exfalso; omega)
                    refine lv_iload_n hx hb dX12_key_121 rfl (lv_at hl 1 rfl) ?_
                    exact W.iret (v := 1) hx hb hr (fun t ht hW => ⟨1, rfl, Or.inr (Or.inl ⟨rfl, by exact (kd_word (by omega)).trans ((if_neg (by rw [show eqw tx sz1 wVx p0 = false from EW1]; decide)).trans (if_pos EW8))⟩), ht⟩) (fun _ h => absurd h List.not_mem_nil) dX12_key_122
                · have c257 := mt (b_eq (rfl : Int32.toInt x1_217 = _) (show Int32.toInt 0 = 0 from rfl)).mpr c257
                  have X1 : x1_217 = 1 := i1_of hL217_1 (by omega)
                  refine va_ldcS hx hb hown hZ dX12_key_80 ?_
                  refine lv_iload_n hx hb dX12_key_82 rfl (lv_at hl 2 rfl) ?_
                  refine lv_iload hx hb dX12_key_83 (lv_at hl 5 rfl) ?_
                  refine lv_iadd hx hb dX12_key_85 ?_
                  refine W.eq (g2 := F0 m 86 ls [.int (nI (8 + i_217)), .ref (adK 3)]) (congrArg (fun z : Int32 => F0 m 86 ls (.int z :: [.ref (adK 3)])) (nI_add 8 i_217)) ?_
                  refine vp_callSi (va_Run.run (va_runV (As := [.int (nI (8 + i_217))]) (rest := []) ⟨hx, hb, hml, hown, noTs⟩ (s_J0_charAt l adK adV 3 (8 + i_217) (by decide) (by show _ < 18; omega)) ⟨cbE 1 (wd_498 hE) (wd_129 hE) (wd_1528 hE) rfl rfl (by decide +kernel) ⟨Nat.le_of_ble_eq_true rfl, Nat.le_of_ble_eq_true rfl⟩, (wd_496 hE), (wd_497 hE)⟩ ⟨PS.blind, vk_recv hX.1 (by decide) hS, ps_pre (av := [.ref (adK 3), .int (nI (8 + i_217))]) hX hS hE⟩ rfl rfl hl.1 rfl (lv_room (Nat.le_of_ble_eq_true rfl)) dX12_key_86 ⟨Nat.le_of_ble_eq_true rfl, Nat.le_of_ble_eq_true rfl⟩)) (fun r296 hr296 => ?_)
                  refine lv_aload_n hx hb dX12_key_89 rfl (lv_at hl 0 rfl) ?_
                  refine lv_aload_n hx hb dX12_key_90 rfl (lv_at hl 0 rfl) ?_
                  refine r_get (v := .int (nI p0)) hx hb (ly_X12 hE) hown hK hP rfl 13 (by decide) (wd_1394 hE) (fun _ h9 => h9) (congrArg (fun z : Int32 => some (Value.int z)) te13_2) dX12_key_91 ?_
                  refine lv_iload hx hb dX12_key_94 (lv_at hl 5 rfl) ?_
                  refine lv_iadd hx hb dX12_key_96 ?_
                  refine W.eq (g2 := F0 m 97 ls [.int (nI (p0 + i_217)), .ref (b 0), .int r296]) (congrArg (fun z : Int32 => F0 m 97 ls (.int z :: [.ref (b 0), .int r296])) (nI_add p0 i_217)) ?_
                  refine vp_callSi (va_Run.run (va_runV (As := [.int (nI (p0 + i_217))]) (rest := [.int r296]) ⟨hx, hb, hml, hown, noTs⟩ (r_X12_byteAt l dC dI s.heap.size cs b u tx hAc16 (p0 + i_217) sz1 hF11 (by first | assumption | omega | rfl | (congr 1; omega)) (by first | assumption | omega | rfl | (congr 1; omega))) ⟨cbE 1 (wd_1510 hE) (wd_126 hE) (wd_1507 hE) rfl rfl (by decide +kernel) ⟨Nat.le_of_ble_eq_true rfl, Nat.le_of_ble_eq_true rfl⟩, (wd_1509 hE), (wd_57 hE)⟩ ⟨PR.blind, r_recv hK hP rfl, (r_pre (av := [.ref (b 0), .int (nI (p0 + i_217))]) hK hP hJ hE)⟩ rfl rfl hl.1 rfl (lv_room (Nat.le_of_ble_eq_true rfl)) dX12_key_97 ⟨Nat.le_of_ble_eq_true rfl, Nat.le_of_ble_eq_true rfl⟩)) (fun r297 hr297 => ?_)
                  subst hr297
                  have htf297 := bA_f tx sz1 (p0 + i_217)
                  have HRC := hr296
                  have RCH := ch_8 i_217 (by omega)
                  refine lv_icmp_ne (tgt := 107) hx hb dX12_key_100 (by decide) (fun c298 => ?_) (fun c298 => ?_)
                  · have c298 := mt (b_eq (rfl : Int32.toInt r296 = _) (rfl : Int32.toInt (bA tx sz1 (p0 + i_217)) = _)).mpr c298
                    have NE : bA tx sz1 (p0 + i_217) ≠ (kW 8).getD i_217 0 := by rw [← RCH, ← HRC]; intro e; have := congrArg Int32.toInt e; omega
                    refine lv_iconst (v := 0) hx hb dX12_key_107 (by decide) ?_
                    refine lv_istore (lv' := [(4, .int 0), (0, .ref (b 0)), (1, .int 1), (2, .int 8), (3, .int 12), (5, .int (nI i_217))]) hx hb dX12_key_108 hl (by decide) rfl (fun ls hl => ?_)
                    refine lv_iinc (v := nI (i_217 + 1)) (lv' := [(5, .int (nI (i_217 + 1))), (4, .int 0), (0, .ref (b 0)), (1, .int 1), (2, .int 8), (3, .int 12)]) hx hb dX12_key_110 hl (k := 5) rfl (nI_1 i_217) (by decide) rfl (fun ls hl => ?_)
                    refine lv_goto (tgt := 67) hx hb dX12_key_113 (by decide) ?_
                    exact ih217 _ _ (by omega) ⟨(i_217 + 1), 0, rfl, (by first | assumption | omega | rfl | (congr 1; omega)), (by first | exact Or.inl rfl | exact Or.inr rfl), (by first | (intro _; exact ⟨(hL217_2 X1).1, fun q hq => by rcases Nat.lt_or_ge q i_217 with h | h; (exact (hL217_2 X1).2 q h); (obtain rfl : q = i_217 := by omega); exact EQ⟩) | (intro h; exact absurd h (by decide))), (by first | (intro h; exact absurd h (by decide)) | (intro _; exact eqw_at (w := kW 8) (by have : (kW 8).length = 12 - 8 := rfl; omega) NE)), lv_sub hl [2, 3, 4, 5, 1, 0] rfl⟩
                  · have c298 := (b_eq (rfl : Int32.toInt r296 = _) (rfl : Int32.toInt (bA tx sz1 (p0 + i_217)) = _)).mp c298
                    have EQ : bA tx sz1 (p0 + i_217) = (kW 8).getD i_217 0 := by rw [← RCH, ← HRC]; exact Int32.toInt_inj.mp (by omega)
                    refine lv_iconst (v := 1) hx hb dX12_key_103 (by decide) ?_
                    refine lv_goto (tgt := 108) hx hb dX12_key_104 (by decide) ?_
                    refine lv_istore (lv' := [(4, .int 1), (0, .ref (b 0)), (1, .int 1), (2, .int 8), (3, .int 12), (5, .int (nI i_217))]) hx hb dX12_key_108 hl (by decide) rfl (fun ls hl => ?_)
                    refine lv_iinc (v := nI (i_217 + 1)) (lv' := [(5, .int (nI (i_217 + 1))), (4, .int 1), (0, .ref (b 0)), (1, .int 1), (2, .int 8), (3, .int 12)]) hx hb dX12_key_110 hl (k := 5) rfl (nI_1 i_217) (by decide) rfl (fun ls hl => ?_)
                    refine lv_goto (tgt := 67) hx hb dX12_key_113 (by decide) ?_
                    exact ih217 _ _ (by omega) ⟨(i_217 + 1), 1, rfl, (by first | assumption | omega | rfl | (congr 1; omega)), (by first | exact Or.inl rfl | exact Or.inr rfl), (by first | (intro _; exact ⟨(hL217_2 X1).1, fun q hq => by rcases Nat.lt_or_ge q i_217 with h | h; (exact (hL217_2 X1).2 q h); (obtain rfl : q = i_217 := by omega); exact EQ⟩) | (intro h; exact absurd h (by decide))), (by first | (intro h; exact absurd h (by decide)) | (intro _; exact eqw_at (w := kW 8) (by have : (kW 8).length = 12 - 8 := rfl; omega) NE)), lv_sub hl [2, 3, 4, 5, 1, 0] rfl⟩
            · have c216 := (b_eq (show Int32.toInt 4 = 4 from rfl) (nI_toInt (n := (tnd tx sz1 p0) - p0) (by omega))).mp c216
              refine lv_iconst (v := 1) hx hb dX12_key_57 (by decide) ?_
              refine lv_goto (tgt := 62) hx hb dX12_key_58 (by decide) ?_
              refine lv_istore (lv' := [(4, .int 1), (3, .int 12), (2, .int 8), (1, .int 1), (0, .ref (b 0)), (5, .int (nI i_22))]) hx hb dX12_key_62 hl (by decide) rfl (fun ls hl => ?_)
              refine lv_iconst (v := 0) hx hb dX12_key_64 (by decide) ?_
              refine lv_istore (lv' := [(5, .int 0), (4, .int 1), (3, .int 12), (2, .int 8), (1, .int 1), (0, .ref (b 0))]) hx hb dX12_key_65 hl (by decide) rfl (fun ls hl => ?_)
              refine r_indP (I := fun n ls => ∃ (i_299 : Nat) (x1_299 : Int32), n = 12 - 8 - i_299 ∧ (i_299 ≤ 12 - 8) ∧ (x1_299 = 0 ∨ x1_299 = 1) ∧ (x1_299 = 1 → tnd tx sz1 p0 - p0 = 12 - 8 ∧ ∀ q, q < i_299 → bA tx sz1 (p0 + q) = (kW 8).getD q 0) ∧ (x1_299 = 0 → eqw tx sz1 (kW 8) p0 = false) ∧ lv_has ls 6 [(0, .ref (b 0)), (1, .int 1), (2, .int 8), (3, .int 12), (4, .int x1_299), (5, .int (nI i_299))]) (fun n ls hI ih299 => ?_) _ _ ⟨0, 1, rfl, (by first | assumption | omega | rfl | (congr 1; omega)), (by first | exact Or.inl rfl | exact Or.inr rfl), (by first | (intro _; exact ⟨by omega, fun q hq => absurd hq (by omega)⟩) | (intro h; exact absurd h (by decide))), (by first | (intro h; exact absurd h (by decide)) | (intro _; exact eqw_len (w := kW 8) (l := 12 - 8) rfl (by omega))), lv_sub hl [5, 4, 3, 2, 1, 0] rfl⟩
              obtain ⟨i_299, x1_299, hmu299, hL299_0, hL299_1, hL299_2, hL299_3, hl⟩ := hI
              subst hmu299
              refine lv_iload hx hb dX12_key_67 (lv_at hl 5 rfl) ?_
              refine lv_iload_n hx hb dX12_key_69 rfl (lv_at hl 3 rfl) ?_
              refine lv_iload_n hx hb dX12_key_70 rfl (lv_at hl 2 rfl) ?_
              refine lv_isub hx hb dX12_key_71 ?_
              refine W.eq (g2 := F0 m 72 ls [.int 4, .int (nI i_299)]) rfl ?_
              refine lv_icmp_ge (tgt := 116) hx hb dX12_key_72 (by decide) (fun c300 => ?_) (fun c300 => ?_)
              · have c300 := (b_le (show Int32.toInt 4 = 4 from rfl) (nI_toInt (n := i_299) (by omega))).mp c300
                refine lv_iload hx hb dX12_key_116 (lv_at hl 4 rfl) ?_
                refine lv_if_eq (tgt := 123) hx hb dX12_key_118 (by decide) (fun c301 => ?_) (fun c301 => ?_)
                · have c301 := (b_eq (rfl : Int32.toInt x1_299 = _) (show Int32.toInt 0 = 0 from rfl)).mp c301
                  have EW8 : eqw tx sz1 (kW 8) p0 = false := hL299_3 (i0_of (by omega))
                  refine lv_iinc (v := 2) (lv' := [(1, .int 2), (0, .ref (b 0)), (2, .int 8), (3, .int 12), (4, .int x1_299), (5, .int (nI i_299))]) hx hb dX12_key_123 hl (k := 1) rfl (by decide) (by decide) rfl (fun ls hl => ?_)
                  refine lv_iload_n hx hb dX12_key_126 rfl (lv_at hl 3 rfl) ?_
                  refine lv_iconst (v := 1) hx hb dX12_key_127 (by decide) ?_
                  refine lv_iadd hx hb dX12_key_128 ?_
                  refine W.eq (g2 := F0 m 129 ls [.int 13]) rfl ?_
                  refine lv_istore_n (lv' := [(2, .int 13), (1, .int 2), (0, .ref (b 0)), (3, .int 12), (4, .int x1_299), (5, .int (nI i_299))]) hx hb dX12_key_129 rfl hl (by decide) rfl (fun ls hl => ?_)
                  refine lv_goto (tgt := 14) hx hb dX12_key_130 (by decide) ?_
                  refine lv_iload_n hx hb dX12_key_14 rfl (lv_at hl 0 rfl) ?_
                  refine va_ldcS hx hb hown hZ dX12_key_15 ?_
                  refine vp_callSi (va_Run.run (va_runV (As := []) (rest := [.int 13]) ⟨hx, hb, hml, hown, noTs⟩ (s_J0_length l adK adV 3 (by decide)) ⟨cbE 0 (wd_488 hE) (wd_129 hE) (wd_1527 hE) rfl rfl (by decide +kernel) ⟨Nat.le_of_ble_eq_true rfl, Nat.le_of_ble_eq_true rfl⟩, (wd_486 hE), (wd_487 hE)⟩ ⟨PS.blind, vk_recv hX.1 (by decide) hS, ps_pre (av := [.ref (adK 3)]) hX hS hE⟩ rfl rfl hl.1 rfl (lv_room (Nat.le_of_ble_eq_true rfl)) dX12_key_17 ⟨Nat.le_of_ble_eq_true rfl, Nat.le_of_ble_eq_true rfl⟩)) (fun r302 hr302 => ?_)
                  have hr302 : r302 = 18 := hr302
                  subst hr302
                  refine lv_icmp_ge (tgt := 133) hx hb dX12_key_20 (by decide) (fun c303 => absurd c303 (by decide)) (fun c303 => ?_)
                  refine lv_iload_n hx hb dX12_key_23 rfl (lv_at hl 0 rfl) ?_
                  refine lv_istore_n (lv' := [(3, .int 13), (2, .int 13), (1, .int 2), (0, .ref (b 0)), (4, .int x1_299), (5, .int (nI i_299))]) hx hb dX12_key_24 rfl hl (by decide) rfl (fun ls hl => ?_)
                  refine va_ldcS hx hb hown hZ dX12_key_25 ?_
                  refine lv_iload_n hx hb dX12_key_27 rfl (lv_at hl 0 rfl) ?_
                  refine vp_callSi (va_Run.run (va_runV (As := [.int (nI 13)]) (rest := []) ⟨hx, hb, hml, hown, noTs⟩ (s_J0_charAt l adK adV 3 13 (by decide) (by show _ < 18; omega)) ⟨cbE 1 (wd_498 hE) (wd_129 hE) (wd_1528 hE) rfl rfl (by decide +kernel) ⟨Nat.le_of_ble_eq_true rfl, Nat.le_of_ble_eq_true rfl⟩, (wd_496 hE), (wd_497 hE)⟩ ⟨PS.blind, vk_recv hX.1 (by decide) hS, ps_pre (av := [.ref (adK 3), .int (nI 13)]) hX hS hE⟩ rfl rfl hl.1 rfl (lv_room (Nat.le_of_ble_eq_true rfl)) dX12_key_28 ⟨Nat.le_of_ble_eq_true rfl, Nat.le_of_ble_eq_true rfl⟩)) (fun r304 hr304 => ?_)
                  have hr304 : r304 = 119 := hr304.trans (by decide)
                  subst hr304
                  refine lv_bipush (v := 32) hx hb dX12_key_31 (by decide) ?_
                  refine lv_icmp_eq (tgt := 42) hx hb dX12_key_33 (by decide) (fun c305 => absurd c305 (by decide)) (fun c305 => ?_)
                  refine lv_iinc (v := 14) (lv' := [(3, .int 14), (2, .int 13), (1, .int 2), (0, .ref (b 0)), (4, .int x1_299), (5, .int (nI i_299))]) hx hb dX12_key_36 hl (k := 0) rfl (by decide) (by decide) rfl (fun ls hl => ?_)
                  refine lv_goto (tgt := 25) hx hb dX12_key_39 (by decide) ?_
                  refine va_ldcS hx hb hown hZ dX12_key_25 ?_
                  refine lv_iload_n hx hb dX12_key_27 rfl (lv_at hl 0 rfl) ?_
                  refine vp_callSi (va_Run.run (va_runV (As := [.int (nI 14)]) (rest := []) ⟨hx, hb, hml, hown, noTs⟩ (s_J0_charAt l adK adV 3 14 (by decide) (by show _ < 18; omega)) ⟨cbE 1 (wd_498 hE) (wd_129 hE) (wd_1528 hE) rfl rfl (by decide +kernel) ⟨Nat.le_of_ble_eq_true rfl, Nat.le_of_ble_eq_true rfl⟩, (wd_496 hE), (wd_497 hE)⟩ ⟨PS.blind, vk_recv hX.1 (by decide) hS, ps_pre (av := [.ref (adK 3), .int (nI 14)]) hX hS hE⟩ rfl rfl hl.1 rfl (lv_room (Nat.le_of_ble_eq_true rfl)) dX12_key_28 ⟨Nat.le_of_ble_eq_true rfl, Nat.le_of_ble_eq_true rfl⟩)) (fun r306 hr306 => ?_)
                  have hr306 : r306 = 111 := hr306.trans (by decide)
                  subst hr306
                  refine lv_bipush (v := 32) hx hb dX12_key_31 (by decide) ?_
                  refine lv_icmp_eq (tgt := 42) hx hb dX12_key_33 (by decide) (fun c307 => absurd c307 (by decide)) (fun c307 => ?_)
                  refine lv_iinc (v := 15) (lv' := [(3, .int 15), (2, .int 13), (1, .int 2), (0, .ref (b 0)), (4, .int x1_299), (5, .int (nI i_299))]) hx hb dX12_key_36 hl (k := 0) rfl (by decide) (by decide) rfl (fun ls hl => ?_)
                  refine lv_goto (tgt := 25) hx hb dX12_key_39 (by decide) ?_
                  refine va_ldcS hx hb hown hZ dX12_key_25 ?_
                  refine lv_iload_n hx hb dX12_key_27 rfl (lv_at hl 0 rfl) ?_
                  refine vp_callSi (va_Run.run (va_runV (As := [.int (nI 15)]) (rest := []) ⟨hx, hb, hml, hown, noTs⟩ (s_J0_charAt l adK adV 3 15 (by decide) (by show _ < 18; omega)) ⟨cbE 1 (wd_498 hE) (wd_129 hE) (wd_1528 hE) rfl rfl (by decide +kernel) ⟨Nat.le_of_ble_eq_true rfl, Nat.le_of_ble_eq_true rfl⟩, (wd_496 hE), (wd_497 hE)⟩ ⟨PS.blind, vk_recv hX.1 (by decide) hS, ps_pre (av := [.ref (adK 3), .int (nI 15)]) hX hS hE⟩ rfl rfl hl.1 rfl (lv_room (Nat.le_of_ble_eq_true rfl)) dX12_key_28 ⟨Nat.le_of_ble_eq_true rfl, Nat.le_of_ble_eq_true rfl⟩)) (fun r308 hr308 => ?_)
                  have hr308 : r308 = 114 := hr308.trans (by decide)
                  subst hr308
                  refine lv_bipush (v := 32) hx hb dX12_key_31 (by decide) ?_
                  refine lv_icmp_eq (tgt := 42) hx hb dX12_key_33 (by decide) (fun c309 => absurd c309 (by decide)) (fun c309 => ?_)
                  refine lv_iinc (v := 16) (lv' := [(3, .int 16), (2, .int 13), (1, .int 2), (0, .ref (b 0)), (4, .int x1_299), (5, .int (nI i_299))]) hx hb dX12_key_36 hl (k := 0) rfl (by decide) (by decide) rfl (fun ls hl => ?_)
                  refine lv_goto (tgt := 25) hx hb dX12_key_39 (by decide) ?_
                  refine va_ldcS hx hb hown hZ dX12_key_25 ?_
                  refine lv_iload_n hx hb dX12_key_27 rfl (lv_at hl 0 rfl) ?_
                  refine vp_callSi (va_Run.run (va_runV (As := [.int (nI 16)]) (rest := []) ⟨hx, hb, hml, hown, noTs⟩ (s_J0_charAt l adK adV 3 16 (by decide) (by show _ < 18; omega)) ⟨cbE 1 (wd_498 hE) (wd_129 hE) (wd_1528 hE) rfl rfl (by decide +kernel) ⟨Nat.le_of_ble_eq_true rfl, Nat.le_of_ble_eq_true rfl⟩, (wd_496 hE), (wd_497 hE)⟩ ⟨PS.blind, vk_recv hX.1 (by decide) hS, ps_pre (av := [.ref (adK 3), .int (nI 16)]) hX hS hE⟩ rfl rfl hl.1 rfl (lv_room (Nat.le_of_ble_eq_true rfl)) dX12_key_28 ⟨Nat.le_of_ble_eq_true rfl, Nat.le_of_ble_eq_true rfl⟩)) (fun r310 hr310 => ?_)
                  have hr310 : r310 = 100 := hr310.trans (by decide)
                  subst hr310
                  refine lv_bipush (v := 32) hx hb dX12_key_31 (by decide) ?_
                  refine lv_icmp_eq (tgt := 42) hx hb dX12_key_33 (by decide) (fun c311 => absurd c311 (by decide)) (fun c311 => ?_)
                  refine lv_iinc (v := 17) (lv' := [(3, .int 17), (2, .int 13), (1, .int 2), (0, .ref (b 0)), (4, .int x1_299), (5, .int (nI i_299))]) hx hb dX12_key_36 hl (k := 0) rfl (by decide) (by decide) rfl (fun ls hl => ?_)
                  refine lv_goto (tgt := 25) hx hb dX12_key_39 (by decide) ?_
                  refine va_ldcS hx hb hown hZ dX12_key_25 ?_
                  refine lv_iload_n hx hb dX12_key_27 rfl (lv_at hl 0 rfl) ?_
                  refine vp_callSi (va_Run.run (va_runV (As := [.int (nI 17)]) (rest := []) ⟨hx, hb, hml, hown, noTs⟩ (s_J0_charAt l adK adV 3 17 (by decide) (by show _ < 18; omega)) ⟨cbE 1 (wd_498 hE) (wd_129 hE) (wd_1528 hE) rfl rfl (by decide +kernel) ⟨Nat.le_of_ble_eq_true rfl, Nat.le_of_ble_eq_true rfl⟩, (wd_496 hE), (wd_497 hE)⟩ ⟨PS.blind, vk_recv hX.1 (by decide) hS, ps_pre (av := [.ref (adK 3), .int (nI 17)]) hX hS hE⟩ rfl rfl hl.1 rfl (lv_room (Nat.le_of_ble_eq_true rfl)) dX12_key_28 ⟨Nat.le_of_ble_eq_true rfl, Nat.le_of_ble_eq_true rfl⟩)) (fun r312 hr312 => ?_)
                  have hr312 : r312 = 32 := hr312.trans (by decide)
                  subst hr312
                  refine lv_bipush (v := 32) hx hb dX12_key_31 (by decide) ?_
                  refine lv_icmp_eq (tgt := 42) hx hb dX12_key_33 (by decide) (fun c313 => ?_) (fun c313 => absurd c313 (by decide))
                  refine lv_iload_n hx hb dX12_key_42 rfl (lv_at hl 0 rfl) ?_
                  refine lv_iload_n hx hb dX12_key_43 rfl (lv_at hl 1 rfl) ?_
                  refine lv_isub hx hb dX12_key_44 ?_
                  refine W.eq (g2 := F0 m 45 ls [.int 4]) rfl ?_
                  refine lv_aload_n hx hb dX12_key_45 rfl (lv_at hl 3 rfl) ?_
                  refine r_get (v := .int (nI (tnd tx sz1 p0))) hx hb (ly_X12 hE) hown hK hP rfl 14 (by decide) (wd_1395 hE) (fun _ h9 => h9) (congrArg (fun z : Int32 => some (Value.int z)) te14_2) dX12_key_46 ?_
                  refine lv_aload_n hx hb dX12_key_49 rfl (lv_at hl 3 rfl) ?_
                  refine r_get (v := .int (nI p0)) hx hb (ly_X12 hE) hown hK hP rfl 13 (by decide) (wd_1394 hE) (fun _ h9 => h9) (congrArg (fun z : Int32 => some (Value.int z)) te13_2) dX12_key_50 ?_
                  refine lv_isub hx hb dX12_key_53 ?_
                  refine W.eq (g2 := F0 m 54 ls [.int (nI ((tnd tx sz1 p0) - p0)), .int 4]) (congrArg (fun z : Int32 => F0 m 54 ls (.int z :: [.int 4])) (pk_sub (a := tnd tx sz1 p0) (b := p0) (by omega))) ?_
                  refine lv_icmp_ne (tgt := 61) hx hb dX12_key_54 (by decide) (fun c314 => ?_) (fun c314 => ?_)
                  · have c314 := mt (b_eq (show Int32.toInt 4 = 4 from rfl) (nI_toInt (n := (tnd tx sz1 p0) - p0) (by omega))).mpr c314
                    refine lv_iconst (v := 0) hx hb dX12_key_61 (by decide) ?_
                    refine lv_istore (lv' := [(4, .int 0), (3, .int 17), (2, .int 13), (1, .int 2), (0, .ref (b 0)), (5, .int (nI i_299))]) hx hb dX12_key_62 hl (by decide) rfl (fun ls hl => ?_)
                    refine lv_iconst (v := 0) hx hb dX12_key_64 (by decide) ?_
                    refine lv_istore (lv' := [(5, .int 0), (4, .int 0), (3, .int 17), (2, .int 13), (1, .int 2), (0, .ref (b 0))]) hx hb dX12_key_65 hl (by decide) rfl (fun ls hl => ?_)
                    refine r_indP (I := fun n ls => ∃ (i_315 : Nat) (x1_315 : Int32), n = 17 - 13 - i_315 ∧ (i_315 ≤ 17 - 13) ∧ (x1_315 = 0 ∨ x1_315 = 1) ∧ (x1_315 = 1 → tnd tx sz1 p0 - p0 = 17 - 13 ∧ ∀ q, q < i_315 → bA tx sz1 (p0 + q) = (kW 13).getD q 0) ∧ (x1_315 = 0 → eqw tx sz1 (kW 13) p0 = false) ∧ lv_has ls 6 [(0, .ref (b 0)), (1, .int 2), (2, .int 13), (3, .int 17), (4, .int x1_315), (5, .int (nI i_315))]) (fun n ls hI ih315 => ?_) _ _ ⟨0, 0, rfl, (by first | assumption | omega | rfl | (congr 1; omega)), (by first | exact Or.inl rfl | exact Or.inr rfl), (by first | (intro _; exact ⟨by omega, fun q hq => absurd hq (by omega)⟩) | (intro h; exact absurd h (by decide))), (by first | (intro h; exact absurd h (by decide)) | (intro _; exact eqw_len (w := kW 13) (l := 17 - 13) rfl (by omega))), lv_sub hl [5, 4, 3, 2, 1, 0] rfl⟩
                    obtain ⟨i_315, x1_315, hmu315, hL315_0, hL315_1, hL315_2, hL315_3, hl⟩ := hI
                    subst hmu315
                    refine lv_iload hx hb dX12_key_67 (lv_at hl 5 rfl) ?_
                    refine lv_iload_n hx hb dX12_key_69 rfl (lv_at hl 3 rfl) ?_
                    refine lv_iload_n hx hb dX12_key_70 rfl (lv_at hl 2 rfl) ?_
                    refine lv_isub hx hb dX12_key_71 ?_
                    refine W.eq (g2 := F0 m 72 ls [.int 4, .int (nI i_315)]) rfl ?_
                    refine lv_icmp_ge (tgt := 116) hx hb dX12_key_72 (by decide) (fun c316 => ?_) (fun c316 => ?_)
                    · have c316 := (b_le (show Int32.toInt 4 = 4 from rfl) (nI_toInt (n := i_315) (by omega))).mp c316
                      refine lv_iload hx hb dX12_key_116 (lv_at hl 4 rfl) ?_
                      refine lv_if_eq (tgt := 123) hx hb dX12_key_118 (by decide) (fun c317 => ?_) (fun c317 => ?_)
                      · have c317 := (b_eq (rfl : Int32.toInt x1_315 = _) (show Int32.toInt 0 = 0 from rfl)).mp c317
                        have EW13 : eqw tx sz1 (kW 13) p0 = false := hL315_3 (i0_of (by omega))
                        refine lv_iinc (v := 3) (lv' := [(1, .int 3), (0, .ref (b 0)), (2, .int 13), (3, .int 17), (4, .int x1_315), (5, .int (nI i_315))]) hx hb dX12_key_123 hl (k := 1) rfl (by decide) (by decide) rfl (fun ls hl => ?_)
                        refine lv_iload_n hx hb dX12_key_126 rfl (lv_at hl 3 rfl) ?_
                        refine lv_iconst (v := 1) hx hb dX12_key_127 (by decide) ?_
                        refine lv_iadd hx hb dX12_key_128 ?_
                        refine W.eq (g2 := F0 m 129 ls [.int 18]) rfl ?_
                        refine lv_istore_n (lv' := [(2, .int 18), (1, .int 3), (0, .ref (b 0)), (3, .int 17), (4, .int x1_315), (5, .int (nI i_315))]) hx hb dX12_key_129 rfl hl (by decide) rfl (fun ls hl => ?_)
                        refine lv_goto (tgt := 14) hx hb dX12_key_130 (by decide) ?_
                        refine lv_iload_n hx hb dX12_key_14 rfl (lv_at hl 0 rfl) ?_
                        refine va_ldcS hx hb hown hZ dX12_key_15 ?_
                        refine vp_callSi (va_Run.run (va_runV (As := []) (rest := [.int 18]) ⟨hx, hb, hml, hown, noTs⟩ (s_J0_length l adK adV 3 (by decide)) ⟨cbE 0 (wd_488 hE) (wd_129 hE) (wd_1527 hE) rfl rfl (by decide +kernel) ⟨Nat.le_of_ble_eq_true rfl, Nat.le_of_ble_eq_true rfl⟩, (wd_486 hE), (wd_487 hE)⟩ ⟨PS.blind, vk_recv hX.1 (by decide) hS, ps_pre (av := [.ref (adK 3)]) hX hS hE⟩ rfl rfl hl.1 rfl (lv_room (Nat.le_of_ble_eq_true rfl)) dX12_key_17 ⟨Nat.le_of_ble_eq_true rfl, Nat.le_of_ble_eq_true rfl⟩)) (fun r318 hr318 => ?_)
                        have hr318 : r318 = 18 := hr318
                        subst hr318
                        refine lv_icmp_ge (tgt := 133) hx hb dX12_key_20 (by decide) (fun c319 => ?_) (fun c319 => absurd c319 (by decide))
                        refine lv_iconst (v := -1) hx hb dX12_key_133 (by decide) ?_
                        exact W.iret (v := -1) hx hb hr (fun t ht hW => ⟨-1, rfl, Or.inr (Or.inr (Or.inr (⟨rfl, by first | omega | (have q := (kd_word (tx := tx) (n := sz1) (p := p0) (by omega)).trans ((if_neg (by rw [show eqw tx sz1 wVx p0 = false from EW1]; decide)).trans ((if_neg (by rw [show eqw tx sz1 wEd p0 = false from EW8]; decide)).trans (if_neg (by rw [show eqw tx sz1 wWo p0 = false from EW13]; decide)))); omega)⟩))), ht⟩) (fun _ h => absurd h List.not_mem_nil) dX12_key_134
                      · have c317 := mt (b_eq (rfl : Int32.toInt x1_315 = _) (show Int32.toInt 0 = 0 from rfl)).mpr c317
                        have X2 : x1_315 = 1 := i1_of hL315_1 (by omega)
                        have EW13 : eqw tx sz1 (kW 13) p0 = true := by first | exact eqw_t.mpr ⟨(hL315_2 X2).1.trans rfl, fun q hq => (hL315_2 X2).2 q (by have : (kW 13).length = 17 - 13 := rfl; omega)⟩ | (exfalso; omega)
                        refine lv_iload_n hx hb dX12_key_121 rfl (lv_at hl 1 rfl) ?_
                        exact W.iret (v := 2) hx hb hr (fun t ht hW => ⟨2, rfl, Or.inr (Or.inr (Or.inl ⟨rfl, by exact (kd_word (by omega)).trans ((if_neg (by rw [show eqw tx sz1 wVx p0 = false from EW1]; decide)).trans ((if_neg (by rw [show eqw tx sz1 wEd p0 = false from EW8]; decide)).trans (if_pos EW13)))⟩)), ht⟩) (fun _ h => absurd h List.not_mem_nil) dX12_key_122
                    · have c316 := mt (b_le (show Int32.toInt 4 = 4 from rfl) (nI_toInt (n := i_315) (by omega))).mpr c316
                      refine lv_iload hx hb dX12_key_75 (lv_at hl 4 rfl) ?_
                      refine lv_if_eq (tgt := 116) hx hb dX12_key_77 (by decide) (fun c320 => ?_) (fun c320 => ?_)
                      · have c320 := (b_eq (rfl : Int32.toInt x1_315 = _) (show Int32.toInt 0 = 0 from rfl)).mp c320
                        refine lv_iload hx hb dX12_key_116 (lv_at hl 4 rfl) ?_
                        refine lv_if_eq (tgt := 123) hx hb dX12_key_118 (by decide) (fun c321 => ?_) (fun c321 => ?_)
                        · have c321 := (b_eq (rfl : Int32.toInt x1_315 = _) (show Int32.toInt 0 = 0 from rfl)).mp c321
                          have EW13 : eqw tx sz1 (kW 13) p0 = false := hL315_3 (i0_of (by omega))
                          refine lv_iinc (v := 3) (lv' := [(1, .int 3), (0, .ref (b 0)), (2, .int 13), (3, .int 17), (4, .int x1_315), (5, .int (nI i_315))]) hx hb dX12_key_123 hl (k := 1) rfl (by decide) (by decide) rfl (fun ls hl => ?_)
                          refine lv_iload_n hx hb dX12_key_126 rfl (lv_at hl 3 rfl) ?_
                          refine lv_iconst (v := 1) hx hb dX12_key_127 (by decide) ?_
                          refine lv_iadd hx hb dX12_key_128 ?_
                          refine W.eq (g2 := F0 m 129 ls [.int 18]) rfl ?_
                          refine lv_istore_n (lv' := [(2, .int 18), (1, .int 3), (0, .ref (b 0)), (3, .int 17), (4, .int x1_315), (5, .int (nI i_315))]) hx hb dX12_key_129 rfl hl (by decide) rfl (fun ls hl => ?_)
                          refine lv_goto (tgt := 14) hx hb dX12_key_130 (by decide) ?_
                          refine lv_iload_n hx hb dX12_key_14 rfl (lv_at hl 0 rfl) ?_
                          refine va_ldcS hx hb hown hZ dX12_key_15 ?_
                          refine vp_callSi (va_Run.run (va_runV (As := []) (rest := [.int 18]) ⟨hx, hb, hml, hown, noTs⟩ (s_J0_length l adK adV 3 (by decide)) ⟨cbE 0 (wd_488 hE) (wd_129 hE) (wd_1527 hE) rfl rfl (by decide +kernel) ⟨Nat.le_of_ble_eq_true rfl, Nat.le_of_ble_eq_true rfl⟩, (wd_486 hE), (wd_487 hE)⟩ ⟨PS.blind, vk_recv hX.1 (by decide) hS, ps_pre (av := [.ref (adK 3)]) hX hS hE⟩ rfl rfl hl.1 rfl (lv_room (Nat.le_of_ble_eq_true rfl)) dX12_key_17 ⟨Nat.le_of_ble_eq_true rfl, Nat.le_of_ble_eq_true rfl⟩)) (fun r322 hr322 => ?_)
                          have hr322 : r322 = 18 := hr322
                          subst hr322
                          refine lv_icmp_ge (tgt := 133) hx hb dX12_key_20 (by decide) (fun c323 => ?_) (fun c323 => absurd c323 (by decide))
                          refine lv_iconst (v := -1) hx hb dX12_key_133 (by decide) ?_
                          exact W.iret (v := -1) hx hb hr (fun t ht hW => ⟨-1, rfl, Or.inr (Or.inr (Or.inr (⟨rfl, by first | omega | (have q := (kd_word (tx := tx) (n := sz1) (p := p0) (by omega)).trans ((if_neg (by rw [show eqw tx sz1 wVx p0 = false from EW1]; decide)).trans ((if_neg (by rw [show eqw tx sz1 wEd p0 = false from EW8]; decide)).trans (if_neg (by rw [show eqw tx sz1 wWo p0 = false from EW13]; decide)))); omega)⟩))), ht⟩) (fun _ h => absurd h List.not_mem_nil) dX12_key_134
                        · have c321 := mt (b_eq (rfl : Int32.toInt x1_315 = _) (show Int32.toInt 0 = 0 from rfl)).mpr c321
                          have X2 : x1_315 = 1 := i1_of hL315_1 (by omega)
                          have EW13 : eqw tx sz1 (kW 13) p0 = true := by first | exact eqw_t.mpr ⟨(hL315_2 X2).1.trans rfl, fun q hq => (hL315_2 X2).2 q (by have : (kW 13).length = 17 - 13 := rfl; omega)⟩ | (exfalso; omega)
                          refine lv_iload_n hx hb dX12_key_121 rfl (lv_at hl 1 rfl) ?_
                          exact W.iret (v := 2) hx hb hr (fun t ht hW => ⟨2, rfl, Or.inr (Or.inr (Or.inl ⟨rfl, by exact (kd_word (by omega)).trans ((if_neg (by rw [show eqw tx sz1 wVx p0 = false from EW1]; decide)).trans ((if_neg (by rw [show eqw tx sz1 wEd p0 = false from EW8]; decide)).trans (if_pos EW13)))⟩)), ht⟩) (fun _ h => absurd h List.not_mem_nil) dX12_key_122
                      · have c320 := mt (b_eq (rfl : Int32.toInt x1_315 = _) (show Int32.toInt 0 = 0 from rfl)).mpr c320
                        have X1 : x1_315 = 1 := i1_of hL315_1 (by omega)
                        refine va_ldcS hx hb hown hZ dX12_key_80 ?_
                        refine lv_iload_n hx hb dX12_key_82 rfl (lv_at hl 2 rfl) ?_
                        refine lv_iload hx hb dX12_key_83 (lv_at hl 5 rfl) ?_
                        refine lv_iadd hx hb dX12_key_85 ?_
                        refine W.eq (g2 := F0 m 86 ls [.int (nI (13 + i_315)), .ref (adK 3)]) (congrArg (fun z : Int32 => F0 m 86 ls (.int z :: [.ref (adK 3)])) (nI_add 13 i_315)) ?_
                        refine vp_callSi (va_Run.run (va_runV (As := [.int (nI (13 + i_315))]) (rest := []) ⟨hx, hb, hml, hown, noTs⟩ (s_J0_charAt l adK adV 3 (13 + i_315) (by decide) (by show _ < 18; omega)) ⟨cbE 1 (wd_498 hE) (wd_129 hE) (wd_1528 hE) rfl rfl (by decide +kernel) ⟨Nat.le_of_ble_eq_true rfl, Nat.le_of_ble_eq_true rfl⟩, (wd_496 hE), (wd_497 hE)⟩ ⟨PS.blind, vk_recv hX.1 (by decide) hS, ps_pre (av := [.ref (adK 3), .int (nI (13 + i_315))]) hX hS hE⟩ rfl rfl hl.1 rfl (lv_room (Nat.le_of_ble_eq_true rfl)) dX12_key_86 ⟨Nat.le_of_ble_eq_true rfl, Nat.le_of_ble_eq_true rfl⟩)) (fun r324 hr324 => ?_)
                        refine lv_aload_n hx hb dX12_key_89 rfl (lv_at hl 0 rfl) ?_
                        refine lv_aload_n hx hb dX12_key_90 rfl (lv_at hl 0 rfl) ?_
                        refine r_get (v := .int (nI p0)) hx hb (ly_X12 hE) hown hK hP rfl 13 (by decide) (wd_1394 hE) (fun _ h9 => h9) (congrArg (fun z : Int32 => some (Value.int z)) te13_2) dX12_key_91 ?_
                        refine lv_iload hx hb dX12_key_94 (lv_at hl 5 rfl) ?_
                        refine lv_iadd hx hb dX12_key_96 ?_
                        refine W.eq (g2 := F0 m 97 ls [.int (nI (p0 + i_315)), .ref (b 0), .int r324]) (congrArg (fun z : Int32 => F0 m 97 ls (.int z :: [.ref (b 0), .int r324])) (nI_add p0 i_315)) ?_
                        refine vp_callSi (va_Run.run (va_runV (As := [.int (nI (p0 + i_315))]) (rest := [.int r324]) ⟨hx, hb, hml, hown, noTs⟩ (r_X12_byteAt l dC dI s.heap.size cs b u tx hAc16 (p0 + i_315) sz1 hF11 (by first | assumption | omega | rfl | (congr 1; omega)) (by first | assumption | omega | rfl | (congr 1; omega))) ⟨cbE 1 (wd_1510 hE) (wd_126 hE) (wd_1507 hE) rfl rfl (by decide +kernel) ⟨Nat.le_of_ble_eq_true rfl, Nat.le_of_ble_eq_true rfl⟩, (wd_1509 hE), (wd_57 hE)⟩ ⟨PR.blind, r_recv hK hP rfl, (r_pre (av := [.ref (b 0), .int (nI (p0 + i_315))]) hK hP hJ hE)⟩ rfl rfl hl.1 rfl (lv_room (Nat.le_of_ble_eq_true rfl)) dX12_key_97 ⟨Nat.le_of_ble_eq_true rfl, Nat.le_of_ble_eq_true rfl⟩)) (fun r325 hr325 => ?_)
                        subst hr325
                        have htf325 := bA_f tx sz1 (p0 + i_315)
                        have HRC := hr324
                        have RCH := ch_13 i_315 (by omega)
                        refine lv_icmp_ne (tgt := 107) hx hb dX12_key_100 (by decide) (fun c326 => ?_) (fun c326 => ?_)
                        · have c326 := mt (b_eq (rfl : Int32.toInt r324 = _) (rfl : Int32.toInt (bA tx sz1 (p0 + i_315)) = _)).mpr c326
                          have NE : bA tx sz1 (p0 + i_315) ≠ (kW 13).getD i_315 0 := by rw [← RCH, ← HRC]; intro e; have := congrArg Int32.toInt e; omega
                          refine lv_iconst (v := 0) hx hb dX12_key_107 (by decide) ?_
                          refine lv_istore (lv' := [(4, .int 0), (0, .ref (b 0)), (1, .int 2), (2, .int 13), (3, .int 17), (5, .int (nI i_315))]) hx hb dX12_key_108 hl (by decide) rfl (fun ls hl => ?_)
                          refine lv_iinc (v := nI (i_315 + 1)) (lv' := [(5, .int (nI (i_315 + 1))), (4, .int 0), (0, .ref (b 0)), (1, .int 2), (2, .int 13), (3, .int 17)]) hx hb dX12_key_110 hl (k := 5) rfl (nI_1 i_315) (by decide) rfl (fun ls hl => ?_)
                          refine lv_goto (tgt := 67) hx hb dX12_key_113 (by decide) ?_
                          exact ih315 _ _ (by omega) ⟨(i_315 + 1), 0, rfl, (by first | assumption | omega | rfl | (congr 1; omega)), (by first | exact Or.inl rfl | exact Or.inr rfl), (by first | (intro _; exact ⟨(hL315_2 X1).1, fun q hq => by rcases Nat.lt_or_ge q i_315 with h | h; (exact (hL315_2 X1).2 q h); (obtain rfl : q = i_315 := by omega); exact EQ⟩) | (intro h; exact absurd h (by decide))), (by first | (intro h; exact absurd h (by decide)) | (intro _; exact eqw_at (w := kW 13) (by have : (kW 13).length = 17 - 13 := rfl; omega) NE)), lv_sub hl [2, 3, 4, 5, 1, 0] rfl⟩
                        · have c326 := (b_eq (rfl : Int32.toInt r324 = _) (rfl : Int32.toInt (bA tx sz1 (p0 + i_315)) = _)).mp c326
                          have EQ : bA tx sz1 (p0 + i_315) = (kW 13).getD i_315 0 := by rw [← RCH, ← HRC]; exact Int32.toInt_inj.mp (by omega)
                          refine lv_iconst (v := 1) hx hb dX12_key_103 (by decide) ?_
                          refine lv_goto (tgt := 108) hx hb dX12_key_104 (by decide) ?_
                          refine lv_istore (lv' := [(4, .int 1), (0, .ref (b 0)), (1, .int 2), (2, .int 13), (3, .int 17), (5, .int (nI i_315))]) hx hb dX12_key_108 hl (by decide) rfl (fun ls hl => ?_)
                          refine lv_iinc (v := nI (i_315 + 1)) (lv' := [(5, .int (nI (i_315 + 1))), (4, .int 1), (0, .ref (b 0)), (1, .int 2), (2, .int 13), (3, .int 17)]) hx hb dX12_key_110 hl (k := 5) rfl (nI_1 i_315) (by decide) rfl (fun ls hl => ?_)
                          refine lv_goto (tgt := 67) hx hb dX12_key_113 (by decide) ?_
                          exact ih315 _ _ (by omega) ⟨(i_315 + 1), 1, rfl, (by first | assumption | omega | rfl | (congr 1; omega)), (by first | exact Or.inl rfl | exact Or.inr rfl), (by first | (intro _; exact ⟨(hL315_2 X1).1, fun q hq => by rcases Nat.lt_or_ge q i_315 with h | h; (exact (hL315_2 X1).2 q h); (obtain rfl : q = i_315 := by omega); exact EQ⟩) | (intro h; exact absurd h (by decide))), (by first | (intro h; exact absurd h (by decide)) | (intro _; exact eqw_at (w := kW 13) (by have : (kW 13).length = 17 - 13 := rfl; omega) NE)), lv_sub hl [2, 3, 4, 5, 1, 0] rfl⟩
                  · have c314 := (b_eq (show Int32.toInt 4 = 4 from rfl) (nI_toInt (n := (tnd tx sz1 p0) - p0) (by omega))).mp c314
                    refine lv_iconst (v := 1) hx hb dX12_key_57 (by decide) ?_
                    refine lv_goto (tgt := 62) hx hb dX12_key_58 (by decide) ?_
                    refine lv_istore (lv' := [(4, .int 1), (3, .int 17), (2, .int 13), (1, .int 2), (0, .ref (b 0)), (5, .int (nI i_299))]) hx hb dX12_key_62 hl (by decide) rfl (fun ls hl => ?_)
                    refine lv_iconst (v := 0) hx hb dX12_key_64 (by decide) ?_
                    refine lv_istore (lv' := [(5, .int 0), (4, .int 1), (3, .int 17), (2, .int 13), (1, .int 2), (0, .ref (b 0))]) hx hb dX12_key_65 hl (by decide) rfl (fun ls hl => ?_)
                    refine r_indP (I := fun n ls => ∃ (i_327 : Nat) (x1_327 : Int32), n = 17 - 13 - i_327 ∧ (i_327 ≤ 17 - 13) ∧ (x1_327 = 0 ∨ x1_327 = 1) ∧ (x1_327 = 1 → tnd tx sz1 p0 - p0 = 17 - 13 ∧ ∀ q, q < i_327 → bA tx sz1 (p0 + q) = (kW 13).getD q 0) ∧ (x1_327 = 0 → eqw tx sz1 (kW 13) p0 = false) ∧ lv_has ls 6 [(0, .ref (b 0)), (1, .int 2), (2, .int 13), (3, .int 17), (4, .int x1_327), (5, .int (nI i_327))]) (fun n ls hI ih327 => ?_) _ _ ⟨0, 1, rfl, (by first | assumption | omega | rfl | (congr 1; omega)), (by first | exact Or.inl rfl | exact Or.inr rfl), (by first | (intro _; exact ⟨by omega, fun q hq => absurd hq (by omega)⟩) | (intro h; exact absurd h (by decide))), (by first | (intro h; exact absurd h (by decide)) | (intro _; exact eqw_len (w := kW 13) (l := 17 - 13) rfl (by omega))), lv_sub hl [5, 4, 3, 2, 1, 0] rfl⟩
                    obtain ⟨i_327, x1_327, hmu327, hL327_0, hL327_1, hL327_2, hL327_3, hl⟩ := hI
                    subst hmu327
                    refine lv_iload hx hb dX12_key_67 (lv_at hl 5 rfl) ?_
                    refine lv_iload_n hx hb dX12_key_69 rfl (lv_at hl 3 rfl) ?_
                    refine lv_iload_n hx hb dX12_key_70 rfl (lv_at hl 2 rfl) ?_
                    refine lv_isub hx hb dX12_key_71 ?_
                    refine W.eq (g2 := F0 m 72 ls [.int 4, .int (nI i_327)]) rfl ?_
                    refine lv_icmp_ge (tgt := 116) hx hb dX12_key_72 (by decide) (fun c328 => ?_) (fun c328 => ?_)
                    · have c328 := (b_le (show Int32.toInt 4 = 4 from rfl) (nI_toInt (n := i_327) (by omega))).mp c328
                      refine lv_iload hx hb dX12_key_116 (lv_at hl 4 rfl) ?_
                      refine lv_if_eq (tgt := 123) hx hb dX12_key_118 (by decide) (fun c329 => ?_) (fun c329 => ?_)
                      · have c329 := (b_eq (rfl : Int32.toInt x1_327 = _) (show Int32.toInt 0 = 0 from rfl)).mp c329
                        have EW13 : eqw tx sz1 (kW 13) p0 = false := hL327_3 (i0_of (by omega))
                        refine lv_iinc (v := 3) (lv' := [(1, .int 3), (0, .ref (b 0)), (2, .int 13), (3, .int 17), (4, .int x1_327), (5, .int (nI i_327))]) hx hb dX12_key_123 hl (k := 1) rfl (by decide) (by decide) rfl (fun ls hl => ?_)
                        refine lv_iload_n hx hb dX12_key_126 rfl (lv_at hl 3 rfl) ?_
                        refine lv_iconst (v := 1) hx hb dX12_key_127 (by decide) ?_
                        refine lv_iadd hx hb dX12_key_128 ?_
                        refine W.eq (g2 := F0 m 129 ls [.int 18]) rfl ?_
                        refine lv_istore_n (lv' := [(2, .int 18), (1, .int 3), (0, .ref (b 0)), (3, .int 17), (4, .int x1_327), (5, .int (nI i_327))]) hx hb dX12_key_129 rfl hl (by decide) rfl (fun ls hl => ?_)
                        refine lv_goto (tgt := 14) hx hb dX12_key_130 (by decide) ?_
                        refine lv_iload_n hx hb dX12_key_14 rfl (lv_at hl 0 rfl) ?_
                        refine va_ldcS hx hb hown hZ dX12_key_15 ?_
                        refine vp_callSi (va_Run.run (va_runV (As := []) (rest := [.int 18]) ⟨hx, hb, hml, hown, noTs⟩ (s_J0_length l adK adV 3 (by decide)) ⟨cbE 0 (wd_488 hE) (wd_129 hE) (wd_1527 hE) rfl rfl (by decide +kernel) ⟨Nat.le_of_ble_eq_true rfl, Nat.le_of_ble_eq_true rfl⟩, (wd_486 hE), (wd_487 hE)⟩ ⟨PS.blind, vk_recv hX.1 (by decide) hS, ps_pre (av := [.ref (adK 3)]) hX hS hE⟩ rfl rfl hl.1 rfl (lv_room (Nat.le_of_ble_eq_true rfl)) dX12_key_17 ⟨Nat.le_of_ble_eq_true rfl, Nat.le_of_ble_eq_true rfl⟩)) (fun r330 hr330 => ?_)
                        have hr330 : r330 = 18 := hr330
                        subst hr330
                        refine lv_icmp_ge (tgt := 133) hx hb dX12_key_20 (by decide) (fun c331 => ?_) (fun c331 => absurd c331 (by decide))
                        refine lv_iconst (v := -1) hx hb dX12_key_133 (by decide) ?_
                        exact W.iret (v := -1) hx hb hr (fun t ht hW => ⟨-1, rfl, Or.inr (Or.inr (Or.inr (⟨rfl, by first | omega | (have q := (kd_word (tx := tx) (n := sz1) (p := p0) (by omega)).trans ((if_neg (by rw [show eqw tx sz1 wVx p0 = false from EW1]; decide)).trans ((if_neg (by rw [show eqw tx sz1 wEd p0 = false from EW8]; decide)).trans (if_neg (by rw [show eqw tx sz1 wWo p0 = false from EW13]; decide)))); omega)⟩))), ht⟩) (fun _ h => absurd h List.not_mem_nil) dX12_key_134
                      · have c329 := mt (b_eq (rfl : Int32.toInt x1_327 = _) (show Int32.toInt 0 = 0 from rfl)).mpr c329
                        have X2 : x1_327 = 1 := i1_of hL327_1 (by omega)
                        have EW13 : eqw tx sz1 (kW 13) p0 = true := by first | exact eqw_t.mpr ⟨(hL327_2 X2).1.trans rfl, fun q hq => (hL327_2 X2).2 q (by have : (kW 13).length = 17 - 13 := rfl; omega)⟩ | (exfalso; omega)
                        refine lv_iload_n hx hb dX12_key_121 rfl (lv_at hl 1 rfl) ?_
                        exact W.iret (v := 2) hx hb hr (fun t ht hW => ⟨2, rfl, Or.inr (Or.inr (Or.inl ⟨rfl, by exact (kd_word (by omega)).trans ((if_neg (by rw [show eqw tx sz1 wVx p0 = false from EW1]; decide)).trans ((if_neg (by rw [show eqw tx sz1 wEd p0 = false from EW8]; decide)).trans (if_pos EW13)))⟩)), ht⟩) (fun _ h => absurd h List.not_mem_nil) dX12_key_122
                    · have c328 := mt (b_le (show Int32.toInt 4 = 4 from rfl) (nI_toInt (n := i_327) (by omega))).mpr c328
                      refine lv_iload hx hb dX12_key_75 (lv_at hl 4 rfl) ?_
                      refine lv_if_eq (tgt := 116) hx hb dX12_key_77 (by decide) (fun c332 => ?_) (fun c332 => ?_)
                      · have c332 := (b_eq (rfl : Int32.toInt x1_327 = _) (show Int32.toInt 0 = 0 from rfl)).mp c332
                        refine lv_iload hx hb dX12_key_116 (lv_at hl 4 rfl) ?_
                        refine lv_if_eq (tgt := 123) hx hb dX12_key_118 (by decide) (fun c333 => ?_) (fun c333 => ?_)
                        · have c333 := (b_eq (rfl : Int32.toInt x1_327 = _) (show Int32.toInt 0 = 0 from rfl)).mp c333
                          have EW13 : eqw tx sz1 (kW 13) p0 = false := hL327_3 (i0_of (by omega))
                          refine lv_iinc (v := 3) (lv' := [(1, .int 3), (0, .ref (b 0)), (2, .int 13), (3, .int 17), (4, .int x1_327), (5, .int (nI i_327))]) hx hb dX12_key_123 hl (k := 1) rfl (by decide) (by decide) rfl (fun ls hl => ?_)
                          refine lv_iload_n hx hb dX12_key_126 rfl (lv_at hl 3 rfl) ?_
                          refine lv_iconst (v := 1) hx hb dX12_key_127 (by decide) ?_
                          refine lv_iadd hx hb dX12_key_128 ?_
                          refine W.eq (g2 := F0 m 129 ls [.int 18]) rfl ?_
                          refine lv_istore_n (lv' := [(2, .int 18), (1, .int 3), (0, .ref (b 0)), (3, .int 17), (4, .int x1_327), (5, .int (nI i_327))]) hx hb dX12_key_129 rfl hl (by decide) rfl (fun ls hl => ?_)
                          refine lv_goto (tgt := 14) hx hb dX12_key_130 (by decide) ?_
                          refine lv_iload_n hx hb dX12_key_14 rfl (lv_at hl 0 rfl) ?_
                          refine va_ldcS hx hb hown hZ dX12_key_15 ?_
                          refine vp_callSi (va_Run.run (va_runV (As := []) (rest := [.int 18]) ⟨hx, hb, hml, hown, noTs⟩ (s_J0_length l adK adV 3 (by decide)) ⟨cbE 0 (wd_488 hE) (wd_129 hE) (wd_1527 hE) rfl rfl (by decide +kernel) ⟨Nat.le_of_ble_eq_true rfl, Nat.le_of_ble_eq_true rfl⟩, (wd_486 hE), (wd_487 hE)⟩ ⟨PS.blind, vk_recv hX.1 (by decide) hS, ps_pre (av := [.ref (adK 3)]) hX hS hE⟩ rfl rfl hl.1 rfl (lv_room (Nat.le_of_ble_eq_true rfl)) dX12_key_17 ⟨Nat.le_of_ble_eq_true rfl, Nat.le_of_ble_eq_true rfl⟩)) (fun r334 hr334 => ?_)
                          have hr334 : r334 = 18 := hr334
                          subst hr334
                          refine lv_icmp_ge (tgt := 133) hx hb dX12_key_20 (by decide) (fun c335 => ?_) (fun c335 => absurd c335 (by decide))
                          refine lv_iconst (v := -1) hx hb dX12_key_133 (by decide) ?_
                          exact W.iret (v := -1) hx hb hr (fun t ht hW => ⟨-1, rfl, Or.inr (Or.inr (Or.inr (⟨rfl, by first | omega | (have q := (kd_word (tx := tx) (n := sz1) (p := p0) (by omega)).trans ((if_neg (by rw [show eqw tx sz1 wVx p0 = false from EW1]; decide)).trans ((if_neg (by rw [show eqw tx sz1 wEd p0 = false from EW8]; decide)).trans (if_neg (by rw [show eqw tx sz1 wWo p0 = false from EW13]; decide)))); omega)⟩))), ht⟩) (fun _ h => absurd h List.not_mem_nil) dX12_key_134
                        · have c333 := mt (b_eq (rfl : Int32.toInt x1_327 = _) (show Int32.toInt 0 = 0 from rfl)).mpr c333
                          have X2 : x1_327 = 1 := i1_of hL327_1 (by omega)
                          have EW13 : eqw tx sz1 (kW 13) p0 = true := by first | exact eqw_t.mpr ⟨(hL327_2 X2).1.trans rfl, fun q hq => (hL327_2 X2).2 q (by have : (kW 13).length = 17 - 13 := rfl; omega)⟩ | (exfalso; omega)
                          refine lv_iload_n hx hb dX12_key_121 rfl (lv_at hl 1 rfl) ?_
                          exact W.iret (v := 2) hx hb hr (fun t ht hW => ⟨2, rfl, Or.inr (Or.inr (Or.inl ⟨rfl, by exact (kd_word (by omega)).trans ((if_neg (by rw [show eqw tx sz1 wVx p0 = false from EW1]; decide)).trans ((if_neg (by rw [show eqw tx sz1 wEd p0 = false from EW8]; decide)).trans (if_pos EW13)))⟩)), ht⟩) (fun _ h => absurd h List.not_mem_nil) dX12_key_122
                      · have c332 := mt (b_eq (rfl : Int32.toInt x1_327 = _) (show Int32.toInt 0 = 0 from rfl)).mpr c332
                        have X1 : x1_327 = 1 := i1_of hL327_1 (by omega)
                        refine va_ldcS hx hb hown hZ dX12_key_80 ?_
                        refine lv_iload_n hx hb dX12_key_82 rfl (lv_at hl 2 rfl) ?_
                        refine lv_iload hx hb dX12_key_83 (lv_at hl 5 rfl) ?_
                        refine lv_iadd hx hb dX12_key_85 ?_
                        refine W.eq (g2 := F0 m 86 ls [.int (nI (13 + i_327)), .ref (adK 3)]) (congrArg (fun z : Int32 => F0 m 86 ls (.int z :: [.ref (adK 3)])) (nI_add 13 i_327)) ?_
                        refine vp_callSi (va_Run.run (va_runV (As := [.int (nI (13 + i_327))]) (rest := []) ⟨hx, hb, hml, hown, noTs⟩ (s_J0_charAt l adK adV 3 (13 + i_327) (by decide) (by show _ < 18; omega)) ⟨cbE 1 (wd_498 hE) (wd_129 hE) (wd_1528 hE) rfl rfl (by decide +kernel) ⟨Nat.le_of_ble_eq_true rfl, Nat.le_of_ble_eq_true rfl⟩, (wd_496 hE), (wd_497 hE)⟩ ⟨PS.blind, vk_recv hX.1 (by decide) hS, ps_pre (av := [.ref (adK 3), .int (nI (13 + i_327))]) hX hS hE⟩ rfl rfl hl.1 rfl (lv_room (Nat.le_of_ble_eq_true rfl)) dX12_key_86 ⟨Nat.le_of_ble_eq_true rfl, Nat.le_of_ble_eq_true rfl⟩)) (fun r336 hr336 => ?_)
                        refine lv_aload_n hx hb dX12_key_89 rfl (lv_at hl 0 rfl) ?_
                        refine lv_aload_n hx hb dX12_key_90 rfl (lv_at hl 0 rfl) ?_
                        refine r_get (v := .int (nI p0)) hx hb (ly_X12 hE) hown hK hP rfl 13 (by decide) (wd_1394 hE) (fun _ h9 => h9) (congrArg (fun z : Int32 => some (Value.int z)) te13_2) dX12_key_91 ?_
                        refine lv_iload hx hb dX12_key_94 (lv_at hl 5 rfl) ?_
                        refine lv_iadd hx hb dX12_key_96 ?_
                        refine W.eq (g2 := F0 m 97 ls [.int (nI (p0 + i_327)), .ref (b 0), .int r336]) (congrArg (fun z : Int32 => F0 m 97 ls (.int z :: [.ref (b 0), .int r336])) (nI_add p0 i_327)) ?_
                        refine vp_callSi (va_Run.run (va_runV (As := [.int (nI (p0 + i_327))]) (rest := [.int r336]) ⟨hx, hb, hml, hown, noTs⟩ (r_X12_byteAt l dC dI s.heap.size cs b u tx hAc16 (p0 + i_327) sz1 hF11 (by first | assumption | omega | rfl | (congr 1; omega)) (by first | assumption | omega | rfl | (congr 1; omega))) ⟨cbE 1 (wd_1510 hE) (wd_126 hE) (wd_1507 hE) rfl rfl (by decide +kernel) ⟨Nat.le_of_ble_eq_true rfl, Nat.le_of_ble_eq_true rfl⟩, (wd_1509 hE), (wd_57 hE)⟩ ⟨PR.blind, r_recv hK hP rfl, (r_pre (av := [.ref (b 0), .int (nI (p0 + i_327))]) hK hP hJ hE)⟩ rfl rfl hl.1 rfl (lv_room (Nat.le_of_ble_eq_true rfl)) dX12_key_97 ⟨Nat.le_of_ble_eq_true rfl, Nat.le_of_ble_eq_true rfl⟩)) (fun r337 hr337 => ?_)
                        subst hr337
                        have htf337 := bA_f tx sz1 (p0 + i_327)
                        have HRC := hr336
                        have RCH := ch_13 i_327 (by omega)
                        refine lv_icmp_ne (tgt := 107) hx hb dX12_key_100 (by decide) (fun c338 => ?_) (fun c338 => ?_)
                        · have c338 := mt (b_eq (rfl : Int32.toInt r336 = _) (rfl : Int32.toInt (bA tx sz1 (p0 + i_327)) = _)).mpr c338
                          have NE : bA tx sz1 (p0 + i_327) ≠ (kW 13).getD i_327 0 := by rw [← RCH, ← HRC]; intro e; have := congrArg Int32.toInt e; omega
                          refine lv_iconst (v := 0) hx hb dX12_key_107 (by decide) ?_
                          refine lv_istore (lv' := [(4, .int 0), (0, .ref (b 0)), (1, .int 2), (2, .int 13), (3, .int 17), (5, .int (nI i_327))]) hx hb dX12_key_108 hl (by decide) rfl (fun ls hl => ?_)
                          refine lv_iinc (v := nI (i_327 + 1)) (lv' := [(5, .int (nI (i_327 + 1))), (4, .int 0), (0, .ref (b 0)), (1, .int 2), (2, .int 13), (3, .int 17)]) hx hb dX12_key_110 hl (k := 5) rfl (nI_1 i_327) (by decide) rfl (fun ls hl => ?_)
                          refine lv_goto (tgt := 67) hx hb dX12_key_113 (by decide) ?_
                          exact ih327 _ _ (by omega) ⟨(i_327 + 1), 0, rfl, (by first | assumption | omega | rfl | (congr 1; omega)), (by first | exact Or.inl rfl | exact Or.inr rfl), (by first | (intro _; exact ⟨(hL327_2 X1).1, fun q hq => by rcases Nat.lt_or_ge q i_327 with h | h; (exact (hL327_2 X1).2 q h); (obtain rfl : q = i_327 := by omega); exact EQ⟩) | (intro h; exact absurd h (by decide))), (by first | (intro h; exact absurd h (by decide)) | (intro _; exact eqw_at (w := kW 13) (by have : (kW 13).length = 17 - 13 := rfl; omega) NE)), lv_sub hl [2, 3, 4, 5, 1, 0] rfl⟩
                        · have c338 := (b_eq (rfl : Int32.toInt r336 = _) (rfl : Int32.toInt (bA tx sz1 (p0 + i_327)) = _)).mp c338
                          have EQ : bA tx sz1 (p0 + i_327) = (kW 13).getD i_327 0 := by rw [← RCH, ← HRC]; exact Int32.toInt_inj.mp (by omega)
                          refine lv_iconst (v := 1) hx hb dX12_key_103 (by decide) ?_
                          refine lv_goto (tgt := 108) hx hb dX12_key_104 (by decide) ?_
                          refine lv_istore (lv' := [(4, .int 1), (0, .ref (b 0)), (1, .int 2), (2, .int 13), (3, .int 17), (5, .int (nI i_327))]) hx hb dX12_key_108 hl (by decide) rfl (fun ls hl => ?_)
                          refine lv_iinc (v := nI (i_327 + 1)) (lv' := [(5, .int (nI (i_327 + 1))), (4, .int 1), (0, .ref (b 0)), (1, .int 2), (2, .int 13), (3, .int 17)]) hx hb dX12_key_110 hl (k := 5) rfl (nI_1 i_327) (by decide) rfl (fun ls hl => ?_)
                          refine lv_goto (tgt := 67) hx hb dX12_key_113 (by decide) ?_
                          exact ih327 _ _ (by omega) ⟨(i_327 + 1), 1, rfl, (by first | assumption | omega | rfl | (congr 1; omega)), (by first | exact Or.inl rfl | exact Or.inr rfl), (by first | (intro _; exact ⟨(hL327_2 X1).1, fun q hq => by rcases Nat.lt_or_ge q i_327 with h | h; (exact (hL327_2 X1).2 q h); (obtain rfl : q = i_327 := by omega); exact EQ⟩) | (intro h; exact absurd h (by decide))), (by first | (intro h; exact absurd h (by decide)) | (intro _; exact eqw_at (w := kW 13) (by have : (kW 13).length = 17 - 13 := rfl; omega) NE)), lv_sub hl [2, 3, 4, 5, 1, 0] rfl⟩
                · have c301 := mt (b_eq (rfl : Int32.toInt x1_299 = _) (show Int32.toInt 0 = 0 from rfl)).mpr c301
                  have X2 : x1_299 = 1 := i1_of hL299_1 (by omega)
                  have EW8 : eqw tx sz1 (kW 8) p0 = true := by first | exact eqw_t.mpr ⟨(hL299_2 X2).1.trans rfl, fun q hq => (hL299_2 X2).2 q (by have : (kW 8).length = 12 - 8 := rfl; omega)⟩ | (exfalso; omega)
                  refine lv_iload_n hx hb dX12_key_121 rfl (lv_at hl 1 rfl) ?_
                  exact W.iret (v := 1) hx hb hr (fun t ht hW => ⟨1, rfl, Or.inr (Or.inl ⟨rfl, by exact (kd_word (by omega)).trans ((if_neg (by rw [show eqw tx sz1 wVx p0 = false from EW1]; decide)).trans (if_pos EW8))⟩), ht⟩) (fun _ h => absurd h List.not_mem_nil) dX12_key_122
              · have c300 := mt (b_le (show Int32.toInt 4 = 4 from rfl) (nI_toInt (n := i_299) (by omega))).mpr c300
                refine lv_iload hx hb dX12_key_75 (lv_at hl 4 rfl) ?_
                refine lv_if_eq (tgt := 116) hx hb dX12_key_77 (by decide) (fun c339 => ?_) (fun c339 => ?_)
                · have c339 := (b_eq (rfl : Int32.toInt x1_299 = _) (show Int32.toInt 0 = 0 from rfl)).mp c339
                  refine lv_iload hx hb dX12_key_116 (lv_at hl 4 rfl) ?_
                  refine lv_if_eq (tgt := 123) hx hb dX12_key_118 (by decide) (fun c340 => ?_) (fun c340 => ?_)
                  · have c340 := (b_eq (rfl : Int32.toInt x1_299 = _) (show Int32.toInt 0 = 0 from rfl)).mp c340
                    have EW8 : eqw tx sz1 (kW 8) p0 = false := hL299_3 (i0_of (by omega))
                    refine lv_iinc (v := 2) (lv' := [(1, .int 2), (0, .ref (b 0)), (2, .int 8), (3, .int 12), (4, .int x1_299), (5, .int (nI i_299))]) hx hb dX12_key_123 hl (k := 1) rfl (by decide) (by decide) rfl (fun ls hl => ?_)
                    refine lv_iload_n hx hb dX12_key_126 rfl (lv_at hl 3 rfl) ?_
                    refine lv_iconst (v := 1) hx hb dX12_key_127 (by decide) ?_
                    refine lv_iadd hx hb dX12_key_128 ?_
                    refine W.eq (g2 := F0 m 129 ls [.int 13]) rfl ?_
                    refine lv_istore_n (lv' := [(2, .int 13), (1, .int 2), (0, .ref (b 0)), (3, .int 12), (4, .int x1_299), (5, .int (nI i_299))]) hx hb dX12_key_129 rfl hl (by decide) rfl (fun ls hl => ?_)
                    refine lv_goto (tgt := 14) hx hb dX12_key_130 (by decide) ?_
                    refine lv_iload_n hx hb dX12_key_14 rfl (lv_at hl 0 rfl) ?_
                    refine va_ldcS hx hb hown hZ dX12_key_15 ?_
                    refine vp_callSi (va_Run.run (va_runV (As := []) (rest := [.int 13]) ⟨hx, hb, hml, hown, noTs⟩ (s_J0_length l adK adV 3 (by decide)) ⟨cbE 0 (wd_488 hE) (wd_129 hE) (wd_1527 hE) rfl rfl (by decide +kernel) ⟨Nat.le_of_ble_eq_true rfl, Nat.le_of_ble_eq_true rfl⟩, (wd_486 hE), (wd_487 hE)⟩ ⟨PS.blind, vk_recv hX.1 (by decide) hS, ps_pre (av := [.ref (adK 3)]) hX hS hE⟩ rfl rfl hl.1 rfl (lv_room (Nat.le_of_ble_eq_true rfl)) dX12_key_17 ⟨Nat.le_of_ble_eq_true rfl, Nat.le_of_ble_eq_true rfl⟩)) (fun r341 hr341 => ?_)
                    have hr341 : r341 = 18 := hr341
                    subst hr341
                    refine lv_icmp_ge (tgt := 133) hx hb dX12_key_20 (by decide) (fun c342 => absurd c342 (by decide)) (fun c342 => ?_)
                    refine lv_iload_n hx hb dX12_key_23 rfl (lv_at hl 0 rfl) ?_
                    refine lv_istore_n (lv' := [(3, .int 13), (2, .int 13), (1, .int 2), (0, .ref (b 0)), (4, .int x1_299), (5, .int (nI i_299))]) hx hb dX12_key_24 rfl hl (by decide) rfl (fun ls hl => ?_)
                    refine va_ldcS hx hb hown hZ dX12_key_25 ?_
                    refine lv_iload_n hx hb dX12_key_27 rfl (lv_at hl 0 rfl) ?_
                    refine vp_callSi (va_Run.run (va_runV (As := [.int (nI 13)]) (rest := []) ⟨hx, hb, hml, hown, noTs⟩ (s_J0_charAt l adK adV 3 13 (by decide) (by show _ < 18; omega)) ⟨cbE 1 (wd_498 hE) (wd_129 hE) (wd_1528 hE) rfl rfl (by decide +kernel) ⟨Nat.le_of_ble_eq_true rfl, Nat.le_of_ble_eq_true rfl⟩, (wd_496 hE), (wd_497 hE)⟩ ⟨PS.blind, vk_recv hX.1 (by decide) hS, ps_pre (av := [.ref (adK 3), .int (nI 13)]) hX hS hE⟩ rfl rfl hl.1 rfl (lv_room (Nat.le_of_ble_eq_true rfl)) dX12_key_28 ⟨Nat.le_of_ble_eq_true rfl, Nat.le_of_ble_eq_true rfl⟩)) (fun r343 hr343 => ?_)
                    have hr343 : r343 = 119 := hr343.trans (by decide)
                    subst hr343
                    refine lv_bipush (v := 32) hx hb dX12_key_31 (by decide) ?_
                    refine lv_icmp_eq (tgt := 42) hx hb dX12_key_33 (by decide) (fun c344 => absurd c344 (by decide)) (fun c344 => ?_)
                    refine lv_iinc (v := 14) (lv' := [(3, .int 14), (2, .int 13), (1, .int 2), (0, .ref (b 0)), (4, .int x1_299), (5, .int (nI i_299))]) hx hb dX12_key_36 hl (k := 0) rfl (by decide) (by decide) rfl (fun ls hl => ?_)
                    refine lv_goto (tgt := 25) hx hb dX12_key_39 (by decide) ?_
                    refine va_ldcS hx hb hown hZ dX12_key_25 ?_
                    refine lv_iload_n hx hb dX12_key_27 rfl (lv_at hl 0 rfl) ?_
                    refine vp_callSi (va_Run.run (va_runV (As := [.int (nI 14)]) (rest := []) ⟨hx, hb, hml, hown, noTs⟩ (s_J0_charAt l adK adV 3 14 (by decide) (by show _ < 18; omega)) ⟨cbE 1 (wd_498 hE) (wd_129 hE) (wd_1528 hE) rfl rfl (by decide +kernel) ⟨Nat.le_of_ble_eq_true rfl, Nat.le_of_ble_eq_true rfl⟩, (wd_496 hE), (wd_497 hE)⟩ ⟨PS.blind, vk_recv hX.1 (by decide) hS, ps_pre (av := [.ref (adK 3), .int (nI 14)]) hX hS hE⟩ rfl rfl hl.1 rfl (lv_room (Nat.le_of_ble_eq_true rfl)) dX12_key_28 ⟨Nat.le_of_ble_eq_true rfl, Nat.le_of_ble_eq_true rfl⟩)) (fun r345 hr345 => ?_)
                    have hr345 : r345 = 111 := hr345.trans (by decide)
                    subst hr345
                    refine lv_bipush (v := 32) hx hb dX12_key_31 (by decide) ?_
                    refine lv_icmp_eq (tgt := 42) hx hb dX12_key_33 (by decide) (fun c346 => absurd c346 (by decide)) (fun c346 => ?_)
                    refine lv_iinc (v := 15) (lv' := [(3, .int 15), (2, .int 13), (1, .int 2), (0, .ref (b 0)), (4, .int x1_299), (5, .int (nI i_299))]) hx hb dX12_key_36 hl (k := 0) rfl (by decide) (by decide) rfl (fun ls hl => ?_)
                    refine lv_goto (tgt := 25) hx hb dX12_key_39 (by decide) ?_
                    refine va_ldcS hx hb hown hZ dX12_key_25 ?_
                    refine lv_iload_n hx hb dX12_key_27 rfl (lv_at hl 0 rfl) ?_
                    refine vp_callSi (va_Run.run (va_runV (As := [.int (nI 15)]) (rest := []) ⟨hx, hb, hml, hown, noTs⟩ (s_J0_charAt l adK adV 3 15 (by decide) (by show _ < 18; omega)) ⟨cbE 1 (wd_498 hE) (wd_129 hE) (wd_1528 hE) rfl rfl (by decide +kernel) ⟨Nat.le_of_ble_eq_true rfl, Nat.le_of_ble_eq_true rfl⟩, (wd_496 hE), (wd_497 hE)⟩ ⟨PS.blind, vk_recv hX.1 (by decide) hS, ps_pre (av := [.ref (adK 3), .int (nI 15)]) hX hS hE⟩ rfl rfl hl.1 rfl (lv_room (Nat.le_of_ble_eq_true rfl)) dX12_key_28 ⟨Nat.le_of_ble_eq_true rfl, Nat.le_of_ble_eq_true rfl⟩)) (fun r347 hr347 => ?_)
                    have hr347 : r347 = 114 := hr347.trans (by decide)
                    subst hr347
                    refine lv_bipush (v := 32) hx hb dX12_key_31 (by decide) ?_
                    refine lv_icmp_eq (tgt := 42) hx hb dX12_key_33 (by decide) (fun c348 => absurd c348 (by decide)) (fun c348 => ?_)
                    refine lv_iinc (v := 16) (lv' := [(3, .int 16), (2, .int 13), (1, .int 2), (0, .ref (b 0)), (4, .int x1_299), (5, .int (nI i_299))]) hx hb dX12_key_36 hl (k := 0) rfl (by decide) (by decide) rfl (fun ls hl => ?_)
                    refine lv_goto (tgt := 25) hx hb dX12_key_39 (by decide) ?_
                    refine va_ldcS hx hb hown hZ dX12_key_25 ?_
                    refine lv_iload_n hx hb dX12_key_27 rfl (lv_at hl 0 rfl) ?_
                    refine vp_callSi (va_Run.run (va_runV (As := [.int (nI 16)]) (rest := []) ⟨hx, hb, hml, hown, noTs⟩ (s_J0_charAt l adK adV 3 16 (by decide) (by show _ < 18; omega)) ⟨cbE 1 (wd_498 hE) (wd_129 hE) (wd_1528 hE) rfl rfl (by decide +kernel) ⟨Nat.le_of_ble_eq_true rfl, Nat.le_of_ble_eq_true rfl⟩, (wd_496 hE), (wd_497 hE)⟩ ⟨PS.blind, vk_recv hX.1 (by decide) hS, ps_pre (av := [.ref (adK 3), .int (nI 16)]) hX hS hE⟩ rfl rfl hl.1 rfl (lv_room (Nat.le_of_ble_eq_true rfl)) dX12_key_28 ⟨Nat.le_of_ble_eq_true rfl, Nat.le_of_ble_eq_true rfl⟩)) (fun r349 hr349 => ?_)
                    have hr349 : r349 = 100 := hr349.trans (by decide)
                    subst hr349
                    refine lv_bipush (v := 32) hx hb dX12_key_31 (by decide) ?_
                    refine lv_icmp_eq (tgt := 42) hx hb dX12_key_33 (by decide) (fun c350 => absurd c350 (by decide)) (fun c350 => ?_)
                    refine lv_iinc (v := 17) (lv' := [(3, .int 17), (2, .int 13), (1, .int 2), (0, .ref (b 0)), (4, .int x1_299), (5, .int (nI i_299))]) hx hb dX12_key_36 hl (k := 0) rfl (by decide) (by decide) rfl (fun ls hl => ?_)
                    refine lv_goto (tgt := 25) hx hb dX12_key_39 (by decide) ?_
                    refine va_ldcS hx hb hown hZ dX12_key_25 ?_
                    refine lv_iload_n hx hb dX12_key_27 rfl (lv_at hl 0 rfl) ?_
                    refine vp_callSi (va_Run.run (va_runV (As := [.int (nI 17)]) (rest := []) ⟨hx, hb, hml, hown, noTs⟩ (s_J0_charAt l adK adV 3 17 (by decide) (by show _ < 18; omega)) ⟨cbE 1 (wd_498 hE) (wd_129 hE) (wd_1528 hE) rfl rfl (by decide +kernel) ⟨Nat.le_of_ble_eq_true rfl, Nat.le_of_ble_eq_true rfl⟩, (wd_496 hE), (wd_497 hE)⟩ ⟨PS.blind, vk_recv hX.1 (by decide) hS, ps_pre (av := [.ref (adK 3), .int (nI 17)]) hX hS hE⟩ rfl rfl hl.1 rfl (lv_room (Nat.le_of_ble_eq_true rfl)) dX12_key_28 ⟨Nat.le_of_ble_eq_true rfl, Nat.le_of_ble_eq_true rfl⟩)) (fun r351 hr351 => ?_)
                    have hr351 : r351 = 32 := hr351.trans (by decide)
                    subst hr351
                    refine lv_bipush (v := 32) hx hb dX12_key_31 (by decide) ?_
                    refine lv_icmp_eq (tgt := 42) hx hb dX12_key_33 (by decide) (fun c352 => ?_) (fun c352 => absurd c352 (by decide))
                    refine lv_iload_n hx hb dX12_key_42 rfl (lv_at hl 0 rfl) ?_
                    refine lv_iload_n hx hb dX12_key_43 rfl (lv_at hl 1 rfl) ?_
                    refine lv_isub hx hb dX12_key_44 ?_
                    refine W.eq (g2 := F0 m 45 ls [.int 4]) rfl ?_
                    refine lv_aload_n hx hb dX12_key_45 rfl (lv_at hl 3 rfl) ?_
                    refine r_get (v := .int (nI (tnd tx sz1 p0))) hx hb (ly_X12 hE) hown hK hP rfl 14 (by decide) (wd_1395 hE) (fun _ h9 => h9) (congrArg (fun z : Int32 => some (Value.int z)) te14_2) dX12_key_46 ?_
                    refine lv_aload_n hx hb dX12_key_49 rfl (lv_at hl 3 rfl) ?_
                    refine r_get (v := .int (nI p0)) hx hb (ly_X12 hE) hown hK hP rfl 13 (by decide) (wd_1394 hE) (fun _ h9 => h9) (congrArg (fun z : Int32 => some (Value.int z)) te13_2) dX12_key_50 ?_
                    refine lv_isub hx hb dX12_key_53 ?_
                    refine W.eq (g2 := F0 m 54 ls [.int (nI ((tnd tx sz1 p0) - p0)), .int 4]) (congrArg (fun z : Int32 => F0 m 54 ls (.int z :: [.int 4])) (pk_sub (a := tnd tx sz1 p0) (b := p0) (by omega))) ?_
                    refine lv_icmp_ne (tgt := 61) hx hb dX12_key_54 (by decide) (fun c353 => ?_) (fun c353 => ?_)
                    · have c353 := mt (b_eq (show Int32.toInt 4 = 4 from rfl) (nI_toInt (n := (tnd tx sz1 p0) - p0) (by omega))).mpr c353
                      refine lv_iconst (v := 0) hx hb dX12_key_61 (by decide) ?_
                      refine lv_istore (lv' := [(4, .int 0), (3, .int 17), (2, .int 13), (1, .int 2), (0, .ref (b 0)), (5, .int (nI i_299))]) hx hb dX12_key_62 hl (by decide) rfl (fun ls hl => ?_)
                      refine lv_iconst (v := 0) hx hb dX12_key_64 (by decide) ?_
                      refine lv_istore (lv' := [(5, .int 0), (4, .int 0), (3, .int 17), (2, .int 13), (1, .int 2), (0, .ref (b 0))]) hx hb dX12_key_65 hl (by decide) rfl (fun ls hl => ?_)
                      refine r_indP (I := fun n ls => ∃ (i_354 : Nat) (x1_354 : Int32), n = 17 - 13 - i_354 ∧ (i_354 ≤ 17 - 13) ∧ (x1_354 = 0 ∨ x1_354 = 1) ∧ (x1_354 = 1 → tnd tx sz1 p0 - p0 = 17 - 13 ∧ ∀ q, q < i_354 → bA tx sz1 (p0 + q) = (kW 13).getD q 0) ∧ (x1_354 = 0 → eqw tx sz1 (kW 13) p0 = false) ∧ lv_has ls 6 [(0, .ref (b 0)), (1, .int 2), (2, .int 13), (3, .int 17), (4, .int x1_354), (5, .int (nI i_354))]) (fun n ls hI ih354 => ?_) _ _ ⟨0, 0, rfl, (by first | assumption | omega | rfl | (congr 1; omega)), (by first | exact Or.inl rfl | exact Or.inr rfl), (by first | (intro _; exact ⟨by omega, fun q hq => absurd hq (by omega)⟩) | (intro h; exact absurd h (by decide))), (by first | (intro h; exact absurd h (by decide)) | (intro _; exact eqw_len (w := kW 13) (l := 17 - 13) rfl (by omega))), lv_sub hl [5, 4, 3, 2, 1, 0] rfl⟩
                      obtain ⟨i_354, x1_354, hmu354, hL354_0, hL354_1, hL354_2, hL354_3, hl⟩ := hI
                      subst hmu354
                      refine lv_iload hx hb dX12_key_67 (lv_at hl 5 rfl) ?_
                      refine lv_iload_n hx hb dX12_key_69 rfl (lv_at hl 3 rfl) ?_
                      refine lv_iload_n hx hb dX12_key_70 rfl (lv_at hl 2 rfl) ?_
                      refine lv_isub hx hb dX12_key_71 ?_
                      refine W.eq (g2 := F0 m 72 ls [.int 4, .int (nI i_354)]) rfl ?_
                      refine lv_icmp_ge (tgt := 116) hx hb dX12_key_72 (by decide) (fun c355 => ?_) (fun c355 => ?_)
                      · have c355 := (b_le (show Int32.toInt 4 = 4 from rfl) (nI_toInt (n := i_354) (by omega))).mp c355
                        refine lv_iload hx hb dX12_key_116 (lv_at hl 4 rfl) ?_
                        refine lv_if_eq (tgt := 123) hx hb dX12_key_118 (by decide) (fun c356 => ?_) (fun c356 => ?_)
                        · have c356 := (b_eq (rfl : Int32.toInt x1_354 = _) (show Int32.toInt 0 = 0 from rfl)).mp c356
                          have EW13 : eqw tx sz1 (kW 13) p0 = false := hL354_3 (i0_of (by omega))
                          refine lv_iinc (v := 3) (lv' := [(1, .int 3), (0, .ref (b 0)), (2, .int 13), (3, .int 17), (4, .int x1_354), (5, .int (nI i_354))]) hx hb dX12_key_123 hl (k := 1) rfl (by decide) (by decide) rfl (fun ls hl => ?_)
                          refine lv_iload_n hx hb dX12_key_126 rfl (lv_at hl 3 rfl) ?_
                          refine lv_iconst (v := 1) hx hb dX12_key_127 (by decide) ?_
                          refine lv_iadd hx hb dX12_key_128 ?_
                          refine W.eq (g2 := F0 m 129 ls [.int 18]) rfl ?_
                          refine lv_istore_n (lv' := [(2, .int 18), (1, .int 3), (0, .ref (b 0)), (3, .int 17), (4, .int x1_354), (5, .int (nI i_354))]) hx hb dX12_key_129 rfl hl (by decide) rfl (fun ls hl => ?_)
                          refine lv_goto (tgt := 14) hx hb dX12_key_130 (by decide) ?_
                          refine lv_iload_n hx hb dX12_key_14 rfl (lv_at hl 0 rfl) ?_
                          refine va_ldcS hx hb hown hZ dX12_key_15 ?_
                          refine vp_callSi (va_Run.run (va_runV (As := []) (rest := [.int 18]) ⟨hx, hb, hml, hown, noTs⟩ (s_J0_length l adK adV 3 (by decide)) ⟨cbE 0 (wd_488 hE) (wd_129 hE) (wd_1527 hE) rfl rfl (by decide +kernel) ⟨Nat.le_of_ble_eq_true rfl, Nat.le_of_ble_eq_true rfl⟩, (wd_486 hE), (wd_487 hE)⟩ ⟨PS.blind, vk_recv hX.1 (by decide) hS, ps_pre (av := [.ref (adK 3)]) hX hS hE⟩ rfl rfl hl.1 rfl (lv_room (Nat.le_of_ble_eq_true rfl)) dX12_key_17 ⟨Nat.le_of_ble_eq_true rfl, Nat.le_of_ble_eq_true rfl⟩)) (fun r357 hr357 => ?_)
                          have hr357 : r357 = 18 := hr357
                          subst hr357
                          refine lv_icmp_ge (tgt := 133) hx hb dX12_key_20 (by decide) (fun c358 => ?_) (fun c358 => absurd c358 (by decide))
                          refine lv_iconst (v := -1) hx hb dX12_key_133 (by decide) ?_
                          exact W.iret (v := -1) hx hb hr (fun t ht hW => ⟨-1, rfl, Or.inr (Or.inr (Or.inr (⟨rfl, by first | omega | (have q := (kd_word (tx := tx) (n := sz1) (p := p0) (by omega)).trans ((if_neg (by rw [show eqw tx sz1 wVx p0 = false from EW1]; decide)).trans ((if_neg (by rw [show eqw tx sz1 wEd p0 = false from EW8]; decide)).trans (if_neg (by rw [show eqw tx sz1 wWo p0 = false from EW13]; decide)))); omega)⟩))), ht⟩) (fun _ h => absurd h List.not_mem_nil) dX12_key_134
                        · have c356 := mt (b_eq (rfl : Int32.toInt x1_354 = _) (show Int32.toInt 0 = 0 from rfl)).mpr c356
                          have X2 : x1_354 = 1 := i1_of hL354_1 (by omega)
                          have EW13 : eqw tx sz1 (kW 13) p0 = true := by first | exact eqw_t.mpr ⟨(hL354_2 X2).1.trans rfl, fun q hq => (hL354_2 X2).2 q (by have : (kW 13).length = 17 - 13 := rfl; omega)⟩ | (exfalso; omega)
                          refine lv_iload_n hx hb dX12_key_121 rfl (lv_at hl 1 rfl) ?_
                          exact W.iret (v := 2) hx hb hr (fun t ht hW => ⟨2, rfl, Or.inr (Or.inr (Or.inl ⟨rfl, by exact (kd_word (by omega)).trans ((if_neg (by rw [show eqw tx sz1 wVx p0 = false from EW1]; decide)).trans ((if_neg (by rw [show eqw tx sz1 wEd p0 = false from EW8]; decide)).trans (if_pos EW13)))⟩)), ht⟩) (fun _ h => absurd h List.not_mem_nil) dX12_key_122
                      · have c355 := mt (b_le (show Int32.toInt 4 = 4 from rfl) (nI_toInt (n := i_354) (by omega))).mpr c355
                        refine lv_iload hx hb dX12_key_75 (lv_at hl 4 rfl) ?_
                        refine lv_if_eq (tgt := 116) hx hb dX12_key_77 (by decide) (fun c359 => ?_) (fun c359 => ?_)
                        · have c359 := (b_eq (rfl : Int32.toInt x1_354 = _) (show Int32.toInt 0 = 0 from rfl)).mp c359
                          refine lv_iload hx hb dX12_key_116 (lv_at hl 4 rfl) ?_
                          refine lv_if_eq (tgt := 123) hx hb dX12_key_118 (by decide) (fun c360 => ?_) (fun c360 => ?_)
                          · have c360 := (b_eq (rfl : Int32.toInt x1_354 = _) (show Int32.toInt 0 = 0 from rfl)).mp c360
                            have EW13 : eqw tx sz1 (kW 13) p0 = false := hL354_3 (i0_of (by omega))
                            refine lv_iinc (v := 3) (lv' := [(1, .int 3), (0, .ref (b 0)), (2, .int 13), (3, .int 17), (4, .int x1_354), (5, .int (nI i_354))]) hx hb dX12_key_123 hl (k := 1) rfl (by decide) (by decide) rfl (fun ls hl => ?_)
                            refine lv_iload_n hx hb dX12_key_126 rfl (lv_at hl 3 rfl) ?_
                            refine lv_iconst (v := 1) hx hb dX12_key_127 (by decide) ?_
                            refine lv_iadd hx hb dX12_key_128 ?_
                            refine W.eq (g2 := F0 m 129 ls [.int 18]) rfl ?_
                            refine lv_istore_n (lv' := [(2, .int 18), (1, .int 3), (0, .ref (b 0)), (3, .int 17), (4, .int x1_354), (5, .int (nI i_354))]) hx hb dX12_key_129 rfl hl (by decide) rfl (fun ls hl => ?_)
                            refine lv_goto (tgt := 14) hx hb dX12_key_130 (by decide) ?_
                            refine lv_iload_n hx hb dX12_key_14 rfl (lv_at hl 0 rfl) ?_
                            refine va_ldcS hx hb hown hZ dX12_key_15 ?_
                            refine vp_callSi (va_Run.run (va_runV (As := []) (rest := [.int 18]) ⟨hx, hb, hml, hown, noTs⟩ (s_J0_length l adK adV 3 (by decide)) ⟨cbE 0 (wd_488 hE) (wd_129 hE) (wd_1527 hE) rfl rfl (by decide +kernel) ⟨Nat.le_of_ble_eq_true rfl, Nat.le_of_ble_eq_true rfl⟩, (wd_486 hE), (wd_487 hE)⟩ ⟨PS.blind, vk_recv hX.1 (by decide) hS, ps_pre (av := [.ref (adK 3)]) hX hS hE⟩ rfl rfl hl.1 rfl (lv_room (Nat.le_of_ble_eq_true rfl)) dX12_key_17 ⟨Nat.le_of_ble_eq_true rfl, Nat.le_of_ble_eq_true rfl⟩)) (fun r361 hr361 => ?_)
                            have hr361 : r361 = 18 := hr361
                            subst hr361
                            refine lv_icmp_ge (tgt := 133) hx hb dX12_key_20 (by decide) (fun c362 => ?_) (fun c362 => absurd c362 (by decide))
                            refine lv_iconst (v := -1) hx hb dX12_key_133 (by decide) ?_
                            exact W.iret (v := -1) hx hb hr (fun t ht hW => ⟨-1, rfl, Or.inr (Or.inr (Or.inr (⟨rfl, by first | omega | (have q := (kd_word (tx := tx) (n := sz1) (p := p0) (by omega)).trans ((if_neg (by rw [show eqw tx sz1 wVx p0 = false from EW1]; decide)).trans ((if_neg (by rw [show eqw tx sz1 wEd p0 = false from EW8]; decide)).trans (if_neg (by rw [show eqw tx sz1 wWo p0 = false from EW13]; decide)))); omega)⟩))), ht⟩) (fun _ h => absurd h List.not_mem_nil) dX12_key_134
                          · have c360 := mt (b_eq (rfl : Int32.toInt x1_354 = _) (show Int32.toInt 0 = 0 from rfl)).mpr c360
                            have X2 : x1_354 = 1 := i1_of hL354_1 (by omega)
                            have EW13 : eqw tx sz1 (kW 13) p0 = true := by first | exact eqw_t.mpr ⟨(hL354_2 X2).1.trans rfl, fun q hq => (hL354_2 X2).2 q (by have : (kW 13).length = 17 - 13 := rfl; omega)⟩ | (exfalso; omega)
                            refine lv_iload_n hx hb dX12_key_121 rfl (lv_at hl 1 rfl) ?_
                            exact W.iret (v := 2) hx hb hr (fun t ht hW => ⟨2, rfl, Or.inr (Or.inr (Or.inl ⟨rfl, by exact (kd_word (by omega)).trans ((if_neg (by rw [show eqw tx sz1 wVx p0 = false from EW1]; decide)).trans ((if_neg (by rw [show eqw tx sz1 wEd p0 = false from EW8]; decide)).trans (if_pos EW13)))⟩)), ht⟩) (fun _ h => absurd h List.not_mem_nil) dX12_key_122
                        · have c359 := mt (b_eq (rfl : Int32.toInt x1_354 = _) (show Int32.toInt 0 = 0 from rfl)).mpr c359
                          have X1 : x1_354 = 1 := i1_of hL354_1 (by omega)
                          refine va_ldcS hx hb hown hZ dX12_key_80 ?_
                          refine lv_iload_n hx hb dX12_key_82 rfl (lv_at hl 2 rfl) ?_
                          refine lv_iload hx hb dX12_key_83 (lv_at hl 5 rfl) ?_
                          refine lv_iadd hx hb dX12_key_85 ?_
                          refine W.eq (g2 := F0 m 86 ls [.int (nI (13 + i_354)), .ref (adK 3)]) (congrArg (fun z : Int32 => F0 m 86 ls (.int z :: [.ref (adK 3)])) (nI_add 13 i_354)) ?_
                          refine vp_callSi (va_Run.run (va_runV (As := [.int (nI (13 + i_354))]) (rest := []) ⟨hx, hb, hml, hown, noTs⟩ (s_J0_charAt l adK adV 3 (13 + i_354) (by decide) (by show _ < 18; omega)) ⟨cbE 1 (wd_498 hE) (wd_129 hE) (wd_1528 hE) rfl rfl (by decide +kernel) ⟨Nat.le_of_ble_eq_true rfl, Nat.le_of_ble_eq_true rfl⟩, (wd_496 hE), (wd_497 hE)⟩ ⟨PS.blind, vk_recv hX.1 (by decide) hS, ps_pre (av := [.ref (adK 3), .int (nI (13 + i_354))]) hX hS hE⟩ rfl rfl hl.1 rfl (lv_room (Nat.le_of_ble_eq_true rfl)) dX12_key_86 ⟨Nat.le_of_ble_eq_true rfl, Nat.le_of_ble_eq_true rfl⟩)) (fun r363 hr363 => ?_)
                          refine lv_aload_n hx hb dX12_key_89 rfl (lv_at hl 0 rfl) ?_
                          refine lv_aload_n hx hb dX12_key_90 rfl (lv_at hl 0 rfl) ?_
                          refine r_get (v := .int (nI p0)) hx hb (ly_X12 hE) hown hK hP rfl 13 (by decide) (wd_1394 hE) (fun _ h9 => h9) (congrArg (fun z : Int32 => some (Value.int z)) te13_2) dX12_key_91 ?_
                          refine lv_iload hx hb dX12_key_94 (lv_at hl 5 rfl) ?_
                          refine lv_iadd hx hb dX12_key_96 ?_
                          refine W.eq (g2 := F0 m 97 ls [.int (nI (p0 + i_354)), .ref (b 0), .int r363]) (congrArg (fun z : Int32 => F0 m 97 ls (.int z :: [.ref (b 0), .int r363])) (nI_add p0 i_354)) ?_
                          refine vp_callSi (va_Run.run (va_runV (As := [.int (nI (p0 + i_354))]) (rest := [.int r363]) ⟨hx, hb, hml, hown, noTs⟩ (r_X12_byteAt l dC dI s.heap.size cs b u tx hAc16 (p0 + i_354) sz1 hF11 (by first | assumption | omega | rfl | (congr 1; omega)) (by first | assumption | omega | rfl | (congr 1; omega))) ⟨cbE 1 (wd_1510 hE) (wd_126 hE) (wd_1507 hE) rfl rfl (by decide +kernel) ⟨Nat.le_of_ble_eq_true rfl, Nat.le_of_ble_eq_true rfl⟩, (wd_1509 hE), (wd_57 hE)⟩ ⟨PR.blind, r_recv hK hP rfl, (r_pre (av := [.ref (b 0), .int (nI (p0 + i_354))]) hK hP hJ hE)⟩ rfl rfl hl.1 rfl (lv_room (Nat.le_of_ble_eq_true rfl)) dX12_key_97 ⟨Nat.le_of_ble_eq_true rfl, Nat.le_of_ble_eq_true rfl⟩)) (fun r364 hr364 => ?_)
                          subst hr364
                          have htf364 := bA_f tx sz1 (p0 + i_354)
                          have HRC := hr363
                          have RCH := ch_13 i_354 (by omega)
                          refine lv_icmp_ne (tgt := 107) hx hb dX12_key_100 (by decide) (fun c365 => ?_) (fun c365 => ?_)
                          · have c365 := mt (b_eq (rfl : Int32.toInt r363 = _) (rfl : Int32.toInt (bA tx sz1 (p0 + i_354)) = _)).mpr c365
                            have NE : bA tx sz1 (p0 + i_354) ≠ (kW 13).getD i_354 0 := by rw [← RCH, ← HRC]; intro e; have := congrArg Int32.toInt e; omega
                            refine lv_iconst (v := 0) hx hb dX12_key_107 (by decide) ?_
                            refine lv_istore (lv' := [(4, .int 0), (0, .ref (b 0)), (1, .int 2), (2, .int 13), (3, .int 17), (5, .int (nI i_354))]) hx hb dX12_key_108 hl (by decide) rfl (fun ls hl => ?_)
                            refine lv_iinc (v := nI (i_354 + 1)) (lv' := [(5, .int (nI (i_354 + 1))), (4, .int 0), (0, .ref (b 0)), (1, .int 2), (2, .int 13), (3, .int 17)]) hx hb dX12_key_110 hl (k := 5) rfl (nI_1 i_354) (by decide) rfl (fun ls hl => ?_)
                            refine lv_goto (tgt := 67) hx hb dX12_key_113 (by decide) ?_
                            exact ih354 _ _ (by omega) ⟨(i_354 + 1), 0, rfl, (by first | assumption | omega | rfl | (congr 1; omega)), (by first | exact Or.inl rfl | exact Or.inr rfl), (by first | (intro _; exact ⟨(hL354_2 X1).1, fun q hq => by rcases Nat.lt_or_ge q i_354 with h | h; (exact (hL354_2 X1).2 q h); (obtain rfl : q = i_354 := by omega); exact EQ⟩) | (intro h; exact absurd h (by decide))), (by first | (intro h; exact absurd h (by decide)) | (intro _; exact eqw_at (w := kW 13) (by have : (kW 13).length = 17 - 13 := rfl; omega) NE)), lv_sub hl [2, 3, 4, 5, 1, 0] rfl⟩
                          · have c365 := (b_eq (rfl : Int32.toInt r363 = _) (rfl : Int32.toInt (bA tx sz1 (p0 + i_354)) = _)).mp c365
                            have EQ : bA tx sz1 (p0 + i_354) = (kW 13).getD i_354 0 := by rw [← RCH, ← HRC]; exact Int32.toInt_inj.mp (by omega)
                            refine lv_iconst (v := 1) hx hb dX12_key_103 (by decide) ?_
                            refine lv_goto (tgt := 108) hx hb dX12_key_104 (by decide) ?_
                            refine lv_istore (lv' := [(4, .int 1), (0, .ref (b 0)), (1, .int 2), (2, .int 13), (3, .int 17), (5, .int (nI i_354))]) hx hb dX12_key_108 hl (by decide) rfl (fun ls hl => ?_)
                            refine lv_iinc (v := nI (i_354 + 1)) (lv' := [(5, .int (nI (i_354 + 1))), (4, .int 1), (0, .ref (b 0)), (1, .int 2), (2, .int 13), (3, .int 17)]) hx hb dX12_key_110 hl (k := 5) rfl (nI_1 i_354) (by decide) rfl (fun ls hl => ?_)
                            refine lv_goto (tgt := 67) hx hb dX12_key_113 (by decide) ?_
                            exact ih354 _ _ (by omega) ⟨(i_354 + 1), 1, rfl, (by first | assumption | omega | rfl | (congr 1; omega)), (by first | exact Or.inl rfl | exact Or.inr rfl), (by first | (intro _; exact ⟨(hL354_2 X1).1, fun q hq => by rcases Nat.lt_or_ge q i_354 with h | h; (exact (hL354_2 X1).2 q h); (obtain rfl : q = i_354 := by omega); exact EQ⟩) | (intro h; exact absurd h (by decide))), (by first | (intro h; exact absurd h (by decide)) | (intro _; exact eqw_at (w := kW 13) (by have : (kW 13).length = 17 - 13 := rfl; omega) NE)), lv_sub hl [2, 3, 4, 5, 1, 0] rfl⟩
                    · have c353 := (b_eq (show Int32.toInt 4 = 4 from rfl) (nI_toInt (n := (tnd tx sz1 p0) - p0) (by omega))).mp c353
                      refine lv_iconst (v := 1) hx hb dX12_key_57 (by decide) ?_
                      refine lv_goto (tgt := 62) hx hb dX12_key_58 (by decide) ?_
                      refine lv_istore (lv' := [(4, .int 1), (3, .int 17), (2, .int 13), (1, .int 2), (0, .ref (b 0)), (5, .int (nI i_299))]) hx hb dX12_key_62 hl (by decide) rfl (fun ls hl => ?_)
                      refine lv_iconst (v := 0) hx hb dX12_key_64 (by decide) ?_
                      refine lv_istore (lv' := [(5, .int 0), (4, .int 1), (3, .int 17), (2, .int 13), (1, .int 2), (0, .ref (b 0))]) hx hb dX12_key_65 hl (by decide) rfl (fun ls hl => ?_)
                      refine r_indP (I := fun n ls => ∃ (i_366 : Nat) (x1_366 : Int32), n = 17 - 13 - i_366 ∧ (i_366 ≤ 17 - 13) ∧ (x1_366 = 0 ∨ x1_366 = 1) ∧ (x1_366 = 1 → tnd tx sz1 p0 - p0 = 17 - 13 ∧ ∀ q, q < i_366 → bA tx sz1 (p0 + q) = (kW 13).getD q 0) ∧ (x1_366 = 0 → eqw tx sz1 (kW 13) p0 = false) ∧ lv_has ls 6 [(0, .ref (b 0)), (1, .int 2), (2, .int 13), (3, .int 17), (4, .int x1_366), (5, .int (nI i_366))]) (fun n ls hI ih366 => ?_) _ _ ⟨0, 1, rfl, (by first | assumption | omega | rfl | (congr 1; omega)), (by first | exact Or.inl rfl | exact Or.inr rfl), (by first | (intro _; exact ⟨by omega, fun q hq => absurd hq (by omega)⟩) | (intro h; exact absurd h (by decide))), (by first | (intro h; exact absurd h (by decide)) | (intro _; exact eqw_len (w := kW 13) (l := 17 - 13) rfl (by omega))), lv_sub hl [5, 4, 3, 2, 1, 0] rfl⟩
                      obtain ⟨i_366, x1_366, hmu366, hL366_0, hL366_1, hL366_2, hL366_3, hl⟩ := hI
                      subst hmu366
                      refine lv_iload hx hb dX12_key_67 (lv_at hl 5 rfl) ?_
                      refine lv_iload_n hx hb dX12_key_69 rfl (lv_at hl 3 rfl) ?_
                      refine lv_iload_n hx hb dX12_key_70 rfl (lv_at hl 2 rfl) ?_
                      refine lv_isub hx hb dX12_key_71 ?_
                      refine W.eq (g2 := F0 m 72 ls [.int 4, .int (nI i_366)]) rfl ?_
                      refine lv_icmp_ge (tgt := 116) hx hb dX12_key_72 (by decide) (fun c367 => ?_) (fun c367 => ?_)
                      · have c367 := (b_le (show Int32.toInt 4 = 4 from rfl) (nI_toInt (n := i_366) (by omega))).mp c367
                        refine lv_iload hx hb dX12_key_116 (lv_at hl 4 rfl) ?_
                        refine lv_if_eq (tgt := 123) hx hb dX12_key_118 (by decide) (fun c368 => ?_) (fun c368 => ?_)
                        · have c368 := (b_eq (rfl : Int32.toInt x1_366 = _) (show Int32.toInt 0 = 0 from rfl)).mp c368
                          have EW13 : eqw tx sz1 (kW 13) p0 = false := hL366_3 (i0_of (by omega))
                          refine lv_iinc (v := 3) (lv' := [(1, .int 3), (0, .ref (b 0)), (2, .int 13), (3, .int 17), (4, .int x1_366), (5, .int (nI i_366))]) hx hb dX12_key_123 hl (k := 1) rfl (by decide) (by decide) rfl (fun ls hl => ?_)
                          refine lv_iload_n hx hb dX12_key_126 rfl (lv_at hl 3 rfl) ?_
                          refine lv_iconst (v := 1) hx hb dX12_key_127 (by decide) ?_
                          refine lv_iadd hx hb dX12_key_128 ?_
                          refine W.eq (g2 := F0 m 129 ls [.int 18]) rfl ?_
                          refine lv_istore_n (lv' := [(2, .int 18), (1, .int 3), (0, .ref (b 0)), (3, .int 17), (4, .int x1_366), (5, .int (nI i_366))]) hx hb dX12_key_129 rfl hl (by decide) rfl (fun ls hl => ?_)
                          refine lv_goto (tgt := 14) hx hb dX12_key_130 (by decide) ?_
                          refine lv_iload_n hx hb dX12_key_14 rfl (lv_at hl 0 rfl) ?_
                          refine va_ldcS hx hb hown hZ dX12_key_15 ?_
                          refine vp_callSi (va_Run.run (va_runV (As := []) (rest := [.int 18]) ⟨hx, hb, hml, hown, noTs⟩ (s_J0_length l adK adV 3 (by decide)) ⟨cbE 0 (wd_488 hE) (wd_129 hE) (wd_1527 hE) rfl rfl (by decide +kernel) ⟨Nat.le_of_ble_eq_true rfl, Nat.le_of_ble_eq_true rfl⟩, (wd_486 hE), (wd_487 hE)⟩ ⟨PS.blind, vk_recv hX.1 (by decide) hS, ps_pre (av := [.ref (adK 3)]) hX hS hE⟩ rfl rfl hl.1 rfl (lv_room (Nat.le_of_ble_eq_true rfl)) dX12_key_17 ⟨Nat.le_of_ble_eq_true rfl, Nat.le_of_ble_eq_true rfl⟩)) (fun r369 hr369 => ?_)
                          have hr369 : r369 = 18 := hr369
                          subst hr369
                          refine lv_icmp_ge (tgt := 133) hx hb dX12_key_20 (by decide) (fun c370 => ?_) (fun c370 => absurd c370 (by decide))
                          refine lv_iconst (v := -1) hx hb dX12_key_133 (by decide) ?_
                          exact W.iret (v := -1) hx hb hr (fun t ht hW => ⟨-1, rfl, Or.inr (Or.inr (Or.inr (⟨rfl, by first | omega | (have q := (kd_word (tx := tx) (n := sz1) (p := p0) (by omega)).trans ((if_neg (by rw [show eqw tx sz1 wVx p0 = false from EW1]; decide)).trans ((if_neg (by rw [show eqw tx sz1 wEd p0 = false from EW8]; decide)).trans (if_neg (by rw [show eqw tx sz1 wWo p0 = false from EW13]; decide)))); omega)⟩))), ht⟩) (fun _ h => absurd h List.not_mem_nil) dX12_key_134
                        · have c368 := mt (b_eq (rfl : Int32.toInt x1_366 = _) (show Int32.toInt 0 = 0 from rfl)).mpr c368
                          have X2 : x1_366 = 1 := i1_of hL366_1 (by omega)
                          have EW13 : eqw tx sz1 (kW 13) p0 = true := by first | exact eqw_t.mpr ⟨(hL366_2 X2).1.trans rfl, fun q hq => (hL366_2 X2).2 q (by have : (kW 13).length = 17 - 13 := rfl; omega)⟩ | (exfalso; omega)
                          refine lv_iload_n hx hb dX12_key_121 rfl (lv_at hl 1 rfl) ?_
                          exact W.iret (v := 2) hx hb hr (fun t ht hW => ⟨2, rfl, Or.inr (Or.inr (Or.inl ⟨rfl, by exact (kd_word (by omega)).trans ((if_neg (by rw [show eqw tx sz1 wVx p0 = false from EW1]; decide)).trans ((if_neg (by rw [show eqw tx sz1 wEd p0 = false from EW8]; decide)).trans (if_pos EW13)))⟩)), ht⟩) (fun _ h => absurd h List.not_mem_nil) dX12_key_122
                      · have c367 := mt (b_le (show Int32.toInt 4 = 4 from rfl) (nI_toInt (n := i_366) (by omega))).mpr c367
                        refine lv_iload hx hb dX12_key_75 (lv_at hl 4 rfl) ?_
                        refine lv_if_eq (tgt := 116) hx hb dX12_key_77 (by decide) (fun c371 => ?_) (fun c371 => ?_)
                        · have c371 := (b_eq (rfl : Int32.toInt x1_366 = _) (show Int32.toInt 0 = 0 from rfl)).mp c371
                          refine lv_iload hx hb dX12_key_116 (lv_at hl 4 rfl) ?_
                          refine lv_if_eq (tgt := 123) hx hb dX12_key_118 (by decide) (fun c372 => ?_) (fun c372 => ?_)
                          · have c372 := (b_eq (rfl : Int32.toInt x1_366 = _) (show Int32.toInt 0 = 0 from rfl)).mp c372
                            have EW13 : eqw tx sz1 (kW 13) p0 = false := hL366_3 (i0_of (by omega))
                            refine lv_iinc (v := 3) (lv' := [(1, .int 3), (0, .ref (b 0)), (2, .int 13), (3, .int 17), (4, .int x1_366), (5, .int (nI i_366))]) hx hb dX12_key_123 hl (k := 1) rfl (by decide) (by decide) rfl (fun ls hl => ?_)
                            refine lv_iload_n hx hb dX12_key_126 rfl (lv_at hl 3 rfl) ?_
                            refine lv_iconst (v := 1) hx hb dX12_key_127 (by decide) ?_
                            refine lv_iadd hx hb dX12_key_128 ?_
                            refine W.eq (g2 := F0 m 129 ls [.int 18]) rfl ?_
                            refine lv_istore_n (lv' := [(2, .int 18), (1, .int 3), (0, .ref (b 0)), (3, .int 17), (4, .int x1_366), (5, .int (nI i_366))]) hx hb dX12_key_129 rfl hl (by decide) rfl (fun ls hl => ?_)
                            refine lv_goto (tgt := 14) hx hb dX12_key_130 (by decide) ?_
                            refine lv_iload_n hx hb dX12_key_14 rfl (lv_at hl 0 rfl) ?_
                            refine va_ldcS hx hb hown hZ dX12_key_15 ?_
                            refine vp_callSi (va_Run.run (va_runV (As := []) (rest := [.int 18]) ⟨hx, hb, hml, hown, noTs⟩ (s_J0_length l adK adV 3 (by decide)) ⟨cbE 0 (wd_488 hE) (wd_129 hE) (wd_1527 hE) rfl rfl (by decide +kernel) ⟨Nat.le_of_ble_eq_true rfl, Nat.le_of_ble_eq_true rfl⟩, (wd_486 hE), (wd_487 hE)⟩ ⟨PS.blind, vk_recv hX.1 (by decide) hS, ps_pre (av := [.ref (adK 3)]) hX hS hE⟩ rfl rfl hl.1 rfl (lv_room (Nat.le_of_ble_eq_true rfl)) dX12_key_17 ⟨Nat.le_of_ble_eq_true rfl, Nat.le_of_ble_eq_true rfl⟩)) (fun r373 hr373 => ?_)
                            have hr373 : r373 = 18 := hr373
                            subst hr373
                            refine lv_icmp_ge (tgt := 133) hx hb dX12_key_20 (by decide) (fun c374 => ?_) (fun c374 => absurd c374 (by decide))
                            refine lv_iconst (v := -1) hx hb dX12_key_133 (by decide) ?_
                            exact W.iret (v := -1) hx hb hr (fun t ht hW => ⟨-1, rfl, Or.inr (Or.inr (Or.inr (⟨rfl, by first | omega | (have q := (kd_word (tx := tx) (n := sz1) (p := p0) (by omega)).trans ((if_neg (by rw [show eqw tx sz1 wVx p0 = false from EW1]; decide)).trans ((if_neg (by rw [show eqw tx sz1 wEd p0 = false from EW8]; decide)).trans (if_neg (by rw [show eqw tx sz1 wWo p0 = false from EW13]; decide)))); omega)⟩))), ht⟩) (fun _ h => absurd h List.not_mem_nil) dX12_key_134
                          · have c372 := mt (b_eq (rfl : Int32.toInt x1_366 = _) (show Int32.toInt 0 = 0 from rfl)).mpr c372
                            have X2 : x1_366 = 1 := i1_of hL366_1 (by omega)
                            have EW13 : eqw tx sz1 (kW 13) p0 = true := by first | exact eqw_t.mpr ⟨(hL366_2 X2).1.trans rfl, fun q hq => (hL366_2 X2).2 q (by have : (kW 13).length = 17 - 13 := rfl; omega)⟩ | (exfalso; omega)
                            refine lv_iload_n hx hb dX12_key_121 rfl (lv_at hl 1 rfl) ?_
                            exact W.iret (v := 2) hx hb hr (fun t ht hW => ⟨2, rfl, Or.inr (Or.inr (Or.inl ⟨rfl, by exact (kd_word (by omega)).trans ((if_neg (by rw [show eqw tx sz1 wVx p0 = false from EW1]; decide)).trans ((if_neg (by rw [show eqw tx sz1 wEd p0 = false from EW8]; decide)).trans (if_pos EW13)))⟩)), ht⟩) (fun _ h => absurd h List.not_mem_nil) dX12_key_122
                        · have c371 := mt (b_eq (rfl : Int32.toInt x1_366 = _) (show Int32.toInt 0 = 0 from rfl)).mpr c371
                          have X1 : x1_366 = 1 := i1_of hL366_1 (by omega)
                          refine va_ldcS hx hb hown hZ dX12_key_80 ?_
                          refine lv_iload_n hx hb dX12_key_82 rfl (lv_at hl 2 rfl) ?_
                          refine lv_iload hx hb dX12_key_83 (lv_at hl 5 rfl) ?_
                          refine lv_iadd hx hb dX12_key_85 ?_
                          refine W.eq (g2 := F0 m 86 ls [.int (nI (13 + i_366)), .ref (adK 3)]) (congrArg (fun z : Int32 => F0 m 86 ls (.int z :: [.ref (adK 3)])) (nI_add 13 i_366)) ?_
                          refine vp_callSi (va_Run.run (va_runV (As := [.int (nI (13 + i_366))]) (rest := []) ⟨hx, hb, hml, hown, noTs⟩ (s_J0_charAt l adK adV 3 (13 + i_366) (by decide) (by show _ < 18; omega)) ⟨cbE 1 (wd_498 hE) (wd_129 hE) (wd_1528 hE) rfl rfl (by decide +kernel) ⟨Nat.le_of_ble_eq_true rfl, Nat.le_of_ble_eq_true rfl⟩, (wd_496 hE), (wd_497 hE)⟩ ⟨PS.blind, vk_recv hX.1 (by decide) hS, ps_pre (av := [.ref (adK 3), .int (nI (13 + i_366))]) hX hS hE⟩ rfl rfl hl.1 rfl (lv_room (Nat.le_of_ble_eq_true rfl)) dX12_key_86 ⟨Nat.le_of_ble_eq_true rfl, Nat.le_of_ble_eq_true rfl⟩)) (fun r375 hr375 => ?_)
                          refine lv_aload_n hx hb dX12_key_89 rfl (lv_at hl 0 rfl) ?_
                          refine lv_aload_n hx hb dX12_key_90 rfl (lv_at hl 0 rfl) ?_
                          refine r_get (v := .int (nI p0)) hx hb (ly_X12 hE) hown hK hP rfl 13 (by decide) (wd_1394 hE) (fun _ h9 => h9) (congrArg (fun z : Int32 => some (Value.int z)) te13_2) dX12_key_91 ?_
                          refine lv_iload hx hb dX12_key_94 (lv_at hl 5 rfl) ?_
                          refine lv_iadd hx hb dX12_key_96 ?_
                          refine W.eq (g2 := F0 m 97 ls [.int (nI (p0 + i_366)), .ref (b 0), .int r375]) (congrArg (fun z : Int32 => F0 m 97 ls (.int z :: [.ref (b 0), .int r375])) (nI_add p0 i_366)) ?_
                          refine vp_callSi (va_Run.run (va_runV (As := [.int (nI (p0 + i_366))]) (rest := [.int r375]) ⟨hx, hb, hml, hown, noTs⟩ (r_X12_byteAt l dC dI s.heap.size cs b u tx hAc16 (p0 + i_366) sz1 hF11 (by first | assumption | omega | rfl | (congr 1; omega)) (by first | assumption | omega | rfl | (congr 1; omega))) ⟨cbE 1 (wd_1510 hE) (wd_126 hE) (wd_1507 hE) rfl rfl (by decide +kernel) ⟨Nat.le_of_ble_eq_true rfl, Nat.le_of_ble_eq_true rfl⟩, (wd_1509 hE), (wd_57 hE)⟩ ⟨PR.blind, r_recv hK hP rfl, (r_pre (av := [.ref (b 0), .int (nI (p0 + i_366))]) hK hP hJ hE)⟩ rfl rfl hl.1 rfl (lv_room (Nat.le_of_ble_eq_true rfl)) dX12_key_97 ⟨Nat.le_of_ble_eq_true rfl, Nat.le_of_ble_eq_true rfl⟩)) (fun r376 hr376 => ?_)
                          subst hr376
                          have htf376 := bA_f tx sz1 (p0 + i_366)
                          have HRC := hr375
                          have RCH := ch_13 i_366 (by omega)
                          refine lv_icmp_ne (tgt := 107) hx hb dX12_key_100 (by decide) (fun c377 => ?_) (fun c377 => ?_)
                          · have c377 := mt (b_eq (rfl : Int32.toInt r375 = _) (rfl : Int32.toInt (bA tx sz1 (p0 + i_366)) = _)).mpr c377
                            have NE : bA tx sz1 (p0 + i_366) ≠ (kW 13).getD i_366 0 := by rw [← RCH, ← HRC]; intro e; have := congrArg Int32.toInt e; omega
                            refine lv_iconst (v := 0) hx hb dX12_key_107 (by decide) ?_
                            refine lv_istore (lv' := [(4, .int 0), (0, .ref (b 0)), (1, .int 2), (2, .int 13), (3, .int 17), (5, .int (nI i_366))]) hx hb dX12_key_108 hl (by decide) rfl (fun ls hl => ?_)
                            refine lv_iinc (v := nI (i_366 + 1)) (lv' := [(5, .int (nI (i_366 + 1))), (4, .int 0), (0, .ref (b 0)), (1, .int 2), (2, .int 13), (3, .int 17)]) hx hb dX12_key_110 hl (k := 5) rfl (nI_1 i_366) (by decide) rfl (fun ls hl => ?_)
                            refine lv_goto (tgt := 67) hx hb dX12_key_113 (by decide) ?_
                            exact ih366 _ _ (by omega) ⟨(i_366 + 1), 0, rfl, (by first | assumption | omega | rfl | (congr 1; omega)), (by first | exact Or.inl rfl | exact Or.inr rfl), (by first | (intro _; exact ⟨(hL366_2 X1).1, fun q hq => by rcases Nat.lt_or_ge q i_366 with h | h; (exact (hL366_2 X1).2 q h); (obtain rfl : q = i_366 := by omega); exact EQ⟩) | (intro h; exact absurd h (by decide))), (by first | (intro h; exact absurd h (by decide)) | (intro _; exact eqw_at (w := kW 13) (by have : (kW 13).length = 17 - 13 := rfl; omega) NE)), lv_sub hl [2, 3, 4, 5, 1, 0] rfl⟩
                          · have c377 := (b_eq (rfl : Int32.toInt r375 = _) (rfl : Int32.toInt (bA tx sz1 (p0 + i_366)) = _)).mp c377
                            have EQ : bA tx sz1 (p0 + i_366) = (kW 13).getD i_366 0 := by rw [← RCH, ← HRC]; exact Int32.toInt_inj.mp (by omega)
                            refine lv_iconst (v := 1) hx hb dX12_key_103 (by decide) ?_
                            refine lv_goto (tgt := 108) hx hb dX12_key_104 (by decide) ?_
                            refine lv_istore (lv' := [(4, .int 1), (0, .ref (b 0)), (1, .int 2), (2, .int 13), (3, .int 17), (5, .int (nI i_366))]) hx hb dX12_key_108 hl (by decide) rfl (fun ls hl => ?_)
                            refine lv_iinc (v := nI (i_366 + 1)) (lv' := [(5, .int (nI (i_366 + 1))), (4, .int 1), (0, .ref (b 0)), (1, .int 2), (2, .int 13), (3, .int 17)]) hx hb dX12_key_110 hl (k := 5) rfl (nI_1 i_366) (by decide) rfl (fun ls hl => ?_)
                            refine lv_goto (tgt := 67) hx hb dX12_key_113 (by decide) ?_
                            exact ih366 _ _ (by omega) ⟨(i_366 + 1), 1, rfl, (by first | assumption | omega | rfl | (congr 1; omega)), (by first | exact Or.inl rfl | exact Or.inr rfl), (by first | (intro _; exact ⟨(hL366_2 X1).1, fun q hq => by rcases Nat.lt_or_ge q i_366 with h | h; (exact (hL366_2 X1).2 q h); (obtain rfl : q = i_366 := by omega); exact EQ⟩) | (intro h; exact absurd h (by decide))), (by first | (intro h; exact absurd h (by decide)) | (intro _; exact eqw_at (w := kW 13) (by have : (kW 13).length = 17 - 13 := rfl; omega) NE)), lv_sub hl [2, 3, 4, 5, 1, 0] rfl⟩
                  · have c340 := mt (b_eq (rfl : Int32.toInt x1_299 = _) (show Int32.toInt 0 = 0 from rfl)).mpr c340
                    have X2 : x1_299 = 1 := i1_of hL299_1 (by omega)
                    have EW8 : eqw tx sz1 (kW 8) p0 = true := by first | exact eqw_t.mpr ⟨(hL299_2 X2).1.trans rfl, fun q hq => (hL299_2 X2).2 q (by have : (kW 8).length = 12 - 8 := rfl; omega)⟩ | (exfalso; omega)
                    refine lv_iload_n hx hb dX12_key_121 rfl (lv_at hl 1 rfl) ?_
                    exact W.iret (v := 1) hx hb hr (fun t ht hW => ⟨1, rfl, Or.inr (Or.inl ⟨rfl, by exact (kd_word (by omega)).trans ((if_neg (by rw [show eqw tx sz1 wVx p0 = false from EW1]; decide)).trans (if_pos EW8))⟩), ht⟩) (fun _ h => absurd h List.not_mem_nil) dX12_key_122
                · have c339 := mt (b_eq (rfl : Int32.toInt x1_299 = _) (show Int32.toInt 0 = 0 from rfl)).mpr c339
                  have X1 : x1_299 = 1 := i1_of hL299_1 (by omega)
                  refine va_ldcS hx hb hown hZ dX12_key_80 ?_
                  refine lv_iload_n hx hb dX12_key_82 rfl (lv_at hl 2 rfl) ?_
                  refine lv_iload hx hb dX12_key_83 (lv_at hl 5 rfl) ?_
                  refine lv_iadd hx hb dX12_key_85 ?_
                  refine W.eq (g2 := F0 m 86 ls [.int (nI (8 + i_299)), .ref (adK 3)]) (congrArg (fun z : Int32 => F0 m 86 ls (.int z :: [.ref (adK 3)])) (nI_add 8 i_299)) ?_
                  refine vp_callSi (va_Run.run (va_runV (As := [.int (nI (8 + i_299))]) (rest := []) ⟨hx, hb, hml, hown, noTs⟩ (s_J0_charAt l adK adV 3 (8 + i_299) (by decide) (by show _ < 18; omega)) ⟨cbE 1 (wd_498 hE) (wd_129 hE) (wd_1528 hE) rfl rfl (by decide +kernel) ⟨Nat.le_of_ble_eq_true rfl, Nat.le_of_ble_eq_true rfl⟩, (wd_496 hE), (wd_497 hE)⟩ ⟨PS.blind, vk_recv hX.1 (by decide) hS, ps_pre (av := [.ref (adK 3), .int (nI (8 + i_299))]) hX hS hE⟩ rfl rfl hl.1 rfl (lv_room (Nat.le_of_ble_eq_true rfl)) dX12_key_86 ⟨Nat.le_of_ble_eq_true rfl, Nat.le_of_ble_eq_true rfl⟩)) (fun r378 hr378 => ?_)
                  refine lv_aload_n hx hb dX12_key_89 rfl (lv_at hl 0 rfl) ?_
                  refine lv_aload_n hx hb dX12_key_90 rfl (lv_at hl 0 rfl) ?_
                  refine r_get (v := .int (nI p0)) hx hb (ly_X12 hE) hown hK hP rfl 13 (by decide) (wd_1394 hE) (fun _ h9 => h9) (congrArg (fun z : Int32 => some (Value.int z)) te13_2) dX12_key_91 ?_
                  refine lv_iload hx hb dX12_key_94 (lv_at hl 5 rfl) ?_
                  refine lv_iadd hx hb dX12_key_96 ?_
                  refine W.eq (g2 := F0 m 97 ls [.int (nI (p0 + i_299)), .ref (b 0), .int r378]) (congrArg (fun z : Int32 => F0 m 97 ls (.int z :: [.ref (b 0), .int r378])) (nI_add p0 i_299)) ?_
                  refine vp_callSi (va_Run.run (va_runV (As := [.int (nI (p0 + i_299))]) (rest := [.int r378]) ⟨hx, hb, hml, hown, noTs⟩ (r_X12_byteAt l dC dI s.heap.size cs b u tx hAc16 (p0 + i_299) sz1 hF11 (by first | assumption | omega | rfl | (congr 1; omega)) (by first | assumption | omega | rfl | (congr 1; omega))) ⟨cbE 1 (wd_1510 hE) (wd_126 hE) (wd_1507 hE) rfl rfl (by decide +kernel) ⟨Nat.le_of_ble_eq_true rfl, Nat.le_of_ble_eq_true rfl⟩, (wd_1509 hE), (wd_57 hE)⟩ ⟨PR.blind, r_recv hK hP rfl, (r_pre (av := [.ref (b 0), .int (nI (p0 + i_299))]) hK hP hJ hE)⟩ rfl rfl hl.1 rfl (lv_room (Nat.le_of_ble_eq_true rfl)) dX12_key_97 ⟨Nat.le_of_ble_eq_true rfl, Nat.le_of_ble_eq_true rfl⟩)) (fun r379 hr379 => ?_)
                  subst hr379
                  have htf379 := bA_f tx sz1 (p0 + i_299)
                  have HRC := hr378
                  have RCH := ch_8 i_299 (by omega)
                  refine lv_icmp_ne (tgt := 107) hx hb dX12_key_100 (by decide) (fun c380 => ?_) (fun c380 => ?_)
                  · have c380 := mt (b_eq (rfl : Int32.toInt r378 = _) (rfl : Int32.toInt (bA tx sz1 (p0 + i_299)) = _)).mpr c380
                    have NE : bA tx sz1 (p0 + i_299) ≠ (kW 8).getD i_299 0 := by rw [← RCH, ← HRC]; intro e; have := congrArg Int32.toInt e; omega
                    refine lv_iconst (v := 0) hx hb dX12_key_107 (by decide) ?_
                    refine lv_istore (lv' := [(4, .int 0), (0, .ref (b 0)), (1, .int 1), (2, .int 8), (3, .int 12), (5, .int (nI i_299))]) hx hb dX12_key_108 hl (by decide) rfl (fun ls hl => ?_)
                    refine lv_iinc (v := nI (i_299 + 1)) (lv' := [(5, .int (nI (i_299 + 1))), (4, .int 0), (0, .ref (b 0)), (1, .int 1), (2, .int 8), (3, .int 12)]) hx hb dX12_key_110 hl (k := 5) rfl (nI_1 i_299) (by decide) rfl (fun ls hl => ?_)
                    refine lv_goto (tgt := 67) hx hb dX12_key_113 (by decide) ?_
                    exact ih299 _ _ (by omega) ⟨(i_299 + 1), 0, rfl, (by first | assumption | omega | rfl | (congr 1; omega)), (by first | exact Or.inl rfl | exact Or.inr rfl), (by first | (intro _; exact ⟨(hL299_2 X1).1, fun q hq => by rcases Nat.lt_or_ge q i_299 with h | h; (exact (hL299_2 X1).2 q h); (obtain rfl : q = i_299 := by omega); exact EQ⟩) | (intro h; exact absurd h (by decide))), (by first | (intro h; exact absurd h (by decide)) | (intro _; exact eqw_at (w := kW 8) (by have : (kW 8).length = 12 - 8 := rfl; omega) NE)), lv_sub hl [2, 3, 4, 5, 1, 0] rfl⟩
                  · have c380 := (b_eq (rfl : Int32.toInt r378 = _) (rfl : Int32.toInt (bA tx sz1 (p0 + i_299)) = _)).mp c380
                    have EQ : bA tx sz1 (p0 + i_299) = (kW 8).getD i_299 0 := by rw [← RCH, ← HRC]; exact Int32.toInt_inj.mp (by omega)
                    refine lv_iconst (v := 1) hx hb dX12_key_103 (by decide) ?_
                    refine lv_goto (tgt := 108) hx hb dX12_key_104 (by decide) ?_
                    refine lv_istore (lv' := [(4, .int 1), (0, .ref (b 0)), (1, .int 1), (2, .int 8), (3, .int 12), (5, .int (nI i_299))]) hx hb dX12_key_108 hl (by decide) rfl (fun ls hl => ?_)
                    refine lv_iinc (v := nI (i_299 + 1)) (lv' := [(5, .int (nI (i_299 + 1))), (4, .int 1), (0, .ref (b 0)), (1, .int 1), (2, .int 8), (3, .int 12)]) hx hb dX12_key_110 hl (k := 5) rfl (nI_1 i_299) (by decide) rfl (fun ls hl => ?_)
                    refine lv_goto (tgt := 67) hx hb dX12_key_113 (by decide) ?_
                    exact ih299 _ _ (by omega) ⟨(i_299 + 1), 1, rfl, (by first | assumption | omega | rfl | (congr 1; omega)), (by first | exact Or.inl rfl | exact Or.inr rfl), (by first | (intro _; exact ⟨(hL299_2 X1).1, fun q hq => by rcases Nat.lt_or_ge q i_299 with h | h; (exact (hL299_2 X1).2 q h); (obtain rfl : q = i_299 := by omega); exact EQ⟩) | (intro h; exact absurd h (by decide))), (by first | (intro h; exact absurd h (by decide)) | (intro _; exact eqw_at (w := kW 8) (by have : (kW 8).length = 12 - 8 := rfl; omega) NE)), lv_sub hl [2, 3, 4, 5, 1, 0] rfl⟩
          · have c203 := mt (b_eq (rfl : Int32.toInt x1_22 = _) (show Int32.toInt 0 = 0 from rfl)).mpr c203
            have X2 : x1_22 = 1 := i1_of hL22_1 (by omega)
            have EW1 : eqw tx sz1 (kW 1) p0 = true := by first | exact eqw_t.mpr ⟨(hL22_2 X2).1.trans rfl, fun q hq => (hL22_2 X2).2 q (by have : (kW 1).length = 7 - 1 := rfl; omega)⟩ | (exfalso; omega)
            refine lv_iload_n hx hb dX12_key_121 rfl (lv_at hl 1 rfl) ?_
            exact W.iret (v := 0) hx hb hr (fun t ht hW => ⟨0, rfl, Or.inl ⟨rfl, by exact (kd_word (by omega)).trans (if_pos EW1)⟩, ht⟩) (fun _ h => absurd h List.not_mem_nil) dX12_key_122
        · have c202 := mt (b_eq (rfl : Int32.toInt x1_22 = _) (show Int32.toInt 0 = 0 from rfl)).mpr c202
          have X1 : x1_22 = 1 := i1_of hL22_1 (by omega)
          refine va_ldcS hx hb hown hZ dX12_key_80 ?_
          refine lv_iload_n hx hb dX12_key_82 rfl (lv_at hl 2 rfl) ?_
          refine lv_iload hx hb dX12_key_83 (lv_at hl 5 rfl) ?_
          refine lv_iadd hx hb dX12_key_85 ?_
          refine W.eq (g2 := F0 m 86 ls [.int (nI (1 + i_22)), .ref (adK 3)]) (congrArg (fun z : Int32 => F0 m 86 ls (.int z :: [.ref (adK 3)])) (nI_add 1 i_22)) ?_
          refine vp_callSi (va_Run.run (va_runV (As := [.int (nI (1 + i_22))]) (rest := []) ⟨hx, hb, hml, hown, noTs⟩ (s_J0_charAt l adK adV 3 (1 + i_22) (by decide) (by show _ < 18; omega)) ⟨cbE 1 (wd_498 hE) (wd_129 hE) (wd_1528 hE) rfl rfl (by decide +kernel) ⟨Nat.le_of_ble_eq_true rfl, Nat.le_of_ble_eq_true rfl⟩, (wd_496 hE), (wd_497 hE)⟩ ⟨PS.blind, vk_recv hX.1 (by decide) hS, ps_pre (av := [.ref (adK 3), .int (nI (1 + i_22))]) hX hS hE⟩ rfl rfl hl.1 rfl (lv_room (Nat.le_of_ble_eq_true rfl)) dX12_key_86 ⟨Nat.le_of_ble_eq_true rfl, Nat.le_of_ble_eq_true rfl⟩)) (fun r381 hr381 => ?_)
          refine lv_aload_n hx hb dX12_key_89 rfl (lv_at hl 0 rfl) ?_
          refine lv_aload_n hx hb dX12_key_90 rfl (lv_at hl 0 rfl) ?_
          refine r_get (v := .int (nI p0)) hx hb (ly_X12 hE) hown hK hP rfl 13 (by decide) (wd_1394 hE) (fun _ h9 => h9) (congrArg (fun z : Int32 => some (Value.int z)) te13_2) dX12_key_91 ?_
          refine lv_iload hx hb dX12_key_94 (lv_at hl 5 rfl) ?_
          refine lv_iadd hx hb dX12_key_96 ?_
          refine W.eq (g2 := F0 m 97 ls [.int (nI (p0 + i_22)), .ref (b 0), .int r381]) (congrArg (fun z : Int32 => F0 m 97 ls (.int z :: [.ref (b 0), .int r381])) (nI_add p0 i_22)) ?_
          refine vp_callSi (va_Run.run (va_runV (As := [.int (nI (p0 + i_22))]) (rest := [.int r381]) ⟨hx, hb, hml, hown, noTs⟩ (r_X12_byteAt l dC dI s.heap.size cs b u tx hAc16 (p0 + i_22) sz1 hF11 (by first | assumption | omega | rfl | (congr 1; omega)) (by first | assumption | omega | rfl | (congr 1; omega))) ⟨cbE 1 (wd_1510 hE) (wd_126 hE) (wd_1507 hE) rfl rfl (by decide +kernel) ⟨Nat.le_of_ble_eq_true rfl, Nat.le_of_ble_eq_true rfl⟩, (wd_1509 hE), (wd_57 hE)⟩ ⟨PR.blind, r_recv hK hP rfl, (r_pre (av := [.ref (b 0), .int (nI (p0 + i_22))]) hK hP hJ hE)⟩ rfl rfl hl.1 rfl (lv_room (Nat.le_of_ble_eq_true rfl)) dX12_key_97 ⟨Nat.le_of_ble_eq_true rfl, Nat.le_of_ble_eq_true rfl⟩)) (fun r382 hr382 => ?_)
          subst hr382
          have htf382 := bA_f tx sz1 (p0 + i_22)
          have HRC := hr381
          have RCH := ch_1 i_22 (by omega)
          refine lv_icmp_ne (tgt := 107) hx hb dX12_key_100 (by decide) (fun c383 => ?_) (fun c383 => ?_)
          · have c383 := mt (b_eq (rfl : Int32.toInt r381 = _) (rfl : Int32.toInt (bA tx sz1 (p0 + i_22)) = _)).mpr c383
            have NE : bA tx sz1 (p0 + i_22) ≠ (kW 1).getD i_22 0 := by rw [← RCH, ← HRC]; intro e; have := congrArg Int32.toInt e; omega
            refine lv_iconst (v := 0) hx hb dX12_key_107 (by decide) ?_
            refine lv_istore (lv' := [(4, .int 0), (0, .ref (b 0)), (1, .int 0), (2, .int 1), (3, .int 7), (5, .int (nI i_22))]) hx hb dX12_key_108 hl (by decide) rfl (fun ls hl => ?_)
            refine lv_iinc (v := nI (i_22 + 1)) (lv' := [(5, .int (nI (i_22 + 1))), (4, .int 0), (0, .ref (b 0)), (1, .int 0), (2, .int 1), (3, .int 7)]) hx hb dX12_key_110 hl (k := 5) rfl (nI_1 i_22) (by decide) rfl (fun ls hl => ?_)
            refine lv_goto (tgt := 67) hx hb dX12_key_113 (by decide) ?_
            exact ih22 _ _ (by omega) ⟨(i_22 + 1), 0, rfl, (by first | assumption | omega | rfl | (congr 1; omega)), (by first | exact Or.inl rfl | exact Or.inr rfl), (by first | (intro _; exact ⟨(hL22_2 X1).1, fun q hq => by rcases Nat.lt_or_ge q i_22 with h | h; (exact (hL22_2 X1).2 q h); (obtain rfl : q = i_22 := by omega); exact EQ⟩) | (intro h; exact absurd h (by decide))), (by first | (intro h; exact absurd h (by decide)) | (intro _; exact eqw_at (w := kW 1) (by have : (kW 1).length = 7 - 1 := rfl; omega) NE)), lv_sub hl [2, 3, 4, 5, 1, 0] rfl⟩
          · have c383 := (b_eq (rfl : Int32.toInt r381 = _) (rfl : Int32.toInt (bA tx sz1 (p0 + i_22)) = _)).mp c383
            have EQ : bA tx sz1 (p0 + i_22) = (kW 1).getD i_22 0 := by rw [← RCH, ← HRC]; exact Int32.toInt_inj.mp (by omega)
            refine lv_iconst (v := 1) hx hb dX12_key_103 (by decide) ?_
            refine lv_goto (tgt := 108) hx hb dX12_key_104 (by decide) ?_
            refine lv_istore (lv' := [(4, .int 1), (0, .ref (b 0)), (1, .int 0), (2, .int 1), (3, .int 7), (5, .int (nI i_22))]) hx hb dX12_key_108 hl (by decide) rfl (fun ls hl => ?_)
            refine lv_iinc (v := nI (i_22 + 1)) (lv' := [(5, .int (nI (i_22 + 1))), (4, .int 1), (0, .ref (b 0)), (1, .int 0), (2, .int 1), (3, .int 7)]) hx hb dX12_key_110 hl (k := 5) rfl (nI_1 i_22) (by decide) rfl (fun ls hl => ?_)
            refine lv_goto (tgt := 67) hx hb dX12_key_113 (by decide) ?_
            exact ih22 _ _ (by omega) ⟨(i_22 + 1), 1, rfl, (by first | assumption | omega | rfl | (congr 1; omega)), (by first | exact Or.inl rfl | exact Or.inr rfl), (by first | (intro _; exact ⟨(hL22_2 X1).1, fun q hq => by rcases Nat.lt_or_ge q i_22 with h | h; (exact (hL22_2 X1).2 q h); (obtain rfl : q = i_22 := by omega); exact EQ⟩) | (intro h; exact absurd h (by decide))), (by first | (intro h; exact absurd h (by decide)) | (intro _; exact eqw_at (w := kW 1) (by have : (kW 1).length = 7 - 1 := rfl; omega) NE)), lv_sub hl [2, 3, 4, 5, 1, 0] rfl⟩
    · have c21 := (b_eq (show Int32.toInt 6 = 6 from rfl) (nI_toInt (n := (tnd tx sz1 p0) - p0) (by omega))).mp c21
      refine lv_iconst (v := 1) hx hb dX12_key_57 (by decide) ?_
      refine lv_goto (tgt := 62) hx hb dX12_key_58 (by decide) ?_
      refine lv_istore (lv' := [(4, .int 1), (3, .int 7), (2, .int 1), (1, .int 0), (0, .ref (b 0))]) hx hb dX12_key_62 hl (by decide) rfl (fun ls hl => ?_)
      refine lv_iconst (v := 0) hx hb dX12_key_64 (by decide) ?_
      refine lv_istore (lv' := [(5, .int 0), (4, .int 1), (3, .int 7), (2, .int 1), (1, .int 0), (0, .ref (b 0))]) hx hb dX12_key_65 hl (by decide) rfl (fun ls hl => ?_)
      refine r_indP (I := fun n ls => ∃ (i_384 : Nat) (x1_384 : Int32), n = 7 - 1 - i_384 ∧ (i_384 ≤ 7 - 1) ∧ (x1_384 = 0 ∨ x1_384 = 1) ∧ (x1_384 = 1 → tnd tx sz1 p0 - p0 = 7 - 1 ∧ ∀ q, q < i_384 → bA tx sz1 (p0 + q) = (kW 1).getD q 0) ∧ (x1_384 = 0 → eqw tx sz1 (kW 1) p0 = false) ∧ lv_has ls 6 [(0, .ref (b 0)), (1, .int 0), (2, .int 1), (3, .int 7), (4, .int x1_384), (5, .int (nI i_384))]) (fun n ls hI ih384 => ?_) _ _ ⟨0, 1, rfl, (by first | assumption | omega | rfl | (congr 1; omega)), (by first | exact Or.inl rfl | exact Or.inr rfl), (by first | (intro _; exact ⟨by omega, fun q hq => absurd hq (by omega)⟩) | (intro h; exact absurd h (by decide))), (by first | (intro h; exact absurd h (by decide)) | (intro _; exact eqw_len (w := kW 1) (l := 7 - 1) rfl (by omega))), lv_sub hl [5, 4, 3, 2, 1, 0] rfl⟩
      obtain ⟨i_384, x1_384, hmu384, hL384_0, hL384_1, hL384_2, hL384_3, hl⟩ := hI
      subst hmu384
      refine lv_iload hx hb dX12_key_67 (lv_at hl 5 rfl) ?_
      refine lv_iload_n hx hb dX12_key_69 rfl (lv_at hl 3 rfl) ?_
      refine lv_iload_n hx hb dX12_key_70 rfl (lv_at hl 2 rfl) ?_
      refine lv_isub hx hb dX12_key_71 ?_
      refine W.eq (g2 := F0 m 72 ls [.int 6, .int (nI i_384)]) rfl ?_
      refine lv_icmp_ge (tgt := 116) hx hb dX12_key_72 (by decide) (fun c385 => ?_) (fun c385 => ?_)
      · have c385 := (b_le (show Int32.toInt 6 = 6 from rfl) (nI_toInt (n := i_384) (by omega))).mp c385
        refine lv_iload hx hb dX12_key_116 (lv_at hl 4 rfl) ?_
        refine lv_if_eq (tgt := 123) hx hb dX12_key_118 (by decide) (fun c386 => ?_) (fun c386 => ?_)
        · have c386 := (b_eq (rfl : Int32.toInt x1_384 = _) (show Int32.toInt 0 = 0 from rfl)).mp c386
          have EW1 : eqw tx sz1 (kW 1) p0 = false := hL384_3 (i0_of (by omega))
          refine lv_iinc (v := 1) (lv' := [(1, .int 1), (0, .ref (b 0)), (2, .int 1), (3, .int 7), (4, .int x1_384), (5, .int (nI i_384))]) hx hb dX12_key_123 hl (k := 1) rfl (by decide) (by decide) rfl (fun ls hl => ?_)
          refine lv_iload_n hx hb dX12_key_126 rfl (lv_at hl 3 rfl) ?_
          refine lv_iconst (v := 1) hx hb dX12_key_127 (by decide) ?_
          refine lv_iadd hx hb dX12_key_128 ?_
          refine W.eq (g2 := F0 m 129 ls [.int 8]) rfl ?_
          refine lv_istore_n (lv' := [(2, .int 8), (1, .int 1), (0, .ref (b 0)), (3, .int 7), (4, .int x1_384), (5, .int (nI i_384))]) hx hb dX12_key_129 rfl hl (by decide) rfl (fun ls hl => ?_)
          refine lv_goto (tgt := 14) hx hb dX12_key_130 (by decide) ?_
          refine lv_iload_n hx hb dX12_key_14 rfl (lv_at hl 0 rfl) ?_
          refine va_ldcS hx hb hown hZ dX12_key_15 ?_
          refine vp_callSi (va_Run.run (va_runV (As := []) (rest := [.int 8]) ⟨hx, hb, hml, hown, noTs⟩ (s_J0_length l adK adV 3 (by decide)) ⟨cbE 0 (wd_488 hE) (wd_129 hE) (wd_1527 hE) rfl rfl (by decide +kernel) ⟨Nat.le_of_ble_eq_true rfl, Nat.le_of_ble_eq_true rfl⟩, (wd_486 hE), (wd_487 hE)⟩ ⟨PS.blind, vk_recv hX.1 (by decide) hS, ps_pre (av := [.ref (adK 3)]) hX hS hE⟩ rfl rfl hl.1 rfl (lv_room (Nat.le_of_ble_eq_true rfl)) dX12_key_17 ⟨Nat.le_of_ble_eq_true rfl, Nat.le_of_ble_eq_true rfl⟩)) (fun r387 hr387 => ?_)
          have hr387 : r387 = 18 := hr387
          subst hr387
          refine lv_icmp_ge (tgt := 133) hx hb dX12_key_20 (by decide) (fun c388 => absurd c388 (by decide)) (fun c388 => ?_)
          refine lv_iload_n hx hb dX12_key_23 rfl (lv_at hl 0 rfl) ?_
          refine lv_istore_n (lv' := [(3, .int 8), (2, .int 8), (1, .int 1), (0, .ref (b 0)), (4, .int x1_384), (5, .int (nI i_384))]) hx hb dX12_key_24 rfl hl (by decide) rfl (fun ls hl => ?_)
          refine va_ldcS hx hb hown hZ dX12_key_25 ?_
          refine lv_iload_n hx hb dX12_key_27 rfl (lv_at hl 0 rfl) ?_
          refine vp_callSi (va_Run.run (va_runV (As := [.int (nI 8)]) (rest := []) ⟨hx, hb, hml, hown, noTs⟩ (s_J0_charAt l adK adV 3 8 (by decide) (by show _ < 18; omega)) ⟨cbE 1 (wd_498 hE) (wd_129 hE) (wd_1528 hE) rfl rfl (by decide +kernel) ⟨Nat.le_of_ble_eq_true rfl, Nat.le_of_ble_eq_true rfl⟩, (wd_496 hE), (wd_497 hE)⟩ ⟨PS.blind, vk_recv hX.1 (by decide) hS, ps_pre (av := [.ref (adK 3), .int (nI 8)]) hX hS hE⟩ rfl rfl hl.1 rfl (lv_room (Nat.le_of_ble_eq_true rfl)) dX12_key_28 ⟨Nat.le_of_ble_eq_true rfl, Nat.le_of_ble_eq_true rfl⟩)) (fun r389 hr389 => ?_)
          have hr389 : r389 = 101 := hr389.trans (by decide)
          subst hr389
          refine lv_bipush (v := 32) hx hb dX12_key_31 (by decide) ?_
          refine lv_icmp_eq (tgt := 42) hx hb dX12_key_33 (by decide) (fun c390 => absurd c390 (by decide)) (fun c390 => ?_)
          refine lv_iinc (v := 9) (lv' := [(3, .int 9), (2, .int 8), (1, .int 1), (0, .ref (b 0)), (4, .int x1_384), (5, .int (nI i_384))]) hx hb dX12_key_36 hl (k := 0) rfl (by decide) (by decide) rfl (fun ls hl => ?_)
          refine lv_goto (tgt := 25) hx hb dX12_key_39 (by decide) ?_
          refine va_ldcS hx hb hown hZ dX12_key_25 ?_
          refine lv_iload_n hx hb dX12_key_27 rfl (lv_at hl 0 rfl) ?_
          refine vp_callSi (va_Run.run (va_runV (As := [.int (nI 9)]) (rest := []) ⟨hx, hb, hml, hown, noTs⟩ (s_J0_charAt l adK adV 3 9 (by decide) (by show _ < 18; omega)) ⟨cbE 1 (wd_498 hE) (wd_129 hE) (wd_1528 hE) rfl rfl (by decide +kernel) ⟨Nat.le_of_ble_eq_true rfl, Nat.le_of_ble_eq_true rfl⟩, (wd_496 hE), (wd_497 hE)⟩ ⟨PS.blind, vk_recv hX.1 (by decide) hS, ps_pre (av := [.ref (adK 3), .int (nI 9)]) hX hS hE⟩ rfl rfl hl.1 rfl (lv_room (Nat.le_of_ble_eq_true rfl)) dX12_key_28 ⟨Nat.le_of_ble_eq_true rfl, Nat.le_of_ble_eq_true rfl⟩)) (fun r391 hr391 => ?_)
          have hr391 : r391 = 100 := hr391.trans (by decide)
          subst hr391
          refine lv_bipush (v := 32) hx hb dX12_key_31 (by decide) ?_
          refine lv_icmp_eq (tgt := 42) hx hb dX12_key_33 (by decide) (fun c392 => absurd c392 (by decide)) (fun c392 => ?_)
          refine lv_iinc (v := 10) (lv' := [(3, .int 10), (2, .int 8), (1, .int 1), (0, .ref (b 0)), (4, .int x1_384), (5, .int (nI i_384))]) hx hb dX12_key_36 hl (k := 0) rfl (by decide) (by decide) rfl (fun ls hl => ?_)
          refine lv_goto (tgt := 25) hx hb dX12_key_39 (by decide) ?_
          refine va_ldcS hx hb hown hZ dX12_key_25 ?_
          refine lv_iload_n hx hb dX12_key_27 rfl (lv_at hl 0 rfl) ?_
          refine vp_callSi (va_Run.run (va_runV (As := [.int (nI 10)]) (rest := []) ⟨hx, hb, hml, hown, noTs⟩ (s_J0_charAt l adK adV 3 10 (by decide) (by show _ < 18; omega)) ⟨cbE 1 (wd_498 hE) (wd_129 hE) (wd_1528 hE) rfl rfl (by decide +kernel) ⟨Nat.le_of_ble_eq_true rfl, Nat.le_of_ble_eq_true rfl⟩, (wd_496 hE), (wd_497 hE)⟩ ⟨PS.blind, vk_recv hX.1 (by decide) hS, ps_pre (av := [.ref (adK 3), .int (nI 10)]) hX hS hE⟩ rfl rfl hl.1 rfl (lv_room (Nat.le_of_ble_eq_true rfl)) dX12_key_28 ⟨Nat.le_of_ble_eq_true rfl, Nat.le_of_ble_eq_true rfl⟩)) (fun r393 hr393 => ?_)
          have hr393 : r393 = 103 := hr393.trans (by decide)
          subst hr393
          refine lv_bipush (v := 32) hx hb dX12_key_31 (by decide) ?_
          refine lv_icmp_eq (tgt := 42) hx hb dX12_key_33 (by decide) (fun c394 => absurd c394 (by decide)) (fun c394 => ?_)
          refine lv_iinc (v := 11) (lv' := [(3, .int 11), (2, .int 8), (1, .int 1), (0, .ref (b 0)), (4, .int x1_384), (5, .int (nI i_384))]) hx hb dX12_key_36 hl (k := 0) rfl (by decide) (by decide) rfl (fun ls hl => ?_)
          refine lv_goto (tgt := 25) hx hb dX12_key_39 (by decide) ?_
          refine va_ldcS hx hb hown hZ dX12_key_25 ?_
          refine lv_iload_n hx hb dX12_key_27 rfl (lv_at hl 0 rfl) ?_
          refine vp_callSi (va_Run.run (va_runV (As := [.int (nI 11)]) (rest := []) ⟨hx, hb, hml, hown, noTs⟩ (s_J0_charAt l adK adV 3 11 (by decide) (by show _ < 18; omega)) ⟨cbE 1 (wd_498 hE) (wd_129 hE) (wd_1528 hE) rfl rfl (by decide +kernel) ⟨Nat.le_of_ble_eq_true rfl, Nat.le_of_ble_eq_true rfl⟩, (wd_496 hE), (wd_497 hE)⟩ ⟨PS.blind, vk_recv hX.1 (by decide) hS, ps_pre (av := [.ref (adK 3), .int (nI 11)]) hX hS hE⟩ rfl rfl hl.1 rfl (lv_room (Nat.le_of_ble_eq_true rfl)) dX12_key_28 ⟨Nat.le_of_ble_eq_true rfl, Nat.le_of_ble_eq_true rfl⟩)) (fun r395 hr395 => ?_)
          have hr395 : r395 = 101 := hr395.trans (by decide)
          subst hr395
          refine lv_bipush (v := 32) hx hb dX12_key_31 (by decide) ?_
          refine lv_icmp_eq (tgt := 42) hx hb dX12_key_33 (by decide) (fun c396 => absurd c396 (by decide)) (fun c396 => ?_)
          refine lv_iinc (v := 12) (lv' := [(3, .int 12), (2, .int 8), (1, .int 1), (0, .ref (b 0)), (4, .int x1_384), (5, .int (nI i_384))]) hx hb dX12_key_36 hl (k := 0) rfl (by decide) (by decide) rfl (fun ls hl => ?_)
          refine lv_goto (tgt := 25) hx hb dX12_key_39 (by decide) ?_
          refine va_ldcS hx hb hown hZ dX12_key_25 ?_
          refine lv_iload_n hx hb dX12_key_27 rfl (lv_at hl 0 rfl) ?_
          refine vp_callSi (va_Run.run (va_runV (As := [.int (nI 12)]) (rest := []) ⟨hx, hb, hml, hown, noTs⟩ (s_J0_charAt l adK adV 3 12 (by decide) (by show _ < 18; omega)) ⟨cbE 1 (wd_498 hE) (wd_129 hE) (wd_1528 hE) rfl rfl (by decide +kernel) ⟨Nat.le_of_ble_eq_true rfl, Nat.le_of_ble_eq_true rfl⟩, (wd_496 hE), (wd_497 hE)⟩ ⟨PS.blind, vk_recv hX.1 (by decide) hS, ps_pre (av := [.ref (adK 3), .int (nI 12)]) hX hS hE⟩ rfl rfl hl.1 rfl (lv_room (Nat.le_of_ble_eq_true rfl)) dX12_key_28 ⟨Nat.le_of_ble_eq_true rfl, Nat.le_of_ble_eq_true rfl⟩)) (fun r397 hr397 => ?_)
          have hr397 : r397 = 32 := hr397.trans (by decide)
          subst hr397
          refine lv_bipush (v := 32) hx hb dX12_key_31 (by decide) ?_
          refine lv_icmp_eq (tgt := 42) hx hb dX12_key_33 (by decide) (fun c398 => ?_) (fun c398 => absurd c398 (by decide))
          refine lv_iload_n hx hb dX12_key_42 rfl (lv_at hl 0 rfl) ?_
          refine lv_iload_n hx hb dX12_key_43 rfl (lv_at hl 1 rfl) ?_
          refine lv_isub hx hb dX12_key_44 ?_
          refine W.eq (g2 := F0 m 45 ls [.int 4]) rfl ?_
          refine lv_aload_n hx hb dX12_key_45 rfl (lv_at hl 3 rfl) ?_
          refine r_get (v := .int (nI (tnd tx sz1 p0))) hx hb (ly_X12 hE) hown hK hP rfl 14 (by decide) (wd_1395 hE) (fun _ h9 => h9) (congrArg (fun z : Int32 => some (Value.int z)) te14_2) dX12_key_46 ?_
          refine lv_aload_n hx hb dX12_key_49 rfl (lv_at hl 3 rfl) ?_
          refine r_get (v := .int (nI p0)) hx hb (ly_X12 hE) hown hK hP rfl 13 (by decide) (wd_1394 hE) (fun _ h9 => h9) (congrArg (fun z : Int32 => some (Value.int z)) te13_2) dX12_key_50 ?_
          refine lv_isub hx hb dX12_key_53 ?_
          refine W.eq (g2 := F0 m 54 ls [.int (nI ((tnd tx sz1 p0) - p0)), .int 4]) (congrArg (fun z : Int32 => F0 m 54 ls (.int z :: [.int 4])) (pk_sub (a := tnd tx sz1 p0) (b := p0) (by omega))) ?_
          refine lv_icmp_ne (tgt := 61) hx hb dX12_key_54 (by decide) (fun c399 => ?_) (fun c399 => ?_)
          · have c399 := mt (b_eq (show Int32.toInt 4 = 4 from rfl) (nI_toInt (n := (tnd tx sz1 p0) - p0) (by omega))).mpr c399
            refine lv_iconst (v := 0) hx hb dX12_key_61 (by decide) ?_
            refine lv_istore (lv' := [(4, .int 0), (3, .int 12), (2, .int 8), (1, .int 1), (0, .ref (b 0)), (5, .int (nI i_384))]) hx hb dX12_key_62 hl (by decide) rfl (fun ls hl => ?_)
            refine lv_iconst (v := 0) hx hb dX12_key_64 (by decide) ?_
            refine lv_istore (lv' := [(5, .int 0), (4, .int 0), (3, .int 12), (2, .int 8), (1, .int 1), (0, .ref (b 0))]) hx hb dX12_key_65 hl (by decide) rfl (fun ls hl => ?_)
            refine r_indP (I := fun n ls => ∃ (i_400 : Nat) (x1_400 : Int32), n = 12 - 8 - i_400 ∧ (i_400 ≤ 12 - 8) ∧ (x1_400 = 0 ∨ x1_400 = 1) ∧ (x1_400 = 1 → tnd tx sz1 p0 - p0 = 12 - 8 ∧ ∀ q, q < i_400 → bA tx sz1 (p0 + q) = (kW 8).getD q 0) ∧ (x1_400 = 0 → eqw tx sz1 (kW 8) p0 = false) ∧ lv_has ls 6 [(0, .ref (b 0)), (1, .int 1), (2, .int 8), (3, .int 12), (4, .int x1_400), (5, .int (nI i_400))]) (fun n ls hI ih400 => ?_) _ _ ⟨0, 0, rfl, (by first | assumption | omega | rfl | (congr 1; omega)), (by first | exact Or.inl rfl | exact Or.inr rfl), (by first | (intro _; exact ⟨by omega, fun q hq => absurd hq (by omega)⟩) | (intro h; exact absurd h (by decide))), (by first | (intro h; exact absurd h (by decide)) | (intro _; exact eqw_len (w := kW 8) (l := 12 - 8) rfl (by omega))), lv_sub hl [5, 4, 3, 2, 1, 0] rfl⟩
            obtain ⟨i_400, x1_400, hmu400, hL400_0, hL400_1, hL400_2, hL400_3, hl⟩ := hI
            subst hmu400
            refine lv_iload hx hb dX12_key_67 (lv_at hl 5 rfl) ?_
            refine lv_iload_n hx hb dX12_key_69 rfl (lv_at hl 3 rfl) ?_
            refine lv_iload_n hx hb dX12_key_70 rfl (lv_at hl 2 rfl) ?_
            refine lv_isub hx hb dX12_key_71 ?_
            refine W.eq (g2 := F0 m 72 ls [.int 4, .int (nI i_400)]) rfl ?_
            refine lv_icmp_ge (tgt := 116) hx hb dX12_key_72 (by decide) (fun c401 => ?_) (fun c401 => ?_)
            · have c401 := (b_le (show Int32.toInt 4 = 4 from rfl) (nI_toInt (n := i_400) (by omega))).mp c401
              refine lv_iload hx hb dX12_key_116 (lv_at hl 4 rfl) ?_
              refine lv_if_eq (tgt := 123) hx hb dX12_key_118 (by decide) (fun c402 => ?_) (fun c402 => ?_)
              · have c402 := (b_eq (rfl : Int32.toInt x1_400 = _) (show Int32.toInt 0 = 0 from rfl)).mp c402
                have EW8 : eqw tx sz1 (kW 8) p0 = false := hL400_3 (i0_of (by omega))
                refine lv_iinc (v := 2) (lv' := [(1, .int 2), (0, .ref (b 0)), (2, .int 8), (3, .int 12), (4, .int x1_400), (5, .int (nI i_400))]) hx hb dX12_key_123 hl (k := 1) rfl (by decide) (by decide) rfl (fun ls hl => ?_)
                refine lv_iload_n hx hb dX12_key_126 rfl (lv_at hl 3 rfl) ?_
                refine lv_iconst (v := 1) hx hb dX12_key_127 (by decide) ?_
                refine lv_iadd hx hb dX12_key_128 ?_
                refine W.eq (g2 := F0 m 129 ls [.int 13]) rfl ?_
                refine lv_istore_n (lv' := [(2, .int 13), (1, .int 2), (0, .ref (b 0)), (3, .int 12), (4, .int x1_400), (5, .int (nI i_400))]) hx hb dX12_key_129 rfl hl (by decide) rfl (fun ls hl => ?_)
                refine lv_goto (tgt := 14) hx hb dX12_key_130 (by decide) ?_
                refine lv_iload_n hx hb dX12_key_14 rfl (lv_at hl 0 rfl) ?_
                refine va_ldcS hx hb hown hZ dX12_key_15 ?_
                refine vp_callSi (va_Run.run (va_runV (As := []) (rest := [.int 13]) ⟨hx, hb, hml, hown, noTs⟩ (s_J0_length l adK adV 3 (by decide)) ⟨cbE 0 (wd_488 hE) (wd_129 hE) (wd_1527 hE) rfl rfl (by decide +kernel) ⟨Nat.le_of_ble_eq_true rfl, Nat.le_of_ble_eq_true rfl⟩, (wd_486 hE), (wd_487 hE)⟩ ⟨PS.blind, vk_recv hX.1 (by decide) hS, ps_pre (av := [.ref (adK 3)]) hX hS hE⟩ rfl rfl hl.1 rfl (lv_room (Nat.le_of_ble_eq_true rfl)) dX12_key_17 ⟨Nat.le_of_ble_eq_true rfl, Nat.le_of_ble_eq_true rfl⟩)) (fun r403 hr403 => ?_)
                have hr403 : r403 = 18 := hr403
                subst hr403
                refine lv_icmp_ge (tgt := 133) hx hb dX12_key_20 (by decide) (fun c404 => absurd c404 (by decide)) (fun c404 => ?_)
                refine lv_iload_n hx hb dX12_key_23 rfl (lv_at hl 0 rfl) ?_
                refine lv_istore_n (lv' := [(3, .int 13), (2, .int 13), (1, .int 2), (0, .ref (b 0)), (4, .int x1_400), (5, .int (nI i_400))]) hx hb dX12_key_24 rfl hl (by decide) rfl (fun ls hl => ?_)
                refine va_ldcS hx hb hown hZ dX12_key_25 ?_
                refine lv_iload_n hx hb dX12_key_27 rfl (lv_at hl 0 rfl) ?_
                refine vp_callSi (va_Run.run (va_runV (As := [.int (nI 13)]) (rest := []) ⟨hx, hb, hml, hown, noTs⟩ (s_J0_charAt l adK adV 3 13 (by decide) (by show _ < 18; omega)) ⟨cbE 1 (wd_498 hE) (wd_129 hE) (wd_1528 hE) rfl rfl (by decide +kernel) ⟨Nat.le_of_ble_eq_true rfl, Nat.le_of_ble_eq_true rfl⟩, (wd_496 hE), (wd_497 hE)⟩ ⟨PS.blind, vk_recv hX.1 (by decide) hS, ps_pre (av := [.ref (adK 3), .int (nI 13)]) hX hS hE⟩ rfl rfl hl.1 rfl (lv_room (Nat.le_of_ble_eq_true rfl)) dX12_key_28 ⟨Nat.le_of_ble_eq_true rfl, Nat.le_of_ble_eq_true rfl⟩)) (fun r405 hr405 => ?_)
                have hr405 : r405 = 119 := hr405.trans (by decide)
                subst hr405
                refine lv_bipush (v := 32) hx hb dX12_key_31 (by decide) ?_
                refine lv_icmp_eq (tgt := 42) hx hb dX12_key_33 (by decide) (fun c406 => absurd c406 (by decide)) (fun c406 => ?_)
                refine lv_iinc (v := 14) (lv' := [(3, .int 14), (2, .int 13), (1, .int 2), (0, .ref (b 0)), (4, .int x1_400), (5, .int (nI i_400))]) hx hb dX12_key_36 hl (k := 0) rfl (by decide) (by decide) rfl (fun ls hl => ?_)
                refine lv_goto (tgt := 25) hx hb dX12_key_39 (by decide) ?_
                refine va_ldcS hx hb hown hZ dX12_key_25 ?_
                refine lv_iload_n hx hb dX12_key_27 rfl (lv_at hl 0 rfl) ?_
                refine vp_callSi (va_Run.run (va_runV (As := [.int (nI 14)]) (rest := []) ⟨hx, hb, hml, hown, noTs⟩ (s_J0_charAt l adK adV 3 14 (by decide) (by show _ < 18; omega)) ⟨cbE 1 (wd_498 hE) (wd_129 hE) (wd_1528 hE) rfl rfl (by decide +kernel) ⟨Nat.le_of_ble_eq_true rfl, Nat.le_of_ble_eq_true rfl⟩, (wd_496 hE), (wd_497 hE)⟩ ⟨PS.blind, vk_recv hX.1 (by decide) hS, ps_pre (av := [.ref (adK 3), .int (nI 14)]) hX hS hE⟩ rfl rfl hl.1 rfl (lv_room (Nat.le_of_ble_eq_true rfl)) dX12_key_28 ⟨Nat.le_of_ble_eq_true rfl, Nat.le_of_ble_eq_true rfl⟩)) (fun r407 hr407 => ?_)
                have hr407 : r407 = 111 := hr407.trans (by decide)
                subst hr407
                refine lv_bipush (v := 32) hx hb dX12_key_31 (by decide) ?_
                refine lv_icmp_eq (tgt := 42) hx hb dX12_key_33 (by decide) (fun c408 => absurd c408 (by decide)) (fun c408 => ?_)
                refine lv_iinc (v := 15) (lv' := [(3, .int 15), (2, .int 13), (1, .int 2), (0, .ref (b 0)), (4, .int x1_400), (5, .int (nI i_400))]) hx hb dX12_key_36 hl (k := 0) rfl (by decide) (by decide) rfl (fun ls hl => ?_)
                refine lv_goto (tgt := 25) hx hb dX12_key_39 (by decide) ?_
                refine va_ldcS hx hb hown hZ dX12_key_25 ?_
                refine lv_iload_n hx hb dX12_key_27 rfl (lv_at hl 0 rfl) ?_
                refine vp_callSi (va_Run.run (va_runV (As := [.int (nI 15)]) (rest := []) ⟨hx, hb, hml, hown, noTs⟩ (s_J0_charAt l adK adV 3 15 (by decide) (by show _ < 18; omega)) ⟨cbE 1 (wd_498 hE) (wd_129 hE) (wd_1528 hE) rfl rfl (by decide +kernel) ⟨Nat.le_of_ble_eq_true rfl, Nat.le_of_ble_eq_true rfl⟩, (wd_496 hE), (wd_497 hE)⟩ ⟨PS.blind, vk_recv hX.1 (by decide) hS, ps_pre (av := [.ref (adK 3), .int (nI 15)]) hX hS hE⟩ rfl rfl hl.1 rfl (lv_room (Nat.le_of_ble_eq_true rfl)) dX12_key_28 ⟨Nat.le_of_ble_eq_true rfl, Nat.le_of_ble_eq_true rfl⟩)) (fun r409 hr409 => ?_)
                have hr409 : r409 = 114 := hr409.trans (by decide)
                subst hr409
                refine lv_bipush (v := 32) hx hb dX12_key_31 (by decide) ?_
                refine lv_icmp_eq (tgt := 42) hx hb dX12_key_33 (by decide) (fun c410 => absurd c410 (by decide)) (fun c410 => ?_)
                refine lv_iinc (v := 16) (lv' := [(3, .int 16), (2, .int 13), (1, .int 2), (0, .ref (b 0)), (4, .int x1_400), (5, .int (nI i_400))]) hx hb dX12_key_36 hl (k := 0) rfl (by decide) (by decide) rfl (fun ls hl => ?_)
                refine lv_goto (tgt := 25) hx hb dX12_key_39 (by decide) ?_
                refine va_ldcS hx hb hown hZ dX12_key_25 ?_
                refine lv_iload_n hx hb dX12_key_27 rfl (lv_at hl 0 rfl) ?_
                refine vp_callSi (va_Run.run (va_runV (As := [.int (nI 16)]) (rest := []) ⟨hx, hb, hml, hown, noTs⟩ (s_J0_charAt l adK adV 3 16 (by decide) (by show _ < 18; omega)) ⟨cbE 1 (wd_498 hE) (wd_129 hE) (wd_1528 hE) rfl rfl (by decide +kernel) ⟨Nat.le_of_ble_eq_true rfl, Nat.le_of_ble_eq_true rfl⟩, (wd_496 hE), (wd_497 hE)⟩ ⟨PS.blind, vk_recv hX.1 (by decide) hS, ps_pre (av := [.ref (adK 3), .int (nI 16)]) hX hS hE⟩ rfl rfl hl.1 rfl (lv_room (Nat.le_of_ble_eq_true rfl)) dX12_key_28 ⟨Nat.le_of_ble_eq_true rfl, Nat.le_of_ble_eq_true rfl⟩)) (fun r411 hr411 => ?_)
                have hr411 : r411 = 100 := hr411.trans (by decide)
                subst hr411
                refine lv_bipush (v := 32) hx hb dX12_key_31 (by decide) ?_
                refine lv_icmp_eq (tgt := 42) hx hb dX12_key_33 (by decide) (fun c412 => absurd c412 (by decide)) (fun c412 => ?_)
                refine lv_iinc (v := 17) (lv' := [(3, .int 17), (2, .int 13), (1, .int 2), (0, .ref (b 0)), (4, .int x1_400), (5, .int (nI i_400))]) hx hb dX12_key_36 hl (k := 0) rfl (by decide) (by decide) rfl (fun ls hl => ?_)
                refine lv_goto (tgt := 25) hx hb dX12_key_39 (by decide) ?_
                refine va_ldcS hx hb hown hZ dX12_key_25 ?_
                refine lv_iload_n hx hb dX12_key_27 rfl (lv_at hl 0 rfl) ?_
                refine vp_callSi (va_Run.run (va_runV (As := [.int (nI 17)]) (rest := []) ⟨hx, hb, hml, hown, noTs⟩ (s_J0_charAt l adK adV 3 17 (by decide) (by show _ < 18; omega)) ⟨cbE 1 (wd_498 hE) (wd_129 hE) (wd_1528 hE) rfl rfl (by decide +kernel) ⟨Nat.le_of_ble_eq_true rfl, Nat.le_of_ble_eq_true rfl⟩, (wd_496 hE), (wd_497 hE)⟩ ⟨PS.blind, vk_recv hX.1 (by decide) hS, ps_pre (av := [.ref (adK 3), .int (nI 17)]) hX hS hE⟩ rfl rfl hl.1 rfl (lv_room (Nat.le_of_ble_eq_true rfl)) dX12_key_28 ⟨Nat.le_of_ble_eq_true rfl, Nat.le_of_ble_eq_true rfl⟩)) (fun r413 hr413 => ?_)
                have hr413 : r413 = 32 := hr413.trans (by decide)
                subst hr413
                refine lv_bipush (v := 32) hx hb dX12_key_31 (by decide) ?_
                refine lv_icmp_eq (tgt := 42) hx hb dX12_key_33 (by decide) (fun c414 => ?_) (fun c414 => absurd c414 (by decide))
                refine lv_iload_n hx hb dX12_key_42 rfl (lv_at hl 0 rfl) ?_
                refine lv_iload_n hx hb dX12_key_43 rfl (lv_at hl 1 rfl) ?_
                refine lv_isub hx hb dX12_key_44 ?_
                refine W.eq (g2 := F0 m 45 ls [.int 4]) rfl ?_
                refine lv_aload_n hx hb dX12_key_45 rfl (lv_at hl 3 rfl) ?_
                refine r_get (v := .int (nI (tnd tx sz1 p0))) hx hb (ly_X12 hE) hown hK hP rfl 14 (by decide) (wd_1395 hE) (fun _ h9 => h9) (congrArg (fun z : Int32 => some (Value.int z)) te14_2) dX12_key_46 ?_
                refine lv_aload_n hx hb dX12_key_49 rfl (lv_at hl 3 rfl) ?_
                refine r_get (v := .int (nI p0)) hx hb (ly_X12 hE) hown hK hP rfl 13 (by decide) (wd_1394 hE) (fun _ h9 => h9) (congrArg (fun z : Int32 => some (Value.int z)) te13_2) dX12_key_50 ?_
                refine lv_isub hx hb dX12_key_53 ?_
                refine W.eq (g2 := F0 m 54 ls [.int (nI ((tnd tx sz1 p0) - p0)), .int 4]) (congrArg (fun z : Int32 => F0 m 54 ls (.int z :: [.int 4])) (pk_sub (a := tnd tx sz1 p0) (b := p0) (by omega))) ?_
                refine lv_icmp_ne (tgt := 61) hx hb dX12_key_54 (by decide) (fun c415 => ?_) (fun c415 => ?_)
                · have c415 := mt (b_eq (show Int32.toInt 4 = 4 from rfl) (nI_toInt (n := (tnd tx sz1 p0) - p0) (by omega))).mpr c415
                  refine lv_iconst (v := 0) hx hb dX12_key_61 (by decide) ?_
                  refine lv_istore (lv' := [(4, .int 0), (3, .int 17), (2, .int 13), (1, .int 2), (0, .ref (b 0)), (5, .int (nI i_400))]) hx hb dX12_key_62 hl (by decide) rfl (fun ls hl => ?_)
                  refine lv_iconst (v := 0) hx hb dX12_key_64 (by decide) ?_
                  refine lv_istore (lv' := [(5, .int 0), (4, .int 0), (3, .int 17), (2, .int 13), (1, .int 2), (0, .ref (b 0))]) hx hb dX12_key_65 hl (by decide) rfl (fun ls hl => ?_)
                  refine r_indP (I := fun n ls => ∃ (i_416 : Nat) (x1_416 : Int32), n = 17 - 13 - i_416 ∧ (i_416 ≤ 17 - 13) ∧ (x1_416 = 0 ∨ x1_416 = 1) ∧ (x1_416 = 1 → tnd tx sz1 p0 - p0 = 17 - 13 ∧ ∀ q, q < i_416 → bA tx sz1 (p0 + q) = (kW 13).getD q 0) ∧ (x1_416 = 0 → eqw tx sz1 (kW 13) p0 = false) ∧ lv_has ls 6 [(0, .ref (b 0)), (1, .int 2), (2, .int 13), (3, .int 17), (4, .int x1_416), (5, .int (nI i_416))]) (fun n ls hI ih416 => ?_) _ _ ⟨0, 0, rfl, (by first | assumption | omega | rfl | (congr 1; omega)), (by first | exact Or.inl rfl | exact Or.inr rfl), (by first | (intro _; exact ⟨by omega, fun q hq => absurd hq (by omega)⟩) | (intro h; exact absurd h (by decide))), (by first | (intro h; exact absurd h (by decide)) | (intro _; exact eqw_len (w := kW 13) (l := 17 - 13) rfl (by omega))), lv_sub hl [5, 4, 3, 2, 1, 0] rfl⟩
                  obtain ⟨i_416, x1_416, hmu416, hL416_0, hL416_1, hL416_2, hL416_3, hl⟩ := hI
                  subst hmu416
                  refine lv_iload hx hb dX12_key_67 (lv_at hl 5 rfl) ?_
                  refine lv_iload_n hx hb dX12_key_69 rfl (lv_at hl 3 rfl) ?_
                  refine lv_iload_n hx hb dX12_key_70 rfl (lv_at hl 2 rfl) ?_
                  refine lv_isub hx hb dX12_key_71 ?_
                  refine W.eq (g2 := F0 m 72 ls [.int 4, .int (nI i_416)]) rfl ?_
                  refine lv_icmp_ge (tgt := 116) hx hb dX12_key_72 (by decide) (fun c417 => ?_) (fun c417 => ?_)
                  · have c417 := (b_le (show Int32.toInt 4 = 4 from rfl) (nI_toInt (n := i_416) (by omega))).mp c417
                    refine lv_iload hx hb dX12_key_116 (lv_at hl 4 rfl) ?_
                    refine lv_if_eq (tgt := 123) hx hb dX12_key_118 (by decide) (fun c418 => ?_) (fun c418 => ?_)
                    · have c418 := (b_eq (rfl : Int32.toInt x1_416 = _) (show Int32.toInt 0 = 0 from rfl)).mp c418
                      have EW13 : eqw tx sz1 (kW 13) p0 = false := hL416_3 (i0_of (by omega))
                      refine lv_iinc (v := 3) (lv' := [(1, .int 3), (0, .ref (b 0)), (2, .int 13), (3, .int 17), (4, .int x1_416), (5, .int (nI i_416))]) hx hb dX12_key_123 hl (k := 1) rfl (by decide) (by decide) rfl (fun ls hl => ?_)
                      refine lv_iload_n hx hb dX12_key_126 rfl (lv_at hl 3 rfl) ?_
                      refine lv_iconst (v := 1) hx hb dX12_key_127 (by decide) ?_
                      refine lv_iadd hx hb dX12_key_128 ?_
                      refine W.eq (g2 := F0 m 129 ls [.int 18]) rfl ?_
                      refine lv_istore_n (lv' := [(2, .int 18), (1, .int 3), (0, .ref (b 0)), (3, .int 17), (4, .int x1_416), (5, .int (nI i_416))]) hx hb dX12_key_129 rfl hl (by decide) rfl (fun ls hl => ?_)
                      refine lv_goto (tgt := 14) hx hb dX12_key_130 (by decide) ?_
                      refine lv_iload_n hx hb dX12_key_14 rfl (lv_at hl 0 rfl) ?_
                      refine va_ldcS hx hb hown hZ dX12_key_15 ?_
                      refine vp_callSi (va_Run.run (va_runV (As := []) (rest := [.int 18]) ⟨hx, hb, hml, hown, noTs⟩ (s_J0_length l adK adV 3 (by decide)) ⟨cbE 0 (wd_488 hE) (wd_129 hE) (wd_1527 hE) rfl rfl (by decide +kernel) ⟨Nat.le_of_ble_eq_true rfl, Nat.le_of_ble_eq_true rfl⟩, (wd_486 hE), (wd_487 hE)⟩ ⟨PS.blind, vk_recv hX.1 (by decide) hS, ps_pre (av := [.ref (adK 3)]) hX hS hE⟩ rfl rfl hl.1 rfl (lv_room (Nat.le_of_ble_eq_true rfl)) dX12_key_17 ⟨Nat.le_of_ble_eq_true rfl, Nat.le_of_ble_eq_true rfl⟩)) (fun r419 hr419 => ?_)
                      have hr419 : r419 = 18 := hr419
                      subst hr419
                      refine lv_icmp_ge (tgt := 133) hx hb dX12_key_20 (by decide) (fun c420 => ?_) (fun c420 => absurd c420 (by decide))
                      refine lv_iconst (v := -1) hx hb dX12_key_133 (by decide) ?_
                      exact W.iret (v := -1) hx hb hr (fun t ht hW => ⟨-1, rfl, Or.inr (Or.inr (Or.inr (⟨rfl, by first | omega | (have q := (kd_word (tx := tx) (n := sz1) (p := p0) (by omega)).trans ((if_neg (by rw [show eqw tx sz1 wVx p0 = false from EW1]; decide)).trans ((if_neg (by rw [show eqw tx sz1 wEd p0 = false from EW8]; decide)).trans (if_neg (by rw [show eqw tx sz1 wWo p0 = false from EW13]; decide)))); omega)⟩))), ht⟩) (fun _ h => absurd h List.not_mem_nil) dX12_key_134
                    · have c418 := mt (b_eq (rfl : Int32.toInt x1_416 = _) (show Int32.toInt 0 = 0 from rfl)).mpr c418
                      have X2 : x1_416 = 1 := i1_of hL416_1 (by omega)
                      have EW13 : eqw tx sz1 (kW 13) p0 = true := by first | exact eqw_t.mpr ⟨(hL416_2 X2).1.trans rfl, fun q hq => (hL416_2 X2).2 q (by have : (kW 13).length = 17 - 13 := rfl; omega)⟩ | (exfalso; omega)
                      refine lv_iload_n hx hb dX12_key_121 rfl (lv_at hl 1 rfl) ?_
                      exact W.iret (v := 2) hx hb hr (fun t ht hW => ⟨2, rfl, Or.inr (Or.inr (Or.inl ⟨rfl, by exact (kd_word (by omega)).trans ((if_neg (by rw [show eqw tx sz1 wVx p0 = false from EW1]; decide)).trans ((if_neg (by rw [show eqw tx sz1 wEd p0 = false from EW8]; decide)).trans (if_pos EW13)))⟩)), ht⟩) (fun _ h => absurd h List.not_mem_nil) dX12_key_122
                  · have c417 := mt (b_le (show Int32.toInt 4 = 4 from rfl) (nI_toInt (n := i_416) (by omega))).mpr c417
                    refine lv_iload hx hb dX12_key_75 (lv_at hl 4 rfl) ?_
                    refine lv_if_eq (tgt := 116) hx hb dX12_key_77 (by decide) (fun c421 => ?_) (fun c421 => ?_)
                    · have c421 := (b_eq (rfl : Int32.toInt x1_416 = _) (show Int32.toInt 0 = 0 from rfl)).mp c421
                      refine lv_iload hx hb dX12_key_116 (lv_at hl 4 rfl) ?_
                      refine lv_if_eq (tgt := 123) hx hb dX12_key_118 (by decide) (fun c422 => ?_) (fun c422 => ?_)
                      · have c422 := (b_eq (rfl : Int32.toInt x1_416 = _) (show Int32.toInt 0 = 0 from rfl)).mp c422
                        have EW13 : eqw tx sz1 (kW 13) p0 = false := hL416_3 (i0_of (by omega))
                        refine lv_iinc (v := 3) (lv' := [(1, .int 3), (0, .ref (b 0)), (2, .int 13), (3, .int 17), (4, .int x1_416), (5, .int (nI i_416))]) hx hb dX12_key_123 hl (k := 1) rfl (by decide) (by decide) rfl (fun ls hl => ?_)
                        refine lv_iload_n hx hb dX12_key_126 rfl (lv_at hl 3 rfl) ?_
                        refine lv_iconst (v := 1) hx hb dX12_key_127 (by decide) ?_
                        refine lv_iadd hx hb dX12_key_128 ?_
                        refine W.eq (g2 := F0 m 129 ls [.int 18]) rfl ?_
                        refine lv_istore_n (lv' := [(2, .int 18), (1, .int 3), (0, .ref (b 0)), (3, .int 17), (4, .int x1_416), (5, .int (nI i_416))]) hx hb dX12_key_129 rfl hl (by decide) rfl (fun ls hl => ?_)
                        refine lv_goto (tgt := 14) hx hb dX12_key_130 (by decide) ?_
                        refine lv_iload_n hx hb dX12_key_14 rfl (lv_at hl 0 rfl) ?_
                        refine va_ldcS hx hb hown hZ dX12_key_15 ?_
                        refine vp_callSi (va_Run.run (va_runV (As := []) (rest := [.int 18]) ⟨hx, hb, hml, hown, noTs⟩ (s_J0_length l adK adV 3 (by decide)) ⟨cbE 0 (wd_488 hE) (wd_129 hE) (wd_1527 hE) rfl rfl (by decide +kernel) ⟨Nat.le_of_ble_eq_true rfl, Nat.le_of_ble_eq_true rfl⟩, (wd_486 hE), (wd_487 hE)⟩ ⟨PS.blind, vk_recv hX.1 (by decide) hS, ps_pre (av := [.ref (adK 3)]) hX hS hE⟩ rfl rfl hl.1 rfl (lv_room (Nat.le_of_ble_eq_true rfl)) dX12_key_17 ⟨Nat.le_of_ble_eq_true rfl, Nat.le_of_ble_eq_true rfl⟩)) (fun r423 hr423 => ?_)
                        have hr423 : r423 = 18 := hr423
                        subst hr423
                        refine lv_icmp_ge (tgt := 133) hx hb dX12_key_20 (by decide) (fun c424 => ?_) (fun c424 => absurd c424 (by decide))
                        refine lv_iconst (v := -1) hx hb dX12_key_133 (by decide) ?_
                        exact W.iret (v := -1) hx hb hr (fun t ht hW => ⟨-1, rfl, Or.inr (Or.inr (Or.inr (⟨rfl, by first | omega | (have q := (kd_word (tx := tx) (n := sz1) (p := p0) (by omega)).trans ((if_neg (by rw [show eqw tx sz1 wVx p0 = false from EW1]; decide)).trans ((if_neg (by rw [show eqw tx sz1 wEd p0 = false from EW8]; decide)).trans (if_neg (by rw [show eqw tx sz1 wWo p0 = false from EW13]; decide)))); omega)⟩))), ht⟩) (fun _ h => absurd h List.not_mem_nil) dX12_key_134
                      · have c422 := mt (b_eq (rfl : Int32.toInt x1_416 = _) (show Int32.toInt 0 = 0 from rfl)).mpr c422
                        have X2 : x1_416 = 1 := i1_of hL416_1 (by omega)
                        have EW13 : eqw tx sz1 (kW 13) p0 = true := by first | exact eqw_t.mpr ⟨(hL416_2 X2).1.trans rfl, fun q hq => (hL416_2 X2).2 q (by have : (kW 13).length = 17 - 13 := rfl; omega)⟩ | (exfalso; omega)
                        refine lv_iload_n hx hb dX12_key_121 rfl (lv_at hl 1 rfl) ?_
                        exact W.iret (v := 2) hx hb hr (fun t ht hW => ⟨2, rfl, Or.inr (Or.inr (Or.inl ⟨rfl, by exact (kd_word (by omega)).trans ((if_neg (by rw [show eqw tx sz1 wVx p0 = false from EW1]; decide)).trans ((if_neg (by rw [show eqw tx sz1 wEd p0 = false from EW8]; decide)).trans (if_pos EW13)))⟩)), ht⟩) (fun _ h => absurd h List.not_mem_nil) dX12_key_122
                    · have c421 := mt (b_eq (rfl : Int32.toInt x1_416 = _) (show Int32.toInt 0 = 0 from rfl)).mpr c421
                      have X1 : x1_416 = 1 := i1_of hL416_1 (by omega)
                      refine va_ldcS hx hb hown hZ dX12_key_80 ?_
                      refine lv_iload_n hx hb dX12_key_82 rfl (lv_at hl 2 rfl) ?_
                      refine lv_iload hx hb dX12_key_83 (lv_at hl 5 rfl) ?_
                      refine lv_iadd hx hb dX12_key_85 ?_
                      refine W.eq (g2 := F0 m 86 ls [.int (nI (13 + i_416)), .ref (adK 3)]) (congrArg (fun z : Int32 => F0 m 86 ls (.int z :: [.ref (adK 3)])) (nI_add 13 i_416)) ?_
                      refine vp_callSi (va_Run.run (va_runV (As := [.int (nI (13 + i_416))]) (rest := []) ⟨hx, hb, hml, hown, noTs⟩ (s_J0_charAt l adK adV 3 (13 + i_416) (by decide) (by show _ < 18; omega)) ⟨cbE 1 (wd_498 hE) (wd_129 hE) (wd_1528 hE) rfl rfl (by decide +kernel) ⟨Nat.le_of_ble_eq_true rfl, Nat.le_of_ble_eq_true rfl⟩, (wd_496 hE), (wd_497 hE)⟩ ⟨PS.blind, vk_recv hX.1 (by decide) hS, ps_pre (av := [.ref (adK 3), .int (nI (13 + i_416))]) hX hS hE⟩ rfl rfl hl.1 rfl (lv_room (Nat.le_of_ble_eq_true rfl)) dX12_key_86 ⟨Nat.le_of_ble_eq_true rfl, Nat.le_of_ble_eq_true rfl⟩)) (fun r425 hr425 => ?_)
                      refine lv_aload_n hx hb dX12_key_89 rfl (lv_at hl 0 rfl) ?_
                      refine lv_aload_n hx hb dX12_key_90 rfl (lv_at hl 0 rfl) ?_
                      refine r_get (v := .int (nI p0)) hx hb (ly_X12 hE) hown hK hP rfl 13 (by decide) (wd_1394 hE) (fun _ h9 => h9) (congrArg (fun z : Int32 => some (Value.int z)) te13_2) dX12_key_91 ?_
                      refine lv_iload hx hb dX12_key_94 (lv_at hl 5 rfl) ?_
                      refine lv_iadd hx hb dX12_key_96 ?_
                      refine W.eq (g2 := F0 m 97 ls [.int (nI (p0 + i_416)), .ref (b 0), .int r425]) (congrArg (fun z : Int32 => F0 m 97 ls (.int z :: [.ref (b 0), .int r425])) (nI_add p0 i_416)) ?_
                      refine vp_callSi (va_Run.run (va_runV (As := [.int (nI (p0 + i_416))]) (rest := [.int r425]) ⟨hx, hb, hml, hown, noTs⟩ (r_X12_byteAt l dC dI s.heap.size cs b u tx hAc16 (p0 + i_416) sz1 hF11 (by first | assumption | omega | rfl | (congr 1; omega)) (by first | assumption | omega | rfl | (congr 1; omega))) ⟨cbE 1 (wd_1510 hE) (wd_126 hE) (wd_1507 hE) rfl rfl (by decide +kernel) ⟨Nat.le_of_ble_eq_true rfl, Nat.le_of_ble_eq_true rfl⟩, (wd_1509 hE), (wd_57 hE)⟩ ⟨PR.blind, r_recv hK hP rfl, (r_pre (av := [.ref (b 0), .int (nI (p0 + i_416))]) hK hP hJ hE)⟩ rfl rfl hl.1 rfl (lv_room (Nat.le_of_ble_eq_true rfl)) dX12_key_97 ⟨Nat.le_of_ble_eq_true rfl, Nat.le_of_ble_eq_true rfl⟩)) (fun r426 hr426 => ?_)
                      subst hr426
                      have htf426 := bA_f tx sz1 (p0 + i_416)
                      have HRC := hr425
                      have RCH := ch_13 i_416 (by omega)
                      refine lv_icmp_ne (tgt := 107) hx hb dX12_key_100 (by decide) (fun c427 => ?_) (fun c427 => ?_)
                      · have c427 := mt (b_eq (rfl : Int32.toInt r425 = _) (rfl : Int32.toInt (bA tx sz1 (p0 + i_416)) = _)).mpr c427
                        have NE : bA tx sz1 (p0 + i_416) ≠ (kW 13).getD i_416 0 := by rw [← RCH, ← HRC]; intro e; have := congrArg Int32.toInt e; omega
                        refine lv_iconst (v := 0) hx hb dX12_key_107 (by decide) ?_
                        refine lv_istore (lv' := [(4, .int 0), (0, .ref (b 0)), (1, .int 2), (2, .int 13), (3, .int 17), (5, .int (nI i_416))]) hx hb dX12_key_108 hl (by decide) rfl (fun ls hl => ?_)
                        refine lv_iinc (v := nI (i_416 + 1)) (lv' := [(5, .int (nI (i_416 + 1))), (4, .int 0), (0, .ref (b 0)), (1, .int 2), (2, .int 13), (3, .int 17)]) hx hb dX12_key_110 hl (k := 5) rfl (nI_1 i_416) (by decide) rfl (fun ls hl => ?_)
                        refine lv_goto (tgt := 67) hx hb dX12_key_113 (by decide) ?_
                        exact ih416 _ _ (by omega) ⟨(i_416 + 1), 0, rfl, (by first | assumption | omega | rfl | (congr 1; omega)), (by first | exact Or.inl rfl | exact Or.inr rfl), (by first | (intro _; exact ⟨(hL416_2 X1).1, fun q hq => by rcases Nat.lt_or_ge q i_416 with h | h; (exact (hL416_2 X1).2 q h); (obtain rfl : q = i_416 := by omega); exact EQ⟩) | (intro h; exact absurd h (by decide))), (by first | (intro h; exact absurd h (by decide)) | (intro _; exact eqw_at (w := kW 13) (by have : (kW 13).length = 17 - 13 := rfl; omega) NE)), lv_sub hl [2, 3, 4, 5, 1, 0] rfl⟩
                      · have c427 := (b_eq (rfl : Int32.toInt r425 = _) (rfl : Int32.toInt (bA tx sz1 (p0 + i_416)) = _)).mp c427
                        have EQ : bA tx sz1 (p0 + i_416) = (kW 13).getD i_416 0 := by rw [← RCH, ← HRC]; exact Int32.toInt_inj.mp (by omega)
                        refine lv_iconst (v := 1) hx hb dX12_key_103 (by decide) ?_
                        refine lv_goto (tgt := 108) hx hb dX12_key_104 (by decide) ?_
                        refine lv_istore (lv' := [(4, .int 1), (0, .ref (b 0)), (1, .int 2), (2, .int 13), (3, .int 17), (5, .int (nI i_416))]) hx hb dX12_key_108 hl (by decide) rfl (fun ls hl => ?_)
                        refine lv_iinc (v := nI (i_416 + 1)) (lv' := [(5, .int (nI (i_416 + 1))), (4, .int 1), (0, .ref (b 0)), (1, .int 2), (2, .int 13), (3, .int 17)]) hx hb dX12_key_110 hl (k := 5) rfl (nI_1 i_416) (by decide) rfl (fun ls hl => ?_)
                        refine lv_goto (tgt := 67) hx hb dX12_key_113 (by decide) ?_
                        exact ih416 _ _ (by omega) ⟨(i_416 + 1), 1, rfl, (by first | assumption | omega | rfl | (congr 1; omega)), (by first | exact Or.inl rfl | exact Or.inr rfl), (by first | (intro _; exact ⟨(hL416_2 X1).1, fun q hq => by rcases Nat.lt_or_ge q i_416 with h | h; (exact (hL416_2 X1).2 q h); (obtain rfl : q = i_416 := by omega); exact EQ⟩) | (intro h; exact absurd h (by decide))), (by first | (intro h; exact absurd h (by decide)) | (intro _; exact eqw_at (w := kW 13) (by have : (kW 13).length = 17 - 13 := rfl; omega) NE)), lv_sub hl [2, 3, 4, 5, 1, 0] rfl⟩
                · have c415 := (b_eq (show Int32.toInt 4 = 4 from rfl) (nI_toInt (n := (tnd tx sz1 p0) - p0) (by omega))).mp c415
                  refine lv_iconst (v := 1) hx hb dX12_key_57 (by decide) ?_
                  refine lv_goto (tgt := 62) hx hb dX12_key_58 (by decide) ?_
                  refine lv_istore (lv' := [(4, .int 1), (3, .int 17), (2, .int 13), (1, .int 2), (0, .ref (b 0)), (5, .int (nI i_400))]) hx hb dX12_key_62 hl (by decide) rfl (fun ls hl => ?_)
                  refine lv_iconst (v := 0) hx hb dX12_key_64 (by decide) ?_
                  refine lv_istore (lv' := [(5, .int 0), (4, .int 1), (3, .int 17), (2, .int 13), (1, .int 2), (0, .ref (b 0))]) hx hb dX12_key_65 hl (by decide) rfl (fun ls hl => ?_)
                  refine r_indP (I := fun n ls => ∃ (i_428 : Nat) (x1_428 : Int32), n = 17 - 13 - i_428 ∧ (i_428 ≤ 17 - 13) ∧ (x1_428 = 0 ∨ x1_428 = 1) ∧ (x1_428 = 1 → tnd tx sz1 p0 - p0 = 17 - 13 ∧ ∀ q, q < i_428 → bA tx sz1 (p0 + q) = (kW 13).getD q 0) ∧ (x1_428 = 0 → eqw tx sz1 (kW 13) p0 = false) ∧ lv_has ls 6 [(0, .ref (b 0)), (1, .int 2), (2, .int 13), (3, .int 17), (4, .int x1_428), (5, .int (nI i_428))]) (fun n ls hI ih428 => ?_) _ _ ⟨0, 1, rfl, (by first | assumption | omega | rfl | (congr 1; omega)), (by first | exact Or.inl rfl | exact Or.inr rfl), (by first | (intro _; exact ⟨by omega, fun q hq => absurd hq (by omega)⟩) | (intro h; exact absurd h (by decide))), (by first | (intro h; exact absurd h (by decide)) | (intro _; exact eqw_len (w := kW 13) (l := 17 - 13) rfl (by omega))), lv_sub hl [5, 4, 3, 2, 1, 0] rfl⟩
                  obtain ⟨i_428, x1_428, hmu428, hL428_0, hL428_1, hL428_2, hL428_3, hl⟩ := hI
                  subst hmu428
                  refine lv_iload hx hb dX12_key_67 (lv_at hl 5 rfl) ?_
                  refine lv_iload_n hx hb dX12_key_69 rfl (lv_at hl 3 rfl) ?_
                  refine lv_iload_n hx hb dX12_key_70 rfl (lv_at hl 2 rfl) ?_
                  refine lv_isub hx hb dX12_key_71 ?_
                  refine W.eq (g2 := F0 m 72 ls [.int 4, .int (nI i_428)]) rfl ?_
                  refine lv_icmp_ge (tgt := 116) hx hb dX12_key_72 (by decide) (fun c429 => ?_) (fun c429 => ?_)
                  · have c429 := (b_le (show Int32.toInt 4 = 4 from rfl) (nI_toInt (n := i_428) (by omega))).mp c429
                    refine lv_iload hx hb dX12_key_116 (lv_at hl 4 rfl) ?_
                    refine lv_if_eq (tgt := 123) hx hb dX12_key_118 (by decide) (fun c430 => ?_) (fun c430 => ?_)
                    · have c430 := (b_eq (rfl : Int32.toInt x1_428 = _) (show Int32.toInt 0 = 0 from rfl)).mp c430
                      have EW13 : eqw tx sz1 (kW 13) p0 = false := hL428_3 (i0_of (by omega))
                      refine lv_iinc (v := 3) (lv' := [(1, .int 3), (0, .ref (b 0)), (2, .int 13), (3, .int 17), (4, .int x1_428), (5, .int (nI i_428))]) hx hb dX12_key_123 hl (k := 1) rfl (by decide) (by decide) rfl (fun ls hl => ?_)
                      refine lv_iload_n hx hb dX12_key_126 rfl (lv_at hl 3 rfl) ?_
                      refine lv_iconst (v := 1) hx hb dX12_key_127 (by decide) ?_
                      refine lv_iadd hx hb dX12_key_128 ?_
                      refine W.eq (g2 := F0 m 129 ls [.int 18]) rfl ?_
                      refine lv_istore_n (lv' := [(2, .int 18), (1, .int 3), (0, .ref (b 0)), (3, .int 17), (4, .int x1_428), (5, .int (nI i_428))]) hx hb dX12_key_129 rfl hl (by decide) rfl (fun ls hl => ?_)
                      refine lv_goto (tgt := 14) hx hb dX12_key_130 (by decide) ?_
                      refine lv_iload_n hx hb dX12_key_14 rfl (lv_at hl 0 rfl) ?_
                      refine va_ldcS hx hb hown hZ dX12_key_15 ?_
                      refine vp_callSi (va_Run.run (va_runV (As := []) (rest := [.int 18]) ⟨hx, hb, hml, hown, noTs⟩ (s_J0_length l adK adV 3 (by decide)) ⟨cbE 0 (wd_488 hE) (wd_129 hE) (wd_1527 hE) rfl rfl (by decide +kernel) ⟨Nat.le_of_ble_eq_true rfl, Nat.le_of_ble_eq_true rfl⟩, (wd_486 hE), (wd_487 hE)⟩ ⟨PS.blind, vk_recv hX.1 (by decide) hS, ps_pre (av := [.ref (adK 3)]) hX hS hE⟩ rfl rfl hl.1 rfl (lv_room (Nat.le_of_ble_eq_true rfl)) dX12_key_17 ⟨Nat.le_of_ble_eq_true rfl, Nat.le_of_ble_eq_true rfl⟩)) (fun r431 hr431 => ?_)
                      have hr431 : r431 = 18 := hr431
                      subst hr431
                      refine lv_icmp_ge (tgt := 133) hx hb dX12_key_20 (by decide) (fun c432 => ?_) (fun c432 => absurd c432 (by decide))
                      refine lv_iconst (v := -1) hx hb dX12_key_133 (by decide) ?_
                      exact W.iret (v := -1) hx hb hr (fun t ht hW => ⟨-1, rfl, Or.inr (Or.inr (Or.inr (⟨rfl, by first | omega | (have q := (kd_word (tx := tx) (n := sz1) (p := p0) (by omega)).trans ((if_neg (by rw [show eqw tx sz1 wVx p0 = false from EW1]; decide)).trans ((if_neg (by rw [show eqw tx sz1 wEd p0 = false from EW8]; decide)).trans (if_neg (by rw [show eqw tx sz1 wWo p0 = false from EW13]; decide)))); omega)⟩))), ht⟩) (fun _ h => absurd h List.not_mem_nil) dX12_key_134
                    · have c430 := mt (b_eq (rfl : Int32.toInt x1_428 = _) (show Int32.toInt 0 = 0 from rfl)).mpr c430
                      have X2 : x1_428 = 1 := i1_of hL428_1 (by omega)
                      have EW13 : eqw tx sz1 (kW 13) p0 = true := by first | exact eqw_t.mpr ⟨(hL428_2 X2).1.trans rfl, fun q hq => (hL428_2 X2).2 q (by have : (kW 13).length = 17 - 13 := rfl; omega)⟩ | (exfalso; omega)
                      refine lv_iload_n hx hb dX12_key_121 rfl (lv_at hl 1 rfl) ?_
                      exact W.iret (v := 2) hx hb hr (fun t ht hW => ⟨2, rfl, Or.inr (Or.inr (Or.inl ⟨rfl, by exact (kd_word (by omega)).trans ((if_neg (by rw [show eqw tx sz1 wVx p0 = false from EW1]; decide)).trans ((if_neg (by rw [show eqw tx sz1 wEd p0 = false from EW8]; decide)).trans (if_pos EW13)))⟩)), ht⟩) (fun _ h => absurd h List.not_mem_nil) dX12_key_122
                  · have c429 := mt (b_le (show Int32.toInt 4 = 4 from rfl) (nI_toInt (n := i_428) (by omega))).mpr c429
                    refine lv_iload hx hb dX12_key_75 (lv_at hl 4 rfl) ?_
                    refine lv_if_eq (tgt := 116) hx hb dX12_key_77 (by decide) (fun c433 => ?_) (fun c433 => ?_)
                    · have c433 := (b_eq (rfl : Int32.toInt x1_428 = _) (show Int32.toInt 0 = 0 from rfl)).mp c433
                      refine lv_iload hx hb dX12_key_116 (lv_at hl 4 rfl) ?_
                      refine lv_if_eq (tgt := 123) hx hb dX12_key_118 (by decide) (fun c434 => ?_) (fun c434 => ?_)
                      · have c434 := (b_eq (rfl : Int32.toInt x1_428 = _) (show Int32.toInt 0 = 0 from rfl)).mp c434
                        have EW13 : eqw tx sz1 (kW 13) p0 = false := hL428_3 (i0_of (by omega))
                        refine lv_iinc (v := 3) (lv' := [(1, .int 3), (0, .ref (b 0)), (2, .int 13), (3, .int 17), (4, .int x1_428), (5, .int (nI i_428))]) hx hb dX12_key_123 hl (k := 1) rfl (by decide) (by decide) rfl (fun ls hl => ?_)
                        refine lv_iload_n hx hb dX12_key_126 rfl (lv_at hl 3 rfl) ?_
                        refine lv_iconst (v := 1) hx hb dX12_key_127 (by decide) ?_
                        refine lv_iadd hx hb dX12_key_128 ?_
                        refine W.eq (g2 := F0 m 129 ls [.int 18]) rfl ?_
                        refine lv_istore_n (lv' := [(2, .int 18), (1, .int 3), (0, .ref (b 0)), (3, .int 17), (4, .int x1_428), (5, .int (nI i_428))]) hx hb dX12_key_129 rfl hl (by decide) rfl (fun ls hl => ?_)
                        refine lv_goto (tgt := 14) hx hb dX12_key_130 (by decide) ?_
                        refine lv_iload_n hx hb dX12_key_14 rfl (lv_at hl 0 rfl) ?_
                        refine va_ldcS hx hb hown hZ dX12_key_15 ?_
                        refine vp_callSi (va_Run.run (va_runV (As := []) (rest := [.int 18]) ⟨hx, hb, hml, hown, noTs⟩ (s_J0_length l adK adV 3 (by decide)) ⟨cbE 0 (wd_488 hE) (wd_129 hE) (wd_1527 hE) rfl rfl (by decide +kernel) ⟨Nat.le_of_ble_eq_true rfl, Nat.le_of_ble_eq_true rfl⟩, (wd_486 hE), (wd_487 hE)⟩ ⟨PS.blind, vk_recv hX.1 (by decide) hS, ps_pre (av := [.ref (adK 3)]) hX hS hE⟩ rfl rfl hl.1 rfl (lv_room (Nat.le_of_ble_eq_true rfl)) dX12_key_17 ⟨Nat.le_of_ble_eq_true rfl, Nat.le_of_ble_eq_true rfl⟩)) (fun r435 hr435 => ?_)
                        have hr435 : r435 = 18 := hr435
                        subst hr435
                        refine lv_icmp_ge (tgt := 133) hx hb dX12_key_20 (by decide) (fun c436 => ?_) (fun c436 => absurd c436 (by decide))
                        refine lv_iconst (v := -1) hx hb dX12_key_133 (by decide) ?_
                        exact W.iret (v := -1) hx hb hr (fun t ht hW => ⟨-1, rfl, Or.inr (Or.inr (Or.inr (⟨rfl, by first | omega | (have q := (kd_word (tx := tx) (n := sz1) (p := p0) (by omega)).trans ((if_neg (by rw [show eqw tx sz1 wVx p0 = false from EW1]; decide)).trans ((if_neg (by rw [show eqw tx sz1 wEd p0 = false from EW8]; decide)).trans (if_neg (by rw [show eqw tx sz1 wWo p0 = false from EW13]; decide)))); omega)⟩))), ht⟩) (fun _ h => absurd h List.not_mem_nil) dX12_key_134
                      · have c434 := mt (b_eq (rfl : Int32.toInt x1_428 = _) (show Int32.toInt 0 = 0 from rfl)).mpr c434
                        have X2 : x1_428 = 1 := i1_of hL428_1 (by omega)
                        have EW13 : eqw tx sz1 (kW 13) p0 = true := by first | exact eqw_t.mpr ⟨(hL428_2 X2).1.trans rfl, fun q hq => (hL428_2 X2).2 q (by have : (kW 13).length = 17 - 13 := rfl; omega)⟩ | (exfalso; omega)
                        refine lv_iload_n hx hb dX12_key_121 rfl (lv_at hl 1 rfl) ?_
                        exact W.iret (v := 2) hx hb hr (fun t ht hW => ⟨2, rfl, Or.inr (Or.inr (Or.inl ⟨rfl, by exact (kd_word (by omega)).trans ((if_neg (by rw [show eqw tx sz1 wVx p0 = false from EW1]; decide)).trans ((if_neg (by rw [show eqw tx sz1 wEd p0 = false from EW8]; decide)).trans (if_pos EW13)))⟩)), ht⟩) (fun _ h => absurd h List.not_mem_nil) dX12_key_122
                    · have c433 := mt (b_eq (rfl : Int32.toInt x1_428 = _) (show Int32.toInt 0 = 0 from rfl)).mpr c433
                      have X1 : x1_428 = 1 := i1_of hL428_1 (by omega)
                      refine va_ldcS hx hb hown hZ dX12_key_80 ?_
                      refine lv_iload_n hx hb dX12_key_82 rfl (lv_at hl 2 rfl) ?_
                      refine lv_iload hx hb dX12_key_83 (lv_at hl 5 rfl) ?_
                      refine lv_iadd hx hb dX12_key_85 ?_
                      refine W.eq (g2 := F0 m 86 ls [.int (nI (13 + i_428)), .ref (adK 3)]) (congrArg (fun z : Int32 => F0 m 86 ls (.int z :: [.ref (adK 3)])) (nI_add 13 i_428)) ?_
                      refine vp_callSi (va_Run.run (va_runV (As := [.int (nI (13 + i_428))]) (rest := []) ⟨hx, hb, hml, hown, noTs⟩ (s_J0_charAt l adK adV 3 (13 + i_428) (by decide) (by show _ < 18; omega)) ⟨cbE 1 (wd_498 hE) (wd_129 hE) (wd_1528 hE) rfl rfl (by decide +kernel) ⟨Nat.le_of_ble_eq_true rfl, Nat.le_of_ble_eq_true rfl⟩, (wd_496 hE), (wd_497 hE)⟩ ⟨PS.blind, vk_recv hX.1 (by decide) hS, ps_pre (av := [.ref (adK 3), .int (nI (13 + i_428))]) hX hS hE⟩ rfl rfl hl.1 rfl (lv_room (Nat.le_of_ble_eq_true rfl)) dX12_key_86 ⟨Nat.le_of_ble_eq_true rfl, Nat.le_of_ble_eq_true rfl⟩)) (fun r437 hr437 => ?_)
                      refine lv_aload_n hx hb dX12_key_89 rfl (lv_at hl 0 rfl) ?_
                      refine lv_aload_n hx hb dX12_key_90 rfl (lv_at hl 0 rfl) ?_
                      refine r_get (v := .int (nI p0)) hx hb (ly_X12 hE) hown hK hP rfl 13 (by decide) (wd_1394 hE) (fun _ h9 => h9) (congrArg (fun z : Int32 => some (Value.int z)) te13_2) dX12_key_91 ?_
                      refine lv_iload hx hb dX12_key_94 (lv_at hl 5 rfl) ?_
                      refine lv_iadd hx hb dX12_key_96 ?_
                      refine W.eq (g2 := F0 m 97 ls [.int (nI (p0 + i_428)), .ref (b 0), .int r437]) (congrArg (fun z : Int32 => F0 m 97 ls (.int z :: [.ref (b 0), .int r437])) (nI_add p0 i_428)) ?_
                      refine vp_callSi (va_Run.run (va_runV (As := [.int (nI (p0 + i_428))]) (rest := [.int r437]) ⟨hx, hb, hml, hown, noTs⟩ (r_X12_byteAt l dC dI s.heap.size cs b u tx hAc16 (p0 + i_428) sz1 hF11 (by first | assumption | omega | rfl | (congr 1; omega)) (by first | assumption | omega | rfl | (congr 1; omega))) ⟨cbE 1 (wd_1510 hE) (wd_126 hE) (wd_1507 hE) rfl rfl (by decide +kernel) ⟨Nat.le_of_ble_eq_true rfl, Nat.le_of_ble_eq_true rfl⟩, (wd_1509 hE), (wd_57 hE)⟩ ⟨PR.blind, r_recv hK hP rfl, (r_pre (av := [.ref (b 0), .int (nI (p0 + i_428))]) hK hP hJ hE)⟩ rfl rfl hl.1 rfl (lv_room (Nat.le_of_ble_eq_true rfl)) dX12_key_97 ⟨Nat.le_of_ble_eq_true rfl, Nat.le_of_ble_eq_true rfl⟩)) (fun r438 hr438 => ?_)
                      subst hr438
                      have htf438 := bA_f tx sz1 (p0 + i_428)
                      have HRC := hr437
                      have RCH := ch_13 i_428 (by omega)
                      refine lv_icmp_ne (tgt := 107) hx hb dX12_key_100 (by decide) (fun c439 => ?_) (fun c439 => ?_)
                      · have c439 := mt (b_eq (rfl : Int32.toInt r437 = _) (rfl : Int32.toInt (bA tx sz1 (p0 + i_428)) = _)).mpr c439
                        have NE : bA tx sz1 (p0 + i_428) ≠ (kW 13).getD i_428 0 := by rw [← RCH, ← HRC]; intro e; have := congrArg Int32.toInt e; omega
                        refine lv_iconst (v := 0) hx hb dX12_key_107 (by decide) ?_
                        refine lv_istore (lv' := [(4, .int 0), (0, .ref (b 0)), (1, .int 2), (2, .int 13), (3, .int 17), (5, .int (nI i_428))]) hx hb dX12_key_108 hl (by decide) rfl (fun ls hl => ?_)
                        refine lv_iinc (v := nI (i_428 + 1)) (lv' := [(5, .int (nI (i_428 + 1))), (4, .int 0), (0, .ref (b 0)), (1, .int 2), (2, .int 13), (3, .int 17)]) hx hb dX12_key_110 hl (k := 5) rfl (nI_1 i_428) (by decide) rfl (fun ls hl => ?_)
                        refine lv_goto (tgt := 67) hx hb dX12_key_113 (by decide) ?_
                        exact ih428 _ _ (by omega) ⟨(i_428 + 1), 0, rfl, (by first | assumption | omega | rfl | (congr 1; omega)), (by first | exact Or.inl rfl | exact Or.inr rfl), (by first | (intro _; exact ⟨(hL428_2 X1).1, fun q hq => by rcases Nat.lt_or_ge q i_428 with h | h; (exact (hL428_2 X1).2 q h); (obtain rfl : q = i_428 := by omega); exact EQ⟩) | (intro h; exact absurd h (by decide))), (by first | (intro h; exact absurd h (by decide)) | (intro _; exact eqw_at (w := kW 13) (by have : (kW 13).length = 17 - 13 := rfl; omega) NE)), lv_sub hl [2, 3, 4, 5, 1, 0] rfl⟩
                      · have c439 := (b_eq (rfl : Int32.toInt r437 = _) (rfl : Int32.toInt (bA tx sz1 (p0 + i_428)) = _)).mp c439
                        have EQ : bA tx sz1 (p0 + i_428) = (kW 13).getD i_428 0 := by rw [← RCH, ← HRC]; exact Int32.toInt_inj.mp (by omega)
                        refine lv_iconst (v := 1) hx hb dX12_key_103 (by decide) ?_
                        refine lv_goto (tgt := 108) hx hb dX12_key_104 (by decide) ?_
                        refine lv_istore (lv' := [(4, .int 1), (0, .ref (b 0)), (1, .int 2), (2, .int 13), (3, .int 17), (5, .int (nI i_428))]) hx hb dX12_key_108 hl (by decide) rfl (fun ls hl => ?_)
                        refine lv_iinc (v := nI (i_428 + 1)) (lv' := [(5, .int (nI (i_428 + 1))), (4, .int 1), (0, .ref (b 0)), (1, .int 2), (2, .int 13), (3, .int 17)]) hx hb dX12_key_110 hl (k := 5) rfl (nI_1 i_428) (by decide) rfl (fun ls hl => ?_)
                        refine lv_goto (tgt := 67) hx hb dX12_key_113 (by decide) ?_
                        exact ih428 _ _ (by omega) ⟨(i_428 + 1), 1, rfl, (by first | assumption | omega | rfl | (congr 1; omega)), (by first | exact Or.inl rfl | exact Or.inr rfl), (by first | (intro _; exact ⟨(hL428_2 X1).1, fun q hq => by rcases Nat.lt_or_ge q i_428 with h | h; (exact (hL428_2 X1).2 q h); (obtain rfl : q = i_428 := by omega); exact EQ⟩) | (intro h; exact absurd h (by decide))), (by first | (intro h; exact absurd h (by decide)) | (intro _; exact eqw_at (w := kW 13) (by have : (kW 13).length = 17 - 13 := rfl; omega) NE)), lv_sub hl [2, 3, 4, 5, 1, 0] rfl⟩
              · have c402 := mt (b_eq (rfl : Int32.toInt x1_400 = _) (show Int32.toInt 0 = 0 from rfl)).mpr c402
                have X2 : x1_400 = 1 := i1_of hL400_1 (by omega)
                have EW8 : eqw tx sz1 (kW 8) p0 = true := by first | exact eqw_t.mpr ⟨(hL400_2 X2).1.trans rfl, fun q hq => (hL400_2 X2).2 q (by have : (kW 8).length = 12 - 8 := rfl; omega)⟩ | (exfalso; omega)
                refine lv_iload_n hx hb dX12_key_121 rfl (lv_at hl 1 rfl) ?_
                exact W.iret (v := 1) hx hb hr (fun t ht hW => ⟨1, rfl, Or.inr (Or.inl ⟨rfl, by exact (kd_word (by omega)).trans ((if_neg (by rw [show eqw tx sz1 wVx p0 = false from EW1]; decide)).trans (if_pos EW8))⟩), ht⟩) (fun _ h => absurd h List.not_mem_nil) dX12_key_122
            · have c401 := mt (b_le (show Int32.toInt 4 = 4 from rfl) (nI_toInt (n := i_400) (by omega))).mpr c401
              refine lv_iload hx hb dX12_key_75 (lv_at hl 4 rfl) ?_
              refine lv_if_eq (tgt := 116) hx hb dX12_key_77 (by decide) (fun c440 => ?_) (fun c440 => ?_)
              · have c440 := (b_eq (rfl : Int32.toInt x1_400 = _) (show Int32.toInt 0 = 0 from rfl)).mp c440
                refine lv_iload hx hb dX12_key_116 (lv_at hl 4 rfl) ?_
                refine lv_if_eq (tgt := 123) hx hb dX12_key_118 (by decide) (fun c441 => ?_) (fun c441 => ?_)
                · have c441 := (b_eq (rfl : Int32.toInt x1_400 = _) (show Int32.toInt 0 = 0 from rfl)).mp c441
                  have EW8 : eqw tx sz1 (kW 8) p0 = false := hL400_3 (i0_of (by omega))
                  refine lv_iinc (v := 2) (lv' := [(1, .int 2), (0, .ref (b 0)), (2, .int 8), (3, .int 12), (4, .int x1_400), (5, .int (nI i_400))]) hx hb dX12_key_123 hl (k := 1) rfl (by decide) (by decide) rfl (fun ls hl => ?_)
                  refine lv_iload_n hx hb dX12_key_126 rfl (lv_at hl 3 rfl) ?_
                  refine lv_iconst (v := 1) hx hb dX12_key_127 (by decide) ?_
                  refine lv_iadd hx hb dX12_key_128 ?_
                  refine W.eq (g2 := F0 m 129 ls [.int 13]) rfl ?_
                  refine lv_istore_n (lv' := [(2, .int 13), (1, .int 2), (0, .ref (b 0)), (3, .int 12), (4, .int x1_400), (5, .int (nI i_400))]) hx hb dX12_key_129 rfl hl (by decide) rfl (fun ls hl => ?_)
                  refine lv_goto (tgt := 14) hx hb dX12_key_130 (by decide) ?_
                  refine lv_iload_n hx hb dX12_key_14 rfl (lv_at hl 0 rfl) ?_
                  refine va_ldcS hx hb hown hZ dX12_key_15 ?_
                  refine vp_callSi (va_Run.run (va_runV (As := []) (rest := [.int 13]) ⟨hx, hb, hml, hown, noTs⟩ (s_J0_length l adK adV 3 (by decide)) ⟨cbE 0 (wd_488 hE) (wd_129 hE) (wd_1527 hE) rfl rfl (by decide +kernel) ⟨Nat.le_of_ble_eq_true rfl, Nat.le_of_ble_eq_true rfl⟩, (wd_486 hE), (wd_487 hE)⟩ ⟨PS.blind, vk_recv hX.1 (by decide) hS, ps_pre (av := [.ref (adK 3)]) hX hS hE⟩ rfl rfl hl.1 rfl (lv_room (Nat.le_of_ble_eq_true rfl)) dX12_key_17 ⟨Nat.le_of_ble_eq_true rfl, Nat.le_of_ble_eq_true rfl⟩)) (fun r442 hr442 => ?_)
                  have hr442 : r442 = 18 := hr442
                  subst hr442
                  refine lv_icmp_ge (tgt := 133) hx hb dX12_key_20 (by decide) (fun c443 => absurd c443 (by decide)) (fun c443 => ?_)
                  refine lv_iload_n hx hb dX12_key_23 rfl (lv_at hl 0 rfl) ?_
                  refine lv_istore_n (lv' := [(3, .int 13), (2, .int 13), (1, .int 2), (0, .ref (b 0)), (4, .int x1_400), (5, .int (nI i_400))]) hx hb dX12_key_24 rfl hl (by decide) rfl (fun ls hl => ?_)
                  refine va_ldcS hx hb hown hZ dX12_key_25 ?_
                  refine lv_iload_n hx hb dX12_key_27 rfl (lv_at hl 0 rfl) ?_
                  refine vp_callSi (va_Run.run (va_runV (As := [.int (nI 13)]) (rest := []) ⟨hx, hb, hml, hown, noTs⟩ (s_J0_charAt l adK adV 3 13 (by decide) (by show _ < 18; omega)) ⟨cbE 1 (wd_498 hE) (wd_129 hE) (wd_1528 hE) rfl rfl (by decide +kernel) ⟨Nat.le_of_ble_eq_true rfl, Nat.le_of_ble_eq_true rfl⟩, (wd_496 hE), (wd_497 hE)⟩ ⟨PS.blind, vk_recv hX.1 (by decide) hS, ps_pre (av := [.ref (adK 3), .int (nI 13)]) hX hS hE⟩ rfl rfl hl.1 rfl (lv_room (Nat.le_of_ble_eq_true rfl)) dX12_key_28 ⟨Nat.le_of_ble_eq_true rfl, Nat.le_of_ble_eq_true rfl⟩)) (fun r444 hr444 => ?_)
                  have hr444 : r444 = 119 := hr444.trans (by decide)
                  subst hr444
                  refine lv_bipush (v := 32) hx hb dX12_key_31 (by decide) ?_
                  refine lv_icmp_eq (tgt := 42) hx hb dX12_key_33 (by decide) (fun c445 => absurd c445 (by decide)) (fun c445 => ?_)
                  refine lv_iinc (v := 14) (lv' := [(3, .int 14), (2, .int 13), (1, .int 2), (0, .ref (b 0)), (4, .int x1_400), (5, .int (nI i_400))]) hx hb dX12_key_36 hl (k := 0) rfl (by decide) (by decide) rfl (fun ls hl => ?_)
                  refine lv_goto (tgt := 25) hx hb dX12_key_39 (by decide) ?_
                  refine va_ldcS hx hb hown hZ dX12_key_25 ?_
                  refine lv_iload_n hx hb dX12_key_27 rfl (lv_at hl 0 rfl) ?_
                  refine vp_callSi (va_Run.run (va_runV (As := [.int (nI 14)]) (rest := []) ⟨hx, hb, hml, hown, noTs⟩ (s_J0_charAt l adK adV 3 14 (by decide) (by show _ < 18; omega)) ⟨cbE 1 (wd_498 hE) (wd_129 hE) (wd_1528 hE) rfl rfl (by decide +kernel) ⟨Nat.le_of_ble_eq_true rfl, Nat.le_of_ble_eq_true rfl⟩, (wd_496 hE), (wd_497 hE)⟩ ⟨PS.blind, vk_recv hX.1 (by decide) hS, ps_pre (av := [.ref (adK 3), .int (nI 14)]) hX hS hE⟩ rfl rfl hl.1 rfl (lv_room (Nat.le_of_ble_eq_true rfl)) dX12_key_28 ⟨Nat.le_of_ble_eq_true rfl, Nat.le_of_ble_eq_true rfl⟩)) (fun r446 hr446 => ?_)
                  have hr446 : r446 = 111 := hr446.trans (by decide)
                  subst hr446
                  refine lv_bipush (v := 32) hx hb dX12_key_31 (by decide) ?_
                  refine lv_icmp_eq (tgt := 42) hx hb dX12_key_33 (by decide) (fun c447 => absurd c447 (by decide)) (fun c447 => ?_)
                  refine lv_iinc (v := 15) (lv' := [(3, .int 15), (2, .int 13), (1, .int 2), (0, .ref (b 0)), (4, .int x1_400), (5, .int (nI i_400))]) hx hb dX12_key_36 hl (k := 0) rfl (by decide) (by decide) rfl (fun ls hl => ?_)
                  refine lv_goto (tgt := 25) hx hb dX12_key_39 (by decide) ?_
                  refine va_ldcS hx hb hown hZ dX12_key_25 ?_
                  refine lv_iload_n hx hb dX12_key_27 rfl (lv_at hl 0 rfl) ?_
                  refine vp_callSi (va_Run.run (va_runV (As := [.int (nI 15)]) (rest := []) ⟨hx, hb, hml, hown, noTs⟩ (s_J0_charAt l adK adV 3 15 (by decide) (by show _ < 18; omega)) ⟨cbE 1 (wd_498 hE) (wd_129 hE) (wd_1528 hE) rfl rfl (by decide +kernel) ⟨Nat.le_of_ble_eq_true rfl, Nat.le_of_ble_eq_true rfl⟩, (wd_496 hE), (wd_497 hE)⟩ ⟨PS.blind, vk_recv hX.1 (by decide) hS, ps_pre (av := [.ref (adK 3), .int (nI 15)]) hX hS hE⟩ rfl rfl hl.1 rfl (lv_room (Nat.le_of_ble_eq_true rfl)) dX12_key_28 ⟨Nat.le_of_ble_eq_true rfl, Nat.le_of_ble_eq_true rfl⟩)) (fun r448 hr448 => ?_)
                  have hr448 : r448 = 114 := hr448.trans (by decide)
                  subst hr448
                  refine lv_bipush (v := 32) hx hb dX12_key_31 (by decide) ?_
                  refine lv_icmp_eq (tgt := 42) hx hb dX12_key_33 (by decide) (fun c449 => absurd c449 (by decide)) (fun c449 => ?_)
                  refine lv_iinc (v := 16) (lv' := [(3, .int 16), (2, .int 13), (1, .int 2), (0, .ref (b 0)), (4, .int x1_400), (5, .int (nI i_400))]) hx hb dX12_key_36 hl (k := 0) rfl (by decide) (by decide) rfl (fun ls hl => ?_)
                  refine lv_goto (tgt := 25) hx hb dX12_key_39 (by decide) ?_
                  refine va_ldcS hx hb hown hZ dX12_key_25 ?_
                  refine lv_iload_n hx hb dX12_key_27 rfl (lv_at hl 0 rfl) ?_
                  refine vp_callSi (va_Run.run (va_runV (As := [.int (nI 16)]) (rest := []) ⟨hx, hb, hml, hown, noTs⟩ (s_J0_charAt l adK adV 3 16 (by decide) (by show _ < 18; omega)) ⟨cbE 1 (wd_498 hE) (wd_129 hE) (wd_1528 hE) rfl rfl (by decide +kernel) ⟨Nat.le_of_ble_eq_true rfl, Nat.le_of_ble_eq_true rfl⟩, (wd_496 hE), (wd_497 hE)⟩ ⟨PS.blind, vk_recv hX.1 (by decide) hS, ps_pre (av := [.ref (adK 3), .int (nI 16)]) hX hS hE⟩ rfl rfl hl.1 rfl (lv_room (Nat.le_of_ble_eq_true rfl)) dX12_key_28 ⟨Nat.le_of_ble_eq_true rfl, Nat.le_of_ble_eq_true rfl⟩)) (fun r450 hr450 => ?_)
                  have hr450 : r450 = 100 := hr450.trans (by decide)
                  subst hr450
                  refine lv_bipush (v := 32) hx hb dX12_key_31 (by decide) ?_
                  refine lv_icmp_eq (tgt := 42) hx hb dX12_key_33 (by decide) (fun c451 => absurd c451 (by decide)) (fun c451 => ?_)
                  refine lv_iinc (v := 17) (lv' := [(3, .int 17), (2, .int 13), (1, .int 2), (0, .ref (b 0)), (4, .int x1_400), (5, .int (nI i_400))]) hx hb dX12_key_36 hl (k := 0) rfl (by decide) (by decide) rfl (fun ls hl => ?_)
                  refine lv_goto (tgt := 25) hx hb dX12_key_39 (by decide) ?_
                  refine va_ldcS hx hb hown hZ dX12_key_25 ?_
                  refine lv_iload_n hx hb dX12_key_27 rfl (lv_at hl 0 rfl) ?_
                  refine vp_callSi (va_Run.run (va_runV (As := [.int (nI 17)]) (rest := []) ⟨hx, hb, hml, hown, noTs⟩ (s_J0_charAt l adK adV 3 17 (by decide) (by show _ < 18; omega)) ⟨cbE 1 (wd_498 hE) (wd_129 hE) (wd_1528 hE) rfl rfl (by decide +kernel) ⟨Nat.le_of_ble_eq_true rfl, Nat.le_of_ble_eq_true rfl⟩, (wd_496 hE), (wd_497 hE)⟩ ⟨PS.blind, vk_recv hX.1 (by decide) hS, ps_pre (av := [.ref (adK 3), .int (nI 17)]) hX hS hE⟩ rfl rfl hl.1 rfl (lv_room (Nat.le_of_ble_eq_true rfl)) dX12_key_28 ⟨Nat.le_of_ble_eq_true rfl, Nat.le_of_ble_eq_true rfl⟩)) (fun r452 hr452 => ?_)
                  have hr452 : r452 = 32 := hr452.trans (by decide)
                  subst hr452
                  refine lv_bipush (v := 32) hx hb dX12_key_31 (by decide) ?_
                  refine lv_icmp_eq (tgt := 42) hx hb dX12_key_33 (by decide) (fun c453 => ?_) (fun c453 => absurd c453 (by decide))
                  refine lv_iload_n hx hb dX12_key_42 rfl (lv_at hl 0 rfl) ?_
                  refine lv_iload_n hx hb dX12_key_43 rfl (lv_at hl 1 rfl) ?_
                  refine lv_isub hx hb dX12_key_44 ?_
                  refine W.eq (g2 := F0 m 45 ls [.int 4]) rfl ?_
                  refine lv_aload_n hx hb dX12_key_45 rfl (lv_at hl 3 rfl) ?_
                  refine r_get (v := .int (nI (tnd tx sz1 p0))) hx hb (ly_X12 hE) hown hK hP rfl 14 (by decide) (wd_1395 hE) (fun _ h9 => h9) (congrArg (fun z : Int32 => some (Value.int z)) te14_2) dX12_key_46 ?_
                  refine lv_aload_n hx hb dX12_key_49 rfl (lv_at hl 3 rfl) ?_
                  refine r_get (v := .int (nI p0)) hx hb (ly_X12 hE) hown hK hP rfl 13 (by decide) (wd_1394 hE) (fun _ h9 => h9) (congrArg (fun z : Int32 => some (Value.int z)) te13_2) dX12_key_50 ?_
                  refine lv_isub hx hb dX12_key_53 ?_
                  refine W.eq (g2 := F0 m 54 ls [.int (nI ((tnd tx sz1 p0) - p0)), .int 4]) (congrArg (fun z : Int32 => F0 m 54 ls (.int z :: [.int 4])) (pk_sub (a := tnd tx sz1 p0) (b := p0) (by omega))) ?_
                  refine lv_icmp_ne (tgt := 61) hx hb dX12_key_54 (by decide) (fun c454 => ?_) (fun c454 => ?_)
                  · have c454 := mt (b_eq (show Int32.toInt 4 = 4 from rfl) (nI_toInt (n := (tnd tx sz1 p0) - p0) (by omega))).mpr c454
                    refine lv_iconst (v := 0) hx hb dX12_key_61 (by decide) ?_
                    refine lv_istore (lv' := [(4, .int 0), (3, .int 17), (2, .int 13), (1, .int 2), (0, .ref (b 0)), (5, .int (nI i_400))]) hx hb dX12_key_62 hl (by decide) rfl (fun ls hl => ?_)
                    refine lv_iconst (v := 0) hx hb dX12_key_64 (by decide) ?_
                    refine lv_istore (lv' := [(5, .int 0), (4, .int 0), (3, .int 17), (2, .int 13), (1, .int 2), (0, .ref (b 0))]) hx hb dX12_key_65 hl (by decide) rfl (fun ls hl => ?_)
                    refine r_indP (I := fun n ls => ∃ (i_455 : Nat) (x1_455 : Int32), n = 17 - 13 - i_455 ∧ (i_455 ≤ 17 - 13) ∧ (x1_455 = 0 ∨ x1_455 = 1) ∧ (x1_455 = 1 → tnd tx sz1 p0 - p0 = 17 - 13 ∧ ∀ q, q < i_455 → bA tx sz1 (p0 + q) = (kW 13).getD q 0) ∧ (x1_455 = 0 → eqw tx sz1 (kW 13) p0 = false) ∧ lv_has ls 6 [(0, .ref (b 0)), (1, .int 2), (2, .int 13), (3, .int 17), (4, .int x1_455), (5, .int (nI i_455))]) (fun n ls hI ih455 => ?_) _ _ ⟨0, 0, rfl, (by first | assumption | omega | rfl | (congr 1; omega)), (by first | exact Or.inl rfl | exact Or.inr rfl), (by first | (intro _; exact ⟨by omega, fun q hq => absurd hq (by omega)⟩) | (intro h; exact absurd h (by decide))), (by first | (intro h; exact absurd h (by decide)) | (intro _; exact eqw_len (w := kW 13) (l := 17 - 13) rfl (by omega))), lv_sub hl [5, 4, 3, 2, 1, 0] rfl⟩
                    obtain ⟨i_455, x1_455, hmu455, hL455_0, hL455_1, hL455_2, hL455_3, hl⟩ := hI
                    subst hmu455
                    refine lv_iload hx hb dX12_key_67 (lv_at hl 5 rfl) ?_
                    refine lv_iload_n hx hb dX12_key_69 rfl (lv_at hl 3 rfl) ?_
                    refine lv_iload_n hx hb dX12_key_70 rfl (lv_at hl 2 rfl) ?_
                    refine lv_isub hx hb dX12_key_71 ?_
                    refine W.eq (g2 := F0 m 72 ls [.int 4, .int (nI i_455)]) rfl ?_
                    refine lv_icmp_ge (tgt := 116) hx hb dX12_key_72 (by decide) (fun c456 => ?_) (fun c456 => ?_)
                    · have c456 := (b_le (show Int32.toInt 4 = 4 from rfl) (nI_toInt (n := i_455) (by omega))).mp c456
                      refine lv_iload hx hb dX12_key_116 (lv_at hl 4 rfl) ?_
                      refine lv_if_eq (tgt := 123) hx hb dX12_key_118 (by decide) (fun c457 => ?_) (fun c457 => ?_)
                      · have c457 := (b_eq (rfl : Int32.toInt x1_455 = _) (show Int32.toInt 0 = 0 from rfl)).mp c457
                        have EW13 : eqw tx sz1 (kW 13) p0 = false := hL455_3 (i0_of (by omega))
                        refine lv_iinc (v := 3) (lv' := [(1, .int 3), (0, .ref (b 0)), (2, .int 13), (3, .int 17), (4, .int x1_455), (5, .int (nI i_455))]) hx hb dX12_key_123 hl (k := 1) rfl (by decide) (by decide) rfl (fun ls hl => ?_)
                        refine lv_iload_n hx hb dX12_key_126 rfl (lv_at hl 3 rfl) ?_
                        refine lv_iconst (v := 1) hx hb dX12_key_127 (by decide) ?_
                        refine lv_iadd hx hb dX12_key_128 ?_
                        refine W.eq (g2 := F0 m 129 ls [.int 18]) rfl ?_
                        refine lv_istore_n (lv' := [(2, .int 18), (1, .int 3), (0, .ref (b 0)), (3, .int 17), (4, .int x1_455), (5, .int (nI i_455))]) hx hb dX12_key_129 rfl hl (by decide) rfl (fun ls hl => ?_)
                        refine lv_goto (tgt := 14) hx hb dX12_key_130 (by decide) ?_
                        refine lv_iload_n hx hb dX12_key_14 rfl (lv_at hl 0 rfl) ?_
                        refine va_ldcS hx hb hown hZ dX12_key_15 ?_
                        refine vp_callSi (va_Run.run (va_runV (As := []) (rest := [.int 18]) ⟨hx, hb, hml, hown, noTs⟩ (s_J0_length l adK adV 3 (by decide)) ⟨cbE 0 (wd_488 hE) (wd_129 hE) (wd_1527 hE) rfl rfl (by decide +kernel) ⟨Nat.le_of_ble_eq_true rfl, Nat.le_of_ble_eq_true rfl⟩, (wd_486 hE), (wd_487 hE)⟩ ⟨PS.blind, vk_recv hX.1 (by decide) hS, ps_pre (av := [.ref (adK 3)]) hX hS hE⟩ rfl rfl hl.1 rfl (lv_room (Nat.le_of_ble_eq_true rfl)) dX12_key_17 ⟨Nat.le_of_ble_eq_true rfl, Nat.le_of_ble_eq_true rfl⟩)) (fun r458 hr458 => ?_)
                        have hr458 : r458 = 18 := hr458
                        subst hr458
                        refine lv_icmp_ge (tgt := 133) hx hb dX12_key_20 (by decide) (fun c459 => ?_) (fun c459 => absurd c459 (by decide))
                        refine lv_iconst (v := -1) hx hb dX12_key_133 (by decide) ?_
                        exact W.iret (v := -1) hx hb hr (fun t ht hW => ⟨-1, rfl, Or.inr (Or.inr (Or.inr (⟨rfl, by first | omega | (have q := (kd_word (tx := tx) (n := sz1) (p := p0) (by omega)).trans ((if_neg (by rw [show eqw tx sz1 wVx p0 = false from EW1]; decide)).trans ((if_neg (by rw [show eqw tx sz1 wEd p0 = false from EW8]; decide)).trans (if_neg (by rw [show eqw tx sz1 wWo p0 = false from EW13]; decide)))); omega)⟩))), ht⟩) (fun _ h => absurd h List.not_mem_nil) dX12_key_134
                      · have c457 := mt (b_eq (rfl : Int32.toInt x1_455 = _) (show Int32.toInt 0 = 0 from rfl)).mpr c457
                        have X2 : x1_455 = 1 := i1_of hL455_1 (by omega)
                        have EW13 : eqw tx sz1 (kW 13) p0 = true := by first | exact eqw_t.mpr ⟨(hL455_2 X2).1.trans rfl, fun q hq => (hL455_2 X2).2 q (by have : (kW 13).length = 17 - 13 := rfl; omega)⟩ | (exfalso; omega)
                        refine lv_iload_n hx hb dX12_key_121 rfl (lv_at hl 1 rfl) ?_
                        exact W.iret (v := 2) hx hb hr (fun t ht hW => ⟨2, rfl, Or.inr (Or.inr (Or.inl ⟨rfl, by exact (kd_word (by omega)).trans ((if_neg (by rw [show eqw tx sz1 wVx p0 = false from EW1]; decide)).trans ((if_neg (by rw [show eqw tx sz1 wEd p0 = false from EW8]; decide)).trans (if_pos EW13)))⟩)), ht⟩) (fun _ h => absurd h List.not_mem_nil) dX12_key_122
                    · have c456 := mt (b_le (show Int32.toInt 4 = 4 from rfl) (nI_toInt (n := i_455) (by omega))).mpr c456
                      refine lv_iload hx hb dX12_key_75 (lv_at hl 4 rfl) ?_
                      refine lv_if_eq (tgt := 116) hx hb dX12_key_77 (by decide) (fun c460 => ?_) (fun c460 => ?_)
                      · have c460 := (b_eq (rfl : Int32.toInt x1_455 = _) (show Int32.toInt 0 = 0 from rfl)).mp c460
                        refine lv_iload hx hb dX12_key_116 (lv_at hl 4 rfl) ?_
                        refine lv_if_eq (tgt := 123) hx hb dX12_key_118 (by decide) (fun c461 => ?_) (fun c461 => ?_)
                        · have c461 := (b_eq (rfl : Int32.toInt x1_455 = _) (show Int32.toInt 0 = 0 from rfl)).mp c461
                          have EW13 : eqw tx sz1 (kW 13) p0 = false := hL455_3 (i0_of (by omega))
                          refine lv_iinc (v := 3) (lv' := [(1, .int 3), (0, .ref (b 0)), (2, .int 13), (3, .int 17), (4, .int x1_455), (5, .int (nI i_455))]) hx hb dX12_key_123 hl (k := 1) rfl (by decide) (by decide) rfl (fun ls hl => ?_)
                          refine lv_iload_n hx hb dX12_key_126 rfl (lv_at hl 3 rfl) ?_
                          refine lv_iconst (v := 1) hx hb dX12_key_127 (by decide) ?_
                          refine lv_iadd hx hb dX12_key_128 ?_
                          refine W.eq (g2 := F0 m 129 ls [.int 18]) rfl ?_
                          refine lv_istore_n (lv' := [(2, .int 18), (1, .int 3), (0, .ref (b 0)), (3, .int 17), (4, .int x1_455), (5, .int (nI i_455))]) hx hb dX12_key_129 rfl hl (by decide) rfl (fun ls hl => ?_)
                          refine lv_goto (tgt := 14) hx hb dX12_key_130 (by decide) ?_
                          refine lv_iload_n hx hb dX12_key_14 rfl (lv_at hl 0 rfl) ?_
                          refine va_ldcS hx hb hown hZ dX12_key_15 ?_
                          refine vp_callSi (va_Run.run (va_runV (As := []) (rest := [.int 18]) ⟨hx, hb, hml, hown, noTs⟩ (s_J0_length l adK adV 3 (by decide)) ⟨cbE 0 (wd_488 hE) (wd_129 hE) (wd_1527 hE) rfl rfl (by decide +kernel) ⟨Nat.le_of_ble_eq_true rfl, Nat.le_of_ble_eq_true rfl⟩, (wd_486 hE), (wd_487 hE)⟩ ⟨PS.blind, vk_recv hX.1 (by decide) hS, ps_pre (av := [.ref (adK 3)]) hX hS hE⟩ rfl rfl hl.1 rfl (lv_room (Nat.le_of_ble_eq_true rfl)) dX12_key_17 ⟨Nat.le_of_ble_eq_true rfl, Nat.le_of_ble_eq_true rfl⟩)) (fun r462 hr462 => ?_)
                          have hr462 : r462 = 18 := hr462
                          subst hr462
                          refine lv_icmp_ge (tgt := 133) hx hb dX12_key_20 (by decide) (fun c463 => ?_) (fun c463 => absurd c463 (by decide))
                          refine lv_iconst (v := -1) hx hb dX12_key_133 (by decide) ?_
                          exact W.iret (v := -1) hx hb hr (fun t ht hW => ⟨-1, rfl, Or.inr (Or.inr (Or.inr (⟨rfl, by first | omega | (have q := (kd_word (tx := tx) (n := sz1) (p := p0) (by omega)).trans ((if_neg (by rw [show eqw tx sz1 wVx p0 = false from EW1]; decide)).trans ((if_neg (by rw [show eqw tx sz1 wEd p0 = false from EW8]; decide)).trans (if_neg (by rw [show eqw tx sz1 wWo p0 = false from EW13]; decide)))); omega)⟩))), ht⟩) (fun _ h => absurd h List.not_mem_nil) dX12_key_134
                        · have c461 := mt (b_eq (rfl : Int32.toInt x1_455 = _) (show Int32.toInt 0 = 0 from rfl)).mpr c461
                          have X2 : x1_455 = 1 := i1_of hL455_1 (by omega)
                          have EW13 : eqw tx sz1 (kW 13) p0 = true := by first | exact eqw_t.mpr ⟨(hL455_2 X2).1.trans rfl, fun q hq => (hL455_2 X2).2 q (by have : (kW 13).length = 17 - 13 := rfl; omega)⟩ | (exfalso; omega)
                          refine lv_iload_n hx hb dX12_key_121 rfl (lv_at hl 1 rfl) ?_
                          exact W.iret (v := 2) hx hb hr (fun t ht hW => ⟨2, rfl, Or.inr (Or.inr (Or.inl ⟨rfl, by exact (kd_word (by omega)).trans ((if_neg (by rw [show eqw tx sz1 wVx p0 = false from EW1]; decide)).trans ((if_neg (by rw [show eqw tx sz1 wEd p0 = false from EW8]; decide)).trans (if_pos EW13)))⟩)), ht⟩) (fun _ h => absurd h List.not_mem_nil) dX12_key_122
                      · have c460 := mt (b_eq (rfl : Int32.toInt x1_455 = _) (show Int32.toInt 0 = 0 from rfl)).mpr c460
                        have X1 : x1_455 = 1 := i1_of hL455_1 (by omega)
                        refine va_ldcS hx hb hown hZ dX12_key_80 ?_
                        refine lv_iload_n hx hb dX12_key_82 rfl (lv_at hl 2 rfl) ?_
                        refine lv_iload hx hb dX12_key_83 (lv_at hl 5 rfl) ?_
                        refine lv_iadd hx hb dX12_key_85 ?_
                        refine W.eq (g2 := F0 m 86 ls [.int (nI (13 + i_455)), .ref (adK 3)]) (congrArg (fun z : Int32 => F0 m 86 ls (.int z :: [.ref (adK 3)])) (nI_add 13 i_455)) ?_
                        refine vp_callSi (va_Run.run (va_runV (As := [.int (nI (13 + i_455))]) (rest := []) ⟨hx, hb, hml, hown, noTs⟩ (s_J0_charAt l adK adV 3 (13 + i_455) (by decide) (by show _ < 18; omega)) ⟨cbE 1 (wd_498 hE) (wd_129 hE) (wd_1528 hE) rfl rfl (by decide +kernel) ⟨Nat.le_of_ble_eq_true rfl, Nat.le_of_ble_eq_true rfl⟩, (wd_496 hE), (wd_497 hE)⟩ ⟨PS.blind, vk_recv hX.1 (by decide) hS, ps_pre (av := [.ref (adK 3), .int (nI (13 + i_455))]) hX hS hE⟩ rfl rfl hl.1 rfl (lv_room (Nat.le_of_ble_eq_true rfl)) dX12_key_86 ⟨Nat.le_of_ble_eq_true rfl, Nat.le_of_ble_eq_true rfl⟩)) (fun r464 hr464 => ?_)
                        refine lv_aload_n hx hb dX12_key_89 rfl (lv_at hl 0 rfl) ?_
                        refine lv_aload_n hx hb dX12_key_90 rfl (lv_at hl 0 rfl) ?_
                        refine r_get (v := .int (nI p0)) hx hb (ly_X12 hE) hown hK hP rfl 13 (by decide) (wd_1394 hE) (fun _ h9 => h9) (congrArg (fun z : Int32 => some (Value.int z)) te13_2) dX12_key_91 ?_
                        refine lv_iload hx hb dX12_key_94 (lv_at hl 5 rfl) ?_
                        refine lv_iadd hx hb dX12_key_96 ?_
                        refine W.eq (g2 := F0 m 97 ls [.int (nI (p0 + i_455)), .ref (b 0), .int r464]) (congrArg (fun z : Int32 => F0 m 97 ls (.int z :: [.ref (b 0), .int r464])) (nI_add p0 i_455)) ?_
                        refine vp_callSi (va_Run.run (va_runV (As := [.int (nI (p0 + i_455))]) (rest := [.int r464]) ⟨hx, hb, hml, hown, noTs⟩ (r_X12_byteAt l dC dI s.heap.size cs b u tx hAc16 (p0 + i_455) sz1 hF11 (by first | assumption | omega | rfl | (congr 1; omega)) (by first | assumption | omega | rfl | (congr 1; omega))) ⟨cbE 1 (wd_1510 hE) (wd_126 hE) (wd_1507 hE) rfl rfl (by decide +kernel) ⟨Nat.le_of_ble_eq_true rfl, Nat.le_of_ble_eq_true rfl⟩, (wd_1509 hE), (wd_57 hE)⟩ ⟨PR.blind, r_recv hK hP rfl, (r_pre (av := [.ref (b 0), .int (nI (p0 + i_455))]) hK hP hJ hE)⟩ rfl rfl hl.1 rfl (lv_room (Nat.le_of_ble_eq_true rfl)) dX12_key_97 ⟨Nat.le_of_ble_eq_true rfl, Nat.le_of_ble_eq_true rfl⟩)) (fun r465 hr465 => ?_)
                        subst hr465
                        have htf465 := bA_f tx sz1 (p0 + i_455)
                        have HRC := hr464
                        have RCH := ch_13 i_455 (by omega)
                        refine lv_icmp_ne (tgt := 107) hx hb dX12_key_100 (by decide) (fun c466 => ?_) (fun c466 => ?_)
                        · have c466 := mt (b_eq (rfl : Int32.toInt r464 = _) (rfl : Int32.toInt (bA tx sz1 (p0 + i_455)) = _)).mpr c466
                          have NE : bA tx sz1 (p0 + i_455) ≠ (kW 13).getD i_455 0 := by rw [← RCH, ← HRC]; intro e; have := congrArg Int32.toInt e; omega
                          refine lv_iconst (v := 0) hx hb dX12_key_107 (by decide) ?_
                          refine lv_istore (lv' := [(4, .int 0), (0, .ref (b 0)), (1, .int 2), (2, .int 13), (3, .int 17), (5, .int (nI i_455))]) hx hb dX12_key_108 hl (by decide) rfl (fun ls hl => ?_)
                          refine lv_iinc (v := nI (i_455 + 1)) (lv' := [(5, .int (nI (i_455 + 1))), (4, .int 0), (0, .ref (b 0)), (1, .int 2), (2, .int 13), (3, .int 17)]) hx hb dX12_key_110 hl (k := 5) rfl (nI_1 i_455) (by decide) rfl (fun ls hl => ?_)
                          refine lv_goto (tgt := 67) hx hb dX12_key_113 (by decide) ?_
                          exact ih455 _ _ (by omega) ⟨(i_455 + 1), 0, rfl, (by first | assumption | omega | rfl | (congr 1; omega)), (by first | exact Or.inl rfl | exact Or.inr rfl), (by first | (intro _; exact ⟨(hL455_2 X1).1, fun q hq => by rcases Nat.lt_or_ge q i_455 with h | h; (exact (hL455_2 X1).2 q h); (obtain rfl : q = i_455 := by omega); exact EQ⟩) | (intro h; exact absurd h (by decide))), (by first | (intro h; exact absurd h (by decide)) | (intro _; exact eqw_at (w := kW 13) (by have : (kW 13).length = 17 - 13 := rfl; omega) NE)), lv_sub hl [2, 3, 4, 5, 1, 0] rfl⟩
                        · have c466 := (b_eq (rfl : Int32.toInt r464 = _) (rfl : Int32.toInt (bA tx sz1 (p0 + i_455)) = _)).mp c466
                          have EQ : bA tx sz1 (p0 + i_455) = (kW 13).getD i_455 0 := by rw [← RCH, ← HRC]; exact Int32.toInt_inj.mp (by omega)
                          refine lv_iconst (v := 1) hx hb dX12_key_103 (by decide) ?_
                          refine lv_goto (tgt := 108) hx hb dX12_key_104 (by decide) ?_
                          refine lv_istore (lv' := [(4, .int 1), (0, .ref (b 0)), (1, .int 2), (2, .int 13), (3, .int 17), (5, .int (nI i_455))]) hx hb dX12_key_108 hl (by decide) rfl (fun ls hl => ?_)
                          refine lv_iinc (v := nI (i_455 + 1)) (lv' := [(5, .int (nI (i_455 + 1))), (4, .int 1), (0, .ref (b 0)), (1, .int 2), (2, .int 13), (3, .int 17)]) hx hb dX12_key_110 hl (k := 5) rfl (nI_1 i_455) (by decide) rfl (fun ls hl => ?_)
                          refine lv_goto (tgt := 67) hx hb dX12_key_113 (by decide) ?_
                          exact ih455 _ _ (by omega) ⟨(i_455 + 1), 1, rfl, (by first | assumption | omega | rfl | (congr 1; omega)), (by first | exact Or.inl rfl | exact Or.inr rfl), (by first | (intro _; exact ⟨(hL455_2 X1).1, fun q hq => by rcases Nat.lt_or_ge q i_455 with h | h; (exact (hL455_2 X1).2 q h); (obtain rfl : q = i_455 := by omega); exact EQ⟩) | (intro h; exact absurd h (by decide))), (by first | (intro h; exact absurd h (by decide)) | (intro _; exact eqw_at (w := kW 13) (by have : (kW 13).length = 17 - 13 := rfl; omega) NE)), lv_sub hl [2, 3, 4, 5, 1, 0] rfl⟩
                  · have c454 := (b_eq (show Int32.toInt 4 = 4 from rfl) (nI_toInt (n := (tnd tx sz1 p0) - p0) (by omega))).mp c454
                    refine lv_iconst (v := 1) hx hb dX12_key_57 (by decide) ?_
                    refine lv_goto (tgt := 62) hx hb dX12_key_58 (by decide) ?_
                    refine lv_istore (lv' := [(4, .int 1), (3, .int 17), (2, .int 13), (1, .int 2), (0, .ref (b 0)), (5, .int (nI i_400))]) hx hb dX12_key_62 hl (by decide) rfl (fun ls hl => ?_)
                    refine lv_iconst (v := 0) hx hb dX12_key_64 (by decide) ?_
                    refine lv_istore (lv' := [(5, .int 0), (4, .int 1), (3, .int 17), (2, .int 13), (1, .int 2), (0, .ref (b 0))]) hx hb dX12_key_65 hl (by decide) rfl (fun ls hl => ?_)
                    refine r_indP (I := fun n ls => ∃ (i_467 : Nat) (x1_467 : Int32), n = 17 - 13 - i_467 ∧ (i_467 ≤ 17 - 13) ∧ (x1_467 = 0 ∨ x1_467 = 1) ∧ (x1_467 = 1 → tnd tx sz1 p0 - p0 = 17 - 13 ∧ ∀ q, q < i_467 → bA tx sz1 (p0 + q) = (kW 13).getD q 0) ∧ (x1_467 = 0 → eqw tx sz1 (kW 13) p0 = false) ∧ lv_has ls 6 [(0, .ref (b 0)), (1, .int 2), (2, .int 13), (3, .int 17), (4, .int x1_467), (5, .int (nI i_467))]) (fun n ls hI ih467 => ?_) _ _ ⟨0, 1, rfl, (by first | assumption | omega | rfl | (congr 1; omega)), (by first | exact Or.inl rfl | exact Or.inr rfl), (by first | (intro _; exact ⟨by omega, fun q hq => absurd hq (by omega)⟩) | (intro h; exact absurd h (by decide))), (by first | (intro h; exact absurd h (by decide)) | (intro _; exact eqw_len (w := kW 13) (l := 17 - 13) rfl (by omega))), lv_sub hl [5, 4, 3, 2, 1, 0] rfl⟩
                    obtain ⟨i_467, x1_467, hmu467, hL467_0, hL467_1, hL467_2, hL467_3, hl⟩ := hI
                    subst hmu467
                    refine lv_iload hx hb dX12_key_67 (lv_at hl 5 rfl) ?_
                    refine lv_iload_n hx hb dX12_key_69 rfl (lv_at hl 3 rfl) ?_
                    refine lv_iload_n hx hb dX12_key_70 rfl (lv_at hl 2 rfl) ?_
                    refine lv_isub hx hb dX12_key_71 ?_
                    refine W.eq (g2 := F0 m 72 ls [.int 4, .int (nI i_467)]) rfl ?_
                    refine lv_icmp_ge (tgt := 116) hx hb dX12_key_72 (by decide) (fun c468 => ?_) (fun c468 => ?_)
                    · have c468 := (b_le (show Int32.toInt 4 = 4 from rfl) (nI_toInt (n := i_467) (by omega))).mp c468
                      refine lv_iload hx hb dX12_key_116 (lv_at hl 4 rfl) ?_
                      refine lv_if_eq (tgt := 123) hx hb dX12_key_118 (by decide) (fun c469 => ?_) (fun c469 => ?_)
                      · have c469 := (b_eq (rfl : Int32.toInt x1_467 = _) (show Int32.toInt 0 = 0 from rfl)).mp c469
                        have EW13 : eqw tx sz1 (kW 13) p0 = false := hL467_3 (i0_of (by omega))
                        refine lv_iinc (v := 3) (lv' := [(1, .int 3), (0, .ref (b 0)), (2, .int 13), (3, .int 17), (4, .int x1_467), (5, .int (nI i_467))]) hx hb dX12_key_123 hl (k := 1) rfl (by decide) (by decide) rfl (fun ls hl => ?_)
                        refine lv_iload_n hx hb dX12_key_126 rfl (lv_at hl 3 rfl) ?_
                        refine lv_iconst (v := 1) hx hb dX12_key_127 (by decide) ?_
                        refine lv_iadd hx hb dX12_key_128 ?_
                        refine W.eq (g2 := F0 m 129 ls [.int 18]) rfl ?_
                        refine lv_istore_n (lv' := [(2, .int 18), (1, .int 3), (0, .ref (b 0)), (3, .int 17), (4, .int x1_467), (5, .int (nI i_467))]) hx hb dX12_key_129 rfl hl (by decide) rfl (fun ls hl => ?_)
                        refine lv_goto (tgt := 14) hx hb dX12_key_130 (by decide) ?_
                        refine lv_iload_n hx hb dX12_key_14 rfl (lv_at hl 0 rfl) ?_
                        refine va_ldcS hx hb hown hZ dX12_key_15 ?_
                        refine vp_callSi (va_Run.run (va_runV (As := []) (rest := [.int 18]) ⟨hx, hb, hml, hown, noTs⟩ (s_J0_length l adK adV 3 (by decide)) ⟨cbE 0 (wd_488 hE) (wd_129 hE) (wd_1527 hE) rfl rfl (by decide +kernel) ⟨Nat.le_of_ble_eq_true rfl, Nat.le_of_ble_eq_true rfl⟩, (wd_486 hE), (wd_487 hE)⟩ ⟨PS.blind, vk_recv hX.1 (by decide) hS, ps_pre (av := [.ref (adK 3)]) hX hS hE⟩ rfl rfl hl.1 rfl (lv_room (Nat.le_of_ble_eq_true rfl)) dX12_key_17 ⟨Nat.le_of_ble_eq_true rfl, Nat.le_of_ble_eq_true rfl⟩)) (fun r470 hr470 => ?_)
                        have hr470 : r470 = 18 := hr470
                        subst hr470
                        refine lv_icmp_ge (tgt := 133) hx hb dX12_key_20 (by decide) (fun c471 => ?_) (fun c471 => absurd c471 (by decide))
                        refine lv_iconst (v := -1) hx hb dX12_key_133 (by decide) ?_
                        exact W.iret (v := -1) hx hb hr (fun t ht hW => ⟨-1, rfl, Or.inr (Or.inr (Or.inr (⟨rfl, by first | omega | (have q := (kd_word (tx := tx) (n := sz1) (p := p0) (by omega)).trans ((if_neg (by rw [show eqw tx sz1 wVx p0 = false from EW1]; decide)).trans ((if_neg (by rw [show eqw tx sz1 wEd p0 = false from EW8]; decide)).trans (if_neg (by rw [show eqw tx sz1 wWo p0 = false from EW13]; decide)))); omega)⟩))), ht⟩) (fun _ h => absurd h List.not_mem_nil) dX12_key_134
                      · have c469 := mt (b_eq (rfl : Int32.toInt x1_467 = _) (show Int32.toInt 0 = 0 from rfl)).mpr c469
                        have X2 : x1_467 = 1 := i1_of hL467_1 (by omega)
                        have EW13 : eqw tx sz1 (kW 13) p0 = true := by first | exact eqw_t.mpr ⟨(hL467_2 X2).1.trans rfl, fun q hq => (hL467_2 X2).2 q (by have : (kW 13).length = 17 - 13 := rfl; omega)⟩ | (exfalso; omega)
                        refine lv_iload_n hx hb dX12_key_121 rfl (lv_at hl 1 rfl) ?_
                        exact W.iret (v := 2) hx hb hr (fun t ht hW => ⟨2, rfl, Or.inr (Or.inr (Or.inl ⟨rfl, by exact (kd_word (by omega)).trans ((if_neg (by rw [show eqw tx sz1 wVx p0 = false from EW1]; decide)).trans ((if_neg (by rw [show eqw tx sz1 wEd p0 = false from EW8]; decide)).trans (if_pos EW13)))⟩)), ht⟩) (fun _ h => absurd h List.not_mem_nil) dX12_key_122
                    · have c468 := mt (b_le (show Int32.toInt 4 = 4 from rfl) (nI_toInt (n := i_467) (by omega))).mpr c468
                      refine lv_iload hx hb dX12_key_75 (lv_at hl 4 rfl) ?_
                      refine lv_if_eq (tgt := 116) hx hb dX12_key_77 (by decide) (fun c472 => ?_) (fun c472 => ?_)
                      · have c472 := (b_eq (rfl : Int32.toInt x1_467 = _) (show Int32.toInt 0 = 0 from rfl)).mp c472
                        refine lv_iload hx hb dX12_key_116 (lv_at hl 4 rfl) ?_
                        refine lv_if_eq (tgt := 123) hx hb dX12_key_118 (by decide) (fun c473 => ?_) (fun c473 => ?_)
                        · have c473 := (b_eq (rfl : Int32.toInt x1_467 = _) (show Int32.toInt 0 = 0 from rfl)).mp c473
                          have EW13 : eqw tx sz1 (kW 13) p0 = false := hL467_3 (i0_of (by omega))
                          refine lv_iinc (v := 3) (lv' := [(1, .int 3), (0, .ref (b 0)), (2, .int 13), (3, .int 17), (4, .int x1_467), (5, .int (nI i_467))]) hx hb dX12_key_123 hl (k := 1) rfl (by decide) (by decide) rfl (fun ls hl => ?_)
                          refine lv_iload_n hx hb dX12_key_126 rfl (lv_at hl 3 rfl) ?_
                          refine lv_iconst (v := 1) hx hb dX12_key_127 (by decide) ?_
                          refine lv_iadd hx hb dX12_key_128 ?_
                          refine W.eq (g2 := F0 m 129 ls [.int 18]) rfl ?_
                          refine lv_istore_n (lv' := [(2, .int 18), (1, .int 3), (0, .ref (b 0)), (3, .int 17), (4, .int x1_467), (5, .int (nI i_467))]) hx hb dX12_key_129 rfl hl (by decide) rfl (fun ls hl => ?_)
                          refine lv_goto (tgt := 14) hx hb dX12_key_130 (by decide) ?_
                          refine lv_iload_n hx hb dX12_key_14 rfl (lv_at hl 0 rfl) ?_
                          refine va_ldcS hx hb hown hZ dX12_key_15 ?_
                          refine vp_callSi (va_Run.run (va_runV (As := []) (rest := [.int 18]) ⟨hx, hb, hml, hown, noTs⟩ (s_J0_length l adK adV 3 (by decide)) ⟨cbE 0 (wd_488 hE) (wd_129 hE) (wd_1527 hE) rfl rfl (by decide +kernel) ⟨Nat.le_of_ble_eq_true rfl, Nat.le_of_ble_eq_true rfl⟩, (wd_486 hE), (wd_487 hE)⟩ ⟨PS.blind, vk_recv hX.1 (by decide) hS, ps_pre (av := [.ref (adK 3)]) hX hS hE⟩ rfl rfl hl.1 rfl (lv_room (Nat.le_of_ble_eq_true rfl)) dX12_key_17 ⟨Nat.le_of_ble_eq_true rfl, Nat.le_of_ble_eq_true rfl⟩)) (fun r474 hr474 => ?_)
                          have hr474 : r474 = 18 := hr474
                          subst hr474
                          refine lv_icmp_ge (tgt := 133) hx hb dX12_key_20 (by decide) (fun c475 => ?_) (fun c475 => absurd c475 (by decide))
                          refine lv_iconst (v := -1) hx hb dX12_key_133 (by decide) ?_
                          exact W.iret (v := -1) hx hb hr (fun t ht hW => ⟨-1, rfl, Or.inr (Or.inr (Or.inr (⟨rfl, by first | omega | (have q := (kd_word (tx := tx) (n := sz1) (p := p0) (by omega)).trans ((if_neg (by rw [show eqw tx sz1 wVx p0 = false from EW1]; decide)).trans ((if_neg (by rw [show eqw tx sz1 wEd p0 = false from EW8]; decide)).trans (if_neg (by rw [show eqw tx sz1 wWo p0 = false from EW13]; decide)))); omega)⟩))), ht⟩) (fun _ h => absurd h List.not_mem_nil) dX12_key_134
                        · have c473 := mt (b_eq (rfl : Int32.toInt x1_467 = _) (show Int32.toInt 0 = 0 from rfl)).mpr c473
                          have X2 : x1_467 = 1 := i1_of hL467_1 (by omega)
                          have EW13 : eqw tx sz1 (kW 13) p0 = true := by first | exact eqw_t.mpr ⟨(hL467_2 X2).1.trans rfl, fun q hq => (hL467_2 X2).2 q (by have : (kW 13).length = 17 - 13 := rfl; omega)⟩ | (exfalso; omega)
                          refine lv_iload_n hx hb dX12_key_121 rfl (lv_at hl 1 rfl) ?_
                          exact W.iret (v := 2) hx hb hr (fun t ht hW => ⟨2, rfl, Or.inr (Or.inr (Or.inl ⟨rfl, by exact (kd_word (by omega)).trans ((if_neg (by rw [show eqw tx sz1 wVx p0 = false from EW1]; decide)).trans ((if_neg (by rw [show eqw tx sz1 wEd p0 = false from EW8]; decide)).trans (if_pos EW13)))⟩)), ht⟩) (fun _ h => absurd h List.not_mem_nil) dX12_key_122
                      · have c472 := mt (b_eq (rfl : Int32.toInt x1_467 = _) (show Int32.toInt 0 = 0 from rfl)).mpr c472
                        have X1 : x1_467 = 1 := i1_of hL467_1 (by omega)
                        refine va_ldcS hx hb hown hZ dX12_key_80 ?_
                        refine lv_iload_n hx hb dX12_key_82 rfl (lv_at hl 2 rfl) ?_
                        refine lv_iload hx hb dX12_key_83 (lv_at hl 5 rfl) ?_
                        refine lv_iadd hx hb dX12_key_85 ?_
                        refine W.eq (g2 := F0 m 86 ls [.int (nI (13 + i_467)), .ref (adK 3)]) (congrArg (fun z : Int32 => F0 m 86 ls (.int z :: [.ref (adK 3)])) (nI_add 13 i_467)) ?_
                        refine vp_callSi (va_Run.run (va_runV (As := [.int (nI (13 + i_467))]) (rest := []) ⟨hx, hb, hml, hown, noTs⟩ (s_J0_charAt l adK adV 3 (13 + i_467) (by decide) (by show _ < 18; omega)) ⟨cbE 1 (wd_498 hE) (wd_129 hE) (wd_1528 hE) rfl rfl (by decide +kernel) ⟨Nat.le_of_ble_eq_true rfl, Nat.le_of_ble_eq_true rfl⟩, (wd_496 hE), (wd_497 hE)⟩ ⟨PS.blind, vk_recv hX.1 (by decide) hS, ps_pre (av := [.ref (adK 3), .int (nI (13 + i_467))]) hX hS hE⟩ rfl rfl hl.1 rfl (lv_room (Nat.le_of_ble_eq_true rfl)) dX12_key_86 ⟨Nat.le_of_ble_eq_true rfl, Nat.le_of_ble_eq_true rfl⟩)) (fun r476 hr476 => ?_)
                        refine lv_aload_n hx hb dX12_key_89 rfl (lv_at hl 0 rfl) ?_
                        refine lv_aload_n hx hb dX12_key_90 rfl (lv_at hl 0 rfl) ?_
                        refine r_get (v := .int (nI p0)) hx hb (ly_X12 hE) hown hK hP rfl 13 (by decide) (wd_1394 hE) (fun _ h9 => h9) (congrArg (fun z : Int32 => some (Value.int z)) te13_2) dX12_key_91 ?_
                        refine lv_iload hx hb dX12_key_94 (lv_at hl 5 rfl) ?_
                        refine lv_iadd hx hb dX12_key_96 ?_
                        refine W.eq (g2 := F0 m 97 ls [.int (nI (p0 + i_467)), .ref (b 0), .int r476]) (congrArg (fun z : Int32 => F0 m 97 ls (.int z :: [.ref (b 0), .int r476])) (nI_add p0 i_467)) ?_
                        refine vp_callSi (va_Run.run (va_runV (As := [.int (nI (p0 + i_467))]) (rest := [.int r476]) ⟨hx, hb, hml, hown, noTs⟩ (r_X12_byteAt l dC dI s.heap.size cs b u tx hAc16 (p0 + i_467) sz1 hF11 (by first | assumption | omega | rfl | (congr 1; omega)) (by first | assumption | omega | rfl | (congr 1; omega))) ⟨cbE 1 (wd_1510 hE) (wd_126 hE) (wd_1507 hE) rfl rfl (by decide +kernel) ⟨Nat.le_of_ble_eq_true rfl, Nat.le_of_ble_eq_true rfl⟩, (wd_1509 hE), (wd_57 hE)⟩ ⟨PR.blind, r_recv hK hP rfl, (r_pre (av := [.ref (b 0), .int (nI (p0 + i_467))]) hK hP hJ hE)⟩ rfl rfl hl.1 rfl (lv_room (Nat.le_of_ble_eq_true rfl)) dX12_key_97 ⟨Nat.le_of_ble_eq_true rfl, Nat.le_of_ble_eq_true rfl⟩)) (fun r477 hr477 => ?_)
                        subst hr477
                        have htf477 := bA_f tx sz1 (p0 + i_467)
                        have HRC := hr476
                        have RCH := ch_13 i_467 (by omega)
                        refine lv_icmp_ne (tgt := 107) hx hb dX12_key_100 (by decide) (fun c478 => ?_) (fun c478 => ?_)
                        · have c478 := mt (b_eq (rfl : Int32.toInt r476 = _) (rfl : Int32.toInt (bA tx sz1 (p0 + i_467)) = _)).mpr c478
                          have NE : bA tx sz1 (p0 + i_467) ≠ (kW 13).getD i_467 0 := by rw [← RCH, ← HRC]; intro e; have := congrArg Int32.toInt e; omega
                          refine lv_iconst (v := 0) hx hb dX12_key_107 (by decide) ?_
                          refine lv_istore (lv' := [(4, .int 0), (0, .ref (b 0)), (1, .int 2), (2, .int 13), (3, .int 17), (5, .int (nI i_467))]) hx hb dX12_key_108 hl (by decide) rfl (fun ls hl => ?_)
                          refine lv_iinc (v := nI (i_467 + 1)) (lv' := [(5, .int (nI (i_467 + 1))), (4, .int 0), (0, .ref (b 0)), (1, .int 2), (2, .int 13), (3, .int 17)]) hx hb dX12_key_110 hl (k := 5) rfl (nI_1 i_467) (by decide) rfl (fun ls hl => ?_)
                          refine lv_goto (tgt := 67) hx hb dX12_key_113 (by decide) ?_
                          exact ih467 _ _ (by omega) ⟨(i_467 + 1), 0, rfl, (by first | assumption | omega | rfl | (congr 1; omega)), (by first | exact Or.inl rfl | exact Or.inr rfl), (by first | (intro _; exact ⟨(hL467_2 X1).1, fun q hq => by rcases Nat.lt_or_ge q i_467 with h | h; (exact (hL467_2 X1).2 q h); (obtain rfl : q = i_467 := by omega); exact EQ⟩) | (intro h; exact absurd h (by decide))), (by first | (intro h; exact absurd h (by decide)) | (intro _; exact eqw_at (w := kW 13) (by have : (kW 13).length = 17 - 13 := rfl; omega) NE)), lv_sub hl [2, 3, 4, 5, 1, 0] rfl⟩
                        · have c478 := (b_eq (rfl : Int32.toInt r476 = _) (rfl : Int32.toInt (bA tx sz1 (p0 + i_467)) = _)).mp c478
                          have EQ : bA tx sz1 (p0 + i_467) = (kW 13).getD i_467 0 := by rw [← RCH, ← HRC]; exact Int32.toInt_inj.mp (by omega)
                          refine lv_iconst (v := 1) hx hb dX12_key_103 (by decide) ?_
                          refine lv_goto (tgt := 108) hx hb dX12_key_104 (by decide) ?_
                          refine lv_istore (lv' := [(4, .int 1), (0, .ref (b 0)), (1, .int 2), (2, .int 13), (3, .int 17), (5, .int (nI i_467))]) hx hb dX12_key_108 hl (by decide) rfl (fun ls hl => ?_)
                          refine lv_iinc (v := nI (i_467 + 1)) (lv' := [(5, .int (nI (i_467 + 1))), (4, .int 1), (0, .ref (b 0)), (1, .int 2), (2, .int 13), (3, .int 17)]) hx hb dX12_key_110 hl (k := 5) rfl (nI_1 i_467) (by decide) rfl (fun ls hl => ?_)
                          refine lv_goto (tgt := 67) hx hb dX12_key_113 (by decide) ?_
                          exact ih467 _ _ (by omega) ⟨(i_467 + 1), 1, rfl, (by first | assumption | omega | rfl | (congr 1; omega)), (by first | exact Or.inl rfl | exact Or.inr rfl), (by first | (intro _; exact ⟨(hL467_2 X1).1, fun q hq => by rcases Nat.lt_or_ge q i_467 with h | h; (exact (hL467_2 X1).2 q h); (obtain rfl : q = i_467 := by omega); exact EQ⟩) | (intro h; exact absurd h (by decide))), (by first | (intro h; exact absurd h (by decide)) | (intro _; exact eqw_at (w := kW 13) (by have : (kW 13).length = 17 - 13 := rfl; omega) NE)), lv_sub hl [2, 3, 4, 5, 1, 0] rfl⟩
                · have c441 := mt (b_eq (rfl : Int32.toInt x1_400 = _) (show Int32.toInt 0 = 0 from rfl)).mpr c441
                  have X2 : x1_400 = 1 := i1_of hL400_1 (by omega)
                  have EW8 : eqw tx sz1 (kW 8) p0 = true := by first | exact eqw_t.mpr ⟨(hL400_2 X2).1.trans rfl, fun q hq => (hL400_2 X2).2 q (by have : (kW 8).length = 12 - 8 := rfl; omega)⟩ | (exfalso; omega)
                  refine lv_iload_n hx hb dX12_key_121 rfl (lv_at hl 1 rfl) ?_
                  exact W.iret (v := 1) hx hb hr (fun t ht hW => ⟨1, rfl, Or.inr (Or.inl ⟨rfl, by exact (kd_word (by omega)).trans ((if_neg (by rw [show eqw tx sz1 wVx p0 = false from EW1]; decide)).trans (if_pos EW8))⟩), ht⟩) (fun _ h => absurd h List.not_mem_nil) dX12_key_122
              · have c440 := mt (b_eq (rfl : Int32.toInt x1_400 = _) (show Int32.toInt 0 = 0 from rfl)).mpr c440
                have X1 : x1_400 = 1 := i1_of hL400_1 (by omega)
                refine va_ldcS hx hb hown hZ dX12_key_80 ?_
                refine lv_iload_n hx hb dX12_key_82 rfl (lv_at hl 2 rfl) ?_
                refine lv_iload hx hb dX12_key_83 (lv_at hl 5 rfl) ?_
                refine lv_iadd hx hb dX12_key_85 ?_
                refine W.eq (g2 := F0 m 86 ls [.int (nI (8 + i_400)), .ref (adK 3)]) (congrArg (fun z : Int32 => F0 m 86 ls (.int z :: [.ref (adK 3)])) (nI_add 8 i_400)) ?_
                refine vp_callSi (va_Run.run (va_runV (As := [.int (nI (8 + i_400))]) (rest := []) ⟨hx, hb, hml, hown, noTs⟩ (s_J0_charAt l adK adV 3 (8 + i_400) (by decide) (by show _ < 18; omega)) ⟨cbE 1 (wd_498 hE) (wd_129 hE) (wd_1528 hE) rfl rfl (by decide +kernel) ⟨Nat.le_of_ble_eq_true rfl, Nat.le_of_ble_eq_true rfl⟩, (wd_496 hE), (wd_497 hE)⟩ ⟨PS.blind, vk_recv hX.1 (by decide) hS, ps_pre (av := [.ref (adK 3), .int (nI (8 + i_400))]) hX hS hE⟩ rfl rfl hl.1 rfl (lv_room (Nat.le_of_ble_eq_true rfl)) dX12_key_86 ⟨Nat.le_of_ble_eq_true rfl, Nat.le_of_ble_eq_true rfl⟩)) (fun r479 hr479 => ?_)
                refine lv_aload_n hx hb dX12_key_89 rfl (lv_at hl 0 rfl) ?_
                refine lv_aload_n hx hb dX12_key_90 rfl (lv_at hl 0 rfl) ?_
                refine r_get (v := .int (nI p0)) hx hb (ly_X12 hE) hown hK hP rfl 13 (by decide) (wd_1394 hE) (fun _ h9 => h9) (congrArg (fun z : Int32 => some (Value.int z)) te13_2) dX12_key_91 ?_
                refine lv_iload hx hb dX12_key_94 (lv_at hl 5 rfl) ?_
                refine lv_iadd hx hb dX12_key_96 ?_
                refine W.eq (g2 := F0 m 97 ls [.int (nI (p0 + i_400)), .ref (b 0), .int r479]) (congrArg (fun z : Int32 => F0 m 97 ls (.int z :: [.ref (b 0), .int r479])) (nI_add p0 i_400)) ?_
                refine vp_callSi (va_Run.run (va_runV (As := [.int (nI (p0 + i_400))]) (rest := [.int r479]) ⟨hx, hb, hml, hown, noTs⟩ (r_X12_byteAt l dC dI s.heap.size cs b u tx hAc16 (p0 + i_400) sz1 hF11 (by first | assumption | omega | rfl | (congr 1; omega)) (by first | assumption | omega | rfl | (congr 1; omega))) ⟨cbE 1 (wd_1510 hE) (wd_126 hE) (wd_1507 hE) rfl rfl (by decide +kernel) ⟨Nat.le_of_ble_eq_true rfl, Nat.le_of_ble_eq_true rfl⟩, (wd_1509 hE), (wd_57 hE)⟩ ⟨PR.blind, r_recv hK hP rfl, (r_pre (av := [.ref (b 0), .int (nI (p0 + i_400))]) hK hP hJ hE)⟩ rfl rfl hl.1 rfl (lv_room (Nat.le_of_ble_eq_true rfl)) dX12_key_97 ⟨Nat.le_of_ble_eq_true rfl, Nat.le_of_ble_eq_true rfl⟩)) (fun r480 hr480 => ?_)
                subst hr480
                have htf480 := bA_f tx sz1 (p0 + i_400)
                have HRC := hr479
                have RCH := ch_8 i_400 (by omega)
                refine lv_icmp_ne (tgt := 107) hx hb dX12_key_100 (by decide) (fun c481 => ?_) (fun c481 => ?_)
                · have c481 := mt (b_eq (rfl : Int32.toInt r479 = _) (rfl : Int32.toInt (bA tx sz1 (p0 + i_400)) = _)).mpr c481
                  have NE : bA tx sz1 (p0 + i_400) ≠ (kW 8).getD i_400 0 := by rw [← RCH, ← HRC]; intro e; have := congrArg Int32.toInt e; omega
                  refine lv_iconst (v := 0) hx hb dX12_key_107 (by decide) ?_
                  refine lv_istore (lv' := [(4, .int 0), (0, .ref (b 0)), (1, .int 1), (2, .int 8), (3, .int 12), (5, .int (nI i_400))]) hx hb dX12_key_108 hl (by decide) rfl (fun ls hl => ?_)
                  refine lv_iinc (v := nI (i_400 + 1)) (lv' := [(5, .int (nI (i_400 + 1))), (4, .int 0), (0, .ref (b 0)), (1, .int 1), (2, .int 8), (3, .int 12)]) hx hb dX12_key_110 hl (k := 5) rfl (nI_1 i_400) (by decide) rfl (fun ls hl => ?_)
                  refine lv_goto (tgt := 67) hx hb dX12_key_113 (by decide) ?_
                  exact ih400 _ _ (by omega) ⟨(i_400 + 1), 0, rfl, (by first | assumption | omega | rfl | (congr 1; omega)), (by first | exact Or.inl rfl | exact Or.inr rfl), (by first | (intro _; exact ⟨(hL400_2 X1).1, fun q hq => by rcases Nat.lt_or_ge q i_400 with h | h; (exact (hL400_2 X1).2 q h); (obtain rfl : q = i_400 := by omega); exact EQ⟩) | (intro h; exact absurd h (by decide))), (by first | (intro h; exact absurd h (by decide)) | (intro _; exact eqw_at (w := kW 8) (by have : (kW 8).length = 12 - 8 := rfl; omega) NE)), lv_sub hl [2, 3, 4, 5, 1, 0] rfl⟩
                · have c481 := (b_eq (rfl : Int32.toInt r479 = _) (rfl : Int32.toInt (bA tx sz1 (p0 + i_400)) = _)).mp c481
                  have EQ : bA tx sz1 (p0 + i_400) = (kW 8).getD i_400 0 := by rw [← RCH, ← HRC]; exact Int32.toInt_inj.mp (by omega)
                  refine lv_iconst (v := 1) hx hb dX12_key_103 (by decide) ?_
                  refine lv_goto (tgt := 108) hx hb dX12_key_104 (by decide) ?_
                  refine lv_istore (lv' := [(4, .int 1), (0, .ref (b 0)), (1, .int 1), (2, .int 8), (3, .int 12), (5, .int (nI i_400))]) hx hb dX12_key_108 hl (by decide) rfl (fun ls hl => ?_)
                  refine lv_iinc (v := nI (i_400 + 1)) (lv' := [(5, .int (nI (i_400 + 1))), (4, .int 1), (0, .ref (b 0)), (1, .int 1), (2, .int 8), (3, .int 12)]) hx hb dX12_key_110 hl (k := 5) rfl (nI_1 i_400) (by decide) rfl (fun ls hl => ?_)
                  refine lv_goto (tgt := 67) hx hb dX12_key_113 (by decide) ?_
                  exact ih400 _ _ (by omega) ⟨(i_400 + 1), 1, rfl, (by first | assumption | omega | rfl | (congr 1; omega)), (by first | exact Or.inl rfl | exact Or.inr rfl), (by first | (intro _; exact ⟨(hL400_2 X1).1, fun q hq => by rcases Nat.lt_or_ge q i_400 with h | h; (exact (hL400_2 X1).2 q h); (obtain rfl : q = i_400 := by omega); exact EQ⟩) | (intro h; exact absurd h (by decide))), (by first | (intro h; exact absurd h (by decide)) | (intro _; exact eqw_at (w := kW 8) (by have : (kW 8).length = 12 - 8 := rfl; omega) NE)), lv_sub hl [2, 3, 4, 5, 1, 0] rfl⟩
          · have c399 := (b_eq (show Int32.toInt 4 = 4 from rfl) (nI_toInt (n := (tnd tx sz1 p0) - p0) (by omega))).mp c399
            refine lv_iconst (v := 1) hx hb dX12_key_57 (by decide) ?_
            refine lv_goto (tgt := 62) hx hb dX12_key_58 (by decide) ?_
            refine lv_istore (lv' := [(4, .int 1), (3, .int 12), (2, .int 8), (1, .int 1), (0, .ref (b 0)), (5, .int (nI i_384))]) hx hb dX12_key_62 hl (by decide) rfl (fun ls hl => ?_)
            refine lv_iconst (v := 0) hx hb dX12_key_64 (by decide) ?_
            refine lv_istore (lv' := [(5, .int 0), (4, .int 1), (3, .int 12), (2, .int 8), (1, .int 1), (0, .ref (b 0))]) hx hb dX12_key_65 hl (by decide) rfl (fun ls hl => ?_)
            refine r_indP (I := fun n ls => ∃ (i_482 : Nat) (x1_482 : Int32), n = 12 - 8 - i_482 ∧ (i_482 ≤ 12 - 8) ∧ (x1_482 = 0 ∨ x1_482 = 1) ∧ (x1_482 = 1 → tnd tx sz1 p0 - p0 = 12 - 8 ∧ ∀ q, q < i_482 → bA tx sz1 (p0 + q) = (kW 8).getD q 0) ∧ (x1_482 = 0 → eqw tx sz1 (kW 8) p0 = false) ∧ lv_has ls 6 [(0, .ref (b 0)), (1, .int 1), (2, .int 8), (3, .int 12), (4, .int x1_482), (5, .int (nI i_482))]) (fun n ls hI ih482 => ?_) _ _ ⟨0, 1, rfl, (by first | assumption | omega | rfl | (congr 1; omega)), (by first | exact Or.inl rfl | exact Or.inr rfl), (by first | (intro _; exact ⟨by omega, fun q hq => absurd hq (by omega)⟩) | (intro h; exact absurd h (by decide))), (by first | (intro h; exact absurd h (by decide)) | (intro _; exact eqw_len (w := kW 8) (l := 12 - 8) rfl (by omega))), lv_sub hl [5, 4, 3, 2, 1, 0] rfl⟩
            obtain ⟨i_482, x1_482, hmu482, hL482_0, hL482_1, hL482_2, hL482_3, hl⟩ := hI
            subst hmu482
            refine lv_iload hx hb dX12_key_67 (lv_at hl 5 rfl) ?_
            refine lv_iload_n hx hb dX12_key_69 rfl (lv_at hl 3 rfl) ?_
            refine lv_iload_n hx hb dX12_key_70 rfl (lv_at hl 2 rfl) ?_
            refine lv_isub hx hb dX12_key_71 ?_
            refine W.eq (g2 := F0 m 72 ls [.int 4, .int (nI i_482)]) rfl ?_
            refine lv_icmp_ge (tgt := 116) hx hb dX12_key_72 (by decide) (fun c483 => ?_) (fun c483 => ?_)
            · have c483 := (b_le (show Int32.toInt 4 = 4 from rfl) (nI_toInt (n := i_482) (by omega))).mp c483
              refine lv_iload hx hb dX12_key_116 (lv_at hl 4 rfl) ?_
              refine lv_if_eq (tgt := 123) hx hb dX12_key_118 (by decide) (fun c484 => ?_) (fun c484 => ?_)
              · have c484 := (b_eq (rfl : Int32.toInt x1_482 = _) (show Int32.toInt 0 = 0 from rfl)).mp c484
                have EW8 : eqw tx sz1 (kW 8) p0 = false := hL482_3 (i0_of (by omega))
                refine lv_iinc (v := 2) (lv' := [(1, .int 2), (0, .ref (b 0)), (2, .int 8), (3, .int 12), (4, .int x1_482), (5, .int (nI i_482))]) hx hb dX12_key_123 hl (k := 1) rfl (by decide) (by decide) rfl (fun ls hl => ?_)
                refine lv_iload_n hx hb dX12_key_126 rfl (lv_at hl 3 rfl) ?_
                refine lv_iconst (v := 1) hx hb dX12_key_127 (by decide) ?_
                refine lv_iadd hx hb dX12_key_128 ?_
                refine W.eq (g2 := F0 m 129 ls [.int 13]) rfl ?_
                refine lv_istore_n (lv' := [(2, .int 13), (1, .int 2), (0, .ref (b 0)), (3, .int 12), (4, .int x1_482), (5, .int (nI i_482))]) hx hb dX12_key_129 rfl hl (by decide) rfl (fun ls hl => ?_)
                refine lv_goto (tgt := 14) hx hb dX12_key_130 (by decide) ?_
                refine lv_iload_n hx hb dX12_key_14 rfl (lv_at hl 0 rfl) ?_
                refine va_ldcS hx hb hown hZ dX12_key_15 ?_
                refine vp_callSi (va_Run.run (va_runV (As := []) (rest := [.int 13]) ⟨hx, hb, hml, hown, noTs⟩ (s_J0_length l adK adV 3 (by decide)) ⟨cbE 0 (wd_488 hE) (wd_129 hE) (wd_1527 hE) rfl rfl (by decide +kernel) ⟨Nat.le_of_ble_eq_true rfl, Nat.le_of_ble_eq_true rfl⟩, (wd_486 hE), (wd_487 hE)⟩ ⟨PS.blind, vk_recv hX.1 (by decide) hS, ps_pre (av := [.ref (adK 3)]) hX hS hE⟩ rfl rfl hl.1 rfl (lv_room (Nat.le_of_ble_eq_true rfl)) dX12_key_17 ⟨Nat.le_of_ble_eq_true rfl, Nat.le_of_ble_eq_true rfl⟩)) (fun r485 hr485 => ?_)
                have hr485 : r485 = 18 := hr485
                subst hr485
                refine lv_icmp_ge (tgt := 133) hx hb dX12_key_20 (by decide) (fun c486 => absurd c486 (by decide)) (fun c486 => ?_)
                refine lv_iload_n hx hb dX12_key_23 rfl (lv_at hl 0 rfl) ?_
                refine lv_istore_n (lv' := [(3, .int 13), (2, .int 13), (1, .int 2), (0, .ref (b 0)), (4, .int x1_482), (5, .int (nI i_482))]) hx hb dX12_key_24 rfl hl (by decide) rfl (fun ls hl => ?_)
                refine va_ldcS hx hb hown hZ dX12_key_25 ?_
                refine lv_iload_n hx hb dX12_key_27 rfl (lv_at hl 0 rfl) ?_
                refine vp_callSi (va_Run.run (va_runV (As := [.int (nI 13)]) (rest := []) ⟨hx, hb, hml, hown, noTs⟩ (s_J0_charAt l adK adV 3 13 (by decide) (by show _ < 18; omega)) ⟨cbE 1 (wd_498 hE) (wd_129 hE) (wd_1528 hE) rfl rfl (by decide +kernel) ⟨Nat.le_of_ble_eq_true rfl, Nat.le_of_ble_eq_true rfl⟩, (wd_496 hE), (wd_497 hE)⟩ ⟨PS.blind, vk_recv hX.1 (by decide) hS, ps_pre (av := [.ref (adK 3), .int (nI 13)]) hX hS hE⟩ rfl rfl hl.1 rfl (lv_room (Nat.le_of_ble_eq_true rfl)) dX12_key_28 ⟨Nat.le_of_ble_eq_true rfl, Nat.le_of_ble_eq_true rfl⟩)) (fun r487 hr487 => ?_)
                have hr487 : r487 = 119 := hr487.trans (by decide)
                subst hr487
                refine lv_bipush (v := 32) hx hb dX12_key_31 (by decide) ?_
                refine lv_icmp_eq (tgt := 42) hx hb dX12_key_33 (by decide) (fun c488 => absurd c488 (by decide)) (fun c488 => ?_)
                refine lv_iinc (v := 14) (lv' := [(3, .int 14), (2, .int 13), (1, .int 2), (0, .ref (b 0)), (4, .int x1_482), (5, .int (nI i_482))]) hx hb dX12_key_36 hl (k := 0) rfl (by decide) (by decide) rfl (fun ls hl => ?_)
                refine lv_goto (tgt := 25) hx hb dX12_key_39 (by decide) ?_
                refine va_ldcS hx hb hown hZ dX12_key_25 ?_
                refine lv_iload_n hx hb dX12_key_27 rfl (lv_at hl 0 rfl) ?_
                refine vp_callSi (va_Run.run (va_runV (As := [.int (nI 14)]) (rest := []) ⟨hx, hb, hml, hown, noTs⟩ (s_J0_charAt l adK adV 3 14 (by decide) (by show _ < 18; omega)) ⟨cbE 1 (wd_498 hE) (wd_129 hE) (wd_1528 hE) rfl rfl (by decide +kernel) ⟨Nat.le_of_ble_eq_true rfl, Nat.le_of_ble_eq_true rfl⟩, (wd_496 hE), (wd_497 hE)⟩ ⟨PS.blind, vk_recv hX.1 (by decide) hS, ps_pre (av := [.ref (adK 3), .int (nI 14)]) hX hS hE⟩ rfl rfl hl.1 rfl (lv_room (Nat.le_of_ble_eq_true rfl)) dX12_key_28 ⟨Nat.le_of_ble_eq_true rfl, Nat.le_of_ble_eq_true rfl⟩)) (fun r489 hr489 => ?_)
                have hr489 : r489 = 111 := hr489.trans (by decide)
                subst hr489
                refine lv_bipush (v := 32) hx hb dX12_key_31 (by decide) ?_
                refine lv_icmp_eq (tgt := 42) hx hb dX12_key_33 (by decide) (fun c490 => absurd c490 (by decide)) (fun c490 => ?_)
                refine lv_iinc (v := 15) (lv' := [(3, .int 15), (2, .int 13), (1, .int 2), (0, .ref (b 0)), (4, .int x1_482), (5, .int (nI i_482))]) hx hb dX12_key_36 hl (k := 0) rfl (by decide) (by decide) rfl (fun ls hl => ?_)
                refine lv_goto (tgt := 25) hx hb dX12_key_39 (by decide) ?_
                refine va_ldcS hx hb hown hZ dX12_key_25 ?_
                refine lv_iload_n hx hb dX12_key_27 rfl (lv_at hl 0 rfl) ?_
                refine vp_callSi (va_Run.run (va_runV (As := [.int (nI 15)]) (rest := []) ⟨hx, hb, hml, hown, noTs⟩ (s_J0_charAt l adK adV 3 15 (by decide) (by show _ < 18; omega)) ⟨cbE 1 (wd_498 hE) (wd_129 hE) (wd_1528 hE) rfl rfl (by decide +kernel) ⟨Nat.le_of_ble_eq_true rfl, Nat.le_of_ble_eq_true rfl⟩, (wd_496 hE), (wd_497 hE)⟩ ⟨PS.blind, vk_recv hX.1 (by decide) hS, ps_pre (av := [.ref (adK 3), .int (nI 15)]) hX hS hE⟩ rfl rfl hl.1 rfl (lv_room (Nat.le_of_ble_eq_true rfl)) dX12_key_28 ⟨Nat.le_of_ble_eq_true rfl, Nat.le_of_ble_eq_true rfl⟩)) (fun r491 hr491 => ?_)
                have hr491 : r491 = 114 := hr491.trans (by decide)
                subst hr491
                refine lv_bipush (v := 32) hx hb dX12_key_31 (by decide) ?_
                refine lv_icmp_eq (tgt := 42) hx hb dX12_key_33 (by decide) (fun c492 => absurd c492 (by decide)) (fun c492 => ?_)
                refine lv_iinc (v := 16) (lv' := [(3, .int 16), (2, .int 13), (1, .int 2), (0, .ref (b 0)), (4, .int x1_482), (5, .int (nI i_482))]) hx hb dX12_key_36 hl (k := 0) rfl (by decide) (by decide) rfl (fun ls hl => ?_)
                refine lv_goto (tgt := 25) hx hb dX12_key_39 (by decide) ?_
                refine va_ldcS hx hb hown hZ dX12_key_25 ?_
                refine lv_iload_n hx hb dX12_key_27 rfl (lv_at hl 0 rfl) ?_
                refine vp_callSi (va_Run.run (va_runV (As := [.int (nI 16)]) (rest := []) ⟨hx, hb, hml, hown, noTs⟩ (s_J0_charAt l adK adV 3 16 (by decide) (by show _ < 18; omega)) ⟨cbE 1 (wd_498 hE) (wd_129 hE) (wd_1528 hE) rfl rfl (by decide +kernel) ⟨Nat.le_of_ble_eq_true rfl, Nat.le_of_ble_eq_true rfl⟩, (wd_496 hE), (wd_497 hE)⟩ ⟨PS.blind, vk_recv hX.1 (by decide) hS, ps_pre (av := [.ref (adK 3), .int (nI 16)]) hX hS hE⟩ rfl rfl hl.1 rfl (lv_room (Nat.le_of_ble_eq_true rfl)) dX12_key_28 ⟨Nat.le_of_ble_eq_true rfl, Nat.le_of_ble_eq_true rfl⟩)) (fun r493 hr493 => ?_)
                have hr493 : r493 = 100 := hr493.trans (by decide)
                subst hr493
                refine lv_bipush (v := 32) hx hb dX12_key_31 (by decide) ?_
                refine lv_icmp_eq (tgt := 42) hx hb dX12_key_33 (by decide) (fun c494 => absurd c494 (by decide)) (fun c494 => ?_)
                refine lv_iinc (v := 17) (lv' := [(3, .int 17), (2, .int 13), (1, .int 2), (0, .ref (b 0)), (4, .int x1_482), (5, .int (nI i_482))]) hx hb dX12_key_36 hl (k := 0) rfl (by decide) (by decide) rfl (fun ls hl => ?_)
                refine lv_goto (tgt := 25) hx hb dX12_key_39 (by decide) ?_
                refine va_ldcS hx hb hown hZ dX12_key_25 ?_
                refine lv_iload_n hx hb dX12_key_27 rfl (lv_at hl 0 rfl) ?_
                refine vp_callSi (va_Run.run (va_runV (As := [.int (nI 17)]) (rest := []) ⟨hx, hb, hml, hown, noTs⟩ (s_J0_charAt l adK adV 3 17 (by decide) (by show _ < 18; omega)) ⟨cbE 1 (wd_498 hE) (wd_129 hE) (wd_1528 hE) rfl rfl (by decide +kernel) ⟨Nat.le_of_ble_eq_true rfl, Nat.le_of_ble_eq_true rfl⟩, (wd_496 hE), (wd_497 hE)⟩ ⟨PS.blind, vk_recv hX.1 (by decide) hS, ps_pre (av := [.ref (adK 3), .int (nI 17)]) hX hS hE⟩ rfl rfl hl.1 rfl (lv_room (Nat.le_of_ble_eq_true rfl)) dX12_key_28 ⟨Nat.le_of_ble_eq_true rfl, Nat.le_of_ble_eq_true rfl⟩)) (fun r495 hr495 => ?_)
                have hr495 : r495 = 32 := hr495.trans (by decide)
                subst hr495
                refine lv_bipush (v := 32) hx hb dX12_key_31 (by decide) ?_
                refine lv_icmp_eq (tgt := 42) hx hb dX12_key_33 (by decide) (fun c496 => ?_) (fun c496 => absurd c496 (by decide))
                refine lv_iload_n hx hb dX12_key_42 rfl (lv_at hl 0 rfl) ?_
                refine lv_iload_n hx hb dX12_key_43 rfl (lv_at hl 1 rfl) ?_
                refine lv_isub hx hb dX12_key_44 ?_
                refine W.eq (g2 := F0 m 45 ls [.int 4]) rfl ?_
                refine lv_aload_n hx hb dX12_key_45 rfl (lv_at hl 3 rfl) ?_
                refine r_get (v := .int (nI (tnd tx sz1 p0))) hx hb (ly_X12 hE) hown hK hP rfl 14 (by decide) (wd_1395 hE) (fun _ h9 => h9) (congrArg (fun z : Int32 => some (Value.int z)) te14_2) dX12_key_46 ?_
                refine lv_aload_n hx hb dX12_key_49 rfl (lv_at hl 3 rfl) ?_
                refine r_get (v := .int (nI p0)) hx hb (ly_X12 hE) hown hK hP rfl 13 (by decide) (wd_1394 hE) (fun _ h9 => h9) (congrArg (fun z : Int32 => some (Value.int z)) te13_2) dX12_key_50 ?_
                refine lv_isub hx hb dX12_key_53 ?_
                refine W.eq (g2 := F0 m 54 ls [.int (nI ((tnd tx sz1 p0) - p0)), .int 4]) (congrArg (fun z : Int32 => F0 m 54 ls (.int z :: [.int 4])) (pk_sub (a := tnd tx sz1 p0) (b := p0) (by omega))) ?_
                refine lv_icmp_ne (tgt := 61) hx hb dX12_key_54 (by decide) (fun c497 => ?_) (fun c497 => ?_)
                · have c497 := mt (b_eq (show Int32.toInt 4 = 4 from rfl) (nI_toInt (n := (tnd tx sz1 p0) - p0) (by omega))).mpr c497
                  refine lv_iconst (v := 0) hx hb dX12_key_61 (by decide) ?_
                  refine lv_istore (lv' := [(4, .int 0), (3, .int 17), (2, .int 13), (1, .int 2), (0, .ref (b 0)), (5, .int (nI i_482))]) hx hb dX12_key_62 hl (by decide) rfl (fun ls hl => ?_)
                  refine lv_iconst (v := 0) hx hb dX12_key_64 (by decide) ?_
                  refine lv_istore (lv' := [(5, .int 0), (4, .int 0), (3, .int 17), (2, .int 13), (1, .int 2), (0, .ref (b 0))]) hx hb dX12_key_65 hl (by decide) rfl (fun ls hl => ?_)
                  refine r_indP (I := fun n ls => ∃ (i_498 : Nat) (x1_498 : Int32), n = 17 - 13 - i_498 ∧ (i_498 ≤ 17 - 13) ∧ (x1_498 = 0 ∨ x1_498 = 1) ∧ (x1_498 = 1 → tnd tx sz1 p0 - p0 = 17 - 13 ∧ ∀ q, q < i_498 → bA tx sz1 (p0 + q) = (kW 13).getD q 0) ∧ (x1_498 = 0 → eqw tx sz1 (kW 13) p0 = false) ∧ lv_has ls 6 [(0, .ref (b 0)), (1, .int 2), (2, .int 13), (3, .int 17), (4, .int x1_498), (5, .int (nI i_498))]) (fun n ls hI ih498 => ?_) _ _ ⟨0, 0, rfl, (by first | assumption | omega | rfl | (congr 1; omega)), (by first | exact Or.inl rfl | exact Or.inr rfl), (by first | (intro _; exact ⟨by omega, fun q hq => absurd hq (by omega)⟩) | (intro h; exact absurd h (by decide))), (by first | (intro h; exact absurd h (by decide)) | (intro _; exact eqw_len (w := kW 13) (l := 17 - 13) rfl (by omega))), lv_sub hl [5, 4, 3, 2, 1, 0] rfl⟩
                  obtain ⟨i_498, x1_498, hmu498, hL498_0, hL498_1, hL498_2, hL498_3, hl⟩ := hI
                  subst hmu498
                  refine lv_iload hx hb dX12_key_67 (lv_at hl 5 rfl) ?_
                  refine lv_iload_n hx hb dX12_key_69 rfl (lv_at hl 3 rfl) ?_
                  refine lv_iload_n hx hb dX12_key_70 rfl (lv_at hl 2 rfl) ?_
                  refine lv_isub hx hb dX12_key_71 ?_
                  refine W.eq (g2 := F0 m 72 ls [.int 4, .int (nI i_498)]) rfl ?_
                  refine lv_icmp_ge (tgt := 116) hx hb dX12_key_72 (by decide) (fun c499 => ?_) (fun c499 => ?_)
                  · have c499 := (b_le (show Int32.toInt 4 = 4 from rfl) (nI_toInt (n := i_498) (by omega))).mp c499
                    refine lv_iload hx hb dX12_key_116 (lv_at hl 4 rfl) ?_
                    refine lv_if_eq (tgt := 123) hx hb dX12_key_118 (by decide) (fun c500 => ?_) (fun c500 => ?_)
                    · have c500 := (b_eq (rfl : Int32.toInt x1_498 = _) (show Int32.toInt 0 = 0 from rfl)).mp c500
                      have EW13 : eqw tx sz1 (kW 13) p0 = false := hL498_3 (i0_of (by omega))
                      refine lv_iinc (v := 3) (lv' := [(1, .int 3), (0, .ref (b 0)), (2, .int 13), (3, .int 17), (4, .int x1_498), (5, .int (nI i_498))]) hx hb dX12_key_123 hl (k := 1) rfl (by decide) (by decide) rfl (fun ls hl => ?_)
                      refine lv_iload_n hx hb dX12_key_126 rfl (lv_at hl 3 rfl) ?_
                      refine lv_iconst (v := 1) hx hb dX12_key_127 (by decide) ?_
                      refine lv_iadd hx hb dX12_key_128 ?_
                      refine W.eq (g2 := F0 m 129 ls [.int 18]) rfl ?_
                      refine lv_istore_n (lv' := [(2, .int 18), (1, .int 3), (0, .ref (b 0)), (3, .int 17), (4, .int x1_498), (5, .int (nI i_498))]) hx hb dX12_key_129 rfl hl (by decide) rfl (fun ls hl => ?_)
                      refine lv_goto (tgt := 14) hx hb dX12_key_130 (by decide) ?_
                      refine lv_iload_n hx hb dX12_key_14 rfl (lv_at hl 0 rfl) ?_
                      refine va_ldcS hx hb hown hZ dX12_key_15 ?_
                      refine vp_callSi (va_Run.run (va_runV (As := []) (rest := [.int 18]) ⟨hx, hb, hml, hown, noTs⟩ (s_J0_length l adK adV 3 (by decide)) ⟨cbE 0 (wd_488 hE) (wd_129 hE) (wd_1527 hE) rfl rfl (by decide +kernel) ⟨Nat.le_of_ble_eq_true rfl, Nat.le_of_ble_eq_true rfl⟩, (wd_486 hE), (wd_487 hE)⟩ ⟨PS.blind, vk_recv hX.1 (by decide) hS, ps_pre (av := [.ref (adK 3)]) hX hS hE⟩ rfl rfl hl.1 rfl (lv_room (Nat.le_of_ble_eq_true rfl)) dX12_key_17 ⟨Nat.le_of_ble_eq_true rfl, Nat.le_of_ble_eq_true rfl⟩)) (fun r501 hr501 => ?_)
                      have hr501 : r501 = 18 := hr501
                      subst hr501
                      refine lv_icmp_ge (tgt := 133) hx hb dX12_key_20 (by decide) (fun c502 => ?_) (fun c502 => absurd c502 (by decide))
                      refine lv_iconst (v := -1) hx hb dX12_key_133 (by decide) ?_
                      exact W.iret (v := -1) hx hb hr (fun t ht hW => ⟨-1, rfl, Or.inr (Or.inr (Or.inr (⟨rfl, by first | omega | (have q := (kd_word (tx := tx) (n := sz1) (p := p0) (by omega)).trans ((if_neg (by rw [show eqw tx sz1 wVx p0 = false from EW1]; decide)).trans ((if_neg (by rw [show eqw tx sz1 wEd p0 = false from EW8]; decide)).trans (if_neg (by rw [show eqw tx sz1 wWo p0 = false from EW13]; decide)))); omega)⟩))), ht⟩) (fun _ h => absurd h List.not_mem_nil) dX12_key_134
                    · have c500 := mt (b_eq (rfl : Int32.toInt x1_498 = _) (show Int32.toInt 0 = 0 from rfl)).mpr c500
                      have X2 : x1_498 = 1 := i1_of hL498_1 (by omega)
                      have EW13 : eqw tx sz1 (kW 13) p0 = true := by first | exact eqw_t.mpr ⟨(hL498_2 X2).1.trans rfl, fun q hq => (hL498_2 X2).2 q (by have : (kW 13).length = 17 - 13 := rfl; omega)⟩ | (exfalso; omega)
                      refine lv_iload_n hx hb dX12_key_121 rfl (lv_at hl 1 rfl) ?_
                      exact W.iret (v := 2) hx hb hr (fun t ht hW => ⟨2, rfl, Or.inr (Or.inr (Or.inl ⟨rfl, by exact (kd_word (by omega)).trans ((if_neg (by rw [show eqw tx sz1 wVx p0 = false from EW1]; decide)).trans ((if_neg (by rw [show eqw tx sz1 wEd p0 = false from EW8]; decide)).trans (if_pos EW13)))⟩)), ht⟩) (fun _ h => absurd h List.not_mem_nil) dX12_key_122
                  · have c499 := mt (b_le (show Int32.toInt 4 = 4 from rfl) (nI_toInt (n := i_498) (by omega))).mpr c499
                    refine lv_iload hx hb dX12_key_75 (lv_at hl 4 rfl) ?_
                    refine lv_if_eq (tgt := 116) hx hb dX12_key_77 (by decide) (fun c503 => ?_) (fun c503 => ?_)
                    · have c503 := (b_eq (rfl : Int32.toInt x1_498 = _) (show Int32.toInt 0 = 0 from rfl)).mp c503
                      refine lv_iload hx hb dX12_key_116 (lv_at hl 4 rfl) ?_
                      refine lv_if_eq (tgt := 123) hx hb dX12_key_118 (by decide) (fun c504 => ?_) (fun c504 => ?_)
                      · have c504 := (b_eq (rfl : Int32.toInt x1_498 = _) (show Int32.toInt 0 = 0 from rfl)).mp c504
                        have EW13 : eqw tx sz1 (kW 13) p0 = false := hL498_3 (i0_of (by omega))
                        refine lv_iinc (v := 3) (lv' := [(1, .int 3), (0, .ref (b 0)), (2, .int 13), (3, .int 17), (4, .int x1_498), (5, .int (nI i_498))]) hx hb dX12_key_123 hl (k := 1) rfl (by decide) (by decide) rfl (fun ls hl => ?_)
                        refine lv_iload_n hx hb dX12_key_126 rfl (lv_at hl 3 rfl) ?_
                        refine lv_iconst (v := 1) hx hb dX12_key_127 (by decide) ?_
                        refine lv_iadd hx hb dX12_key_128 ?_
                        refine W.eq (g2 := F0 m 129 ls [.int 18]) rfl ?_
                        refine lv_istore_n (lv' := [(2, .int 18), (1, .int 3), (0, .ref (b 0)), (3, .int 17), (4, .int x1_498), (5, .int (nI i_498))]) hx hb dX12_key_129 rfl hl (by decide) rfl (fun ls hl => ?_)
                        refine lv_goto (tgt := 14) hx hb dX12_key_130 (by decide) ?_
                        refine lv_iload_n hx hb dX12_key_14 rfl (lv_at hl 0 rfl) ?_
                        refine va_ldcS hx hb hown hZ dX12_key_15 ?_
                        refine vp_callSi (va_Run.run (va_runV (As := []) (rest := [.int 18]) ⟨hx, hb, hml, hown, noTs⟩ (s_J0_length l adK adV 3 (by decide)) ⟨cbE 0 (wd_488 hE) (wd_129 hE) (wd_1527 hE) rfl rfl (by decide +kernel) ⟨Nat.le_of_ble_eq_true rfl, Nat.le_of_ble_eq_true rfl⟩, (wd_486 hE), (wd_487 hE)⟩ ⟨PS.blind, vk_recv hX.1 (by decide) hS, ps_pre (av := [.ref (adK 3)]) hX hS hE⟩ rfl rfl hl.1 rfl (lv_room (Nat.le_of_ble_eq_true rfl)) dX12_key_17 ⟨Nat.le_of_ble_eq_true rfl, Nat.le_of_ble_eq_true rfl⟩)) (fun r505 hr505 => ?_)
                        have hr505 : r505 = 18 := hr505
                        subst hr505
                        refine lv_icmp_ge (tgt := 133) hx hb dX12_key_20 (by decide) (fun c506 => ?_) (fun c506 => absurd c506 (by decide))
                        refine lv_iconst (v := -1) hx hb dX12_key_133 (by decide) ?_
                        exact W.iret (v := -1) hx hb hr (fun t ht hW => ⟨-1, rfl, Or.inr (Or.inr (Or.inr (⟨rfl, by first | omega | (have q := (kd_word (tx := tx) (n := sz1) (p := p0) (by omega)).trans ((if_neg (by rw [show eqw tx sz1 wVx p0 = false from EW1]; decide)).trans ((if_neg (by rw [show eqw tx sz1 wEd p0 = false from EW8]; decide)).trans (if_neg (by rw [show eqw tx sz1 wWo p0 = false from EW13]; decide)))); omega)⟩))), ht⟩) (fun _ h => absurd h List.not_mem_nil) dX12_key_134
                      · have c504 := mt (b_eq (rfl : Int32.toInt x1_498 = _) (show Int32.toInt 0 = 0 from rfl)).mpr c504
                        have X2 : x1_498 = 1 := i1_of hL498_1 (by omega)
                        have EW13 : eqw tx sz1 (kW 13) p0 = true := by first | exact eqw_t.mpr ⟨(hL498_2 X2).1.trans rfl, fun q hq => (hL498_2 X2).2 q (by have : (kW 13).length = 17 - 13 := rfl; omega)⟩ | (exfalso; omega)
                        refine lv_iload_n hx hb dX12_key_121 rfl (lv_at hl 1 rfl) ?_
                        exact W.iret (v := 2) hx hb hr (fun t ht hW => ⟨2, rfl, Or.inr (Or.inr (Or.inl ⟨rfl, by exact (kd_word (by omega)).trans ((if_neg (by rw [show eqw tx sz1 wVx p0 = false from EW1]; decide)).trans ((if_neg (by rw [show eqw tx sz1 wEd p0 = false from EW8]; decide)).trans (if_pos EW13)))⟩)), ht⟩) (fun _ h => absurd h List.not_mem_nil) dX12_key_122
                    · have c503 := mt (b_eq (rfl : Int32.toInt x1_498 = _) (show Int32.toInt 0 = 0 from rfl)).mpr c503
                      have X1 : x1_498 = 1 := i1_of hL498_1 (by omega)
                      refine va_ldcS hx hb hown hZ dX12_key_80 ?_
                      refine lv_iload_n hx hb dX12_key_82 rfl (lv_at hl 2 rfl) ?_
                      refine lv_iload hx hb dX12_key_83 (lv_at hl 5 rfl) ?_
                      refine lv_iadd hx hb dX12_key_85 ?_
                      refine W.eq (g2 := F0 m 86 ls [.int (nI (13 + i_498)), .ref (adK 3)]) (congrArg (fun z : Int32 => F0 m 86 ls (.int z :: [.ref (adK 3)])) (nI_add 13 i_498)) ?_
                      refine vp_callSi (va_Run.run (va_runV (As := [.int (nI (13 + i_498))]) (rest := []) ⟨hx, hb, hml, hown, noTs⟩ (s_J0_charAt l adK adV 3 (13 + i_498) (by decide) (by show _ < 18; omega)) ⟨cbE 1 (wd_498 hE) (wd_129 hE) (wd_1528 hE) rfl rfl (by decide +kernel) ⟨Nat.le_of_ble_eq_true rfl, Nat.le_of_ble_eq_true rfl⟩, (wd_496 hE), (wd_497 hE)⟩ ⟨PS.blind, vk_recv hX.1 (by decide) hS, ps_pre (av := [.ref (adK 3), .int (nI (13 + i_498))]) hX hS hE⟩ rfl rfl hl.1 rfl (lv_room (Nat.le_of_ble_eq_true rfl)) dX12_key_86 ⟨Nat.le_of_ble_eq_true rfl, Nat.le_of_ble_eq_true rfl⟩)) (fun r507 hr507 => ?_)
                      refine lv_aload_n hx hb dX12_key_89 rfl (lv_at hl 0 rfl) ?_
                      refine lv_aload_n hx hb dX12_key_90 rfl (lv_at hl 0 rfl) ?_
                      refine r_get (v := .int (nI p0)) hx hb (ly_X12 hE) hown hK hP rfl 13 (by decide) (wd_1394 hE) (fun _ h9 => h9) (congrArg (fun z : Int32 => some (Value.int z)) te13_2) dX12_key_91 ?_
                      refine lv_iload hx hb dX12_key_94 (lv_at hl 5 rfl) ?_
                      refine lv_iadd hx hb dX12_key_96 ?_
                      refine W.eq (g2 := F0 m 97 ls [.int (nI (p0 + i_498)), .ref (b 0), .int r507]) (congrArg (fun z : Int32 => F0 m 97 ls (.int z :: [.ref (b 0), .int r507])) (nI_add p0 i_498)) ?_
                      refine vp_callSi (va_Run.run (va_runV (As := [.int (nI (p0 + i_498))]) (rest := [.int r507]) ⟨hx, hb, hml, hown, noTs⟩ (r_X12_byteAt l dC dI s.heap.size cs b u tx hAc16 (p0 + i_498) sz1 hF11 (by first | assumption | omega | rfl | (congr 1; omega)) (by first | assumption | omega | rfl | (congr 1; omega))) ⟨cbE 1 (wd_1510 hE) (wd_126 hE) (wd_1507 hE) rfl rfl (by decide +kernel) ⟨Nat.le_of_ble_eq_true rfl, Nat.le_of_ble_eq_true rfl⟩, (wd_1509 hE), (wd_57 hE)⟩ ⟨PR.blind, r_recv hK hP rfl, (r_pre (av := [.ref (b 0), .int (nI (p0 + i_498))]) hK hP hJ hE)⟩ rfl rfl hl.1 rfl (lv_room (Nat.le_of_ble_eq_true rfl)) dX12_key_97 ⟨Nat.le_of_ble_eq_true rfl, Nat.le_of_ble_eq_true rfl⟩)) (fun r508 hr508 => ?_)
                      subst hr508
                      have htf508 := bA_f tx sz1 (p0 + i_498)
                      have HRC := hr507
                      have RCH := ch_13 i_498 (by omega)
                      refine lv_icmp_ne (tgt := 107) hx hb dX12_key_100 (by decide) (fun c509 => ?_) (fun c509 => ?_)
                      · have c509 := mt (b_eq (rfl : Int32.toInt r507 = _) (rfl : Int32.toInt (bA tx sz1 (p0 + i_498)) = _)).mpr c509
                        have NE : bA tx sz1 (p0 + i_498) ≠ (kW 13).getD i_498 0 := by rw [← RCH, ← HRC]; intro e; have := congrArg Int32.toInt e; omega
                        refine lv_iconst (v := 0) hx hb dX12_key_107 (by decide) ?_
                        refine lv_istore (lv' := [(4, .int 0), (0, .ref (b 0)), (1, .int 2), (2, .int 13), (3, .int 17), (5, .int (nI i_498))]) hx hb dX12_key_108 hl (by decide) rfl (fun ls hl => ?_)
                        refine lv_iinc (v := nI (i_498 + 1)) (lv' := [(5, .int (nI (i_498 + 1))), (4, .int 0), (0, .ref (b 0)), (1, .int 2), (2, .int 13), (3, .int 17)]) hx hb dX12_key_110 hl (k := 5) rfl (nI_1 i_498) (by decide) rfl (fun ls hl => ?_)
                        refine lv_goto (tgt := 67) hx hb dX12_key_113 (by decide) ?_
                        exact ih498 _ _ (by omega) ⟨(i_498 + 1), 0, rfl, (by first | assumption | omega | rfl | (congr 1; omega)), (by first | exact Or.inl rfl | exact Or.inr rfl), (by first | (intro _; exact ⟨(hL498_2 X1).1, fun q hq => by rcases Nat.lt_or_ge q i_498 with h | h; (exact (hL498_2 X1).2 q h); (obtain rfl : q = i_498 := by omega); exact EQ⟩) | (intro h; exact absurd h (by decide))), (by first | (intro h; exact absurd h (by decide)) | (intro _; exact eqw_at (w := kW 13) (by have : (kW 13).length = 17 - 13 := rfl; omega) NE)), lv_sub hl [2, 3, 4, 5, 1, 0] rfl⟩
                      · have c509 := (b_eq (rfl : Int32.toInt r507 = _) (rfl : Int32.toInt (bA tx sz1 (p0 + i_498)) = _)).mp c509
                        have EQ : bA tx sz1 (p0 + i_498) = (kW 13).getD i_498 0 := by rw [← RCH, ← HRC]; exact Int32.toInt_inj.mp (by omega)
                        refine lv_iconst (v := 1) hx hb dX12_key_103 (by decide) ?_
                        refine lv_goto (tgt := 108) hx hb dX12_key_104 (by decide) ?_
                        refine lv_istore (lv' := [(4, .int 1), (0, .ref (b 0)), (1, .int 2), (2, .int 13), (3, .int 17), (5, .int (nI i_498))]) hx hb dX12_key_108 hl (by decide) rfl (fun ls hl => ?_)
                        refine lv_iinc (v := nI (i_498 + 1)) (lv' := [(5, .int (nI (i_498 + 1))), (4, .int 1), (0, .ref (b 0)), (1, .int 2), (2, .int 13), (3, .int 17)]) hx hb dX12_key_110 hl (k := 5) rfl (nI_1 i_498) (by decide) rfl (fun ls hl => ?_)
                        refine lv_goto (tgt := 67) hx hb dX12_key_113 (by decide) ?_
                        exact ih498 _ _ (by omega) ⟨(i_498 + 1), 1, rfl, (by first | assumption | omega | rfl | (congr 1; omega)), (by first | exact Or.inl rfl | exact Or.inr rfl), (by first | (intro _; exact ⟨(hL498_2 X1).1, fun q hq => by rcases Nat.lt_or_ge q i_498 with h | h; (exact (hL498_2 X1).2 q h); (obtain rfl : q = i_498 := by omega); exact EQ⟩) | (intro h; exact absurd h (by decide))), (by first | (intro h; exact absurd h (by decide)) | (intro _; exact eqw_at (w := kW 13) (by have : (kW 13).length = 17 - 13 := rfl; omega) NE)), lv_sub hl [2, 3, 4, 5, 1, 0] rfl⟩
                · have c497 := (b_eq (show Int32.toInt 4 = 4 from rfl) (nI_toInt (n := (tnd tx sz1 p0) - p0) (by omega))).mp c497
                  refine lv_iconst (v := 1) hx hb dX12_key_57 (by decide) ?_
                  refine lv_goto (tgt := 62) hx hb dX12_key_58 (by decide) ?_
                  refine lv_istore (lv' := [(4, .int 1), (3, .int 17), (2, .int 13), (1, .int 2), (0, .ref (b 0)), (5, .int (nI i_482))]) hx hb dX12_key_62 hl (by decide) rfl (fun ls hl => ?_)
                  refine lv_iconst (v := 0) hx hb dX12_key_64 (by decide) ?_
                  refine lv_istore (lv' := [(5, .int 0), (4, .int 1), (3, .int 17), (2, .int 13), (1, .int 2), (0, .ref (b 0))]) hx hb dX12_key_65 hl (by decide) rfl (fun ls hl => ?_)
                  refine r_indP (I := fun n ls => ∃ (i_510 : Nat) (x1_510 : Int32), n = 17 - 13 - i_510 ∧ (i_510 ≤ 17 - 13) ∧ (x1_510 = 0 ∨ x1_510 = 1) ∧ (x1_510 = 1 → tnd tx sz1 p0 - p0 = 17 - 13 ∧ ∀ q, q < i_510 → bA tx sz1 (p0 + q) = (kW 13).getD q 0) ∧ (x1_510 = 0 → eqw tx sz1 (kW 13) p0 = false) ∧ lv_has ls 6 [(0, .ref (b 0)), (1, .int 2), (2, .int 13), (3, .int 17), (4, .int x1_510), (5, .int (nI i_510))]) (fun n ls hI ih510 => ?_) _ _ ⟨0, 1, rfl, (by first | assumption | omega | rfl | (congr 1; omega)), (by first | exact Or.inl rfl | exact Or.inr rfl), (by first | (intro _; exact ⟨by omega, fun q hq => absurd hq (by omega)⟩) | (intro h; exact absurd h (by decide))), (by first | (intro h; exact absurd h (by decide)) | (intro _; exact eqw_len (w := kW 13) (l := 17 - 13) rfl (by omega))), lv_sub hl [5, 4, 3, 2, 1, 0] rfl⟩
                  obtain ⟨i_510, x1_510, hmu510, hL510_0, hL510_1, hL510_2, hL510_3, hl⟩ := hI
                  subst hmu510
                  refine lv_iload hx hb dX12_key_67 (lv_at hl 5 rfl) ?_
                  refine lv_iload_n hx hb dX12_key_69 rfl (lv_at hl 3 rfl) ?_
                  refine lv_iload_n hx hb dX12_key_70 rfl (lv_at hl 2 rfl) ?_
                  refine lv_isub hx hb dX12_key_71 ?_
                  refine W.eq (g2 := F0 m 72 ls [.int 4, .int (nI i_510)]) rfl ?_
                  refine lv_icmp_ge (tgt := 116) hx hb dX12_key_72 (by decide) (fun c511 => ?_) (fun c511 => ?_)
                  · have c511 := (b_le (show Int32.toInt 4 = 4 from rfl) (nI_toInt (n := i_510) (by omega))).mp c511
                    refine lv_iload hx hb dX12_key_116 (lv_at hl 4 rfl) ?_
                    refine lv_if_eq (tgt := 123) hx hb dX12_key_118 (by decide) (fun c512 => ?_) (fun c512 => ?_)
                    · have c512 := (b_eq (rfl : Int32.toInt x1_510 = _) (show Int32.toInt 0 = 0 from rfl)).mp c512
                      have EW13 : eqw tx sz1 (kW 13) p0 = false := hL510_3 (i0_of (by omega))
                      refine lv_iinc (v := 3) (lv' := [(1, .int 3), (0, .ref (b 0)), (2, .int 13), (3, .int 17), (4, .int x1_510), (5, .int (nI i_510))]) hx hb dX12_key_123 hl (k := 1) rfl (by decide) (by decide) rfl (fun ls hl => ?_)
                      refine lv_iload_n hx hb dX12_key_126 rfl (lv_at hl 3 rfl) ?_
                      refine lv_iconst (v := 1) hx hb dX12_key_127 (by decide) ?_
                      refine lv_iadd hx hb dX12_key_128 ?_
                      refine W.eq (g2 := F0 m 129 ls [.int 18]) rfl ?_
                      refine lv_istore_n (lv' := [(2, .int 18), (1, .int 3), (0, .ref (b 0)), (3, .int 17), (4, .int x1_510), (5, .int (nI i_510))]) hx hb dX12_key_129 rfl hl (by decide) rfl (fun ls hl => ?_)
                      refine lv_goto (tgt := 14) hx hb dX12_key_130 (by decide) ?_
                      refine lv_iload_n hx hb dX12_key_14 rfl (lv_at hl 0 rfl) ?_
                      refine va_ldcS hx hb hown hZ dX12_key_15 ?_
                      refine vp_callSi (va_Run.run (va_runV (As := []) (rest := [.int 18]) ⟨hx, hb, hml, hown, noTs⟩ (s_J0_length l adK adV 3 (by decide)) ⟨cbE 0 (wd_488 hE) (wd_129 hE) (wd_1527 hE) rfl rfl (by decide +kernel) ⟨Nat.le_of_ble_eq_true rfl, Nat.le_of_ble_eq_true rfl⟩, (wd_486 hE), (wd_487 hE)⟩ ⟨PS.blind, vk_recv hX.1 (by decide) hS, ps_pre (av := [.ref (adK 3)]) hX hS hE⟩ rfl rfl hl.1 rfl (lv_room (Nat.le_of_ble_eq_true rfl)) dX12_key_17 ⟨Nat.le_of_ble_eq_true rfl, Nat.le_of_ble_eq_true rfl⟩)) (fun r513 hr513 => ?_)
                      have hr513 : r513 = 18 := hr513
                      subst hr513
                      refine lv_icmp_ge (tgt := 133) hx hb dX12_key_20 (by decide) (fun c514 => ?_) (fun c514 => absurd c514 (by decide))
                      refine lv_iconst (v := -1) hx hb dX12_key_133 (by decide) ?_
                      exact W.iret (v := -1) hx hb hr (fun t ht hW => ⟨-1, rfl, Or.inr (Or.inr (Or.inr (⟨rfl, by first | omega | (have q := (kd_word (tx := tx) (n := sz1) (p := p0) (by omega)).trans ((if_neg (by rw [show eqw tx sz1 wVx p0 = false from EW1]; decide)).trans ((if_neg (by rw [show eqw tx sz1 wEd p0 = false from EW8]; decide)).trans (if_neg (by rw [show eqw tx sz1 wWo p0 = false from EW13]; decide)))); omega)⟩))), ht⟩) (fun _ h => absurd h List.not_mem_nil) dX12_key_134
                    · have c512 := mt (b_eq (rfl : Int32.toInt x1_510 = _) (show Int32.toInt 0 = 0 from rfl)).mpr c512
                      have X2 : x1_510 = 1 := i1_of hL510_1 (by omega)
                      have EW13 : eqw tx sz1 (kW 13) p0 = true := by first | exact eqw_t.mpr ⟨(hL510_2 X2).1.trans rfl, fun q hq => (hL510_2 X2).2 q (by have : (kW 13).length = 17 - 13 := rfl; omega)⟩ | (exfalso; omega)
                      refine lv_iload_n hx hb dX12_key_121 rfl (lv_at hl 1 rfl) ?_
                      exact W.iret (v := 2) hx hb hr (fun t ht hW => ⟨2, rfl, Or.inr (Or.inr (Or.inl ⟨rfl, by exact (kd_word (by omega)).trans ((if_neg (by rw [show eqw tx sz1 wVx p0 = false from EW1]; decide)).trans ((if_neg (by rw [show eqw tx sz1 wEd p0 = false from EW8]; decide)).trans (if_pos EW13)))⟩)), ht⟩) (fun _ h => absurd h List.not_mem_nil) dX12_key_122
                  · have c511 := mt (b_le (show Int32.toInt 4 = 4 from rfl) (nI_toInt (n := i_510) (by omega))).mpr c511
                    refine lv_iload hx hb dX12_key_75 (lv_at hl 4 rfl) ?_
                    refine lv_if_eq (tgt := 116) hx hb dX12_key_77 (by decide) (fun c515 => ?_) (fun c515 => ?_)
                    · have c515 := (b_eq (rfl : Int32.toInt x1_510 = _) (show Int32.toInt 0 = 0 from rfl)).mp c515
                      refine lv_iload hx hb dX12_key_116 (lv_at hl 4 rfl) ?_
                      refine lv_if_eq (tgt := 123) hx hb dX12_key_118 (by decide) (fun c516 => ?_) (fun c516 => ?_)
                      · have c516 := (b_eq (rfl : Int32.toInt x1_510 = _) (show Int32.toInt 0 = 0 from rfl)).mp c516
                        have EW13 : eqw tx sz1 (kW 13) p0 = false := hL510_3 (i0_of (by omega))
                        refine lv_iinc (v := 3) (lv' := [(1, .int 3), (0, .ref (b 0)), (2, .int 13), (3, .int 17), (4, .int x1_510), (5, .int (nI i_510))]) hx hb dX12_key_123 hl (k := 1) rfl (by decide) (by decide) rfl (fun ls hl => ?_)
                        refine lv_iload_n hx hb dX12_key_126 rfl (lv_at hl 3 rfl) ?_
                        refine lv_iconst (v := 1) hx hb dX12_key_127 (by decide) ?_
                        refine lv_iadd hx hb dX12_key_128 ?_
                        refine W.eq (g2 := F0 m 129 ls [.int 18]) rfl ?_
                        refine lv_istore_n (lv' := [(2, .int 18), (1, .int 3), (0, .ref (b 0)), (3, .int 17), (4, .int x1_510), (5, .int (nI i_510))]) hx hb dX12_key_129 rfl hl (by decide) rfl (fun ls hl => ?_)
                        refine lv_goto (tgt := 14) hx hb dX12_key_130 (by decide) ?_
                        refine lv_iload_n hx hb dX12_key_14 rfl (lv_at hl 0 rfl) ?_
                        refine va_ldcS hx hb hown hZ dX12_key_15 ?_
                        refine vp_callSi (va_Run.run (va_runV (As := []) (rest := [.int 18]) ⟨hx, hb, hml, hown, noTs⟩ (s_J0_length l adK adV 3 (by decide)) ⟨cbE 0 (wd_488 hE) (wd_129 hE) (wd_1527 hE) rfl rfl (by decide +kernel) ⟨Nat.le_of_ble_eq_true rfl, Nat.le_of_ble_eq_true rfl⟩, (wd_486 hE), (wd_487 hE)⟩ ⟨PS.blind, vk_recv hX.1 (by decide) hS, ps_pre (av := [.ref (adK 3)]) hX hS hE⟩ rfl rfl hl.1 rfl (lv_room (Nat.le_of_ble_eq_true rfl)) dX12_key_17 ⟨Nat.le_of_ble_eq_true rfl, Nat.le_of_ble_eq_true rfl⟩)) (fun r517 hr517 => ?_)
                        have hr517 : r517 = 18 := hr517
                        subst hr517
                        refine lv_icmp_ge (tgt := 133) hx hb dX12_key_20 (by decide) (fun c518 => ?_) (fun c518 => absurd c518 (by decide))
                        refine lv_iconst (v := -1) hx hb dX12_key_133 (by decide) ?_
                        exact W.iret (v := -1) hx hb hr (fun t ht hW => ⟨-1, rfl, Or.inr (Or.inr (Or.inr (⟨rfl, by first | omega | (have q := (kd_word (tx := tx) (n := sz1) (p := p0) (by omega)).trans ((if_neg (by rw [show eqw tx sz1 wVx p0 = false from EW1]; decide)).trans ((if_neg (by rw [show eqw tx sz1 wEd p0 = false from EW8]; decide)).trans (if_neg (by rw [show eqw tx sz1 wWo p0 = false from EW13]; decide)))); omega)⟩))), ht⟩) (fun _ h => absurd h List.not_mem_nil) dX12_key_134
                      · have c516 := mt (b_eq (rfl : Int32.toInt x1_510 = _) (show Int32.toInt 0 = 0 from rfl)).mpr c516
                        have X2 : x1_510 = 1 := i1_of hL510_1 (by omega)
                        have EW13 : eqw tx sz1 (kW 13) p0 = true := by first | exact eqw_t.mpr ⟨(hL510_2 X2).1.trans rfl, fun q hq => (hL510_2 X2).2 q (by have : (kW 13).length = 17 - 13 := rfl; omega)⟩ | (exfalso; omega)
                        refine lv_iload_n hx hb dX12_key_121 rfl (lv_at hl 1 rfl) ?_
                        exact W.iret (v := 2) hx hb hr (fun t ht hW => ⟨2, rfl, Or.inr (Or.inr (Or.inl ⟨rfl, by exact (kd_word (by omega)).trans ((if_neg (by rw [show eqw tx sz1 wVx p0 = false from EW1]; decide)).trans ((if_neg (by rw [show eqw tx sz1 wEd p0 = false from EW8]; decide)).trans (if_pos EW13)))⟩)), ht⟩) (fun _ h => absurd h List.not_mem_nil) dX12_key_122
                    · have c515 := mt (b_eq (rfl : Int32.toInt x1_510 = _) (show Int32.toInt 0 = 0 from rfl)).mpr c515
                      have X1 : x1_510 = 1 := i1_of hL510_1 (by omega)
                      refine va_ldcS hx hb hown hZ dX12_key_80 ?_
                      refine lv_iload_n hx hb dX12_key_82 rfl (lv_at hl 2 rfl) ?_
                      refine lv_iload hx hb dX12_key_83 (lv_at hl 5 rfl) ?_
                      refine lv_iadd hx hb dX12_key_85 ?_
                      refine W.eq (g2 := F0 m 86 ls [.int (nI (13 + i_510)), .ref (adK 3)]) (congrArg (fun z : Int32 => F0 m 86 ls (.int z :: [.ref (adK 3)])) (nI_add 13 i_510)) ?_
                      refine vp_callSi (va_Run.run (va_runV (As := [.int (nI (13 + i_510))]) (rest := []) ⟨hx, hb, hml, hown, noTs⟩ (s_J0_charAt l adK adV 3 (13 + i_510) (by decide) (by show _ < 18; omega)) ⟨cbE 1 (wd_498 hE) (wd_129 hE) (wd_1528 hE) rfl rfl (by decide +kernel) ⟨Nat.le_of_ble_eq_true rfl, Nat.le_of_ble_eq_true rfl⟩, (wd_496 hE), (wd_497 hE)⟩ ⟨PS.blind, vk_recv hX.1 (by decide) hS, ps_pre (av := [.ref (adK 3), .int (nI (13 + i_510))]) hX hS hE⟩ rfl rfl hl.1 rfl (lv_room (Nat.le_of_ble_eq_true rfl)) dX12_key_86 ⟨Nat.le_of_ble_eq_true rfl, Nat.le_of_ble_eq_true rfl⟩)) (fun r519 hr519 => ?_)
                      refine lv_aload_n hx hb dX12_key_89 rfl (lv_at hl 0 rfl) ?_
                      refine lv_aload_n hx hb dX12_key_90 rfl (lv_at hl 0 rfl) ?_
                      refine r_get (v := .int (nI p0)) hx hb (ly_X12 hE) hown hK hP rfl 13 (by decide) (wd_1394 hE) (fun _ h9 => h9) (congrArg (fun z : Int32 => some (Value.int z)) te13_2) dX12_key_91 ?_
                      refine lv_iload hx hb dX12_key_94 (lv_at hl 5 rfl) ?_
                      refine lv_iadd hx hb dX12_key_96 ?_
                      refine W.eq (g2 := F0 m 97 ls [.int (nI (p0 + i_510)), .ref (b 0), .int r519]) (congrArg (fun z : Int32 => F0 m 97 ls (.int z :: [.ref (b 0), .int r519])) (nI_add p0 i_510)) ?_
                      refine vp_callSi (va_Run.run (va_runV (As := [.int (nI (p0 + i_510))]) (rest := [.int r519]) ⟨hx, hb, hml, hown, noTs⟩ (r_X12_byteAt l dC dI s.heap.size cs b u tx hAc16 (p0 + i_510) sz1 hF11 (by first | assumption | omega | rfl | (congr 1; omega)) (by first | assumption | omega | rfl | (congr 1; omega))) ⟨cbE 1 (wd_1510 hE) (wd_126 hE) (wd_1507 hE) rfl rfl (by decide +kernel) ⟨Nat.le_of_ble_eq_true rfl, Nat.le_of_ble_eq_true rfl⟩, (wd_1509 hE), (wd_57 hE)⟩ ⟨PR.blind, r_recv hK hP rfl, (r_pre (av := [.ref (b 0), .int (nI (p0 + i_510))]) hK hP hJ hE)⟩ rfl rfl hl.1 rfl (lv_room (Nat.le_of_ble_eq_true rfl)) dX12_key_97 ⟨Nat.le_of_ble_eq_true rfl, Nat.le_of_ble_eq_true rfl⟩)) (fun r520 hr520 => ?_)
                      subst hr520
                      have htf520 := bA_f tx sz1 (p0 + i_510)
                      have HRC := hr519
                      have RCH := ch_13 i_510 (by omega)
                      refine lv_icmp_ne (tgt := 107) hx hb dX12_key_100 (by decide) (fun c521 => ?_) (fun c521 => ?_)
                      · have c521 := mt (b_eq (rfl : Int32.toInt r519 = _) (rfl : Int32.toInt (bA tx sz1 (p0 + i_510)) = _)).mpr c521
                        have NE : bA tx sz1 (p0 + i_510) ≠ (kW 13).getD i_510 0 := by rw [← RCH, ← HRC]; intro e; have := congrArg Int32.toInt e; omega
                        refine lv_iconst (v := 0) hx hb dX12_key_107 (by decide) ?_
                        refine lv_istore (lv' := [(4, .int 0), (0, .ref (b 0)), (1, .int 2), (2, .int 13), (3, .int 17), (5, .int (nI i_510))]) hx hb dX12_key_108 hl (by decide) rfl (fun ls hl => ?_)
                        refine lv_iinc (v := nI (i_510 + 1)) (lv' := [(5, .int (nI (i_510 + 1))), (4, .int 0), (0, .ref (b 0)), (1, .int 2), (2, .int 13), (3, .int 17)]) hx hb dX12_key_110 hl (k := 5) rfl (nI_1 i_510) (by decide) rfl (fun ls hl => ?_)
                        refine lv_goto (tgt := 67) hx hb dX12_key_113 (by decide) ?_
                        exact ih510 _ _ (by omega) ⟨(i_510 + 1), 0, rfl, (by first | assumption | omega | rfl | (congr 1; omega)), (by first | exact Or.inl rfl | exact Or.inr rfl), (by first | (intro _; exact ⟨(hL510_2 X1).1, fun q hq => by rcases Nat.lt_or_ge q i_510 with h | h; (exact (hL510_2 X1).2 q h); (obtain rfl : q = i_510 := by omega); exact EQ⟩) | (intro h; exact absurd h (by decide))), (by first | (intro h; exact absurd h (by decide)) | (intro _; exact eqw_at (w := kW 13) (by have : (kW 13).length = 17 - 13 := rfl; omega) NE)), lv_sub hl [2, 3, 4, 5, 1, 0] rfl⟩
                      · have c521 := (b_eq (rfl : Int32.toInt r519 = _) (rfl : Int32.toInt (bA tx sz1 (p0 + i_510)) = _)).mp c521
                        have EQ : bA tx sz1 (p0 + i_510) = (kW 13).getD i_510 0 := by rw [← RCH, ← HRC]; exact Int32.toInt_inj.mp (by omega)
                        refine lv_iconst (v := 1) hx hb dX12_key_103 (by decide) ?_
                        refine lv_goto (tgt := 108) hx hb dX12_key_104 (by decide) ?_
                        refine lv_istore (lv' := [(4, .int 1), (0, .ref (b 0)), (1, .int 2), (2, .int 13), (3, .int 17), (5, .int (nI i_510))]) hx hb dX12_key_108 hl (by decide) rfl (fun ls hl => ?_)
                        refine lv_iinc (v := nI (i_510 + 1)) (lv' := [(5, .int (nI (i_510 + 1))), (4, .int 1), (0, .ref (b 0)), (1, .int 2), (2, .int 13), (3, .int 17)]) hx hb dX12_key_110 hl (k := 5) rfl (nI_1 i_510) (by decide) rfl (fun ls hl => ?_)
                        refine lv_goto (tgt := 67) hx hb dX12_key_113 (by decide) ?_
                        exact ih510 _ _ (by omega) ⟨(i_510 + 1), 1, rfl, (by first | assumption | omega | rfl | (congr 1; omega)), (by first | exact Or.inl rfl | exact Or.inr rfl), (by first | (intro _; exact ⟨(hL510_2 X1).1, fun q hq => by rcases Nat.lt_or_ge q i_510 with h | h; (exact (hL510_2 X1).2 q h); (obtain rfl : q = i_510 := by omega); exact EQ⟩) | (intro h; exact absurd h (by decide))), (by first | (intro h; exact absurd h (by decide)) | (intro _; exact eqw_at (w := kW 13) (by have : (kW 13).length = 17 - 13 := rfl; omega) NE)), lv_sub hl [2, 3, 4, 5, 1, 0] rfl⟩
              · have c484 := mt (b_eq (rfl : Int32.toInt x1_482 = _) (show Int32.toInt 0 = 0 from rfl)).mpr c484
                have X2 : x1_482 = 1 := i1_of hL482_1 (by omega)
                have EW8 : eqw tx sz1 (kW 8) p0 = true := by first | exact eqw_t.mpr ⟨(hL482_2 X2).1.trans rfl, fun q hq => (hL482_2 X2).2 q (by have : (kW 8).length = 12 - 8 := rfl; omega)⟩ | (exfalso; omega)
                refine lv_iload_n hx hb dX12_key_121 rfl (lv_at hl 1 rfl) ?_
                exact W.iret (v := 1) hx hb hr (fun t ht hW => ⟨1, rfl, Or.inr (Or.inl ⟨rfl, by exact (kd_word (by omega)).trans ((if_neg (by rw [show eqw tx sz1 wVx p0 = false from EW1]; decide)).trans (if_pos EW8))⟩), ht⟩) (fun _ h => absurd h List.not_mem_nil) dX12_key_122
            · have c483 := mt (b_le (show Int32.toInt 4 = 4 from rfl) (nI_toInt (n := i_482) (by omega))).mpr c483
              refine lv_iload hx hb dX12_key_75 (lv_at hl 4 rfl) ?_
              refine lv_if_eq (tgt := 116) hx hb dX12_key_77 (by decide) (fun c522 => ?_) (fun c522 => ?_)
              · have c522 := (b_eq (rfl : Int32.toInt x1_482 = _) (show Int32.toInt 0 = 0 from rfl)).mp c522
                refine lv_iload hx hb dX12_key_116 (lv_at hl 4 rfl) ?_
                refine lv_if_eq (tgt := 123) hx hb dX12_key_118 (by decide) (fun c523 => ?_) (fun c523 => ?_)
                · have c523 := (b_eq (rfl : Int32.toInt x1_482 = _) (show Int32.toInt 0 = 0 from rfl)).mp c523
                  have EW8 : eqw tx sz1 (kW 8) p0 = false := hL482_3 (i0_of (by omega))
                  refine lv_iinc (v := 2) (lv' := [(1, .int 2), (0, .ref (b 0)), (2, .int 8), (3, .int 12), (4, .int x1_482), (5, .int (nI i_482))]) hx hb dX12_key_123 hl (k := 1) rfl (by decide) (by decide) rfl (fun ls hl => ?_)
                  refine lv_iload_n hx hb dX12_key_126 rfl (lv_at hl 3 rfl) ?_
                  refine lv_iconst (v := 1) hx hb dX12_key_127 (by decide) ?_
                  refine lv_iadd hx hb dX12_key_128 ?_
                  refine W.eq (g2 := F0 m 129 ls [.int 13]) rfl ?_
                  refine lv_istore_n (lv' := [(2, .int 13), (1, .int 2), (0, .ref (b 0)), (3, .int 12), (4, .int x1_482), (5, .int (nI i_482))]) hx hb dX12_key_129 rfl hl (by decide) rfl (fun ls hl => ?_)
                  refine lv_goto (tgt := 14) hx hb dX12_key_130 (by decide) ?_
                  refine lv_iload_n hx hb dX12_key_14 rfl (lv_at hl 0 rfl) ?_
                  refine va_ldcS hx hb hown hZ dX12_key_15 ?_
                  refine vp_callSi (va_Run.run (va_runV (As := []) (rest := [.int 13]) ⟨hx, hb, hml, hown, noTs⟩ (s_J0_length l adK adV 3 (by decide)) ⟨cbE 0 (wd_488 hE) (wd_129 hE) (wd_1527 hE) rfl rfl (by decide +kernel) ⟨Nat.le_of_ble_eq_true rfl, Nat.le_of_ble_eq_true rfl⟩, (wd_486 hE), (wd_487 hE)⟩ ⟨PS.blind, vk_recv hX.1 (by decide) hS, ps_pre (av := [.ref (adK 3)]) hX hS hE⟩ rfl rfl hl.1 rfl (lv_room (Nat.le_of_ble_eq_true rfl)) dX12_key_17 ⟨Nat.le_of_ble_eq_true rfl, Nat.le_of_ble_eq_true rfl⟩)) (fun r524 hr524 => ?_)
                  have hr524 : r524 = 18 := hr524
                  subst hr524
                  refine lv_icmp_ge (tgt := 133) hx hb dX12_key_20 (by decide) (fun c525 => absurd c525 (by decide)) (fun c525 => ?_)
                  refine lv_iload_n hx hb dX12_key_23 rfl (lv_at hl 0 rfl) ?_
                  refine lv_istore_n (lv' := [(3, .int 13), (2, .int 13), (1, .int 2), (0, .ref (b 0)), (4, .int x1_482), (5, .int (nI i_482))]) hx hb dX12_key_24 rfl hl (by decide) rfl (fun ls hl => ?_)
                  refine va_ldcS hx hb hown hZ dX12_key_25 ?_
                  refine lv_iload_n hx hb dX12_key_27 rfl (lv_at hl 0 rfl) ?_
                  refine vp_callSi (va_Run.run (va_runV (As := [.int (nI 13)]) (rest := []) ⟨hx, hb, hml, hown, noTs⟩ (s_J0_charAt l adK adV 3 13 (by decide) (by show _ < 18; omega)) ⟨cbE 1 (wd_498 hE) (wd_129 hE) (wd_1528 hE) rfl rfl (by decide +kernel) ⟨Nat.le_of_ble_eq_true rfl, Nat.le_of_ble_eq_true rfl⟩, (wd_496 hE), (wd_497 hE)⟩ ⟨PS.blind, vk_recv hX.1 (by decide) hS, ps_pre (av := [.ref (adK 3), .int (nI 13)]) hX hS hE⟩ rfl rfl hl.1 rfl (lv_room (Nat.le_of_ble_eq_true rfl)) dX12_key_28 ⟨Nat.le_of_ble_eq_true rfl, Nat.le_of_ble_eq_true rfl⟩)) (fun r526 hr526 => ?_)
                  have hr526 : r526 = 119 := hr526.trans (by decide)
                  subst hr526
                  refine lv_bipush (v := 32) hx hb dX12_key_31 (by decide) ?_
                  refine lv_icmp_eq (tgt := 42) hx hb dX12_key_33 (by decide) (fun c527 => absurd c527 (by decide)) (fun c527 => ?_)
                  refine lv_iinc (v := 14) (lv' := [(3, .int 14), (2, .int 13), (1, .int 2), (0, .ref (b 0)), (4, .int x1_482), (5, .int (nI i_482))]) hx hb dX12_key_36 hl (k := 0) rfl (by decide) (by decide) rfl (fun ls hl => ?_)
                  refine lv_goto (tgt := 25) hx hb dX12_key_39 (by decide) ?_
                  refine va_ldcS hx hb hown hZ dX12_key_25 ?_
                  refine lv_iload_n hx hb dX12_key_27 rfl (lv_at hl 0 rfl) ?_
                  refine vp_callSi (va_Run.run (va_runV (As := [.int (nI 14)]) (rest := []) ⟨hx, hb, hml, hown, noTs⟩ (s_J0_charAt l adK adV 3 14 (by decide) (by show _ < 18; omega)) ⟨cbE 1 (wd_498 hE) (wd_129 hE) (wd_1528 hE) rfl rfl (by decide +kernel) ⟨Nat.le_of_ble_eq_true rfl, Nat.le_of_ble_eq_true rfl⟩, (wd_496 hE), (wd_497 hE)⟩ ⟨PS.blind, vk_recv hX.1 (by decide) hS, ps_pre (av := [.ref (adK 3), .int (nI 14)]) hX hS hE⟩ rfl rfl hl.1 rfl (lv_room (Nat.le_of_ble_eq_true rfl)) dX12_key_28 ⟨Nat.le_of_ble_eq_true rfl, Nat.le_of_ble_eq_true rfl⟩)) (fun r528 hr528 => ?_)
                  have hr528 : r528 = 111 := hr528.trans (by decide)
                  subst hr528
                  refine lv_bipush (v := 32) hx hb dX12_key_31 (by decide) ?_
                  refine lv_icmp_eq (tgt := 42) hx hb dX12_key_33 (by decide) (fun c529 => absurd c529 (by decide)) (fun c529 => ?_)
                  refine lv_iinc (v := 15) (lv' := [(3, .int 15), (2, .int 13), (1, .int 2), (0, .ref (b 0)), (4, .int x1_482), (5, .int (nI i_482))]) hx hb dX12_key_36 hl (k := 0) rfl (by decide) (by decide) rfl (fun ls hl => ?_)
                  refine lv_goto (tgt := 25) hx hb dX12_key_39 (by decide) ?_
                  refine va_ldcS hx hb hown hZ dX12_key_25 ?_
                  refine lv_iload_n hx hb dX12_key_27 rfl (lv_at hl 0 rfl) ?_
                  refine vp_callSi (va_Run.run (va_runV (As := [.int (nI 15)]) (rest := []) ⟨hx, hb, hml, hown, noTs⟩ (s_J0_charAt l adK adV 3 15 (by decide) (by show _ < 18; omega)) ⟨cbE 1 (wd_498 hE) (wd_129 hE) (wd_1528 hE) rfl rfl (by decide +kernel) ⟨Nat.le_of_ble_eq_true rfl, Nat.le_of_ble_eq_true rfl⟩, (wd_496 hE), (wd_497 hE)⟩ ⟨PS.blind, vk_recv hX.1 (by decide) hS, ps_pre (av := [.ref (adK 3), .int (nI 15)]) hX hS hE⟩ rfl rfl hl.1 rfl (lv_room (Nat.le_of_ble_eq_true rfl)) dX12_key_28 ⟨Nat.le_of_ble_eq_true rfl, Nat.le_of_ble_eq_true rfl⟩)) (fun r530 hr530 => ?_)
                  have hr530 : r530 = 114 := hr530.trans (by decide)
                  subst hr530
                  refine lv_bipush (v := 32) hx hb dX12_key_31 (by decide) ?_
                  refine lv_icmp_eq (tgt := 42) hx hb dX12_key_33 (by decide) (fun c531 => absurd c531 (by decide)) (fun c531 => ?_)
                  refine lv_iinc (v := 16) (lv' := [(3, .int 16), (2, .int 13), (1, .int 2), (0, .ref (b 0)), (4, .int x1_482), (5, .int (nI i_482))]) hx hb dX12_key_36 hl (k := 0) rfl (by decide) (by decide) rfl (fun ls hl => ?_)
                  refine lv_goto (tgt := 25) hx hb dX12_key_39 (by decide) ?_
                  refine va_ldcS hx hb hown hZ dX12_key_25 ?_
                  refine lv_iload_n hx hb dX12_key_27 rfl (lv_at hl 0 rfl) ?_
                  refine vp_callSi (va_Run.run (va_runV (As := [.int (nI 16)]) (rest := []) ⟨hx, hb, hml, hown, noTs⟩ (s_J0_charAt l adK adV 3 16 (by decide) (by show _ < 18; omega)) ⟨cbE 1 (wd_498 hE) (wd_129 hE) (wd_1528 hE) rfl rfl (by decide +kernel) ⟨Nat.le_of_ble_eq_true rfl, Nat.le_of_ble_eq_true rfl⟩, (wd_496 hE), (wd_497 hE)⟩ ⟨PS.blind, vk_recv hX.1 (by decide) hS, ps_pre (av := [.ref (adK 3), .int (nI 16)]) hX hS hE⟩ rfl rfl hl.1 rfl (lv_room (Nat.le_of_ble_eq_true rfl)) dX12_key_28 ⟨Nat.le_of_ble_eq_true rfl, Nat.le_of_ble_eq_true rfl⟩)) (fun r532 hr532 => ?_)
                  have hr532 : r532 = 100 := hr532.trans (by decide)
                  subst hr532
                  refine lv_bipush (v := 32) hx hb dX12_key_31 (by decide) ?_
                  refine lv_icmp_eq (tgt := 42) hx hb dX12_key_33 (by decide) (fun c533 => absurd c533 (by decide)) (fun c533 => ?_)
                  refine lv_iinc (v := 17) (lv' := [(3, .int 17), (2, .int 13), (1, .int 2), (0, .ref (b 0)), (4, .int x1_482), (5, .int (nI i_482))]) hx hb dX12_key_36 hl (k := 0) rfl (by decide) (by decide) rfl (fun ls hl => ?_)
                  refine lv_goto (tgt := 25) hx hb dX12_key_39 (by decide) ?_
                  refine va_ldcS hx hb hown hZ dX12_key_25 ?_
                  refine lv_iload_n hx hb dX12_key_27 rfl (lv_at hl 0 rfl) ?_
                  refine vp_callSi (va_Run.run (va_runV (As := [.int (nI 17)]) (rest := []) ⟨hx, hb, hml, hown, noTs⟩ (s_J0_charAt l adK adV 3 17 (by decide) (by show _ < 18; omega)) ⟨cbE 1 (wd_498 hE) (wd_129 hE) (wd_1528 hE) rfl rfl (by decide +kernel) ⟨Nat.le_of_ble_eq_true rfl, Nat.le_of_ble_eq_true rfl⟩, (wd_496 hE), (wd_497 hE)⟩ ⟨PS.blind, vk_recv hX.1 (by decide) hS, ps_pre (av := [.ref (adK 3), .int (nI 17)]) hX hS hE⟩ rfl rfl hl.1 rfl (lv_room (Nat.le_of_ble_eq_true rfl)) dX12_key_28 ⟨Nat.le_of_ble_eq_true rfl, Nat.le_of_ble_eq_true rfl⟩)) (fun r534 hr534 => ?_)
                  have hr534 : r534 = 32 := hr534.trans (by decide)
                  subst hr534
                  refine lv_bipush (v := 32) hx hb dX12_key_31 (by decide) ?_
                  refine lv_icmp_eq (tgt := 42) hx hb dX12_key_33 (by decide) (fun c535 => ?_) (fun c535 => absurd c535 (by decide))
                  refine lv_iload_n hx hb dX12_key_42 rfl (lv_at hl 0 rfl) ?_
                  refine lv_iload_n hx hb dX12_key_43 rfl (lv_at hl 1 rfl) ?_
                  refine lv_isub hx hb dX12_key_44 ?_
                  refine W.eq (g2 := F0 m 45 ls [.int 4]) rfl ?_
                  refine lv_aload_n hx hb dX12_key_45 rfl (lv_at hl 3 rfl) ?_
                  refine r_get (v := .int (nI (tnd tx sz1 p0))) hx hb (ly_X12 hE) hown hK hP rfl 14 (by decide) (wd_1395 hE) (fun _ h9 => h9) (congrArg (fun z : Int32 => some (Value.int z)) te14_2) dX12_key_46 ?_
                  refine lv_aload_n hx hb dX12_key_49 rfl (lv_at hl 3 rfl) ?_
                  refine r_get (v := .int (nI p0)) hx hb (ly_X12 hE) hown hK hP rfl 13 (by decide) (wd_1394 hE) (fun _ h9 => h9) (congrArg (fun z : Int32 => some (Value.int z)) te13_2) dX12_key_50 ?_
                  refine lv_isub hx hb dX12_key_53 ?_
                  refine W.eq (g2 := F0 m 54 ls [.int (nI ((tnd tx sz1 p0) - p0)), .int 4]) (congrArg (fun z : Int32 => F0 m 54 ls (.int z :: [.int 4])) (pk_sub (a := tnd tx sz1 p0) (b := p0) (by omega))) ?_
                  refine lv_icmp_ne (tgt := 61) hx hb dX12_key_54 (by decide) (fun c536 => ?_) (fun c536 => ?_)
                  · have c536 := mt (b_eq (show Int32.toInt 4 = 4 from rfl) (nI_toInt (n := (tnd tx sz1 p0) - p0) (by omega))).mpr c536
                    refine lv_iconst (v := 0) hx hb dX12_key_61 (by decide) ?_
                    refine lv_istore (lv' := [(4, .int 0), (3, .int 17), (2, .int 13), (1, .int 2), (0, .ref (b 0)), (5, .int (nI i_482))]) hx hb dX12_key_62 hl (by decide) rfl (fun ls hl => ?_)
                    refine lv_iconst (v := 0) hx hb dX12_key_64 (by decide) ?_
                    refine lv_istore (lv' := [(5, .int 0), (4, .int 0), (3, .int 17), (2, .int 13), (1, .int 2), (0, .ref (b 0))]) hx hb dX12_key_65 hl (by decide) rfl (fun ls hl => ?_)
                    refine r_indP (I := fun n ls => ∃ (i_537 : Nat) (x1_537 : Int32), n = 17 - 13 - i_537 ∧ (i_537 ≤ 17 - 13) ∧ (x1_537 = 0 ∨ x1_537 = 1) ∧ (x1_537 = 1 → tnd tx sz1 p0 - p0 = 17 - 13 ∧ ∀ q, q < i_537 → bA tx sz1 (p0 + q) = (kW 13).getD q 0) ∧ (x1_537 = 0 → eqw tx sz1 (kW 13) p0 = false) ∧ lv_has ls 6 [(0, .ref (b 0)), (1, .int 2), (2, .int 13), (3, .int 17), (4, .int x1_537), (5, .int (nI i_537))]) (fun n ls hI ih537 => ?_) _ _ ⟨0, 0, rfl, (by first | assumption | omega | rfl | (congr 1; omega)), (by first | exact Or.inl rfl | exact Or.inr rfl), (by first | (intro _; exact ⟨by omega, fun q hq => absurd hq (by omega)⟩) | (intro h; exact absurd h (by decide))), (by first | (intro h; exact absurd h (by decide)) | (intro _; exact eqw_len (w := kW 13) (l := 17 - 13) rfl (by omega))), lv_sub hl [5, 4, 3, 2, 1, 0] rfl⟩
                    obtain ⟨i_537, x1_537, hmu537, hL537_0, hL537_1, hL537_2, hL537_3, hl⟩ := hI
                    subst hmu537
                    refine lv_iload hx hb dX12_key_67 (lv_at hl 5 rfl) ?_
                    refine lv_iload_n hx hb dX12_key_69 rfl (lv_at hl 3 rfl) ?_
                    refine lv_iload_n hx hb dX12_key_70 rfl (lv_at hl 2 rfl) ?_
                    refine lv_isub hx hb dX12_key_71 ?_
                    refine W.eq (g2 := F0 m 72 ls [.int 4, .int (nI i_537)]) rfl ?_
                    refine lv_icmp_ge (tgt := 116) hx hb dX12_key_72 (by decide) (fun c538 => ?_) (fun c538 => ?_)
                    · have c538 := (b_le (show Int32.toInt 4 = 4 from rfl) (nI_toInt (n := i_537) (by omega))).mp c538
                      refine lv_iload hx hb dX12_key_116 (lv_at hl 4 rfl) ?_
                      refine lv_if_eq (tgt := 123) hx hb dX12_key_118 (by decide) (fun c539 => ?_) (fun c539 => ?_)
                      · have c539 := (b_eq (rfl : Int32.toInt x1_537 = _) (show Int32.toInt 0 = 0 from rfl)).mp c539
                        have EW13 : eqw tx sz1 (kW 13) p0 = false := hL537_3 (i0_of (by omega))
                        refine lv_iinc (v := 3) (lv' := [(1, .int 3), (0, .ref (b 0)), (2, .int 13), (3, .int 17), (4, .int x1_537), (5, .int (nI i_537))]) hx hb dX12_key_123 hl (k := 1) rfl (by decide) (by decide) rfl (fun ls hl => ?_)
                        refine lv_iload_n hx hb dX12_key_126 rfl (lv_at hl 3 rfl) ?_
                        refine lv_iconst (v := 1) hx hb dX12_key_127 (by decide) ?_
                        refine lv_iadd hx hb dX12_key_128 ?_
                        refine W.eq (g2 := F0 m 129 ls [.int 18]) rfl ?_
                        refine lv_istore_n (lv' := [(2, .int 18), (1, .int 3), (0, .ref (b 0)), (3, .int 17), (4, .int x1_537), (5, .int (nI i_537))]) hx hb dX12_key_129 rfl hl (by decide) rfl (fun ls hl => ?_)
                        refine lv_goto (tgt := 14) hx hb dX12_key_130 (by decide) ?_
                        refine lv_iload_n hx hb dX12_key_14 rfl (lv_at hl 0 rfl) ?_
                        refine va_ldcS hx hb hown hZ dX12_key_15 ?_
                        refine vp_callSi (va_Run.run (va_runV (As := []) (rest := [.int 18]) ⟨hx, hb, hml, hown, noTs⟩ (s_J0_length l adK adV 3 (by decide)) ⟨cbE 0 (wd_488 hE) (wd_129 hE) (wd_1527 hE) rfl rfl (by decide +kernel) ⟨Nat.le_of_ble_eq_true rfl, Nat.le_of_ble_eq_true rfl⟩, (wd_486 hE), (wd_487 hE)⟩ ⟨PS.blind, vk_recv hX.1 (by decide) hS, ps_pre (av := [.ref (adK 3)]) hX hS hE⟩ rfl rfl hl.1 rfl (lv_room (Nat.le_of_ble_eq_true rfl)) dX12_key_17 ⟨Nat.le_of_ble_eq_true rfl, Nat.le_of_ble_eq_true rfl⟩)) (fun r540 hr540 => ?_)
                        have hr540 : r540 = 18 := hr540
                        subst hr540
                        refine lv_icmp_ge (tgt := 133) hx hb dX12_key_20 (by decide) (fun c541 => ?_) (fun c541 => absurd c541 (by decide))
                        refine lv_iconst (v := -1) hx hb dX12_key_133 (by decide) ?_
                        exact W.iret (v := -1) hx hb hr (fun t ht hW => ⟨-1, rfl, Or.inr (Or.inr (Or.inr (⟨rfl, by first | omega | (have q := (kd_word (tx := tx) (n := sz1) (p := p0) (by omega)).trans ((if_neg (by rw [show eqw tx sz1 wVx p0 = false from EW1]; decide)).trans ((if_neg (by rw [show eqw tx sz1 wEd p0 = false from EW8]; decide)).trans (if_neg (by rw [show eqw tx sz1 wWo p0 = false from EW13]; decide)))); omega)⟩))), ht⟩) (fun _ h => absurd h List.not_mem_nil) dX12_key_134
                      · have c539 := mt (b_eq (rfl : Int32.toInt x1_537 = _) (show Int32.toInt 0 = 0 from rfl)).mpr c539
                        have X2 : x1_537 = 1 := i1_of hL537_1 (by omega)
                        have EW13 : eqw tx sz1 (kW 13) p0 = true := by first | exact eqw_t.mpr ⟨(hL537_2 X2).1.trans rfl, fun q hq => (hL537_2 X2).2 q (by have : (kW 13).length = 17 - 13 := rfl; omega)⟩ | (exfalso; omega)
                        refine lv_iload_n hx hb dX12_key_121 rfl (lv_at hl 1 rfl) ?_
                        exact W.iret (v := 2) hx hb hr (fun t ht hW => ⟨2, rfl, Or.inr (Or.inr (Or.inl ⟨rfl, by exact (kd_word (by omega)).trans ((if_neg (by rw [show eqw tx sz1 wVx p0 = false from EW1]; decide)).trans ((if_neg (by rw [show eqw tx sz1 wEd p0 = false from EW8]; decide)).trans (if_pos EW13)))⟩)), ht⟩) (fun _ h => absurd h List.not_mem_nil) dX12_key_122
                    · have c538 := mt (b_le (show Int32.toInt 4 = 4 from rfl) (nI_toInt (n := i_537) (by omega))).mpr c538
                      refine lv_iload hx hb dX12_key_75 (lv_at hl 4 rfl) ?_
                      refine lv_if_eq (tgt := 116) hx hb dX12_key_77 (by decide) (fun c542 => ?_) (fun c542 => ?_)
                      · have c542 := (b_eq (rfl : Int32.toInt x1_537 = _) (show Int32.toInt 0 = 0 from rfl)).mp c542
                        refine lv_iload hx hb dX12_key_116 (lv_at hl 4 rfl) ?_
                        refine lv_if_eq (tgt := 123) hx hb dX12_key_118 (by decide) (fun c543 => ?_) (fun c543 => ?_)
                        · have c543 := (b_eq (rfl : Int32.toInt x1_537 = _) (show Int32.toInt 0 = 0 from rfl)).mp c543
                          have EW13 : eqw tx sz1 (kW 13) p0 = false := hL537_3 (i0_of (by omega))
                          refine lv_iinc (v := 3) (lv' := [(1, .int 3), (0, .ref (b 0)), (2, .int 13), (3, .int 17), (4, .int x1_537), (5, .int (nI i_537))]) hx hb dX12_key_123 hl (k := 1) rfl (by decide) (by decide) rfl (fun ls hl => ?_)
                          refine lv_iload_n hx hb dX12_key_126 rfl (lv_at hl 3 rfl) ?_
                          refine lv_iconst (v := 1) hx hb dX12_key_127 (by decide) ?_
                          refine lv_iadd hx hb dX12_key_128 ?_
                          refine W.eq (g2 := F0 m 129 ls [.int 18]) rfl ?_
                          refine lv_istore_n (lv' := [(2, .int 18), (1, .int 3), (0, .ref (b 0)), (3, .int 17), (4, .int x1_537), (5, .int (nI i_537))]) hx hb dX12_key_129 rfl hl (by decide) rfl (fun ls hl => ?_)
                          refine lv_goto (tgt := 14) hx hb dX12_key_130 (by decide) ?_
                          refine lv_iload_n hx hb dX12_key_14 rfl (lv_at hl 0 rfl) ?_
                          refine va_ldcS hx hb hown hZ dX12_key_15 ?_
                          refine vp_callSi (va_Run.run (va_runV (As := []) (rest := [.int 18]) ⟨hx, hb, hml, hown, noTs⟩ (s_J0_length l adK adV 3 (by decide)) ⟨cbE 0 (wd_488 hE) (wd_129 hE) (wd_1527 hE) rfl rfl (by decide +kernel) ⟨Nat.le_of_ble_eq_true rfl, Nat.le_of_ble_eq_true rfl⟩, (wd_486 hE), (wd_487 hE)⟩ ⟨PS.blind, vk_recv hX.1 (by decide) hS, ps_pre (av := [.ref (adK 3)]) hX hS hE⟩ rfl rfl hl.1 rfl (lv_room (Nat.le_of_ble_eq_true rfl)) dX12_key_17 ⟨Nat.le_of_ble_eq_true rfl, Nat.le_of_ble_eq_true rfl⟩)) (fun r544 hr544 => ?_)
                          have hr544 : r544 = 18 := hr544
                          subst hr544
                          refine lv_icmp_ge (tgt := 133) hx hb dX12_key_20 (by decide) (fun c545 => ?_) (fun c545 => absurd c545 (by decide))
                          refine lv_iconst (v := -1) hx hb dX12_key_133 (by decide) ?_
                          exact W.iret (v := -1) hx hb hr (fun t ht hW => ⟨-1, rfl, Or.inr (Or.inr (Or.inr (⟨rfl, by first | omega | (have q := (kd_word (tx := tx) (n := sz1) (p := p0) (by omega)).trans ((if_neg (by rw [show eqw tx sz1 wVx p0 = false from EW1]; decide)).trans ((if_neg (by rw [show eqw tx sz1 wEd p0 = false from EW8]; decide)).trans (if_neg (by rw [show eqw tx sz1 wWo p0 = false from EW13]; decide)))); omega)⟩))), ht⟩) (fun _ h => absurd h List.not_mem_nil) dX12_key_134
                        · have c543 := mt (b_eq (rfl : Int32.toInt x1_537 = _) (show Int32.toInt 0 = 0 from rfl)).mpr c543
                          have X2 : x1_537 = 1 := i1_of hL537_1 (by omega)
                          have EW13 : eqw tx sz1 (kW 13) p0 = true := by first | exact eqw_t.mpr ⟨(hL537_2 X2).1.trans rfl, fun q hq => (hL537_2 X2).2 q (by have : (kW 13).length = 17 - 13 := rfl; omega)⟩ | (exfalso; omega)
                          refine lv_iload_n hx hb dX12_key_121 rfl (lv_at hl 1 rfl) ?_
                          exact W.iret (v := 2) hx hb hr (fun t ht hW => ⟨2, rfl, Or.inr (Or.inr (Or.inl ⟨rfl, by exact (kd_word (by omega)).trans ((if_neg (by rw [show eqw tx sz1 wVx p0 = false from EW1]; decide)).trans ((if_neg (by rw [show eqw tx sz1 wEd p0 = false from EW8]; decide)).trans (if_pos EW13)))⟩)), ht⟩) (fun _ h => absurd h List.not_mem_nil) dX12_key_122
                      · have c542 := mt (b_eq (rfl : Int32.toInt x1_537 = _) (show Int32.toInt 0 = 0 from rfl)).mpr c542
                        have X1 : x1_537 = 1 := i1_of hL537_1 (by omega)
                        refine va_ldcS hx hb hown hZ dX12_key_80 ?_
                        refine lv_iload_n hx hb dX12_key_82 rfl (lv_at hl 2 rfl) ?_
                        refine lv_iload hx hb dX12_key_83 (lv_at hl 5 rfl) ?_
                        refine lv_iadd hx hb dX12_key_85 ?_
                        refine W.eq (g2 := F0 m 86 ls [.int (nI (13 + i_537)), .ref (adK 3)]) (congrArg (fun z : Int32 => F0 m 86 ls (.int z :: [.ref (adK 3)])) (nI_add 13 i_537)) ?_
                        refine vp_callSi (va_Run.run (va_runV (As := [.int (nI (13 + i_537))]) (rest := []) ⟨hx, hb, hml, hown, noTs⟩ (s_J0_charAt l adK adV 3 (13 + i_537) (by decide) (by show _ < 18; omega)) ⟨cbE 1 (wd_498 hE) (wd_129 hE) (wd_1528 hE) rfl rfl (by decide +kernel) ⟨Nat.le_of_ble_eq_true rfl, Nat.le_of_ble_eq_true rfl⟩, (wd_496 hE), (wd_497 hE)⟩ ⟨PS.blind, vk_recv hX.1 (by decide) hS, ps_pre (av := [.ref (adK 3), .int (nI (13 + i_537))]) hX hS hE⟩ rfl rfl hl.1 rfl (lv_room (Nat.le_of_ble_eq_true rfl)) dX12_key_86 ⟨Nat.le_of_ble_eq_true rfl, Nat.le_of_ble_eq_true rfl⟩)) (fun r546 hr546 => ?_)
                        refine lv_aload_n hx hb dX12_key_89 rfl (lv_at hl 0 rfl) ?_
                        refine lv_aload_n hx hb dX12_key_90 rfl (lv_at hl 0 rfl) ?_
                        refine r_get (v := .int (nI p0)) hx hb (ly_X12 hE) hown hK hP rfl 13 (by decide) (wd_1394 hE) (fun _ h9 => h9) (congrArg (fun z : Int32 => some (Value.int z)) te13_2) dX12_key_91 ?_
                        refine lv_iload hx hb dX12_key_94 (lv_at hl 5 rfl) ?_
                        refine lv_iadd hx hb dX12_key_96 ?_
                        refine W.eq (g2 := F0 m 97 ls [.int (nI (p0 + i_537)), .ref (b 0), .int r546]) (congrArg (fun z : Int32 => F0 m 97 ls (.int z :: [.ref (b 0), .int r546])) (nI_add p0 i_537)) ?_
                        refine vp_callSi (va_Run.run (va_runV (As := [.int (nI (p0 + i_537))]) (rest := [.int r546]) ⟨hx, hb, hml, hown, noTs⟩ (r_X12_byteAt l dC dI s.heap.size cs b u tx hAc16 (p0 + i_537) sz1 hF11 (by first | assumption | omega | rfl | (congr 1; omega)) (by first | assumption | omega | rfl | (congr 1; omega))) ⟨cbE 1 (wd_1510 hE) (wd_126 hE) (wd_1507 hE) rfl rfl (by decide +kernel) ⟨Nat.le_of_ble_eq_true rfl, Nat.le_of_ble_eq_true rfl⟩, (wd_1509 hE), (wd_57 hE)⟩ ⟨PR.blind, r_recv hK hP rfl, (r_pre (av := [.ref (b 0), .int (nI (p0 + i_537))]) hK hP hJ hE)⟩ rfl rfl hl.1 rfl (lv_room (Nat.le_of_ble_eq_true rfl)) dX12_key_97 ⟨Nat.le_of_ble_eq_true rfl, Nat.le_of_ble_eq_true rfl⟩)) (fun r547 hr547 => ?_)
                        subst hr547
                        have htf547 := bA_f tx sz1 (p0 + i_537)
                        have HRC := hr546
                        have RCH := ch_13 i_537 (by omega)
                        refine lv_icmp_ne (tgt := 107) hx hb dX12_key_100 (by decide) (fun c548 => ?_) (fun c548 => ?_)
                        · have c548 := mt (b_eq (rfl : Int32.toInt r546 = _) (rfl : Int32.toInt (bA tx sz1 (p0 + i_537)) = _)).mpr c548
                          have NE : bA tx sz1 (p0 + i_537) ≠ (kW 13).getD i_537 0 := by rw [← RCH, ← HRC]; intro e; have := congrArg Int32.toInt e; omega
                          refine lv_iconst (v := 0) hx hb dX12_key_107 (by decide) ?_
                          refine lv_istore (lv' := [(4, .int 0), (0, .ref (b 0)), (1, .int 2), (2, .int 13), (3, .int 17), (5, .int (nI i_537))]) hx hb dX12_key_108 hl (by decide) rfl (fun ls hl => ?_)
                          refine lv_iinc (v := nI (i_537 + 1)) (lv' := [(5, .int (nI (i_537 + 1))), (4, .int 0), (0, .ref (b 0)), (1, .int 2), (2, .int 13), (3, .int 17)]) hx hb dX12_key_110 hl (k := 5) rfl (nI_1 i_537) (by decide) rfl (fun ls hl => ?_)
                          refine lv_goto (tgt := 67) hx hb dX12_key_113 (by decide) ?_
                          exact ih537 _ _ (by omega) ⟨(i_537 + 1), 0, rfl, (by first | assumption | omega | rfl | (congr 1; omega)), (by first | exact Or.inl rfl | exact Or.inr rfl), (by first | (intro _; exact ⟨(hL537_2 X1).1, fun q hq => by rcases Nat.lt_or_ge q i_537 with h | h; (exact (hL537_2 X1).2 q h); (obtain rfl : q = i_537 := by omega); exact EQ⟩) | (intro h; exact absurd h (by decide))), (by first | (intro h; exact absurd h (by decide)) | (intro _; exact eqw_at (w := kW 13) (by have : (kW 13).length = 17 - 13 := rfl; omega) NE)), lv_sub hl [2, 3, 4, 5, 1, 0] rfl⟩
                        · have c548 := (b_eq (rfl : Int32.toInt r546 = _) (rfl : Int32.toInt (bA tx sz1 (p0 + i_537)) = _)).mp c548
                          have EQ : bA tx sz1 (p0 + i_537) = (kW 13).getD i_537 0 := by rw [← RCH, ← HRC]; exact Int32.toInt_inj.mp (by omega)
                          refine lv_iconst (v := 1) hx hb dX12_key_103 (by decide) ?_
                          refine lv_goto (tgt := 108) hx hb dX12_key_104 (by decide) ?_
                          refine lv_istore (lv' := [(4, .int 1), (0, .ref (b 0)), (1, .int 2), (2, .int 13), (3, .int 17), (5, .int (nI i_537))]) hx hb dX12_key_108 hl (by decide) rfl (fun ls hl => ?_)
                          refine lv_iinc (v := nI (i_537 + 1)) (lv' := [(5, .int (nI (i_537 + 1))), (4, .int 1), (0, .ref (b 0)), (1, .int 2), (2, .int 13), (3, .int 17)]) hx hb dX12_key_110 hl (k := 5) rfl (nI_1 i_537) (by decide) rfl (fun ls hl => ?_)
                          refine lv_goto (tgt := 67) hx hb dX12_key_113 (by decide) ?_
                          exact ih537 _ _ (by omega) ⟨(i_537 + 1), 1, rfl, (by first | assumption | omega | rfl | (congr 1; omega)), (by first | exact Or.inl rfl | exact Or.inr rfl), (by first | (intro _; exact ⟨(hL537_2 X1).1, fun q hq => by rcases Nat.lt_or_ge q i_537 with h | h; (exact (hL537_2 X1).2 q h); (obtain rfl : q = i_537 := by omega); exact EQ⟩) | (intro h; exact absurd h (by decide))), (by first | (intro h; exact absurd h (by decide)) | (intro _; exact eqw_at (w := kW 13) (by have : (kW 13).length = 17 - 13 := rfl; omega) NE)), lv_sub hl [2, 3, 4, 5, 1, 0] rfl⟩
                  · have c536 := (b_eq (show Int32.toInt 4 = 4 from rfl) (nI_toInt (n := (tnd tx sz1 p0) - p0) (by omega))).mp c536
                    refine lv_iconst (v := 1) hx hb dX12_key_57 (by decide) ?_
                    refine lv_goto (tgt := 62) hx hb dX12_key_58 (by decide) ?_
                    refine lv_istore (lv' := [(4, .int 1), (3, .int 17), (2, .int 13), (1, .int 2), (0, .ref (b 0)), (5, .int (nI i_482))]) hx hb dX12_key_62 hl (by decide) rfl (fun ls hl => ?_)
                    refine lv_iconst (v := 0) hx hb dX12_key_64 (by decide) ?_
                    refine lv_istore (lv' := [(5, .int 0), (4, .int 1), (3, .int 17), (2, .int 13), (1, .int 2), (0, .ref (b 0))]) hx hb dX12_key_65 hl (by decide) rfl (fun ls hl => ?_)
                    refine r_indP (I := fun n ls => ∃ (i_549 : Nat) (x1_549 : Int32), n = 17 - 13 - i_549 ∧ (i_549 ≤ 17 - 13) ∧ (x1_549 = 0 ∨ x1_549 = 1) ∧ (x1_549 = 1 → tnd tx sz1 p0 - p0 = 17 - 13 ∧ ∀ q, q < i_549 → bA tx sz1 (p0 + q) = (kW 13).getD q 0) ∧ (x1_549 = 0 → eqw tx sz1 (kW 13) p0 = false) ∧ lv_has ls 6 [(0, .ref (b 0)), (1, .int 2), (2, .int 13), (3, .int 17), (4, .int x1_549), (5, .int (nI i_549))]) (fun n ls hI ih549 => ?_) _ _ ⟨0, 1, rfl, (by first | assumption | omega | rfl | (congr 1; omega)), (by first | exact Or.inl rfl | exact Or.inr rfl), (by first | (intro _; exact ⟨by omega, fun q hq => absurd hq (by omega)⟩) | (intro h; exact absurd h (by decide))), (by first | (intro h; exact absurd h (by decide)) | (intro _; exact eqw_len (w := kW 13) (l := 17 - 13) rfl (by omega))), lv_sub hl [5, 4, 3, 2, 1, 0] rfl⟩
                    obtain ⟨i_549, x1_549, hmu549, hL549_0, hL549_1, hL549_2, hL549_3, hl⟩ := hI
                    subst hmu549
                    refine lv_iload hx hb dX12_key_67 (lv_at hl 5 rfl) ?_
                    refine lv_iload_n hx hb dX12_key_69 rfl (lv_at hl 3 rfl) ?_
                    refine lv_iload_n hx hb dX12_key_70 rfl (lv_at hl 2 rfl) ?_
                    refine lv_isub hx hb dX12_key_71 ?_
                    refine W.eq (g2 := F0 m 72 ls [.int 4, .int (nI i_549)]) rfl ?_
                    refine lv_icmp_ge (tgt := 116) hx hb dX12_key_72 (by decide) (fun c550 => ?_) (fun c550 => ?_)
                    · have c550 := (b_le (show Int32.toInt 4 = 4 from rfl) (nI_toInt (n := i_549) (by omega))).mp c550
                      refine lv_iload hx hb dX12_key_116 (lv_at hl 4 rfl) ?_
                      refine lv_if_eq (tgt := 123) hx hb dX12_key_118 (by decide) (fun c551 => ?_) (fun c551 => ?_)
                      · have c551 := (b_eq (rfl : Int32.toInt x1_549 = _) (show Int32.toInt 0 = 0 from rfl)).mp c551
                        have EW13 : eqw tx sz1 (kW 13) p0 = false := hL549_3 (i0_of (by omega))
                        refine lv_iinc (v := 3) (lv' := [(1, .int 3), (0, .ref (b 0)), (2, .int 13), (3, .int 17), (4, .int x1_549), (5, .int (nI i_549))]) hx hb dX12_key_123 hl (k := 1) rfl (by decide) (by decide) rfl (fun ls hl => ?_)
                        refine lv_iload_n hx hb dX12_key_126 rfl (lv_at hl 3 rfl) ?_
                        refine lv_iconst (v := 1) hx hb dX12_key_127 (by decide) ?_
                        refine lv_iadd hx hb dX12_key_128 ?_
                        refine W.eq (g2 := F0 m 129 ls [.int 18]) rfl ?_
                        refine lv_istore_n (lv' := [(2, .int 18), (1, .int 3), (0, .ref (b 0)), (3, .int 17), (4, .int x1_549), (5, .int (nI i_549))]) hx hb dX12_key_129 rfl hl (by decide) rfl (fun ls hl => ?_)
                        refine lv_goto (tgt := 14) hx hb dX12_key_130 (by decide) ?_
                        refine lv_iload_n hx hb dX12_key_14 rfl (lv_at hl 0 rfl) ?_
                        refine va_ldcS hx hb hown hZ dX12_key_15 ?_
                        refine vp_callSi (va_Run.run (va_runV (As := []) (rest := [.int 18]) ⟨hx, hb, hml, hown, noTs⟩ (s_J0_length l adK adV 3 (by decide)) ⟨cbE 0 (wd_488 hE) (wd_129 hE) (wd_1527 hE) rfl rfl (by decide +kernel) ⟨Nat.le_of_ble_eq_true rfl, Nat.le_of_ble_eq_true rfl⟩, (wd_486 hE), (wd_487 hE)⟩ ⟨PS.blind, vk_recv hX.1 (by decide) hS, ps_pre (av := [.ref (adK 3)]) hX hS hE⟩ rfl rfl hl.1 rfl (lv_room (Nat.le_of_ble_eq_true rfl)) dX12_key_17 ⟨Nat.le_of_ble_eq_true rfl, Nat.le_of_ble_eq_true rfl⟩)) (fun r552 hr552 => ?_)
                        have hr552 : r552 = 18 := hr552
                        subst hr552
                        refine lv_icmp_ge (tgt := 133) hx hb dX12_key_20 (by decide) (fun c553 => ?_) (fun c553 => absurd c553 (by decide))
                        refine lv_iconst (v := -1) hx hb dX12_key_133 (by decide) ?_
                        exact W.iret (v := -1) hx hb hr (fun t ht hW => ⟨-1, rfl, Or.inr (Or.inr (Or.inr (⟨rfl, by first | omega | (have q := (kd_word (tx := tx) (n := sz1) (p := p0) (by omega)).trans ((if_neg (by rw [show eqw tx sz1 wVx p0 = false from EW1]; decide)).trans ((if_neg (by rw [show eqw tx sz1 wEd p0 = false from EW8]; decide)).trans (if_neg (by rw [show eqw tx sz1 wWo p0 = false from EW13]; decide)))); omega)⟩))), ht⟩) (fun _ h => absurd h List.not_mem_nil) dX12_key_134
                      · have c551 := mt (b_eq (rfl : Int32.toInt x1_549 = _) (show Int32.toInt 0 = 0 from rfl)).mpr c551
                        have X2 : x1_549 = 1 := i1_of hL549_1 (by omega)
                        have EW13 : eqw tx sz1 (kW 13) p0 = true := by first | exact eqw_t.mpr ⟨(hL549_2 X2).1.trans rfl, fun q hq => (hL549_2 X2).2 q (by have : (kW 13).length = 17 - 13 := rfl; omega)⟩ | (exfalso; omega)
                        refine lv_iload_n hx hb dX12_key_121 rfl (lv_at hl 1 rfl) ?_
                        exact W.iret (v := 2) hx hb hr (fun t ht hW => ⟨2, rfl, Or.inr (Or.inr (Or.inl ⟨rfl, by exact (kd_word (by omega)).trans ((if_neg (by rw [show eqw tx sz1 wVx p0 = false from EW1]; decide)).trans ((if_neg (by rw [show eqw tx sz1 wEd p0 = false from EW8]; decide)).trans (if_pos EW13)))⟩)), ht⟩) (fun _ h => absurd h List.not_mem_nil) dX12_key_122
                    · have c550 := mt (b_le (show Int32.toInt 4 = 4 from rfl) (nI_toInt (n := i_549) (by omega))).mpr c550
                      refine lv_iload hx hb dX12_key_75 (lv_at hl 4 rfl) ?_
                      refine lv_if_eq (tgt := 116) hx hb dX12_key_77 (by decide) (fun c554 => ?_) (fun c554 => ?_)
                      · have c554 := (b_eq (rfl : Int32.toInt x1_549 = _) (show Int32.toInt 0 = 0 from rfl)).mp c554
                        refine lv_iload hx hb dX12_key_116 (lv_at hl 4 rfl) ?_
                        refine lv_if_eq (tgt := 123) hx hb dX12_key_118 (by decide) (fun c555 => ?_) (fun c555 => ?_)
                        · have c555 := (b_eq (rfl : Int32.toInt x1_549 = _) (show Int32.toInt 0 = 0 from rfl)).mp c555
                          have EW13 : eqw tx sz1 (kW 13) p0 = false := hL549_3 (i0_of (by omega))
                          refine lv_iinc (v := 3) (lv' := [(1, .int 3), (0, .ref (b 0)), (2, .int 13), (3, .int 17), (4, .int x1_549), (5, .int (nI i_549))]) hx hb dX12_key_123 hl (k := 1) rfl (by decide) (by decide) rfl (fun ls hl => ?_)
                          refine lv_iload_n hx hb dX12_key_126 rfl (lv_at hl 3 rfl) ?_
                          refine lv_iconst (v := 1) hx hb dX12_key_127 (by decide) ?_
                          refine lv_iadd hx hb dX12_key_128 ?_
                          refine W.eq (g2 := F0 m 129 ls [.int 18]) rfl ?_
                          refine lv_istore_n (lv' := [(2, .int 18), (1, .int 3), (0, .ref (b 0)), (3, .int 17), (4, .int x1_549), (5, .int (nI i_549))]) hx hb dX12_key_129 rfl hl (by decide) rfl (fun ls hl => ?_)
                          refine lv_goto (tgt := 14) hx hb dX12_key_130 (by decide) ?_
                          refine lv_iload_n hx hb dX12_key_14 rfl (lv_at hl 0 rfl) ?_
                          refine va_ldcS hx hb hown hZ dX12_key_15 ?_
                          refine vp_callSi (va_Run.run (va_runV (As := []) (rest := [.int 18]) ⟨hx, hb, hml, hown, noTs⟩ (s_J0_length l adK adV 3 (by decide)) ⟨cbE 0 (wd_488 hE) (wd_129 hE) (wd_1527 hE) rfl rfl (by decide +kernel) ⟨Nat.le_of_ble_eq_true rfl, Nat.le_of_ble_eq_true rfl⟩, (wd_486 hE), (wd_487 hE)⟩ ⟨PS.blind, vk_recv hX.1 (by decide) hS, ps_pre (av := [.ref (adK 3)]) hX hS hE⟩ rfl rfl hl.1 rfl (lv_room (Nat.le_of_ble_eq_true rfl)) dX12_key_17 ⟨Nat.le_of_ble_eq_true rfl, Nat.le_of_ble_eq_true rfl⟩)) (fun r556 hr556 => ?_)
                          have hr556 : r556 = 18 := hr556
                          subst hr556
                          refine lv_icmp_ge (tgt := 133) hx hb dX12_key_20 (by decide) (fun c557 => ?_) (fun c557 => absurd c557 (by decide))
                          refine lv_iconst (v := -1) hx hb dX12_key_133 (by decide) ?_
                          exact W.iret (v := -1) hx hb hr (fun t ht hW => ⟨-1, rfl, Or.inr (Or.inr (Or.inr (⟨rfl, by first | omega | (have q := (kd_word (tx := tx) (n := sz1) (p := p0) (by omega)).trans ((if_neg (by rw [show eqw tx sz1 wVx p0 = false from EW1]; decide)).trans ((if_neg (by rw [show eqw tx sz1 wEd p0 = false from EW8]; decide)).trans (if_neg (by rw [show eqw tx sz1 wWo p0 = false from EW13]; decide)))); omega)⟩))), ht⟩) (fun _ h => absurd h List.not_mem_nil) dX12_key_134
                        · have c555 := mt (b_eq (rfl : Int32.toInt x1_549 = _) (show Int32.toInt 0 = 0 from rfl)).mpr c555
                          have X2 : x1_549 = 1 := i1_of hL549_1 (by omega)
                          have EW13 : eqw tx sz1 (kW 13) p0 = true := by first | exact eqw_t.mpr ⟨(hL549_2 X2).1.trans rfl, fun q hq => (hL549_2 X2).2 q (by have : (kW 13).length = 17 - 13 := rfl; omega)⟩ | (exfalso; omega)
                          refine lv_iload_n hx hb dX12_key_121 rfl (lv_at hl 1 rfl) ?_
                          exact W.iret (v := 2) hx hb hr (fun t ht hW => ⟨2, rfl, Or.inr (Or.inr (Or.inl ⟨rfl, by exact (kd_word (by omega)).trans ((if_neg (by rw [show eqw tx sz1 wVx p0 = false from EW1]; decide)).trans ((if_neg (by rw [show eqw tx sz1 wEd p0 = false from EW8]; decide)).trans (if_pos EW13)))⟩)), ht⟩) (fun _ h => absurd h List.not_mem_nil) dX12_key_122
                      · have c554 := mt (b_eq (rfl : Int32.toInt x1_549 = _) (show Int32.toInt 0 = 0 from rfl)).mpr c554
                        have X1 : x1_549 = 1 := i1_of hL549_1 (by omega)
                        refine va_ldcS hx hb hown hZ dX12_key_80 ?_
                        refine lv_iload_n hx hb dX12_key_82 rfl (lv_at hl 2 rfl) ?_
                        refine lv_iload hx hb dX12_key_83 (lv_at hl 5 rfl) ?_
                        refine lv_iadd hx hb dX12_key_85 ?_
                        refine W.eq (g2 := F0 m 86 ls [.int (nI (13 + i_549)), .ref (adK 3)]) (congrArg (fun z : Int32 => F0 m 86 ls (.int z :: [.ref (adK 3)])) (nI_add 13 i_549)) ?_
                        refine vp_callSi (va_Run.run (va_runV (As := [.int (nI (13 + i_549))]) (rest := []) ⟨hx, hb, hml, hown, noTs⟩ (s_J0_charAt l adK adV 3 (13 + i_549) (by decide) (by show _ < 18; omega)) ⟨cbE 1 (wd_498 hE) (wd_129 hE) (wd_1528 hE) rfl rfl (by decide +kernel) ⟨Nat.le_of_ble_eq_true rfl, Nat.le_of_ble_eq_true rfl⟩, (wd_496 hE), (wd_497 hE)⟩ ⟨PS.blind, vk_recv hX.1 (by decide) hS, ps_pre (av := [.ref (adK 3), .int (nI (13 + i_549))]) hX hS hE⟩ rfl rfl hl.1 rfl (lv_room (Nat.le_of_ble_eq_true rfl)) dX12_key_86 ⟨Nat.le_of_ble_eq_true rfl, Nat.le_of_ble_eq_true rfl⟩)) (fun r558 hr558 => ?_)
                        refine lv_aload_n hx hb dX12_key_89 rfl (lv_at hl 0 rfl) ?_
                        refine lv_aload_n hx hb dX12_key_90 rfl (lv_at hl 0 rfl) ?_
                        refine r_get (v := .int (nI p0)) hx hb (ly_X12 hE) hown hK hP rfl 13 (by decide) (wd_1394 hE) (fun _ h9 => h9) (congrArg (fun z : Int32 => some (Value.int z)) te13_2) dX12_key_91 ?_
                        refine lv_iload hx hb dX12_key_94 (lv_at hl 5 rfl) ?_
                        refine lv_iadd hx hb dX12_key_96 ?_
                        refine W.eq (g2 := F0 m 97 ls [.int (nI (p0 + i_549)), .ref (b 0), .int r558]) (congrArg (fun z : Int32 => F0 m 97 ls (.int z :: [.ref (b 0), .int r558])) (nI_add p0 i_549)) ?_
                        refine vp_callSi (va_Run.run (va_runV (As := [.int (nI (p0 + i_549))]) (rest := [.int r558]) ⟨hx, hb, hml, hown, noTs⟩ (r_X12_byteAt l dC dI s.heap.size cs b u tx hAc16 (p0 + i_549) sz1 hF11 (by first | assumption | omega | rfl | (congr 1; omega)) (by first | assumption | omega | rfl | (congr 1; omega))) ⟨cbE 1 (wd_1510 hE) (wd_126 hE) (wd_1507 hE) rfl rfl (by decide +kernel) ⟨Nat.le_of_ble_eq_true rfl, Nat.le_of_ble_eq_true rfl⟩, (wd_1509 hE), (wd_57 hE)⟩ ⟨PR.blind, r_recv hK hP rfl, (r_pre (av := [.ref (b 0), .int (nI (p0 + i_549))]) hK hP hJ hE)⟩ rfl rfl hl.1 rfl (lv_room (Nat.le_of_ble_eq_true rfl)) dX12_key_97 ⟨Nat.le_of_ble_eq_true rfl, Nat.le_of_ble_eq_true rfl⟩)) (fun r559 hr559 => ?_)
                        subst hr559
                        have htf559 := bA_f tx sz1 (p0 + i_549)
                        have HRC := hr558
                        have RCH := ch_13 i_549 (by omega)
                        refine lv_icmp_ne (tgt := 107) hx hb dX12_key_100 (by decide) (fun c560 => ?_) (fun c560 => ?_)
                        · have c560 := mt (b_eq (rfl : Int32.toInt r558 = _) (rfl : Int32.toInt (bA tx sz1 (p0 + i_549)) = _)).mpr c560
                          have NE : bA tx sz1 (p0 + i_549) ≠ (kW 13).getD i_549 0 := by rw [← RCH, ← HRC]; intro e; have := congrArg Int32.toInt e; omega
                          refine lv_iconst (v := 0) hx hb dX12_key_107 (by decide) ?_
                          refine lv_istore (lv' := [(4, .int 0), (0, .ref (b 0)), (1, .int 2), (2, .int 13), (3, .int 17), (5, .int (nI i_549))]) hx hb dX12_key_108 hl (by decide) rfl (fun ls hl => ?_)
                          refine lv_iinc (v := nI (i_549 + 1)) (lv' := [(5, .int (nI (i_549 + 1))), (4, .int 0), (0, .ref (b 0)), (1, .int 2), (2, .int 13), (3, .int 17)]) hx hb dX12_key_110 hl (k := 5) rfl (nI_1 i_549) (by decide) rfl (fun ls hl => ?_)
                          refine lv_goto (tgt := 67) hx hb dX12_key_113 (by decide) ?_
                          exact ih549 _ _ (by omega) ⟨(i_549 + 1), 0, rfl, (by first | assumption | omega | rfl | (congr 1; omega)), (by first | exact Or.inl rfl | exact Or.inr rfl), (by first | (intro _; exact ⟨(hL549_2 X1).1, fun q hq => by rcases Nat.lt_or_ge q i_549 with h | h; (exact (hL549_2 X1).2 q h); (obtain rfl : q = i_549 := by omega); exact EQ⟩) | (intro h; exact absurd h (by decide))), (by first | (intro h; exact absurd h (by decide)) | (intro _; exact eqw_at (w := kW 13) (by have : (kW 13).length = 17 - 13 := rfl; omega) NE)), lv_sub hl [2, 3, 4, 5, 1, 0] rfl⟩
                        · have c560 := (b_eq (rfl : Int32.toInt r558 = _) (rfl : Int32.toInt (bA tx sz1 (p0 + i_549)) = _)).mp c560
                          have EQ : bA tx sz1 (p0 + i_549) = (kW 13).getD i_549 0 := by rw [← RCH, ← HRC]; exact Int32.toInt_inj.mp (by omega)
                          refine lv_iconst (v := 1) hx hb dX12_key_103 (by decide) ?_
                          refine lv_goto (tgt := 108) hx hb dX12_key_104 (by decide) ?_
                          refine lv_istore (lv' := [(4, .int 1), (0, .ref (b 0)), (1, .int 2), (2, .int 13), (3, .int 17), (5, .int (nI i_549))]) hx hb dX12_key_108 hl (by decide) rfl (fun ls hl => ?_)
                          refine lv_iinc (v := nI (i_549 + 1)) (lv' := [(5, .int (nI (i_549 + 1))), (4, .int 1), (0, .ref (b 0)), (1, .int 2), (2, .int 13), (3, .int 17)]) hx hb dX12_key_110 hl (k := 5) rfl (nI_1 i_549) (by decide) rfl (fun ls hl => ?_)
                          refine lv_goto (tgt := 67) hx hb dX12_key_113 (by decide) ?_
                          exact ih549 _ _ (by omega) ⟨(i_549 + 1), 1, rfl, (by first | assumption | omega | rfl | (congr 1; omega)), (by first | exact Or.inl rfl | exact Or.inr rfl), (by first | (intro _; exact ⟨(hL549_2 X1).1, fun q hq => by rcases Nat.lt_or_ge q i_549 with h | h; (exact (hL549_2 X1).2 q h); (obtain rfl : q = i_549 := by omega); exact EQ⟩) | (intro h; exact absurd h (by decide))), (by first | (intro h; exact absurd h (by decide)) | (intro _; exact eqw_at (w := kW 13) (by have : (kW 13).length = 17 - 13 := rfl; omega) NE)), lv_sub hl [2, 3, 4, 5, 1, 0] rfl⟩
                · have c523 := mt (b_eq (rfl : Int32.toInt x1_482 = _) (show Int32.toInt 0 = 0 from rfl)).mpr c523
                  have X2 : x1_482 = 1 := i1_of hL482_1 (by omega)
                  have EW8 : eqw tx sz1 (kW 8) p0 = true := by first | exact eqw_t.mpr ⟨(hL482_2 X2).1.trans rfl, fun q hq => (hL482_2 X2).2 q (by have : (kW 8).length = 12 - 8 := rfl; omega)⟩ | (exfalso; omega)
                  refine lv_iload_n hx hb dX12_key_121 rfl (lv_at hl 1 rfl) ?_
                  exact W.iret (v := 1) hx hb hr (fun t ht hW => ⟨1, rfl, Or.inr (Or.inl ⟨rfl, by exact (kd_word (by omega)).trans ((if_neg (by rw [show eqw tx sz1 wVx p0 = false from EW1]; decide)).trans (if_pos EW8))⟩), ht⟩) (fun _ h => absurd h List.not_mem_nil) dX12_key_122
              · have c522 := mt (b_eq (rfl : Int32.toInt x1_482 = _) (show Int32.toInt 0 = 0 from rfl)).mpr c522
                have X1 : x1_482 = 1 := i1_of hL482_1 (by omega)
                refine va_ldcS hx hb hown hZ dX12_key_80 ?_
                refine lv_iload_n hx hb dX12_key_82 rfl (lv_at hl 2 rfl) ?_
                refine lv_iload hx hb dX12_key_83 (lv_at hl 5 rfl) ?_
                refine lv_iadd hx hb dX12_key_85 ?_
                refine W.eq (g2 := F0 m 86 ls [.int (nI (8 + i_482)), .ref (adK 3)]) (congrArg (fun z : Int32 => F0 m 86 ls (.int z :: [.ref (adK 3)])) (nI_add 8 i_482)) ?_
                refine vp_callSi (va_Run.run (va_runV (As := [.int (nI (8 + i_482))]) (rest := []) ⟨hx, hb, hml, hown, noTs⟩ (s_J0_charAt l adK adV 3 (8 + i_482) (by decide) (by show _ < 18; omega)) ⟨cbE 1 (wd_498 hE) (wd_129 hE) (wd_1528 hE) rfl rfl (by decide +kernel) ⟨Nat.le_of_ble_eq_true rfl, Nat.le_of_ble_eq_true rfl⟩, (wd_496 hE), (wd_497 hE)⟩ ⟨PS.blind, vk_recv hX.1 (by decide) hS, ps_pre (av := [.ref (adK 3), .int (nI (8 + i_482))]) hX hS hE⟩ rfl rfl hl.1 rfl (lv_room (Nat.le_of_ble_eq_true rfl)) dX12_key_86 ⟨Nat.le_of_ble_eq_true rfl, Nat.le_of_ble_eq_true rfl⟩)) (fun r561 hr561 => ?_)
                refine lv_aload_n hx hb dX12_key_89 rfl (lv_at hl 0 rfl) ?_
                refine lv_aload_n hx hb dX12_key_90 rfl (lv_at hl 0 rfl) ?_
                refine r_get (v := .int (nI p0)) hx hb (ly_X12 hE) hown hK hP rfl 13 (by decide) (wd_1394 hE) (fun _ h9 => h9) (congrArg (fun z : Int32 => some (Value.int z)) te13_2) dX12_key_91 ?_
                refine lv_iload hx hb dX12_key_94 (lv_at hl 5 rfl) ?_
                refine lv_iadd hx hb dX12_key_96 ?_
                refine W.eq (g2 := F0 m 97 ls [.int (nI (p0 + i_482)), .ref (b 0), .int r561]) (congrArg (fun z : Int32 => F0 m 97 ls (.int z :: [.ref (b 0), .int r561])) (nI_add p0 i_482)) ?_
                refine vp_callSi (va_Run.run (va_runV (As := [.int (nI (p0 + i_482))]) (rest := [.int r561]) ⟨hx, hb, hml, hown, noTs⟩ (r_X12_byteAt l dC dI s.heap.size cs b u tx hAc16 (p0 + i_482) sz1 hF11 (by first | assumption | omega | rfl | (congr 1; omega)) (by first | assumption | omega | rfl | (congr 1; omega))) ⟨cbE 1 (wd_1510 hE) (wd_126 hE) (wd_1507 hE) rfl rfl (by decide +kernel) ⟨Nat.le_of_ble_eq_true rfl, Nat.le_of_ble_eq_true rfl⟩, (wd_1509 hE), (wd_57 hE)⟩ ⟨PR.blind, r_recv hK hP rfl, (r_pre (av := [.ref (b 0), .int (nI (p0 + i_482))]) hK hP hJ hE)⟩ rfl rfl hl.1 rfl (lv_room (Nat.le_of_ble_eq_true rfl)) dX12_key_97 ⟨Nat.le_of_ble_eq_true rfl, Nat.le_of_ble_eq_true rfl⟩)) (fun r562 hr562 => ?_)
                subst hr562
                have htf562 := bA_f tx sz1 (p0 + i_482)
                have HRC := hr561
                have RCH := ch_8 i_482 (by omega)
                refine lv_icmp_ne (tgt := 107) hx hb dX12_key_100 (by decide) (fun c563 => ?_) (fun c563 => ?_)
                · have c563 := mt (b_eq (rfl : Int32.toInt r561 = _) (rfl : Int32.toInt (bA tx sz1 (p0 + i_482)) = _)).mpr c563
                  have NE : bA tx sz1 (p0 + i_482) ≠ (kW 8).getD i_482 0 := by rw [← RCH, ← HRC]; intro e; have := congrArg Int32.toInt e; omega
                  refine lv_iconst (v := 0) hx hb dX12_key_107 (by decide) ?_
                  refine lv_istore (lv' := [(4, .int 0), (0, .ref (b 0)), (1, .int 1), (2, .int 8), (3, .int 12), (5, .int (nI i_482))]) hx hb dX12_key_108 hl (by decide) rfl (fun ls hl => ?_)
                  refine lv_iinc (v := nI (i_482 + 1)) (lv' := [(5, .int (nI (i_482 + 1))), (4, .int 0), (0, .ref (b 0)), (1, .int 1), (2, .int 8), (3, .int 12)]) hx hb dX12_key_110 hl (k := 5) rfl (nI_1 i_482) (by decide) rfl (fun ls hl => ?_)
                  refine lv_goto (tgt := 67) hx hb dX12_key_113 (by decide) ?_
                  exact ih482 _ _ (by omega) ⟨(i_482 + 1), 0, rfl, (by first | assumption | omega | rfl | (congr 1; omega)), (by first | exact Or.inl rfl | exact Or.inr rfl), (by first | (intro _; exact ⟨(hL482_2 X1).1, fun q hq => by rcases Nat.lt_or_ge q i_482 with h | h; (exact (hL482_2 X1).2 q h); (obtain rfl : q = i_482 := by omega); exact EQ⟩) | (intro h; exact absurd h (by decide))), (by first | (intro h; exact absurd h (by decide)) | (intro _; exact eqw_at (w := kW 8) (by have : (kW 8).length = 12 - 8 := rfl; omega) NE)), lv_sub hl [2, 3, 4, 5, 1, 0] rfl⟩
                · have c563 := (b_eq (rfl : Int32.toInt r561 = _) (rfl : Int32.toInt (bA tx sz1 (p0 + i_482)) = _)).mp c563
                  have EQ : bA tx sz1 (p0 + i_482) = (kW 8).getD i_482 0 := by rw [← RCH, ← HRC]; exact Int32.toInt_inj.mp (by omega)
                  refine lv_iconst (v := 1) hx hb dX12_key_103 (by decide) ?_
                  refine lv_goto (tgt := 108) hx hb dX12_key_104 (by decide) ?_
                  refine lv_istore (lv' := [(4, .int 1), (0, .ref (b 0)), (1, .int 1), (2, .int 8), (3, .int 12), (5, .int (nI i_482))]) hx hb dX12_key_108 hl (by decide) rfl (fun ls hl => ?_)
                  refine lv_iinc (v := nI (i_482 + 1)) (lv' := [(5, .int (nI (i_482 + 1))), (4, .int 1), (0, .ref (b 0)), (1, .int 1), (2, .int 8), (3, .int 12)]) hx hb dX12_key_110 hl (k := 5) rfl (nI_1 i_482) (by decide) rfl (fun ls hl => ?_)
                  refine lv_goto (tgt := 67) hx hb dX12_key_113 (by decide) ?_
                  exact ih482 _ _ (by omega) ⟨(i_482 + 1), 1, rfl, (by first | assumption | omega | rfl | (congr 1; omega)), (by first | exact Or.inl rfl | exact Or.inr rfl), (by first | (intro _; exact ⟨(hL482_2 X1).1, fun q hq => by rcases Nat.lt_or_ge q i_482 with h | h; (exact (hL482_2 X1).2 q h); (obtain rfl : q = i_482 := by omega); exact EQ⟩) | (intro h; exact absurd h (by decide))), (by first | (intro h; exact absurd h (by decide)) | (intro _; exact eqw_at (w := kW 8) (by have : (kW 8).length = 12 - 8 := rfl; omega) NE)), lv_sub hl [2, 3, 4, 5, 1, 0] rfl⟩
        · have c386 := mt (b_eq (rfl : Int32.toInt x1_384 = _) (show Int32.toInt 0 = 0 from rfl)).mpr c386
          have X2 : x1_384 = 1 := i1_of hL384_1 (by omega)
          have EW1 : eqw tx sz1 (kW 1) p0 = true := by first | exact eqw_t.mpr ⟨(hL384_2 X2).1.trans rfl, fun q hq => (hL384_2 X2).2 q (by have : (kW 1).length = 7 - 1 := rfl; omega)⟩ | (exfalso; omega)
          refine lv_iload_n hx hb dX12_key_121 rfl (lv_at hl 1 rfl) ?_
          exact W.iret (v := 0) hx hb hr (fun t ht hW => ⟨0, rfl, Or.inl ⟨rfl, by exact (kd_word (by omega)).trans (if_pos EW1)⟩, ht⟩) (fun _ h => absurd h List.not_mem_nil) dX12_key_122
      · have c385 := mt (b_le (show Int32.toInt 6 = 6 from rfl) (nI_toInt (n := i_384) (by omega))).mpr c385
        refine lv_iload hx hb dX12_key_75 (lv_at hl 4 rfl) ?_
        refine lv_if_eq (tgt := 116) hx hb dX12_key_77 (by decide) (fun c564 => ?_) (fun c564 => ?_)
        · have c564 := (b_eq (rfl : Int32.toInt x1_384 = _) (show Int32.toInt 0 = 0 from rfl)).mp c564
          refine lv_iload hx hb dX12_key_116 (lv_at hl 4 rfl) ?_
          refine lv_if_eq (tgt := 123) hx hb dX12_key_118 (by decide) (fun c565 => ?_) (fun c565 => ?_)
          · have c565 := (b_eq (rfl : Int32.toInt x1_384 = _) (show Int32.toInt 0 = 0 from rfl)).mp c565
            have EW1 : eqw tx sz1 (kW 1) p0 = false := hL384_3 (i0_of (by omega))
            refine lv_iinc (v := 1) (lv' := [(1, .int 1), (0, .ref (b 0)), (2, .int 1), (3, .int 7), (4, .int x1_384), (5, .int (nI i_384))]) hx hb dX12_key_123 hl (k := 1) rfl (by decide) (by decide) rfl (fun ls hl => ?_)
            refine lv_iload_n hx hb dX12_key_126 rfl (lv_at hl 3 rfl) ?_
            refine lv_iconst (v := 1) hx hb dX12_key_127 (by decide) ?_
            refine lv_iadd hx hb dX12_key_128 ?_
            refine W.eq (g2 := F0 m 129 ls [.int 8]) rfl ?_
            refine lv_istore_n (lv' := [(2, .int 8), (1, .int 1), (0, .ref (b 0)), (3, .int 7), (4, .int x1_384), (5, .int (nI i_384))]) hx hb dX12_key_129 rfl hl (by decide) rfl (fun ls hl => ?_)
            refine lv_goto (tgt := 14) hx hb dX12_key_130 (by decide) ?_
            refine lv_iload_n hx hb dX12_key_14 rfl (lv_at hl 0 rfl) ?_
            refine va_ldcS hx hb hown hZ dX12_key_15 ?_
            refine vp_callSi (va_Run.run (va_runV (As := []) (rest := [.int 8]) ⟨hx, hb, hml, hown, noTs⟩ (s_J0_length l adK adV 3 (by decide)) ⟨cbE 0 (wd_488 hE) (wd_129 hE) (wd_1527 hE) rfl rfl (by decide +kernel) ⟨Nat.le_of_ble_eq_true rfl, Nat.le_of_ble_eq_true rfl⟩, (wd_486 hE), (wd_487 hE)⟩ ⟨PS.blind, vk_recv hX.1 (by decide) hS, ps_pre (av := [.ref (adK 3)]) hX hS hE⟩ rfl rfl hl.1 rfl (lv_room (Nat.le_of_ble_eq_true rfl)) dX12_key_17 ⟨Nat.le_of_ble_eq_true rfl, Nat.le_of_ble_eq_true rfl⟩)) (fun r566 hr566 => ?_)
            have hr566 : r566 = 18 := hr566
            subst hr566
            refine lv_icmp_ge (tgt := 133) hx hb dX12_key_20 (by decide) (fun c567 => absurd c567 (by decide)) (fun c567 => ?_)
            refine lv_iload_n hx hb dX12_key_23 rfl (lv_at hl 0 rfl) ?_
            refine lv_istore_n (lv' := [(3, .int 8), (2, .int 8), (1, .int 1), (0, .ref (b 0)), (4, .int x1_384), (5, .int (nI i_384))]) hx hb dX12_key_24 rfl hl (by decide) rfl (fun ls hl => ?_)
            refine va_ldcS hx hb hown hZ dX12_key_25 ?_
            refine lv_iload_n hx hb dX12_key_27 rfl (lv_at hl 0 rfl) ?_
            refine vp_callSi (va_Run.run (va_runV (As := [.int (nI 8)]) (rest := []) ⟨hx, hb, hml, hown, noTs⟩ (s_J0_charAt l adK adV 3 8 (by decide) (by show _ < 18; omega)) ⟨cbE 1 (wd_498 hE) (wd_129 hE) (wd_1528 hE) rfl rfl (by decide +kernel) ⟨Nat.le_of_ble_eq_true rfl, Nat.le_of_ble_eq_true rfl⟩, (wd_496 hE), (wd_497 hE)⟩ ⟨PS.blind, vk_recv hX.1 (by decide) hS, ps_pre (av := [.ref (adK 3), .int (nI 8)]) hX hS hE⟩ rfl rfl hl.1 rfl (lv_room (Nat.le_of_ble_eq_true rfl)) dX12_key_28 ⟨Nat.le_of_ble_eq_true rfl, Nat.le_of_ble_eq_true rfl⟩)) (fun r568 hr568 => ?_)
            have hr568 : r568 = 101 := hr568.trans (by decide)
            subst hr568
            refine lv_bipush (v := 32) hx hb dX12_key_31 (by decide) ?_
            refine lv_icmp_eq (tgt := 42) hx hb dX12_key_33 (by decide) (fun c569 => absurd c569 (by decide)) (fun c569 => ?_)
            refine lv_iinc (v := 9) (lv' := [(3, .int 9), (2, .int 8), (1, .int 1), (0, .ref (b 0)), (4, .int x1_384), (5, .int (nI i_384))]) hx hb dX12_key_36 hl (k := 0) rfl (by decide) (by decide) rfl (fun ls hl => ?_)
            refine lv_goto (tgt := 25) hx hb dX12_key_39 (by decide) ?_
            refine va_ldcS hx hb hown hZ dX12_key_25 ?_
            refine lv_iload_n hx hb dX12_key_27 rfl (lv_at hl 0 rfl) ?_
            refine vp_callSi (va_Run.run (va_runV (As := [.int (nI 9)]) (rest := []) ⟨hx, hb, hml, hown, noTs⟩ (s_J0_charAt l adK adV 3 9 (by decide) (by show _ < 18; omega)) ⟨cbE 1 (wd_498 hE) (wd_129 hE) (wd_1528 hE) rfl rfl (by decide +kernel) ⟨Nat.le_of_ble_eq_true rfl, Nat.le_of_ble_eq_true rfl⟩, (wd_496 hE), (wd_497 hE)⟩ ⟨PS.blind, vk_recv hX.1 (by decide) hS, ps_pre (av := [.ref (adK 3), .int (nI 9)]) hX hS hE⟩ rfl rfl hl.1 rfl (lv_room (Nat.le_of_ble_eq_true rfl)) dX12_key_28 ⟨Nat.le_of_ble_eq_true rfl, Nat.le_of_ble_eq_true rfl⟩)) (fun r570 hr570 => ?_)
            have hr570 : r570 = 100 := hr570.trans (by decide)
            subst hr570
            refine lv_bipush (v := 32) hx hb dX12_key_31 (by decide) ?_
            refine lv_icmp_eq (tgt := 42) hx hb dX12_key_33 (by decide) (fun c571 => absurd c571 (by decide)) (fun c571 => ?_)
            refine lv_iinc (v := 10) (lv' := [(3, .int 10), (2, .int 8), (1, .int 1), (0, .ref (b 0)), (4, .int x1_384), (5, .int (nI i_384))]) hx hb dX12_key_36 hl (k := 0) rfl (by decide) (by decide) rfl (fun ls hl => ?_)
            refine lv_goto (tgt := 25) hx hb dX12_key_39 (by decide) ?_
            refine va_ldcS hx hb hown hZ dX12_key_25 ?_
            refine lv_iload_n hx hb dX12_key_27 rfl (lv_at hl 0 rfl) ?_
            refine vp_callSi (va_Run.run (va_runV (As := [.int (nI 10)]) (rest := []) ⟨hx, hb, hml, hown, noTs⟩ (s_J0_charAt l adK adV 3 10 (by decide) (by show _ < 18; omega)) ⟨cbE 1 (wd_498 hE) (wd_129 hE) (wd_1528 hE) rfl rfl (by decide +kernel) ⟨Nat.le_of_ble_eq_true rfl, Nat.le_of_ble_eq_true rfl⟩, (wd_496 hE), (wd_497 hE)⟩ ⟨PS.blind, vk_recv hX.1 (by decide) hS, ps_pre (av := [.ref (adK 3), .int (nI 10)]) hX hS hE⟩ rfl rfl hl.1 rfl (lv_room (Nat.le_of_ble_eq_true rfl)) dX12_key_28 ⟨Nat.le_of_ble_eq_true rfl, Nat.le_of_ble_eq_true rfl⟩)) (fun r572 hr572 => ?_)
            have hr572 : r572 = 103 := hr572.trans (by decide)
            subst hr572
            refine lv_bipush (v := 32) hx hb dX12_key_31 (by decide) ?_
            refine lv_icmp_eq (tgt := 42) hx hb dX12_key_33 (by decide) (fun c573 => absurd c573 (by decide)) (fun c573 => ?_)
            refine lv_iinc (v := 11) (lv' := [(3, .int 11), (2, .int 8), (1, .int 1), (0, .ref (b 0)), (4, .int x1_384), (5, .int (nI i_384))]) hx hb dX12_key_36 hl (k := 0) rfl (by decide) (by decide) rfl (fun ls hl => ?_)
            refine lv_goto (tgt := 25) hx hb dX12_key_39 (by decide) ?_
            refine va_ldcS hx hb hown hZ dX12_key_25 ?_
            refine lv_iload_n hx hb dX12_key_27 rfl (lv_at hl 0 rfl) ?_
            refine vp_callSi (va_Run.run (va_runV (As := [.int (nI 11)]) (rest := []) ⟨hx, hb, hml, hown, noTs⟩ (s_J0_charAt l adK adV 3 11 (by decide) (by show _ < 18; omega)) ⟨cbE 1 (wd_498 hE) (wd_129 hE) (wd_1528 hE) rfl rfl (by decide +kernel) ⟨Nat.le_of_ble_eq_true rfl, Nat.le_of_ble_eq_true rfl⟩, (wd_496 hE), (wd_497 hE)⟩ ⟨PS.blind, vk_recv hX.1 (by decide) hS, ps_pre (av := [.ref (adK 3), .int (nI 11)]) hX hS hE⟩ rfl rfl hl.1 rfl (lv_room (Nat.le_of_ble_eq_true rfl)) dX12_key_28 ⟨Nat.le_of_ble_eq_true rfl, Nat.le_of_ble_eq_true rfl⟩)) (fun r574 hr574 => ?_)
            have hr574 : r574 = 101 := hr574.trans (by decide)
            subst hr574
            refine lv_bipush (v := 32) hx hb dX12_key_31 (by decide) ?_
            refine lv_icmp_eq (tgt := 42) hx hb dX12_key_33 (by decide) (fun c575 => absurd c575 (by decide)) (fun c575 => ?_)
            refine lv_iinc (v := 12) (lv' := [(3, .int 12), (2, .int 8), (1, .int 1), (0, .ref (b 0)), (4, .int x1_384), (5, .int (nI i_384))]) hx hb dX12_key_36 hl (k := 0) rfl (by decide) (by decide) rfl (fun ls hl => ?_)
            refine lv_goto (tgt := 25) hx hb dX12_key_39 (by decide) ?_
            refine va_ldcS hx hb hown hZ dX12_key_25 ?_
            refine lv_iload_n hx hb dX12_key_27 rfl (lv_at hl 0 rfl) ?_
            refine vp_callSi (va_Run.run (va_runV (As := [.int (nI 12)]) (rest := []) ⟨hx, hb, hml, hown, noTs⟩ (s_J0_charAt l adK adV 3 12 (by decide) (by show _ < 18; omega)) ⟨cbE 1 (wd_498 hE) (wd_129 hE) (wd_1528 hE) rfl rfl (by decide +kernel) ⟨Nat.le_of_ble_eq_true rfl, Nat.le_of_ble_eq_true rfl⟩, (wd_496 hE), (wd_497 hE)⟩ ⟨PS.blind, vk_recv hX.1 (by decide) hS, ps_pre (av := [.ref (adK 3), .int (nI 12)]) hX hS hE⟩ rfl rfl hl.1 rfl (lv_room (Nat.le_of_ble_eq_true rfl)) dX12_key_28 ⟨Nat.le_of_ble_eq_true rfl, Nat.le_of_ble_eq_true rfl⟩)) (fun r576 hr576 => ?_)
            have hr576 : r576 = 32 := hr576.trans (by decide)
            subst hr576
            refine lv_bipush (v := 32) hx hb dX12_key_31 (by decide) ?_
            refine lv_icmp_eq (tgt := 42) hx hb dX12_key_33 (by decide) (fun c577 => ?_) (fun c577 => absurd c577 (by decide))
            refine lv_iload_n hx hb dX12_key_42 rfl (lv_at hl 0 rfl) ?_
            refine lv_iload_n hx hb dX12_key_43 rfl (lv_at hl 1 rfl) ?_
            refine lv_isub hx hb dX12_key_44 ?_
            refine W.eq (g2 := F0 m 45 ls [.int 4]) rfl ?_
            refine lv_aload_n hx hb dX12_key_45 rfl (lv_at hl 3 rfl) ?_
            refine r_get (v := .int (nI (tnd tx sz1 p0))) hx hb (ly_X12 hE) hown hK hP rfl 14 (by decide) (wd_1395 hE) (fun _ h9 => h9) (congrArg (fun z : Int32 => some (Value.int z)) te14_2) dX12_key_46 ?_
            refine lv_aload_n hx hb dX12_key_49 rfl (lv_at hl 3 rfl) ?_
            refine r_get (v := .int (nI p0)) hx hb (ly_X12 hE) hown hK hP rfl 13 (by decide) (wd_1394 hE) (fun _ h9 => h9) (congrArg (fun z : Int32 => some (Value.int z)) te13_2) dX12_key_50 ?_
            refine lv_isub hx hb dX12_key_53 ?_
            refine W.eq (g2 := F0 m 54 ls [.int (nI ((tnd tx sz1 p0) - p0)), .int 4]) (congrArg (fun z : Int32 => F0 m 54 ls (.int z :: [.int 4])) (pk_sub (a := tnd tx sz1 p0) (b := p0) (by omega))) ?_
            refine lv_icmp_ne (tgt := 61) hx hb dX12_key_54 (by decide) (fun c578 => ?_) (fun c578 => ?_)
            · have c578 := mt (b_eq (show Int32.toInt 4 = 4 from rfl) (nI_toInt (n := (tnd tx sz1 p0) - p0) (by omega))).mpr c578
              refine lv_iconst (v := 0) hx hb dX12_key_61 (by decide) ?_
              refine lv_istore (lv' := [(4, .int 0), (3, .int 12), (2, .int 8), (1, .int 1), (0, .ref (b 0)), (5, .int (nI i_384))]) hx hb dX12_key_62 hl (by decide) rfl (fun ls hl => ?_)
              refine lv_iconst (v := 0) hx hb dX12_key_64 (by decide) ?_
              refine lv_istore (lv' := [(5, .int 0), (4, .int 0), (3, .int 12), (2, .int 8), (1, .int 1), (0, .ref (b 0))]) hx hb dX12_key_65 hl (by decide) rfl (fun ls hl => ?_)
              refine r_indP (I := fun n ls => ∃ (i_579 : Nat) (x1_579 : Int32), n = 12 - 8 - i_579 ∧ (i_579 ≤ 12 - 8) ∧ (x1_579 = 0 ∨ x1_579 = 1) ∧ (x1_579 = 1 → tnd tx sz1 p0 - p0 = 12 - 8 ∧ ∀ q, q < i_579 → bA tx sz1 (p0 + q) = (kW 8).getD q 0) ∧ (x1_579 = 0 → eqw tx sz1 (kW 8) p0 = false) ∧ lv_has ls 6 [(0, .ref (b 0)), (1, .int 1), (2, .int 8), (3, .int 12), (4, .int x1_579), (5, .int (nI i_579))]) (fun n ls hI ih579 => ?_) _ _ ⟨0, 0, rfl, (by first | assumption | omega | rfl | (congr 1; omega)), (by first | exact Or.inl rfl | exact Or.inr rfl), (by first | (intro _; exact ⟨by omega, fun q hq => absurd hq (by omega)⟩) | (intro h; exact absurd h (by decide))), (by first | (intro h; exact absurd h (by decide)) | (intro _; exact eqw_len (w := kW 8) (l := 12 - 8) rfl (by omega))), lv_sub hl [5, 4, 3, 2, 1, 0] rfl⟩
              obtain ⟨i_579, x1_579, hmu579, hL579_0, hL579_1, hL579_2, hL579_3, hl⟩ := hI
              subst hmu579
              refine lv_iload hx hb dX12_key_67 (lv_at hl 5 rfl) ?_
              refine lv_iload_n hx hb dX12_key_69 rfl (lv_at hl 3 rfl) ?_
              refine lv_iload_n hx hb dX12_key_70 rfl (lv_at hl 2 rfl) ?_
              refine lv_isub hx hb dX12_key_71 ?_
              refine W.eq (g2 := F0 m 72 ls [.int 4, .int (nI i_579)]) rfl ?_
              refine lv_icmp_ge (tgt := 116) hx hb dX12_key_72 (by decide) (fun c580 => ?_) (fun c580 => ?_)
              · have c580 := (b_le (show Int32.toInt 4 = 4 from rfl) (nI_toInt (n := i_579) (by omega))).mp c580
                refine lv_iload hx hb dX12_key_116 (lv_at hl 4 rfl) ?_
                refine lv_if_eq (tgt := 123) hx hb dX12_key_118 (by decide) (fun c581 => ?_) (fun c581 => ?_)
                · have c581 := (b_eq (rfl : Int32.toInt x1_579 = _) (show Int32.toInt 0 = 0 from rfl)).mp c581
                  have EW8 : eqw tx sz1 (kW 8) p0 = false := hL579_3 (i0_of (by omega))
                  refine lv_iinc (v := 2) (lv' := [(1, .int 2), (0, .ref (b 0)), (2, .int 8), (3, .int 12), (4, .int x1_579), (5, .int (nI i_579))]) hx hb dX12_key_123 hl (k := 1) rfl (by decide) (by decide) rfl (fun ls hl => ?_)
                  refine lv_iload_n hx hb dX12_key_126 rfl (lv_at hl 3 rfl) ?_
                  refine lv_iconst (v := 1) hx hb dX12_key_127 (by decide) ?_
                  refine lv_iadd hx hb dX12_key_128 ?_
                  refine W.eq (g2 := F0 m 129 ls [.int 13]) rfl ?_
                  refine lv_istore_n (lv' := [(2, .int 13), (1, .int 2), (0, .ref (b 0)), (3, .int 12), (4, .int x1_579), (5, .int (nI i_579))]) hx hb dX12_key_129 rfl hl (by decide) rfl (fun ls hl => ?_)
                  refine lv_goto (tgt := 14) hx hb dX12_key_130 (by decide) ?_
                  refine lv_iload_n hx hb dX12_key_14 rfl (lv_at hl 0 rfl) ?_
                  refine va_ldcS hx hb hown hZ dX12_key_15 ?_
                  refine vp_callSi (va_Run.run (va_runV (As := []) (rest := [.int 13]) ⟨hx, hb, hml, hown, noTs⟩ (s_J0_length l adK adV 3 (by decide)) ⟨cbE 0 (wd_488 hE) (wd_129 hE) (wd_1527 hE) rfl rfl (by decide +kernel) ⟨Nat.le_of_ble_eq_true rfl, Nat.le_of_ble_eq_true rfl⟩, (wd_486 hE), (wd_487 hE)⟩ ⟨PS.blind, vk_recv hX.1 (by decide) hS, ps_pre (av := [.ref (adK 3)]) hX hS hE⟩ rfl rfl hl.1 rfl (lv_room (Nat.le_of_ble_eq_true rfl)) dX12_key_17 ⟨Nat.le_of_ble_eq_true rfl, Nat.le_of_ble_eq_true rfl⟩)) (fun r582 hr582 => ?_)
                  have hr582 : r582 = 18 := hr582
                  subst hr582
                  refine lv_icmp_ge (tgt := 133) hx hb dX12_key_20 (by decide) (fun c583 => absurd c583 (by decide)) (fun c583 => ?_)
                  refine lv_iload_n hx hb dX12_key_23 rfl (lv_at hl 0 rfl) ?_
                  refine lv_istore_n (lv' := [(3, .int 13), (2, .int 13), (1, .int 2), (0, .ref (b 0)), (4, .int x1_579), (5, .int (nI i_579))]) hx hb dX12_key_24 rfl hl (by decide) rfl (fun ls hl => ?_)
                  refine va_ldcS hx hb hown hZ dX12_key_25 ?_
                  refine lv_iload_n hx hb dX12_key_27 rfl (lv_at hl 0 rfl) ?_
                  refine vp_callSi (va_Run.run (va_runV (As := [.int (nI 13)]) (rest := []) ⟨hx, hb, hml, hown, noTs⟩ (s_J0_charAt l adK adV 3 13 (by decide) (by show _ < 18; omega)) ⟨cbE 1 (wd_498 hE) (wd_129 hE) (wd_1528 hE) rfl rfl (by decide +kernel) ⟨Nat.le_of_ble_eq_true rfl, Nat.le_of_ble_eq_true rfl⟩, (wd_496 hE), (wd_497 hE)⟩ ⟨PS.blind, vk_recv hX.1 (by decide) hS, ps_pre (av := [.ref (adK 3), .int (nI 13)]) hX hS hE⟩ rfl rfl hl.1 rfl (lv_room (Nat.le_of_ble_eq_true rfl)) dX12_key_28 ⟨Nat.le_of_ble_eq_true rfl, Nat.le_of_ble_eq_true rfl⟩)) (fun r584 hr584 => ?_)
                  have hr584 : r584 = 119 := hr584.trans (by decide)
                  subst hr584
                  refine lv_bipush (v := 32) hx hb dX12_key_31 (by decide) ?_
                  refine lv_icmp_eq (tgt := 42) hx hb dX12_key_33 (by decide) (fun c585 => absurd c585 (by decide)) (fun c585 => ?_)
                  refine lv_iinc (v := 14) (lv' := [(3, .int 14), (2, .int 13), (1, .int 2), (0, .ref (b 0)), (4, .int x1_579), (5, .int (nI i_579))]) hx hb dX12_key_36 hl (k := 0) rfl (by decide) (by decide) rfl (fun ls hl => ?_)
                  refine lv_goto (tgt := 25) hx hb dX12_key_39 (by decide) ?_
                  refine va_ldcS hx hb hown hZ dX12_key_25 ?_
                  refine lv_iload_n hx hb dX12_key_27 rfl (lv_at hl 0 rfl) ?_
                  refine vp_callSi (va_Run.run (va_runV (As := [.int (nI 14)]) (rest := []) ⟨hx, hb, hml, hown, noTs⟩ (s_J0_charAt l adK adV 3 14 (by decide) (by show _ < 18; omega)) ⟨cbE 1 (wd_498 hE) (wd_129 hE) (wd_1528 hE) rfl rfl (by decide +kernel) ⟨Nat.le_of_ble_eq_true rfl, Nat.le_of_ble_eq_true rfl⟩, (wd_496 hE), (wd_497 hE)⟩ ⟨PS.blind, vk_recv hX.1 (by decide) hS, ps_pre (av := [.ref (adK 3), .int (nI 14)]) hX hS hE⟩ rfl rfl hl.1 rfl (lv_room (Nat.le_of_ble_eq_true rfl)) dX12_key_28 ⟨Nat.le_of_ble_eq_true rfl, Nat.le_of_ble_eq_true rfl⟩)) (fun r586 hr586 => ?_)
                  have hr586 : r586 = 111 := hr586.trans (by decide)
                  subst hr586
                  refine lv_bipush (v := 32) hx hb dX12_key_31 (by decide) ?_
                  refine lv_icmp_eq (tgt := 42) hx hb dX12_key_33 (by decide) (fun c587 => absurd c587 (by decide)) (fun c587 => ?_)
                  refine lv_iinc (v := 15) (lv' := [(3, .int 15), (2, .int 13), (1, .int 2), (0, .ref (b 0)), (4, .int x1_579), (5, .int (nI i_579))]) hx hb dX12_key_36 hl (k := 0) rfl (by decide) (by decide) rfl (fun ls hl => ?_)
                  refine lv_goto (tgt := 25) hx hb dX12_key_39 (by decide) ?_
                  refine va_ldcS hx hb hown hZ dX12_key_25 ?_
                  refine lv_iload_n hx hb dX12_key_27 rfl (lv_at hl 0 rfl) ?_
                  refine vp_callSi (va_Run.run (va_runV (As := [.int (nI 15)]) (rest := []) ⟨hx, hb, hml, hown, noTs⟩ (s_J0_charAt l adK adV 3 15 (by decide) (by show _ < 18; omega)) ⟨cbE 1 (wd_498 hE) (wd_129 hE) (wd_1528 hE) rfl rfl (by decide +kernel) ⟨Nat.le_of_ble_eq_true rfl, Nat.le_of_ble_eq_true rfl⟩, (wd_496 hE), (wd_497 hE)⟩ ⟨PS.blind, vk_recv hX.1 (by decide) hS, ps_pre (av := [.ref (adK 3), .int (nI 15)]) hX hS hE⟩ rfl rfl hl.1 rfl (lv_room (Nat.le_of_ble_eq_true rfl)) dX12_key_28 ⟨Nat.le_of_ble_eq_true rfl, Nat.le_of_ble_eq_true rfl⟩)) (fun r588 hr588 => ?_)
                  have hr588 : r588 = 114 := hr588.trans (by decide)
                  subst hr588
                  refine lv_bipush (v := 32) hx hb dX12_key_31 (by decide) ?_
                  refine lv_icmp_eq (tgt := 42) hx hb dX12_key_33 (by decide) (fun c589 => absurd c589 (by decide)) (fun c589 => ?_)
                  refine lv_iinc (v := 16) (lv' := [(3, .int 16), (2, .int 13), (1, .int 2), (0, .ref (b 0)), (4, .int x1_579), (5, .int (nI i_579))]) hx hb dX12_key_36 hl (k := 0) rfl (by decide) (by decide) rfl (fun ls hl => ?_)
                  refine lv_goto (tgt := 25) hx hb dX12_key_39 (by decide) ?_
                  refine va_ldcS hx hb hown hZ dX12_key_25 ?_
                  refine lv_iload_n hx hb dX12_key_27 rfl (lv_at hl 0 rfl) ?_
                  refine vp_callSi (va_Run.run (va_runV (As := [.int (nI 16)]) (rest := []) ⟨hx, hb, hml, hown, noTs⟩ (s_J0_charAt l adK adV 3 16 (by decide) (by show _ < 18; omega)) ⟨cbE 1 (wd_498 hE) (wd_129 hE) (wd_1528 hE) rfl rfl (by decide +kernel) ⟨Nat.le_of_ble_eq_true rfl, Nat.le_of_ble_eq_true rfl⟩, (wd_496 hE), (wd_497 hE)⟩ ⟨PS.blind, vk_recv hX.1 (by decide) hS, ps_pre (av := [.ref (adK 3), .int (nI 16)]) hX hS hE⟩ rfl rfl hl.1 rfl (lv_room (Nat.le_of_ble_eq_true rfl)) dX12_key_28 ⟨Nat.le_of_ble_eq_true rfl, Nat.le_of_ble_eq_true rfl⟩)) (fun r590 hr590 => ?_)
                  have hr590 : r590 = 100 := hr590.trans (by decide)
                  subst hr590
                  refine lv_bipush (v := 32) hx hb dX12_key_31 (by decide) ?_
                  refine lv_icmp_eq (tgt := 42) hx hb dX12_key_33 (by decide) (fun c591 => absurd c591 (by decide)) (fun c591 => ?_)
                  refine lv_iinc (v := 17) (lv' := [(3, .int 17), (2, .int 13), (1, .int 2), (0, .ref (b 0)), (4, .int x1_579), (5, .int (nI i_579))]) hx hb dX12_key_36 hl (k := 0) rfl (by decide) (by decide) rfl (fun ls hl => ?_)
                  refine lv_goto (tgt := 25) hx hb dX12_key_39 (by decide) ?_
                  refine va_ldcS hx hb hown hZ dX12_key_25 ?_
                  refine lv_iload_n hx hb dX12_key_27 rfl (lv_at hl 0 rfl) ?_
                  refine vp_callSi (va_Run.run (va_runV (As := [.int (nI 17)]) (rest := []) ⟨hx, hb, hml, hown, noTs⟩ (s_J0_charAt l adK adV 3 17 (by decide) (by show _ < 18; omega)) ⟨cbE 1 (wd_498 hE) (wd_129 hE) (wd_1528 hE) rfl rfl (by decide +kernel) ⟨Nat.le_of_ble_eq_true rfl, Nat.le_of_ble_eq_true rfl⟩, (wd_496 hE), (wd_497 hE)⟩ ⟨PS.blind, vk_recv hX.1 (by decide) hS, ps_pre (av := [.ref (adK 3), .int (nI 17)]) hX hS hE⟩ rfl rfl hl.1 rfl (lv_room (Nat.le_of_ble_eq_true rfl)) dX12_key_28 ⟨Nat.le_of_ble_eq_true rfl, Nat.le_of_ble_eq_true rfl⟩)) (fun r592 hr592 => ?_)
                  have hr592 : r592 = 32 := hr592.trans (by decide)
                  subst hr592
                  refine lv_bipush (v := 32) hx hb dX12_key_31 (by decide) ?_
                  refine lv_icmp_eq (tgt := 42) hx hb dX12_key_33 (by decide) (fun c593 => ?_) (fun c593 => absurd c593 (by decide))
                  refine lv_iload_n hx hb dX12_key_42 rfl (lv_at hl 0 rfl) ?_
                  refine lv_iload_n hx hb dX12_key_43 rfl (lv_at hl 1 rfl) ?_
                  refine lv_isub hx hb dX12_key_44 ?_
                  refine W.eq (g2 := F0 m 45 ls [.int 4]) rfl ?_
                  refine lv_aload_n hx hb dX12_key_45 rfl (lv_at hl 3 rfl) ?_
                  refine r_get (v := .int (nI (tnd tx sz1 p0))) hx hb (ly_X12 hE) hown hK hP rfl 14 (by decide) (wd_1395 hE) (fun _ h9 => h9) (congrArg (fun z : Int32 => some (Value.int z)) te14_2) dX12_key_46 ?_
                  refine lv_aload_n hx hb dX12_key_49 rfl (lv_at hl 3 rfl) ?_
                  refine r_get (v := .int (nI p0)) hx hb (ly_X12 hE) hown hK hP rfl 13 (by decide) (wd_1394 hE) (fun _ h9 => h9) (congrArg (fun z : Int32 => some (Value.int z)) te13_2) dX12_key_50 ?_
                  refine lv_isub hx hb dX12_key_53 ?_
                  refine W.eq (g2 := F0 m 54 ls [.int (nI ((tnd tx sz1 p0) - p0)), .int 4]) (congrArg (fun z : Int32 => F0 m 54 ls (.int z :: [.int 4])) (pk_sub (a := tnd tx sz1 p0) (b := p0) (by omega))) ?_
                  refine lv_icmp_ne (tgt := 61) hx hb dX12_key_54 (by decide) (fun c594 => ?_) (fun c594 => ?_)
                  · have c594 := mt (b_eq (show Int32.toInt 4 = 4 from rfl) (nI_toInt (n := (tnd tx sz1 p0) - p0) (by omega))).mpr c594
                    refine lv_iconst (v := 0) hx hb dX12_key_61 (by decide) ?_
                    refine lv_istore (lv' := [(4, .int 0), (3, .int 17), (2, .int 13), (1, .int 2), (0, .ref (b 0)), (5, .int (nI i_579))]) hx hb dX12_key_62 hl (by decide) rfl (fun ls hl => ?_)
                    refine lv_iconst (v := 0) hx hb dX12_key_64 (by decide) ?_
                    refine lv_istore (lv' := [(5, .int 0), (4, .int 0), (3, .int 17), (2, .int 13), (1, .int 2), (0, .ref (b 0))]) hx hb dX12_key_65 hl (by decide) rfl (fun ls hl => ?_)
                    refine r_indP (I := fun n ls => ∃ (i_595 : Nat) (x1_595 : Int32), n = 17 - 13 - i_595 ∧ (i_595 ≤ 17 - 13) ∧ (x1_595 = 0 ∨ x1_595 = 1) ∧ (x1_595 = 1 → tnd tx sz1 p0 - p0 = 17 - 13 ∧ ∀ q, q < i_595 → bA tx sz1 (p0 + q) = (kW 13).getD q 0) ∧ (x1_595 = 0 → eqw tx sz1 (kW 13) p0 = false) ∧ lv_has ls 6 [(0, .ref (b 0)), (1, .int 2), (2, .int 13), (3, .int 17), (4, .int x1_595), (5, .int (nI i_595))]) (fun n ls hI ih595 => ?_) _ _ ⟨0, 0, rfl, (by first | assumption | omega | rfl | (congr 1; omega)), (by first | exact Or.inl rfl | exact Or.inr rfl), (by first | (intro _; exact ⟨by omega, fun q hq => absurd hq (by omega)⟩) | (intro h; exact absurd h (by decide))), (by first | (intro h; exact absurd h (by decide)) | (intro _; exact eqw_len (w := kW 13) (l := 17 - 13) rfl (by omega))), lv_sub hl [5, 4, 3, 2, 1, 0] rfl⟩
                    obtain ⟨i_595, x1_595, hmu595, hL595_0, hL595_1, hL595_2, hL595_3, hl⟩ := hI
                    subst hmu595
                    refine lv_iload hx hb dX12_key_67 (lv_at hl 5 rfl) ?_
                    refine lv_iload_n hx hb dX12_key_69 rfl (lv_at hl 3 rfl) ?_
                    refine lv_iload_n hx hb dX12_key_70 rfl (lv_at hl 2 rfl) ?_
                    refine lv_isub hx hb dX12_key_71 ?_
                    refine W.eq (g2 := F0 m 72 ls [.int 4, .int (nI i_595)]) rfl ?_
                    refine lv_icmp_ge (tgt := 116) hx hb dX12_key_72 (by decide) (fun c596 => ?_) (fun c596 => ?_)
                    · have c596 := (b_le (show Int32.toInt 4 = 4 from rfl) (nI_toInt (n := i_595) (by omega))).mp c596
                      refine lv_iload hx hb dX12_key_116 (lv_at hl 4 rfl) ?_
                      refine lv_if_eq (tgt := 123) hx hb dX12_key_118 (by decide) (fun c597 => ?_) (fun c597 => ?_)
                      · have c597 := (b_eq (rfl : Int32.toInt x1_595 = _) (show Int32.toInt 0 = 0 from rfl)).mp c597
                        have EW13 : eqw tx sz1 (kW 13) p0 = false := hL595_3 (i0_of (by omega))
                        refine lv_iinc (v := 3) (lv' := [(1, .int 3), (0, .ref (b 0)), (2, .int 13), (3, .int 17), (4, .int x1_595), (5, .int (nI i_595))]) hx hb dX12_key_123 hl (k := 1) rfl (by decide) (by decide) rfl (fun ls hl => ?_)
                        refine lv_iload_n hx hb dX12_key_126 rfl (lv_at hl 3 rfl) ?_
                        refine lv_iconst (v := 1) hx hb dX12_key_127 (by decide) ?_
                        refine lv_iadd hx hb dX12_key_128 ?_
                        refine W.eq (g2 := F0 m 129 ls [.int 18]) rfl ?_
                        refine lv_istore_n (lv' := [(2, .int 18), (1, .int 3), (0, .ref (b 0)), (3, .int 17), (4, .int x1_595), (5, .int (nI i_595))]) hx hb dX12_key_129 rfl hl (by decide) rfl (fun ls hl => ?_)
                        refine lv_goto (tgt := 14) hx hb dX12_key_130 (by decide) ?_
                        refine lv_iload_n hx hb dX12_key_14 rfl (lv_at hl 0 rfl) ?_
                        refine va_ldcS hx hb hown hZ dX12_key_15 ?_
                        refine vp_callSi (va_Run.run (va_runV (As := []) (rest := [.int 18]) ⟨hx, hb, hml, hown, noTs⟩ (s_J0_length l adK adV 3 (by decide)) ⟨cbE 0 (wd_488 hE) (wd_129 hE) (wd_1527 hE) rfl rfl (by decide +kernel) ⟨Nat.le_of_ble_eq_true rfl, Nat.le_of_ble_eq_true rfl⟩, (wd_486 hE), (wd_487 hE)⟩ ⟨PS.blind, vk_recv hX.1 (by decide) hS, ps_pre (av := [.ref (adK 3)]) hX hS hE⟩ rfl rfl hl.1 rfl (lv_room (Nat.le_of_ble_eq_true rfl)) dX12_key_17 ⟨Nat.le_of_ble_eq_true rfl, Nat.le_of_ble_eq_true rfl⟩)) (fun r598 hr598 => ?_)
                        have hr598 : r598 = 18 := hr598
                        subst hr598
                        refine lv_icmp_ge (tgt := 133) hx hb dX12_key_20 (by decide) (fun c599 => ?_) (fun c599 => absurd c599 (by decide))
                        refine lv_iconst (v := -1) hx hb dX12_key_133 (by decide) ?_
                        exact W.iret (v := -1) hx hb hr (fun t ht hW => ⟨-1, rfl, Or.inr (Or.inr (Or.inr (⟨rfl, by first | omega | (have q := (kd_word (tx := tx) (n := sz1) (p := p0) (by omega)).trans ((if_neg (by rw [show eqw tx sz1 wVx p0 = false from EW1]; decide)).trans ((if_neg (by rw [show eqw tx sz1 wEd p0 = false from EW8]; decide)).trans (if_neg (by rw [show eqw tx sz1 wWo p0 = false from EW13]; decide)))); omega)⟩))), ht⟩) (fun _ h => absurd h List.not_mem_nil) dX12_key_134
                      · have c597 := mt (b_eq (rfl : Int32.toInt x1_595 = _) (show Int32.toInt 0 = 0 from rfl)).mpr c597
                        have X2 : x1_595 = 1 := i1_of hL595_1 (by omega)
                        have EW13 : eqw tx sz1 (kW 13) p0 = true := by first | exact eqw_t.mpr ⟨(hL595_2 X2).1.trans rfl, fun q hq => (hL595_2 X2).2 q (by have : (kW 13).length = 17 - 13 := rfl; omega)⟩ | (exfalso; omega)
                        refine lv_iload_n hx hb dX12_key_121 rfl (lv_at hl 1 rfl) ?_
                        exact W.iret (v := 2) hx hb hr (fun t ht hW => ⟨2, rfl, Or.inr (Or.inr (Or.inl ⟨rfl, by exact (kd_word (by omega)).trans ((if_neg (by rw [show eqw tx sz1 wVx p0 = false from EW1]; decide)).trans ((if_neg (by rw [show eqw tx sz1 wEd p0 = false from EW8]; decide)).trans (if_pos EW13)))⟩)), ht⟩) (fun _ h => absurd h List.not_mem_nil) dX12_key_122
                    · have c596 := mt (b_le (show Int32.toInt 4 = 4 from rfl) (nI_toInt (n := i_595) (by omega))).mpr c596
                      refine lv_iload hx hb dX12_key_75 (lv_at hl 4 rfl) ?_
                      refine lv_if_eq (tgt := 116) hx hb dX12_key_77 (by decide) (fun c600 => ?_) (fun c600 => ?_)
                      · have c600 := (b_eq (rfl : Int32.toInt x1_595 = _) (show Int32.toInt 0 = 0 from rfl)).mp c600
                        refine lv_iload hx hb dX12_key_116 (lv_at hl 4 rfl) ?_
                        refine lv_if_eq (tgt := 123) hx hb dX12_key_118 (by decide) (fun c601 => ?_) (fun c601 => ?_)
                        · have c601 := (b_eq (rfl : Int32.toInt x1_595 = _) (show Int32.toInt 0 = 0 from rfl)).mp c601
                          have EW13 : eqw tx sz1 (kW 13) p0 = false := hL595_3 (i0_of (by omega))
                          refine lv_iinc (v := 3) (lv' := [(1, .int 3), (0, .ref (b 0)), (2, .int 13), (3, .int 17), (4, .int x1_595), (5, .int (nI i_595))]) hx hb dX12_key_123 hl (k := 1) rfl (by decide) (by decide) rfl (fun ls hl => ?_)
                          refine lv_iload_n hx hb dX12_key_126 rfl (lv_at hl 3 rfl) ?_
                          refine lv_iconst (v := 1) hx hb dX12_key_127 (by decide) ?_
                          refine lv_iadd hx hb dX12_key_128 ?_
                          refine W.eq (g2 := F0 m 129 ls [.int 18]) rfl ?_
                          refine lv_istore_n (lv' := [(2, .int 18), (1, .int 3), (0, .ref (b 0)), (3, .int 17), (4, .int x1_595), (5, .int (nI i_595))]) hx hb dX12_key_129 rfl hl (by decide) rfl (fun ls hl => ?_)
                          refine lv_goto (tgt := 14) hx hb dX12_key_130 (by decide) ?_
                          refine lv_iload_n hx hb dX12_key_14 rfl (lv_at hl 0 rfl) ?_
                          refine va_ldcS hx hb hown hZ dX12_key_15 ?_
                          refine vp_callSi (va_Run.run (va_runV (As := []) (rest := [.int 18]) ⟨hx, hb, hml, hown, noTs⟩ (s_J0_length l adK adV 3 (by decide)) ⟨cbE 0 (wd_488 hE) (wd_129 hE) (wd_1527 hE) rfl rfl (by decide +kernel) ⟨Nat.le_of_ble_eq_true rfl, Nat.le_of_ble_eq_true rfl⟩, (wd_486 hE), (wd_487 hE)⟩ ⟨PS.blind, vk_recv hX.1 (by decide) hS, ps_pre (av := [.ref (adK 3)]) hX hS hE⟩ rfl rfl hl.1 rfl (lv_room (Nat.le_of_ble_eq_true rfl)) dX12_key_17 ⟨Nat.le_of_ble_eq_true rfl, Nat.le_of_ble_eq_true rfl⟩)) (fun r602 hr602 => ?_)
                          have hr602 : r602 = 18 := hr602
                          subst hr602
                          refine lv_icmp_ge (tgt := 133) hx hb dX12_key_20 (by decide) (fun c603 => ?_) (fun c603 => absurd c603 (by decide))
                          refine lv_iconst (v := -1) hx hb dX12_key_133 (by decide) ?_
                          exact W.iret (v := -1) hx hb hr (fun t ht hW => ⟨-1, rfl, Or.inr (Or.inr (Or.inr (⟨rfl, by first | omega | (have q := (kd_word (tx := tx) (n := sz1) (p := p0) (by omega)).trans ((if_neg (by rw [show eqw tx sz1 wVx p0 = false from EW1]; decide)).trans ((if_neg (by rw [show eqw tx sz1 wEd p0 = false from EW8]; decide)).trans (if_neg (by rw [show eqw tx sz1 wWo p0 = false from EW13]; decide)))); omega)⟩))), ht⟩) (fun _ h => absurd h List.not_mem_nil) dX12_key_134
                        · have c601 := mt (b_eq (rfl : Int32.toInt x1_595 = _) (show Int32.toInt 0 = 0 from rfl)).mpr c601
                          have X2 : x1_595 = 1 := i1_of hL595_1 (by omega)
                          have EW13 : eqw tx sz1 (kW 13) p0 = true := by first | exact eqw_t.mpr ⟨(hL595_2 X2).1.trans rfl, fun q hq => (hL595_2 X2).2 q (by have : (kW 13).length = 17 - 13 := rfl; omega)⟩ | (exfalso; omega)
                          refine lv_iload_n hx hb dX12_key_121 rfl (lv_at hl 1 rfl) ?_
                          exact W.iret (v := 2) hx hb hr (fun t ht hW => ⟨2, rfl, Or.inr (Or.inr (Or.inl ⟨rfl, by exact (kd_word (by omega)).trans ((if_neg (by rw [show eqw tx sz1 wVx p0 = false from EW1]; decide)).trans ((if_neg (by rw [show eqw tx sz1 wEd p0 = false from EW8]; decide)).trans (if_pos EW13)))⟩)), ht⟩) (fun _ h => absurd h List.not_mem_nil) dX12_key_122
                      · have c600 := mt (b_eq (rfl : Int32.toInt x1_595 = _) (show Int32.toInt 0 = 0 from rfl)).mpr c600
                        have X1 : x1_595 = 1 := i1_of hL595_1 (by omega)
                        refine va_ldcS hx hb hown hZ dX12_key_80 ?_
                        refine lv_iload_n hx hb dX12_key_82 rfl (lv_at hl 2 rfl) ?_
                        refine lv_iload hx hb dX12_key_83 (lv_at hl 5 rfl) ?_
                        refine lv_iadd hx hb dX12_key_85 ?_
                        refine W.eq (g2 := F0 m 86 ls [.int (nI (13 + i_595)), .ref (adK 3)]) (congrArg (fun z : Int32 => F0 m 86 ls (.int z :: [.ref (adK 3)])) (nI_add 13 i_595)) ?_
                        refine vp_callSi (va_Run.run (va_runV (As := [.int (nI (13 + i_595))]) (rest := []) ⟨hx, hb, hml, hown, noTs⟩ (s_J0_charAt l adK adV 3 (13 + i_595) (by decide) (by show _ < 18; omega)) ⟨cbE 1 (wd_498 hE) (wd_129 hE) (wd_1528 hE) rfl rfl (by decide +kernel) ⟨Nat.le_of_ble_eq_true rfl, Nat.le_of_ble_eq_true rfl⟩, (wd_496 hE), (wd_497 hE)⟩ ⟨PS.blind, vk_recv hX.1 (by decide) hS, ps_pre (av := [.ref (adK 3), .int (nI (13 + i_595))]) hX hS hE⟩ rfl rfl hl.1 rfl (lv_room (Nat.le_of_ble_eq_true rfl)) dX12_key_86 ⟨Nat.le_of_ble_eq_true rfl, Nat.le_of_ble_eq_true rfl⟩)) (fun r604 hr604 => ?_)
                        refine lv_aload_n hx hb dX12_key_89 rfl (lv_at hl 0 rfl) ?_
                        refine lv_aload_n hx hb dX12_key_90 rfl (lv_at hl 0 rfl) ?_
                        refine r_get (v := .int (nI p0)) hx hb (ly_X12 hE) hown hK hP rfl 13 (by decide) (wd_1394 hE) (fun _ h9 => h9) (congrArg (fun z : Int32 => some (Value.int z)) te13_2) dX12_key_91 ?_
                        refine lv_iload hx hb dX12_key_94 (lv_at hl 5 rfl) ?_
                        refine lv_iadd hx hb dX12_key_96 ?_
                        refine W.eq (g2 := F0 m 97 ls [.int (nI (p0 + i_595)), .ref (b 0), .int r604]) (congrArg (fun z : Int32 => F0 m 97 ls (.int z :: [.ref (b 0), .int r604])) (nI_add p0 i_595)) ?_
                        refine vp_callSi (va_Run.run (va_runV (As := [.int (nI (p0 + i_595))]) (rest := [.int r604]) ⟨hx, hb, hml, hown, noTs⟩ (r_X12_byteAt l dC dI s.heap.size cs b u tx hAc16 (p0 + i_595) sz1 hF11 (by first | assumption | omega | rfl | (congr 1; omega)) (by first | assumption | omega | rfl | (congr 1; omega))) ⟨cbE 1 (wd_1510 hE) (wd_126 hE) (wd_1507 hE) rfl rfl (by decide +kernel) ⟨Nat.le_of_ble_eq_true rfl, Nat.le_of_ble_eq_true rfl⟩, (wd_1509 hE), (wd_57 hE)⟩ ⟨PR.blind, r_recv hK hP rfl, (r_pre (av := [.ref (b 0), .int (nI (p0 + i_595))]) hK hP hJ hE)⟩ rfl rfl hl.1 rfl (lv_room (Nat.le_of_ble_eq_true rfl)) dX12_key_97 ⟨Nat.le_of_ble_eq_true rfl, Nat.le_of_ble_eq_true rfl⟩)) (fun r605 hr605 => ?_)
                        subst hr605
                        have htf605 := bA_f tx sz1 (p0 + i_595)
                        have HRC := hr604
                        have RCH := ch_13 i_595 (by omega)
                        refine lv_icmp_ne (tgt := 107) hx hb dX12_key_100 (by decide) (fun c606 => ?_) (fun c606 => ?_)
                        · have c606 := mt (b_eq (rfl : Int32.toInt r604 = _) (rfl : Int32.toInt (bA tx sz1 (p0 + i_595)) = _)).mpr c606
                          have NE : bA tx sz1 (p0 + i_595) ≠ (kW 13).getD i_595 0 := by rw [← RCH, ← HRC]; intro e; have := congrArg Int32.toInt e; omega
                          refine lv_iconst (v := 0) hx hb dX12_key_107 (by decide) ?_
                          refine lv_istore (lv' := [(4, .int 0), (0, .ref (b 0)), (1, .int 2), (2, .int 13), (3, .int 17), (5, .int (nI i_595))]) hx hb dX12_key_108 hl (by decide) rfl (fun ls hl => ?_)
                          refine lv_iinc (v := nI (i_595 + 1)) (lv' := [(5, .int (nI (i_595 + 1))), (4, .int 0), (0, .ref (b 0)), (1, .int 2), (2, .int 13), (3, .int 17)]) hx hb dX12_key_110 hl (k := 5) rfl (nI_1 i_595) (by decide) rfl (fun ls hl => ?_)
                          refine lv_goto (tgt := 67) hx hb dX12_key_113 (by decide) ?_
                          exact ih595 _ _ (by omega) ⟨(i_595 + 1), 0, rfl, (by first | assumption | omega | rfl | (congr 1; omega)), (by first | exact Or.inl rfl | exact Or.inr rfl), (by first | (intro _; exact ⟨(hL595_2 X1).1, fun q hq => by rcases Nat.lt_or_ge q i_595 with h | h; (exact (hL595_2 X1).2 q h); (obtain rfl : q = i_595 := by omega); exact EQ⟩) | (intro h; exact absurd h (by decide))), (by first | (intro h; exact absurd h (by decide)) | (intro _; exact eqw_at (w := kW 13) (by have : (kW 13).length = 17 - 13 := rfl; omega) NE)), lv_sub hl [2, 3, 4, 5, 1, 0] rfl⟩
                        · have c606 := (b_eq (rfl : Int32.toInt r604 = _) (rfl : Int32.toInt (bA tx sz1 (p0 + i_595)) = _)).mp c606
                          have EQ : bA tx sz1 (p0 + i_595) = (kW 13).getD i_595 0 := by rw [← RCH, ← HRC]; exact Int32.toInt_inj.mp (by omega)
                          refine lv_iconst (v := 1) hx hb dX12_key_103 (by decide) ?_
                          refine lv_goto (tgt := 108) hx hb dX12_key_104 (by decide) ?_
                          refine lv_istore (lv' := [(4, .int 1), (0, .ref (b 0)), (1, .int 2), (2, .int 13), (3, .int 17), (5, .int (nI i_595))]) hx hb dX12_key_108 hl (by decide) rfl (fun ls hl => ?_)
                          refine lv_iinc (v := nI (i_595 + 1)) (lv' := [(5, .int (nI (i_595 + 1))), (4, .int 1), (0, .ref (b 0)), (1, .int 2), (2, .int 13), (3, .int 17)]) hx hb dX12_key_110 hl (k := 5) rfl (nI_1 i_595) (by decide) rfl (fun ls hl => ?_)
                          refine lv_goto (tgt := 67) hx hb dX12_key_113 (by decide) ?_
                          exact ih595 _ _ (by omega) ⟨(i_595 + 1), 1, rfl, (by first | assumption | omega | rfl | (congr 1; omega)), (by first | exact Or.inl rfl | exact Or.inr rfl), (by first | (intro _; exact ⟨(hL595_2 X1).1, fun q hq => by rcases Nat.lt_or_ge q i_595 with h | h; (exact (hL595_2 X1).2 q h); (obtain rfl : q = i_595 := by omega); exact EQ⟩) | (intro h; exact absurd h (by decide))), (by first | (intro h; exact absurd h (by decide)) | (intro _; exact eqw_at (w := kW 13) (by have : (kW 13).length = 17 - 13 := rfl; omega) NE)), lv_sub hl [2, 3, 4, 5, 1, 0] rfl⟩
                  · have c594 := (b_eq (show Int32.toInt 4 = 4 from rfl) (nI_toInt (n := (tnd tx sz1 p0) - p0) (by omega))).mp c594
                    refine lv_iconst (v := 1) hx hb dX12_key_57 (by decide) ?_
                    refine lv_goto (tgt := 62) hx hb dX12_key_58 (by decide) ?_
                    refine lv_istore (lv' := [(4, .int 1), (3, .int 17), (2, .int 13), (1, .int 2), (0, .ref (b 0)), (5, .int (nI i_579))]) hx hb dX12_key_62 hl (by decide) rfl (fun ls hl => ?_)
                    refine lv_iconst (v := 0) hx hb dX12_key_64 (by decide) ?_
                    refine lv_istore (lv' := [(5, .int 0), (4, .int 1), (3, .int 17), (2, .int 13), (1, .int 2), (0, .ref (b 0))]) hx hb dX12_key_65 hl (by decide) rfl (fun ls hl => ?_)
                    refine r_indP (I := fun n ls => ∃ (i_607 : Nat) (x1_607 : Int32), n = 17 - 13 - i_607 ∧ (i_607 ≤ 17 - 13) ∧ (x1_607 = 0 ∨ x1_607 = 1) ∧ (x1_607 = 1 → tnd tx sz1 p0 - p0 = 17 - 13 ∧ ∀ q, q < i_607 → bA tx sz1 (p0 + q) = (kW 13).getD q 0) ∧ (x1_607 = 0 → eqw tx sz1 (kW 13) p0 = false) ∧ lv_has ls 6 [(0, .ref (b 0)), (1, .int 2), (2, .int 13), (3, .int 17), (4, .int x1_607), (5, .int (nI i_607))]) (fun n ls hI ih607 => ?_) _ _ ⟨0, 1, rfl, (by first | assumption | omega | rfl | (congr 1; omega)), (by first | exact Or.inl rfl | exact Or.inr rfl), (by first | (intro _; exact ⟨by omega, fun q hq => absurd hq (by omega)⟩) | (intro h; exact absurd h (by decide))), (by first | (intro h; exact absurd h (by decide)) | (intro _; exact eqw_len (w := kW 13) (l := 17 - 13) rfl (by omega))), lv_sub hl [5, 4, 3, 2, 1, 0] rfl⟩
                    obtain ⟨i_607, x1_607, hmu607, hL607_0, hL607_1, hL607_2, hL607_3, hl⟩ := hI
                    subst hmu607
                    refine lv_iload hx hb dX12_key_67 (lv_at hl 5 rfl) ?_
                    refine lv_iload_n hx hb dX12_key_69 rfl (lv_at hl 3 rfl) ?_
                    refine lv_iload_n hx hb dX12_key_70 rfl (lv_at hl 2 rfl) ?_
                    refine lv_isub hx hb dX12_key_71 ?_
                    refine W.eq (g2 := F0 m 72 ls [.int 4, .int (nI i_607)]) rfl ?_
                    refine lv_icmp_ge (tgt := 116) hx hb dX12_key_72 (by decide) (fun c608 => ?_) (fun c608 => ?_)
                    · have c608 := (b_le (show Int32.toInt 4 = 4 from rfl) (nI_toInt (n := i_607) (by omega))).mp c608
                      refine lv_iload hx hb dX12_key_116 (lv_at hl 4 rfl) ?_
                      refine lv_if_eq (tgt := 123) hx hb dX12_key_118 (by decide) (fun c609 => ?_) (fun c609 => ?_)
                      · have c609 := (b_eq (rfl : Int32.toInt x1_607 = _) (show Int32.toInt 0 = 0 from rfl)).mp c609
                        have EW13 : eqw tx sz1 (kW 13) p0 = false := hL607_3 (i0_of (by omega))
                        refine lv_iinc (v := 3) (lv' := [(1, .int 3), (0, .ref (b 0)), (2, .int 13), (3, .int 17), (4, .int x1_607), (5, .int (nI i_607))]) hx hb dX12_key_123 hl (k := 1) rfl (by decide) (by decide) rfl (fun ls hl => ?_)
                        refine lv_iload_n hx hb dX12_key_126 rfl (lv_at hl 3 rfl) ?_
                        refine lv_iconst (v := 1) hx hb dX12_key_127 (by decide) ?_
                        refine lv_iadd hx hb dX12_key_128 ?_
                        refine W.eq (g2 := F0 m 129 ls [.int 18]) rfl ?_
                        refine lv_istore_n (lv' := [(2, .int 18), (1, .int 3), (0, .ref (b 0)), (3, .int 17), (4, .int x1_607), (5, .int (nI i_607))]) hx hb dX12_key_129 rfl hl (by decide) rfl (fun ls hl => ?_)
                        refine lv_goto (tgt := 14) hx hb dX12_key_130 (by decide) ?_
                        refine lv_iload_n hx hb dX12_key_14 rfl (lv_at hl 0 rfl) ?_
                        refine va_ldcS hx hb hown hZ dX12_key_15 ?_
                        refine vp_callSi (va_Run.run (va_runV (As := []) (rest := [.int 18]) ⟨hx, hb, hml, hown, noTs⟩ (s_J0_length l adK adV 3 (by decide)) ⟨cbE 0 (wd_488 hE) (wd_129 hE) (wd_1527 hE) rfl rfl (by decide +kernel) ⟨Nat.le_of_ble_eq_true rfl, Nat.le_of_ble_eq_true rfl⟩, (wd_486 hE), (wd_487 hE)⟩ ⟨PS.blind, vk_recv hX.1 (by decide) hS, ps_pre (av := [.ref (adK 3)]) hX hS hE⟩ rfl rfl hl.1 rfl (lv_room (Nat.le_of_ble_eq_true rfl)) dX12_key_17 ⟨Nat.le_of_ble_eq_true rfl, Nat.le_of_ble_eq_true rfl⟩)) (fun r610 hr610 => ?_)
                        have hr610 : r610 = 18 := hr610
                        subst hr610
                        refine lv_icmp_ge (tgt := 133) hx hb dX12_key_20 (by decide) (fun c611 => ?_) (fun c611 => absurd c611 (by decide))
                        refine lv_iconst (v := -1) hx hb dX12_key_133 (by decide) ?_
                        exact W.iret (v := -1) hx hb hr (fun t ht hW => ⟨-1, rfl, Or.inr (Or.inr (Or.inr (⟨rfl, by first | omega | (have q := (kd_word (tx := tx) (n := sz1) (p := p0) (by omega)).trans ((if_neg (by rw [show eqw tx sz1 wVx p0 = false from EW1]; decide)).trans ((if_neg (by rw [show eqw tx sz1 wEd p0 = false from EW8]; decide)).trans (if_neg (by rw [show eqw tx sz1 wWo p0 = false from EW13]; decide)))); omega)⟩))), ht⟩) (fun _ h => absurd h List.not_mem_nil) dX12_key_134
                      · have c609 := mt (b_eq (rfl : Int32.toInt x1_607 = _) (show Int32.toInt 0 = 0 from rfl)).mpr c609
                        have X2 : x1_607 = 1 := i1_of hL607_1 (by omega)
                        have EW13 : eqw tx sz1 (kW 13) p0 = true := by first | exact eqw_t.mpr ⟨(hL607_2 X2).1.trans rfl, fun q hq => (hL607_2 X2).2 q (by have : (kW 13).length = 17 - 13 := rfl; omega)⟩ | (exfalso; omega)
                        refine lv_iload_n hx hb dX12_key_121 rfl (lv_at hl 1 rfl) ?_
                        exact W.iret (v := 2) hx hb hr (fun t ht hW => ⟨2, rfl, Or.inr (Or.inr (Or.inl ⟨rfl, by exact (kd_word (by omega)).trans ((if_neg (by rw [show eqw tx sz1 wVx p0 = false from EW1]; decide)).trans ((if_neg (by rw [show eqw tx sz1 wEd p0 = false from EW8]; decide)).trans (if_pos EW13)))⟩)), ht⟩) (fun _ h => absurd h List.not_mem_nil) dX12_key_122
                    · have c608 := mt (b_le (show Int32.toInt 4 = 4 from rfl) (nI_toInt (n := i_607) (by omega))).mpr c608
                      refine lv_iload hx hb dX12_key_75 (lv_at hl 4 rfl) ?_
                      refine lv_if_eq (tgt := 116) hx hb dX12_key_77 (by decide) (fun c612 => ?_) (fun c612 => ?_)
                      · have c612 := (b_eq (rfl : Int32.toInt x1_607 = _) (show Int32.toInt 0 = 0 from rfl)).mp c612
                        refine lv_iload hx hb dX12_key_116 (lv_at hl 4 rfl) ?_
                        refine lv_if_eq (tgt := 123) hx hb dX12_key_118 (by decide) (fun c613 => ?_) (fun c613 => ?_)
                        · have c613 := (b_eq (rfl : Int32.toInt x1_607 = _) (show Int32.toInt 0 = 0 from rfl)).mp c613
                          have EW13 : eqw tx sz1 (kW 13) p0 = false := hL607_3 (i0_of (by omega))
                          refine lv_iinc (v := 3) (lv' := [(1, .int 3), (0, .ref (b 0)), (2, .int 13), (3, .int 17), (4, .int x1_607), (5, .int (nI i_607))]) hx hb dX12_key_123 hl (k := 1) rfl (by decide) (by decide) rfl (fun ls hl => ?_)
                          refine lv_iload_n hx hb dX12_key_126 rfl (lv_at hl 3 rfl) ?_
                          refine lv_iconst (v := 1) hx hb dX12_key_127 (by decide) ?_
                          refine lv_iadd hx hb dX12_key_128 ?_
                          refine W.eq (g2 := F0 m 129 ls [.int 18]) rfl ?_
                          refine lv_istore_n (lv' := [(2, .int 18), (1, .int 3), (0, .ref (b 0)), (3, .int 17), (4, .int x1_607), (5, .int (nI i_607))]) hx hb dX12_key_129 rfl hl (by decide) rfl (fun ls hl => ?_)
                          refine lv_goto (tgt := 14) hx hb dX12_key_130 (by decide) ?_
                          refine lv_iload_n hx hb dX12_key_14 rfl (lv_at hl 0 rfl) ?_
                          refine va_ldcS hx hb hown hZ dX12_key_15 ?_
                          refine vp_callSi (va_Run.run (va_runV (As := []) (rest := [.int 18]) ⟨hx, hb, hml, hown, noTs⟩ (s_J0_length l adK adV 3 (by decide)) ⟨cbE 0 (wd_488 hE) (wd_129 hE) (wd_1527 hE) rfl rfl (by decide +kernel) ⟨Nat.le_of_ble_eq_true rfl, Nat.le_of_ble_eq_true rfl⟩, (wd_486 hE), (wd_487 hE)⟩ ⟨PS.blind, vk_recv hX.1 (by decide) hS, ps_pre (av := [.ref (adK 3)]) hX hS hE⟩ rfl rfl hl.1 rfl (lv_room (Nat.le_of_ble_eq_true rfl)) dX12_key_17 ⟨Nat.le_of_ble_eq_true rfl, Nat.le_of_ble_eq_true rfl⟩)) (fun r614 hr614 => ?_)
                          have hr614 : r614 = 18 := hr614
                          subst hr614
                          refine lv_icmp_ge (tgt := 133) hx hb dX12_key_20 (by decide) (fun c615 => ?_) (fun c615 => absurd c615 (by decide))
                          refine lv_iconst (v := -1) hx hb dX12_key_133 (by decide) ?_
                          exact W.iret (v := -1) hx hb hr (fun t ht hW => ⟨-1, rfl, Or.inr (Or.inr (Or.inr (⟨rfl, by first | omega | (have q := (kd_word (tx := tx) (n := sz1) (p := p0) (by omega)).trans ((if_neg (by rw [show eqw tx sz1 wVx p0 = false from EW1]; decide)).trans ((if_neg (by rw [show eqw tx sz1 wEd p0 = false from EW8]; decide)).trans (if_neg (by rw [show eqw tx sz1 wWo p0 = false from EW13]; decide)))); omega)⟩))), ht⟩) (fun _ h => absurd h List.not_mem_nil) dX12_key_134
                        · have c613 := mt (b_eq (rfl : Int32.toInt x1_607 = _) (show Int32.toInt 0 = 0 from rfl)).mpr c613
                          have X2 : x1_607 = 1 := i1_of hL607_1 (by omega)
                          have EW13 : eqw tx sz1 (kW 13) p0 = true := by first | exact eqw_t.mpr ⟨(hL607_2 X2).1.trans rfl, fun q hq => (hL607_2 X2).2 q (by have : (kW 13).length = 17 - 13 := rfl; omega)⟩ | (exfalso; omega)
                          refine lv_iload_n hx hb dX12_key_121 rfl (lv_at hl 1 rfl) ?_
                          exact W.iret (v := 2) hx hb hr (fun t ht hW => ⟨2, rfl, Or.inr (Or.inr (Or.inl ⟨rfl, by exact (kd_word (by omega)).trans ((if_neg (by rw [show eqw tx sz1 wVx p0 = false from EW1]; decide)).trans ((if_neg (by rw [show eqw tx sz1 wEd p0 = false from EW8]; decide)).trans (if_pos EW13)))⟩)), ht⟩) (fun _ h => absurd h List.not_mem_nil) dX12_key_122
                      · have c612 := mt (b_eq (rfl : Int32.toInt x1_607 = _) (show Int32.toInt 0 = 0 from rfl)).mpr c612
                        have X1 : x1_607 = 1 := i1_of hL607_1 (by omega)
                        refine va_ldcS hx hb hown hZ dX12_key_80 ?_
                        refine lv_iload_n hx hb dX12_key_82 rfl (lv_at hl 2 rfl) ?_
                        refine lv_iload hx hb dX12_key_83 (lv_at hl 5 rfl) ?_
                        refine lv_iadd hx hb dX12_key_85 ?_
                        refine W.eq (g2 := F0 m 86 ls [.int (nI (13 + i_607)), .ref (adK 3)]) (congrArg (fun z : Int32 => F0 m 86 ls (.int z :: [.ref (adK 3)])) (nI_add 13 i_607)) ?_
                        refine vp_callSi (va_Run.run (va_runV (As := [.int (nI (13 + i_607))]) (rest := []) ⟨hx, hb, hml, hown, noTs⟩ (s_J0_charAt l adK adV 3 (13 + i_607) (by decide) (by show _ < 18; omega)) ⟨cbE 1 (wd_498 hE) (wd_129 hE) (wd_1528 hE) rfl rfl (by decide +kernel) ⟨Nat.le_of_ble_eq_true rfl, Nat.le_of_ble_eq_true rfl⟩, (wd_496 hE), (wd_497 hE)⟩ ⟨PS.blind, vk_recv hX.1 (by decide) hS, ps_pre (av := [.ref (adK 3), .int (nI (13 + i_607))]) hX hS hE⟩ rfl rfl hl.1 rfl (lv_room (Nat.le_of_ble_eq_true rfl)) dX12_key_86 ⟨Nat.le_of_ble_eq_true rfl, Nat.le_of_ble_eq_true rfl⟩)) (fun r616 hr616 => ?_)
                        refine lv_aload_n hx hb dX12_key_89 rfl (lv_at hl 0 rfl) ?_
                        refine lv_aload_n hx hb dX12_key_90 rfl (lv_at hl 0 rfl) ?_
                        refine r_get (v := .int (nI p0)) hx hb (ly_X12 hE) hown hK hP rfl 13 (by decide) (wd_1394 hE) (fun _ h9 => h9) (congrArg (fun z : Int32 => some (Value.int z)) te13_2) dX12_key_91 ?_
                        refine lv_iload hx hb dX12_key_94 (lv_at hl 5 rfl) ?_
                        refine lv_iadd hx hb dX12_key_96 ?_
                        refine W.eq (g2 := F0 m 97 ls [.int (nI (p0 + i_607)), .ref (b 0), .int r616]) (congrArg (fun z : Int32 => F0 m 97 ls (.int z :: [.ref (b 0), .int r616])) (nI_add p0 i_607)) ?_
                        refine vp_callSi (va_Run.run (va_runV (As := [.int (nI (p0 + i_607))]) (rest := [.int r616]) ⟨hx, hb, hml, hown, noTs⟩ (r_X12_byteAt l dC dI s.heap.size cs b u tx hAc16 (p0 + i_607) sz1 hF11 (by first | assumption | omega | rfl | (congr 1; omega)) (by first | assumption | omega | rfl | (congr 1; omega))) ⟨cbE 1 (wd_1510 hE) (wd_126 hE) (wd_1507 hE) rfl rfl (by decide +kernel) ⟨Nat.le_of_ble_eq_true rfl, Nat.le_of_ble_eq_true rfl⟩, (wd_1509 hE), (wd_57 hE)⟩ ⟨PR.blind, r_recv hK hP rfl, (r_pre (av := [.ref (b 0), .int (nI (p0 + i_607))]) hK hP hJ hE)⟩ rfl rfl hl.1 rfl (lv_room (Nat.le_of_ble_eq_true rfl)) dX12_key_97 ⟨Nat.le_of_ble_eq_true rfl, Nat.le_of_ble_eq_true rfl⟩)) (fun r617 hr617 => ?_)
                        subst hr617
                        have htf617 := bA_f tx sz1 (p0 + i_607)
                        have HRC := hr616
                        have RCH := ch_13 i_607 (by omega)
                        refine lv_icmp_ne (tgt := 107) hx hb dX12_key_100 (by decide) (fun c618 => ?_) (fun c618 => ?_)
                        · have c618 := mt (b_eq (rfl : Int32.toInt r616 = _) (rfl : Int32.toInt (bA tx sz1 (p0 + i_607)) = _)).mpr c618
                          have NE : bA tx sz1 (p0 + i_607) ≠ (kW 13).getD i_607 0 := by rw [← RCH, ← HRC]; intro e; have := congrArg Int32.toInt e; omega
                          refine lv_iconst (v := 0) hx hb dX12_key_107 (by decide) ?_
                          refine lv_istore (lv' := [(4, .int 0), (0, .ref (b 0)), (1, .int 2), (2, .int 13), (3, .int 17), (5, .int (nI i_607))]) hx hb dX12_key_108 hl (by decide) rfl (fun ls hl => ?_)
                          refine lv_iinc (v := nI (i_607 + 1)) (lv' := [(5, .int (nI (i_607 + 1))), (4, .int 0), (0, .ref (b 0)), (1, .int 2), (2, .int 13), (3, .int 17)]) hx hb dX12_key_110 hl (k := 5) rfl (nI_1 i_607) (by decide) rfl (fun ls hl => ?_)
                          refine lv_goto (tgt := 67) hx hb dX12_key_113 (by decide) ?_
                          exact ih607 _ _ (by omega) ⟨(i_607 + 1), 0, rfl, (by first | assumption | omega | rfl | (congr 1; omega)), (by first | exact Or.inl rfl | exact Or.inr rfl), (by first | (intro _; exact ⟨(hL607_2 X1).1, fun q hq => by rcases Nat.lt_or_ge q i_607 with h | h; (exact (hL607_2 X1).2 q h); (obtain rfl : q = i_607 := by omega); exact EQ⟩) | (intro h; exact absurd h (by decide))), (by first | (intro h; exact absurd h (by decide)) | (intro _; exact eqw_at (w := kW 13) (by have : (kW 13).length = 17 - 13 := rfl; omega) NE)), lv_sub hl [2, 3, 4, 5, 1, 0] rfl⟩
                        · have c618 := (b_eq (rfl : Int32.toInt r616 = _) (rfl : Int32.toInt (bA tx sz1 (p0 + i_607)) = _)).mp c618
                          have EQ : bA tx sz1 (p0 + i_607) = (kW 13).getD i_607 0 := by rw [← RCH, ← HRC]; exact Int32.toInt_inj.mp (by omega)
                          refine lv_iconst (v := 1) hx hb dX12_key_103 (by decide) ?_
                          refine lv_goto (tgt := 108) hx hb dX12_key_104 (by decide) ?_
                          refine lv_istore (lv' := [(4, .int 1), (0, .ref (b 0)), (1, .int 2), (2, .int 13), (3, .int 17), (5, .int (nI i_607))]) hx hb dX12_key_108 hl (by decide) rfl (fun ls hl => ?_)
                          refine lv_iinc (v := nI (i_607 + 1)) (lv' := [(5, .int (nI (i_607 + 1))), (4, .int 1), (0, .ref (b 0)), (1, .int 2), (2, .int 13), (3, .int 17)]) hx hb dX12_key_110 hl (k := 5) rfl (nI_1 i_607) (by decide) rfl (fun ls hl => ?_)
                          refine lv_goto (tgt := 67) hx hb dX12_key_113 (by decide) ?_
                          exact ih607 _ _ (by omega) ⟨(i_607 + 1), 1, rfl, (by first | assumption | omega | rfl | (congr 1; omega)), (by first | exact Or.inl rfl | exact Or.inr rfl), (by first | (intro _; exact ⟨(hL607_2 X1).1, fun q hq => by rcases Nat.lt_or_ge q i_607 with h | h; (exact (hL607_2 X1).2 q h); (obtain rfl : q = i_607 := by omega); exact EQ⟩) | (intro h; exact absurd h (by decide))), (by first | (intro h; exact absurd h (by decide)) | (intro _; exact eqw_at (w := kW 13) (by have : (kW 13).length = 17 - 13 := rfl; omega) NE)), lv_sub hl [2, 3, 4, 5, 1, 0] rfl⟩
                · have c581 := mt (b_eq (rfl : Int32.toInt x1_579 = _) (show Int32.toInt 0 = 0 from rfl)).mpr c581
                  have X2 : x1_579 = 1 := i1_of hL579_1 (by omega)
                  have EW8 : eqw tx sz1 (kW 8) p0 = true := by first | exact eqw_t.mpr ⟨(hL579_2 X2).1.trans rfl, fun q hq => (hL579_2 X2).2 q (by have : (kW 8).length = 12 - 8 := rfl; omega)⟩ | (exfalso; omega)
                  refine lv_iload_n hx hb dX12_key_121 rfl (lv_at hl 1 rfl) ?_
                  exact W.iret (v := 1) hx hb hr (fun t ht hW => ⟨1, rfl, Or.inr (Or.inl ⟨rfl, by exact (kd_word (by omega)).trans ((if_neg (by rw [show eqw tx sz1 wVx p0 = false from EW1]; decide)).trans (if_pos EW8))⟩), ht⟩) (fun _ h => absurd h List.not_mem_nil) dX12_key_122
              · have c580 := mt (b_le (show Int32.toInt 4 = 4 from rfl) (nI_toInt (n := i_579) (by omega))).mpr c580
                refine lv_iload hx hb dX12_key_75 (lv_at hl 4 rfl) ?_
                refine lv_if_eq (tgt := 116) hx hb dX12_key_77 (by decide) (fun c619 => ?_) (fun c619 => ?_)
                · have c619 := (b_eq (rfl : Int32.toInt x1_579 = _) (show Int32.toInt 0 = 0 from rfl)).mp c619
                  refine lv_iload hx hb dX12_key_116 (lv_at hl 4 rfl) ?_
                  refine lv_if_eq (tgt := 123) hx hb dX12_key_118 (by decide) (fun c620 => ?_) (fun c620 => ?_)
                  · have c620 := (b_eq (rfl : Int32.toInt x1_579 = _) (show Int32.toInt 0 = 0 from rfl)).mp c620
                    have EW8 : eqw tx sz1 (kW 8) p0 = false := hL579_3 (i0_of (by omega))
                    refine lv_iinc (v := 2) (lv' := [(1, .int 2), (0, .ref (b 0)), (2, .int 8), (3, .int 12), (4, .int x1_579), (5, .int (nI i_579))]) hx hb dX12_key_123 hl (k := 1) rfl (by decide) (by decide) rfl (fun ls hl => ?_)
                    refine lv_iload_n hx hb dX12_key_126 rfl (lv_at hl 3 rfl) ?_
                    refine lv_iconst (v := 1) hx hb dX12_key_127 (by decide) ?_
                    refine lv_iadd hx hb dX12_key_128 ?_
                    refine W.eq (g2 := F0 m 129 ls [.int 13]) rfl ?_
                    refine lv_istore_n (lv' := [(2, .int 13), (1, .int 2), (0, .ref (b 0)), (3, .int 12), (4, .int x1_579), (5, .int (nI i_579))]) hx hb dX12_key_129 rfl hl (by decide) rfl (fun ls hl => ?_)
                    refine lv_goto (tgt := 14) hx hb dX12_key_130 (by decide) ?_
                    refine lv_iload_n hx hb dX12_key_14 rfl (lv_at hl 0 rfl) ?_
                    refine va_ldcS hx hb hown hZ dX12_key_15 ?_
                    refine vp_callSi (va_Run.run (va_runV (As := []) (rest := [.int 13]) ⟨hx, hb, hml, hown, noTs⟩ (s_J0_length l adK adV 3 (by decide)) ⟨cbE 0 (wd_488 hE) (wd_129 hE) (wd_1527 hE) rfl rfl (by decide +kernel) ⟨Nat.le_of_ble_eq_true rfl, Nat.le_of_ble_eq_true rfl⟩, (wd_486 hE), (wd_487 hE)⟩ ⟨PS.blind, vk_recv hX.1 (by decide) hS, ps_pre (av := [.ref (adK 3)]) hX hS hE⟩ rfl rfl hl.1 rfl (lv_room (Nat.le_of_ble_eq_true rfl)) dX12_key_17 ⟨Nat.le_of_ble_eq_true rfl, Nat.le_of_ble_eq_true rfl⟩)) (fun r621 hr621 => ?_)
                    have hr621 : r621 = 18 := hr621
                    subst hr621
                    refine lv_icmp_ge (tgt := 133) hx hb dX12_key_20 (by decide) (fun c622 => absurd c622 (by decide)) (fun c622 => ?_)
                    refine lv_iload_n hx hb dX12_key_23 rfl (lv_at hl 0 rfl) ?_
                    refine lv_istore_n (lv' := [(3, .int 13), (2, .int 13), (1, .int 2), (0, .ref (b 0)), (4, .int x1_579), (5, .int (nI i_579))]) hx hb dX12_key_24 rfl hl (by decide) rfl (fun ls hl => ?_)
                    refine va_ldcS hx hb hown hZ dX12_key_25 ?_
                    refine lv_iload_n hx hb dX12_key_27 rfl (lv_at hl 0 rfl) ?_
                    refine vp_callSi (va_Run.run (va_runV (As := [.int (nI 13)]) (rest := []) ⟨hx, hb, hml, hown, noTs⟩ (s_J0_charAt l adK adV 3 13 (by decide) (by show _ < 18; omega)) ⟨cbE 1 (wd_498 hE) (wd_129 hE) (wd_1528 hE) rfl rfl (by decide +kernel) ⟨Nat.le_of_ble_eq_true rfl, Nat.le_of_ble_eq_true rfl⟩, (wd_496 hE), (wd_497 hE)⟩ ⟨PS.blind, vk_recv hX.1 (by decide) hS, ps_pre (av := [.ref (adK 3), .int (nI 13)]) hX hS hE⟩ rfl rfl hl.1 rfl (lv_room (Nat.le_of_ble_eq_true rfl)) dX12_key_28 ⟨Nat.le_of_ble_eq_true rfl, Nat.le_of_ble_eq_true rfl⟩)) (fun r623 hr623 => ?_)
                    have hr623 : r623 = 119 := hr623.trans (by decide)
                    subst hr623
                    refine lv_bipush (v := 32) hx hb dX12_key_31 (by decide) ?_
                    refine lv_icmp_eq (tgt := 42) hx hb dX12_key_33 (by decide) (fun c624 => absurd c624 (by decide)) (fun c624 => ?_)
                    refine lv_iinc (v := 14) (lv' := [(3, .int 14), (2, .int 13), (1, .int 2), (0, .ref (b 0)), (4, .int x1_579), (5, .int (nI i_579))]) hx hb dX12_key_36 hl (k := 0) rfl (by decide) (by decide) rfl (fun ls hl => ?_)
                    refine lv_goto (tgt := 25) hx hb dX12_key_39 (by decide) ?_
                    refine va_ldcS hx hb hown hZ dX12_key_25 ?_
                    refine lv_iload_n hx hb dX12_key_27 rfl (lv_at hl 0 rfl) ?_
                    refine vp_callSi (va_Run.run (va_runV (As := [.int (nI 14)]) (rest := []) ⟨hx, hb, hml, hown, noTs⟩ (s_J0_charAt l adK adV 3 14 (by decide) (by show _ < 18; omega)) ⟨cbE 1 (wd_498 hE) (wd_129 hE) (wd_1528 hE) rfl rfl (by decide +kernel) ⟨Nat.le_of_ble_eq_true rfl, Nat.le_of_ble_eq_true rfl⟩, (wd_496 hE), (wd_497 hE)⟩ ⟨PS.blind, vk_recv hX.1 (by decide) hS, ps_pre (av := [.ref (adK 3), .int (nI 14)]) hX hS hE⟩ rfl rfl hl.1 rfl (lv_room (Nat.le_of_ble_eq_true rfl)) dX12_key_28 ⟨Nat.le_of_ble_eq_true rfl, Nat.le_of_ble_eq_true rfl⟩)) (fun r625 hr625 => ?_)
                    have hr625 : r625 = 111 := hr625.trans (by decide)
                    subst hr625
                    refine lv_bipush (v := 32) hx hb dX12_key_31 (by decide) ?_
                    refine lv_icmp_eq (tgt := 42) hx hb dX12_key_33 (by decide) (fun c626 => absurd c626 (by decide)) (fun c626 => ?_)
                    refine lv_iinc (v := 15) (lv' := [(3, .int 15), (2, .int 13), (1, .int 2), (0, .ref (b 0)), (4, .int x1_579), (5, .int (nI i_579))]) hx hb dX12_key_36 hl (k := 0) rfl (by decide) (by decide) rfl (fun ls hl => ?_)
                    refine lv_goto (tgt := 25) hx hb dX12_key_39 (by decide) ?_
                    refine va_ldcS hx hb hown hZ dX12_key_25 ?_
                    refine lv_iload_n hx hb dX12_key_27 rfl (lv_at hl 0 rfl) ?_
                    refine vp_callSi (va_Run.run (va_runV (As := [.int (nI 15)]) (rest := []) ⟨hx, hb, hml, hown, noTs⟩ (s_J0_charAt l adK adV 3 15 (by decide) (by show _ < 18; omega)) ⟨cbE 1 (wd_498 hE) (wd_129 hE) (wd_1528 hE) rfl rfl (by decide +kernel) ⟨Nat.le_of_ble_eq_true rfl, Nat.le_of_ble_eq_true rfl⟩, (wd_496 hE), (wd_497 hE)⟩ ⟨PS.blind, vk_recv hX.1 (by decide) hS, ps_pre (av := [.ref (adK 3), .int (nI 15)]) hX hS hE⟩ rfl rfl hl.1 rfl (lv_room (Nat.le_of_ble_eq_true rfl)) dX12_key_28 ⟨Nat.le_of_ble_eq_true rfl, Nat.le_of_ble_eq_true rfl⟩)) (fun r627 hr627 => ?_)
                    have hr627 : r627 = 114 := hr627.trans (by decide)
                    subst hr627
                    refine lv_bipush (v := 32) hx hb dX12_key_31 (by decide) ?_
                    refine lv_icmp_eq (tgt := 42) hx hb dX12_key_33 (by decide) (fun c628 => absurd c628 (by decide)) (fun c628 => ?_)
                    refine lv_iinc (v := 16) (lv' := [(3, .int 16), (2, .int 13), (1, .int 2), (0, .ref (b 0)), (4, .int x1_579), (5, .int (nI i_579))]) hx hb dX12_key_36 hl (k := 0) rfl (by decide) (by decide) rfl (fun ls hl => ?_)
                    refine lv_goto (tgt := 25) hx hb dX12_key_39 (by decide) ?_
                    refine va_ldcS hx hb hown hZ dX12_key_25 ?_
                    refine lv_iload_n hx hb dX12_key_27 rfl (lv_at hl 0 rfl) ?_
                    refine vp_callSi (va_Run.run (va_runV (As := [.int (nI 16)]) (rest := []) ⟨hx, hb, hml, hown, noTs⟩ (s_J0_charAt l adK adV 3 16 (by decide) (by show _ < 18; omega)) ⟨cbE 1 (wd_498 hE) (wd_129 hE) (wd_1528 hE) rfl rfl (by decide +kernel) ⟨Nat.le_of_ble_eq_true rfl, Nat.le_of_ble_eq_true rfl⟩, (wd_496 hE), (wd_497 hE)⟩ ⟨PS.blind, vk_recv hX.1 (by decide) hS, ps_pre (av := [.ref (adK 3), .int (nI 16)]) hX hS hE⟩ rfl rfl hl.1 rfl (lv_room (Nat.le_of_ble_eq_true rfl)) dX12_key_28 ⟨Nat.le_of_ble_eq_true rfl, Nat.le_of_ble_eq_true rfl⟩)) (fun r629 hr629 => ?_)
                    have hr629 : r629 = 100 := hr629.trans (by decide)
                    subst hr629
                    refine lv_bipush (v := 32) hx hb dX12_key_31 (by decide) ?_
                    refine lv_icmp_eq (tgt := 42) hx hb dX12_key_33 (by decide) (fun c630 => absurd c630 (by decide)) (fun c630 => ?_)
                    refine lv_iinc (v := 17) (lv' := [(3, .int 17), (2, .int 13), (1, .int 2), (0, .ref (b 0)), (4, .int x1_579), (5, .int (nI i_579))]) hx hb dX12_key_36 hl (k := 0) rfl (by decide) (by decide) rfl (fun ls hl => ?_)
                    refine lv_goto (tgt := 25) hx hb dX12_key_39 (by decide) ?_
                    refine va_ldcS hx hb hown hZ dX12_key_25 ?_
                    refine lv_iload_n hx hb dX12_key_27 rfl (lv_at hl 0 rfl) ?_
                    refine vp_callSi (va_Run.run (va_runV (As := [.int (nI 17)]) (rest := []) ⟨hx, hb, hml, hown, noTs⟩ (s_J0_charAt l adK adV 3 17 (by decide) (by show _ < 18; omega)) ⟨cbE 1 (wd_498 hE) (wd_129 hE) (wd_1528 hE) rfl rfl (by decide +kernel) ⟨Nat.le_of_ble_eq_true rfl, Nat.le_of_ble_eq_true rfl⟩, (wd_496 hE), (wd_497 hE)⟩ ⟨PS.blind, vk_recv hX.1 (by decide) hS, ps_pre (av := [.ref (adK 3), .int (nI 17)]) hX hS hE⟩ rfl rfl hl.1 rfl (lv_room (Nat.le_of_ble_eq_true rfl)) dX12_key_28 ⟨Nat.le_of_ble_eq_true rfl, Nat.le_of_ble_eq_true rfl⟩)) (fun r631 hr631 => ?_)
                    have hr631 : r631 = 32 := hr631.trans (by decide)
                    subst hr631
                    refine lv_bipush (v := 32) hx hb dX12_key_31 (by decide) ?_
                    refine lv_icmp_eq (tgt := 42) hx hb dX12_key_33 (by decide) (fun c632 => ?_) (fun c632 => absurd c632 (by decide))
                    refine lv_iload_n hx hb dX12_key_42 rfl (lv_at hl 0 rfl) ?_
                    refine lv_iload_n hx hb dX12_key_43 rfl (lv_at hl 1 rfl) ?_
                    refine lv_isub hx hb dX12_key_44 ?_
                    refine W.eq (g2 := F0 m 45 ls [.int 4]) rfl ?_
                    refine lv_aload_n hx hb dX12_key_45 rfl (lv_at hl 3 rfl) ?_
                    refine r_get (v := .int (nI (tnd tx sz1 p0))) hx hb (ly_X12 hE) hown hK hP rfl 14 (by decide) (wd_1395 hE) (fun _ h9 => h9) (congrArg (fun z : Int32 => some (Value.int z)) te14_2) dX12_key_46 ?_
                    refine lv_aload_n hx hb dX12_key_49 rfl (lv_at hl 3 rfl) ?_
                    refine r_get (v := .int (nI p0)) hx hb (ly_X12 hE) hown hK hP rfl 13 (by decide) (wd_1394 hE) (fun _ h9 => h9) (congrArg (fun z : Int32 => some (Value.int z)) te13_2) dX12_key_50 ?_
                    refine lv_isub hx hb dX12_key_53 ?_
                    refine W.eq (g2 := F0 m 54 ls [.int (nI ((tnd tx sz1 p0) - p0)), .int 4]) (congrArg (fun z : Int32 => F0 m 54 ls (.int z :: [.int 4])) (pk_sub (a := tnd tx sz1 p0) (b := p0) (by omega))) ?_
                    refine lv_icmp_ne (tgt := 61) hx hb dX12_key_54 (by decide) (fun c633 => ?_) (fun c633 => ?_)
                    · have c633 := mt (b_eq (show Int32.toInt 4 = 4 from rfl) (nI_toInt (n := (tnd tx sz1 p0) - p0) (by omega))).mpr c633
                      refine lv_iconst (v := 0) hx hb dX12_key_61 (by decide) ?_
                      refine lv_istore (lv' := [(4, .int 0), (3, .int 17), (2, .int 13), (1, .int 2), (0, .ref (b 0)), (5, .int (nI i_579))]) hx hb dX12_key_62 hl (by decide) rfl (fun ls hl => ?_)
                      refine lv_iconst (v := 0) hx hb dX12_key_64 (by decide) ?_
                      refine lv_istore (lv' := [(5, .int 0), (4, .int 0), (3, .int 17), (2, .int 13), (1, .int 2), (0, .ref (b 0))]) hx hb dX12_key_65 hl (by decide) rfl (fun ls hl => ?_)
                      refine r_indP (I := fun n ls => ∃ (i_634 : Nat) (x1_634 : Int32), n = 17 - 13 - i_634 ∧ (i_634 ≤ 17 - 13) ∧ (x1_634 = 0 ∨ x1_634 = 1) ∧ (x1_634 = 1 → tnd tx sz1 p0 - p0 = 17 - 13 ∧ ∀ q, q < i_634 → bA tx sz1 (p0 + q) = (kW 13).getD q 0) ∧ (x1_634 = 0 → eqw tx sz1 (kW 13) p0 = false) ∧ lv_has ls 6 [(0, .ref (b 0)), (1, .int 2), (2, .int 13), (3, .int 17), (4, .int x1_634), (5, .int (nI i_634))]) (fun n ls hI ih634 => ?_) _ _ ⟨0, 0, rfl, (by first | assumption | omega | rfl | (congr 1; omega)), (by first | exact Or.inl rfl | exact Or.inr rfl), (by first | (intro _; exact ⟨by omega, fun q hq => absurd hq (by omega)⟩) | (intro h; exact absurd h (by decide))), (by first | (intro h; exact absurd h (by decide)) | (intro _; exact eqw_len (w := kW 13) (l := 17 - 13) rfl (by omega))), lv_sub hl [5, 4, 3, 2, 1, 0] rfl⟩
                      obtain ⟨i_634, x1_634, hmu634, hL634_0, hL634_1, hL634_2, hL634_3, hl⟩ := hI
                      subst hmu634
                      refine lv_iload hx hb dX12_key_67 (lv_at hl 5 rfl) ?_
                      refine lv_iload_n hx hb dX12_key_69 rfl (lv_at hl 3 rfl) ?_
                      refine lv_iload_n hx hb dX12_key_70 rfl (lv_at hl 2 rfl) ?_
                      refine lv_isub hx hb dX12_key_71 ?_
                      refine W.eq (g2 := F0 m 72 ls [.int 4, .int (nI i_634)]) rfl ?_
                      refine lv_icmp_ge (tgt := 116) hx hb dX12_key_72 (by decide) (fun c635 => ?_) (fun c635 => ?_)
                      · have c635 := (b_le (show Int32.toInt 4 = 4 from rfl) (nI_toInt (n := i_634) (by omega))).mp c635
                        refine lv_iload hx hb dX12_key_116 (lv_at hl 4 rfl) ?_
                        refine lv_if_eq (tgt := 123) hx hb dX12_key_118 (by decide) (fun c636 => ?_) (fun c636 => ?_)
                        · have c636 := (b_eq (rfl : Int32.toInt x1_634 = _) (show Int32.toInt 0 = 0 from rfl)).mp c636
                          have EW13 : eqw tx sz1 (kW 13) p0 = false := hL634_3 (i0_of (by omega))
                          refine lv_iinc (v := 3) (lv' := [(1, .int 3), (0, .ref (b 0)), (2, .int 13), (3, .int 17), (4, .int x1_634), (5, .int (nI i_634))]) hx hb dX12_key_123 hl (k := 1) rfl (by decide) (by decide) rfl (fun ls hl => ?_)
                          refine lv_iload_n hx hb dX12_key_126 rfl (lv_at hl 3 rfl) ?_
                          refine lv_iconst (v := 1) hx hb dX12_key_127 (by decide) ?_
                          refine lv_iadd hx hb dX12_key_128 ?_
                          refine W.eq (g2 := F0 m 129 ls [.int 18]) rfl ?_
                          refine lv_istore_n (lv' := [(2, .int 18), (1, .int 3), (0, .ref (b 0)), (3, .int 17), (4, .int x1_634), (5, .int (nI i_634))]) hx hb dX12_key_129 rfl hl (by decide) rfl (fun ls hl => ?_)
                          refine lv_goto (tgt := 14) hx hb dX12_key_130 (by decide) ?_
                          refine lv_iload_n hx hb dX12_key_14 rfl (lv_at hl 0 rfl) ?_
                          refine va_ldcS hx hb hown hZ dX12_key_15 ?_
                          refine vp_callSi (va_Run.run (va_runV (As := []) (rest := [.int 18]) ⟨hx, hb, hml, hown, noTs⟩ (s_J0_length l adK adV 3 (by decide)) ⟨cbE 0 (wd_488 hE) (wd_129 hE) (wd_1527 hE) rfl rfl (by decide +kernel) ⟨Nat.le_of_ble_eq_true rfl, Nat.le_of_ble_eq_true rfl⟩, (wd_486 hE), (wd_487 hE)⟩ ⟨PS.blind, vk_recv hX.1 (by decide) hS, ps_pre (av := [.ref (adK 3)]) hX hS hE⟩ rfl rfl hl.1 rfl (lv_room (Nat.le_of_ble_eq_true rfl)) dX12_key_17 ⟨Nat.le_of_ble_eq_true rfl, Nat.le_of_ble_eq_true rfl⟩)) (fun r637 hr637 => ?_)
                          have hr637 : r637 = 18 := hr637
                          subst hr637
                          refine lv_icmp_ge (tgt := 133) hx hb dX12_key_20 (by decide) (fun c638 => ?_) (fun c638 => absurd c638 (by decide))
                          refine lv_iconst (v := -1) hx hb dX12_key_133 (by decide) ?_
                          exact W.iret (v := -1) hx hb hr (fun t ht hW => ⟨-1, rfl, Or.inr (Or.inr (Or.inr (⟨rfl, by first | omega | (have q := (kd_word (tx := tx) (n := sz1) (p := p0) (by omega)).trans ((if_neg (by rw [show eqw tx sz1 wVx p0 = false from EW1]; decide)).trans ((if_neg (by rw [show eqw tx sz1 wEd p0 = false from EW8]; decide)).trans (if_neg (by rw [show eqw tx sz1 wWo p0 = false from EW13]; decide)))); omega)⟩))), ht⟩) (fun _ h => absurd h List.not_mem_nil) dX12_key_134
                        · have c636 := mt (b_eq (rfl : Int32.toInt x1_634 = _) (show Int32.toInt 0 = 0 from rfl)).mpr c636
                          have X2 : x1_634 = 1 := i1_of hL634_1 (by omega)
                          have EW13 : eqw tx sz1 (kW 13) p0 = true := by first | exact eqw_t.mpr ⟨(hL634_2 X2).1.trans rfl, fun q hq => (hL634_2 X2).2 q (by have : (kW 13).length = 17 - 13 := rfl; omega)⟩ | (exfalso; omega)
                          refine lv_iload_n hx hb dX12_key_121 rfl (lv_at hl 1 rfl) ?_
                          exact W.iret (v := 2) hx hb hr (fun t ht hW => ⟨2, rfl, Or.inr (Or.inr (Or.inl ⟨rfl, by exact (kd_word (by omega)).trans ((if_neg (by rw [show eqw tx sz1 wVx p0 = false from EW1]; decide)).trans ((if_neg (by rw [show eqw tx sz1 wEd p0 = false from EW8]; decide)).trans (if_pos EW13)))⟩)), ht⟩) (fun _ h => absurd h List.not_mem_nil) dX12_key_122
                      · have c635 := mt (b_le (show Int32.toInt 4 = 4 from rfl) (nI_toInt (n := i_634) (by omega))).mpr c635
                        refine lv_iload hx hb dX12_key_75 (lv_at hl 4 rfl) ?_
                        refine lv_if_eq (tgt := 116) hx hb dX12_key_77 (by decide) (fun c639 => ?_) (fun c639 => ?_)
                        · have c639 := (b_eq (rfl : Int32.toInt x1_634 = _) (show Int32.toInt 0 = 0 from rfl)).mp c639
                          refine lv_iload hx hb dX12_key_116 (lv_at hl 4 rfl) ?_
                          refine lv_if_eq (tgt := 123) hx hb dX12_key_118 (by decide) (fun c640 => ?_) (fun c640 => ?_)
                          · have c640 := (b_eq (rfl : Int32.toInt x1_634 = _) (show Int32.toInt 0 = 0 from rfl)).mp c640
                            have EW13 : eqw tx sz1 (kW 13) p0 = false := hL634_3 (i0_of (by omega))
                            refine lv_iinc (v := 3) (lv' := [(1, .int 3), (0, .ref (b 0)), (2, .int 13), (3, .int 17), (4, .int x1_634), (5, .int (nI i_634))]) hx hb dX12_key_123 hl (k := 1) rfl (by decide) (by decide) rfl (fun ls hl => ?_)
                            refine lv_iload_n hx hb dX12_key_126 rfl (lv_at hl 3 rfl) ?_
                            refine lv_iconst (v := 1) hx hb dX12_key_127 (by decide) ?_
                            refine lv_iadd hx hb dX12_key_128 ?_
                            refine W.eq (g2 := F0 m 129 ls [.int 18]) rfl ?_
                            refine lv_istore_n (lv' := [(2, .int 18), (1, .int 3), (0, .ref (b 0)), (3, .int 17), (4, .int x1_634), (5, .int (nI i_634))]) hx hb dX12_key_129 rfl hl (by decide) rfl (fun ls hl => ?_)
                            refine lv_goto (tgt := 14) hx hb dX12_key_130 (by decide) ?_
                            refine lv_iload_n hx hb dX12_key_14 rfl (lv_at hl 0 rfl) ?_
                            refine va_ldcS hx hb hown hZ dX12_key_15 ?_
                            refine vp_callSi (va_Run.run (va_runV (As := []) (rest := [.int 18]) ⟨hx, hb, hml, hown, noTs⟩ (s_J0_length l adK adV 3 (by decide)) ⟨cbE 0 (wd_488 hE) (wd_129 hE) (wd_1527 hE) rfl rfl (by decide +kernel) ⟨Nat.le_of_ble_eq_true rfl, Nat.le_of_ble_eq_true rfl⟩, (wd_486 hE), (wd_487 hE)⟩ ⟨PS.blind, vk_recv hX.1 (by decide) hS, ps_pre (av := [.ref (adK 3)]) hX hS hE⟩ rfl rfl hl.1 rfl (lv_room (Nat.le_of_ble_eq_true rfl)) dX12_key_17 ⟨Nat.le_of_ble_eq_true rfl, Nat.le_of_ble_eq_true rfl⟩)) (fun r641 hr641 => ?_)
                            have hr641 : r641 = 18 := hr641
                            subst hr641
                            refine lv_icmp_ge (tgt := 133) hx hb dX12_key_20 (by decide) (fun c642 => ?_) (fun c642 => absurd c642 (by decide))
                            refine lv_iconst (v := -1) hx hb dX12_key_133 (by decide) ?_
                            exact W.iret (v := -1) hx hb hr (fun t ht hW => ⟨-1, rfl, Or.inr (Or.inr (Or.inr (⟨rfl, by first | omega | (have q := (kd_word (tx := tx) (n := sz1) (p := p0) (by omega)).trans ((if_neg (by rw [show eqw tx sz1 wVx p0 = false from EW1]; decide)).trans ((if_neg (by rw [show eqw tx sz1 wEd p0 = false from EW8]; decide)).trans (if_neg (by rw [show eqw tx sz1 wWo p0 = false from EW13]; decide)))); omega)⟩))), ht⟩) (fun _ h => absurd h List.not_mem_nil) dX12_key_134
                          · have c640 := mt (b_eq (rfl : Int32.toInt x1_634 = _) (show Int32.toInt 0 = 0 from rfl)).mpr c640
                            have X2 : x1_634 = 1 := i1_of hL634_1 (by omega)
                            have EW13 : eqw tx sz1 (kW 13) p0 = true := by first | exact eqw_t.mpr ⟨(hL634_2 X2).1.trans rfl, fun q hq => (hL634_2 X2).2 q (by have : (kW 13).length = 17 - 13 := rfl; omega)⟩ | (exfalso; omega)
                            refine lv_iload_n hx hb dX12_key_121 rfl (lv_at hl 1 rfl) ?_
                            exact W.iret (v := 2) hx hb hr (fun t ht hW => ⟨2, rfl, Or.inr (Or.inr (Or.inl ⟨rfl, by exact (kd_word (by omega)).trans ((if_neg (by rw [show eqw tx sz1 wVx p0 = false from EW1]; decide)).trans ((if_neg (by rw [show eqw tx sz1 wEd p0 = false from EW8]; decide)).trans (if_pos EW13)))⟩)), ht⟩) (fun _ h => absurd h List.not_mem_nil) dX12_key_122
                        · have c639 := mt (b_eq (rfl : Int32.toInt x1_634 = _) (show Int32.toInt 0 = 0 from rfl)).mpr c639
                          have X1 : x1_634 = 1 := i1_of hL634_1 (by omega)
                          refine va_ldcS hx hb hown hZ dX12_key_80 ?_
                          refine lv_iload_n hx hb dX12_key_82 rfl (lv_at hl 2 rfl) ?_
                          refine lv_iload hx hb dX12_key_83 (lv_at hl 5 rfl) ?_
                          refine lv_iadd hx hb dX12_key_85 ?_
                          refine W.eq (g2 := F0 m 86 ls [.int (nI (13 + i_634)), .ref (adK 3)]) (congrArg (fun z : Int32 => F0 m 86 ls (.int z :: [.ref (adK 3)])) (nI_add 13 i_634)) ?_
                          refine vp_callSi (va_Run.run (va_runV (As := [.int (nI (13 + i_634))]) (rest := []) ⟨hx, hb, hml, hown, noTs⟩ (s_J0_charAt l adK adV 3 (13 + i_634) (by decide) (by show _ < 18; omega)) ⟨cbE 1 (wd_498 hE) (wd_129 hE) (wd_1528 hE) rfl rfl (by decide +kernel) ⟨Nat.le_of_ble_eq_true rfl, Nat.le_of_ble_eq_true rfl⟩, (wd_496 hE), (wd_497 hE)⟩ ⟨PS.blind, vk_recv hX.1 (by decide) hS, ps_pre (av := [.ref (adK 3), .int (nI (13 + i_634))]) hX hS hE⟩ rfl rfl hl.1 rfl (lv_room (Nat.le_of_ble_eq_true rfl)) dX12_key_86 ⟨Nat.le_of_ble_eq_true rfl, Nat.le_of_ble_eq_true rfl⟩)) (fun r643 hr643 => ?_)
                          refine lv_aload_n hx hb dX12_key_89 rfl (lv_at hl 0 rfl) ?_
                          refine lv_aload_n hx hb dX12_key_90 rfl (lv_at hl 0 rfl) ?_
                          refine r_get (v := .int (nI p0)) hx hb (ly_X12 hE) hown hK hP rfl 13 (by decide) (wd_1394 hE) (fun _ h9 => h9) (congrArg (fun z : Int32 => some (Value.int z)) te13_2) dX12_key_91 ?_
                          refine lv_iload hx hb dX12_key_94 (lv_at hl 5 rfl) ?_
                          refine lv_iadd hx hb dX12_key_96 ?_
                          refine W.eq (g2 := F0 m 97 ls [.int (nI (p0 + i_634)), .ref (b 0), .int r643]) (congrArg (fun z : Int32 => F0 m 97 ls (.int z :: [.ref (b 0), .int r643])) (nI_add p0 i_634)) ?_
                          refine vp_callSi (va_Run.run (va_runV (As := [.int (nI (p0 + i_634))]) (rest := [.int r643]) ⟨hx, hb, hml, hown, noTs⟩ (r_X12_byteAt l dC dI s.heap.size cs b u tx hAc16 (p0 + i_634) sz1 hF11 (by first | assumption | omega | rfl | (congr 1; omega)) (by first | assumption | omega | rfl | (congr 1; omega))) ⟨cbE 1 (wd_1510 hE) (wd_126 hE) (wd_1507 hE) rfl rfl (by decide +kernel) ⟨Nat.le_of_ble_eq_true rfl, Nat.le_of_ble_eq_true rfl⟩, (wd_1509 hE), (wd_57 hE)⟩ ⟨PR.blind, r_recv hK hP rfl, (r_pre (av := [.ref (b 0), .int (nI (p0 + i_634))]) hK hP hJ hE)⟩ rfl rfl hl.1 rfl (lv_room (Nat.le_of_ble_eq_true rfl)) dX12_key_97 ⟨Nat.le_of_ble_eq_true rfl, Nat.le_of_ble_eq_true rfl⟩)) (fun r644 hr644 => ?_)
                          subst hr644
                          have htf644 := bA_f tx sz1 (p0 + i_634)
                          have HRC := hr643
                          have RCH := ch_13 i_634 (by omega)
                          refine lv_icmp_ne (tgt := 107) hx hb dX12_key_100 (by decide) (fun c645 => ?_) (fun c645 => ?_)
                          · have c645 := mt (b_eq (rfl : Int32.toInt r643 = _) (rfl : Int32.toInt (bA tx sz1 (p0 + i_634)) = _)).mpr c645
                            have NE : bA tx sz1 (p0 + i_634) ≠ (kW 13).getD i_634 0 := by rw [← RCH, ← HRC]; intro e; have := congrArg Int32.toInt e; omega
                            refine lv_iconst (v := 0) hx hb dX12_key_107 (by decide) ?_
                            refine lv_istore (lv' := [(4, .int 0), (0, .ref (b 0)), (1, .int 2), (2, .int 13), (3, .int 17), (5, .int (nI i_634))]) hx hb dX12_key_108 hl (by decide) rfl (fun ls hl => ?_)
                            refine lv_iinc (v := nI (i_634 + 1)) (lv' := [(5, .int (nI (i_634 + 1))), (4, .int 0), (0, .ref (b 0)), (1, .int 2), (2, .int 13), (3, .int 17)]) hx hb dX12_key_110 hl (k := 5) rfl (nI_1 i_634) (by decide) rfl (fun ls hl => ?_)
                            refine lv_goto (tgt := 67) hx hb dX12_key_113 (by decide) ?_
                            exact ih634 _ _ (by omega) ⟨(i_634 + 1), 0, rfl, (by first | assumption | omega | rfl | (congr 1; omega)), (by first | exact Or.inl rfl | exact Or.inr rfl), (by first | (intro _; exact ⟨(hL634_2 X1).1, fun q hq => by rcases Nat.lt_or_ge q i_634 with h | h; (exact (hL634_2 X1).2 q h); (obtain rfl : q = i_634 := by omega); exact EQ⟩) | (intro h; exact absurd h (by decide))), (by first | (intro h; exact absurd h (by decide)) | (intro _; exact eqw_at (w := kW 13) (by have : (kW 13).length = 17 - 13 := rfl; omega) NE)), lv_sub hl [2, 3, 4, 5, 1, 0] rfl⟩
                          · have c645 := (b_eq (rfl : Int32.toInt r643 = _) (rfl : Int32.toInt (bA tx sz1 (p0 + i_634)) = _)).mp c645
                            have EQ : bA tx sz1 (p0 + i_634) = (kW 13).getD i_634 0 := by rw [← RCH, ← HRC]; exact Int32.toInt_inj.mp (by omega)
                            refine lv_iconst (v := 1) hx hb dX12_key_103 (by decide) ?_
                            refine lv_goto (tgt := 108) hx hb dX12_key_104 (by decide) ?_
                            refine lv_istore (lv' := [(4, .int 1), (0, .ref (b 0)), (1, .int 2), (2, .int 13), (3, .int 17), (5, .int (nI i_634))]) hx hb dX12_key_108 hl (by decide) rfl (fun ls hl => ?_)
                            refine lv_iinc (v := nI (i_634 + 1)) (lv' := [(5, .int (nI (i_634 + 1))), (4, .int 1), (0, .ref (b 0)), (1, .int 2), (2, .int 13), (3, .int 17)]) hx hb dX12_key_110 hl (k := 5) rfl (nI_1 i_634) (by decide) rfl (fun ls hl => ?_)
                            refine lv_goto (tgt := 67) hx hb dX12_key_113 (by decide) ?_
                            exact ih634 _ _ (by omega) ⟨(i_634 + 1), 1, rfl, (by first | assumption | omega | rfl | (congr 1; omega)), (by first | exact Or.inl rfl | exact Or.inr rfl), (by first | (intro _; exact ⟨(hL634_2 X1).1, fun q hq => by rcases Nat.lt_or_ge q i_634 with h | h; (exact (hL634_2 X1).2 q h); (obtain rfl : q = i_634 := by omega); exact EQ⟩) | (intro h; exact absurd h (by decide))), (by first | (intro h; exact absurd h (by decide)) | (intro _; exact eqw_at (w := kW 13) (by have : (kW 13).length = 17 - 13 := rfl; omega) NE)), lv_sub hl [2, 3, 4, 5, 1, 0] rfl⟩
                    · have c633 := (b_eq (show Int32.toInt 4 = 4 from rfl) (nI_toInt (n := (tnd tx sz1 p0) - p0) (by omega))).mp c633
                      refine lv_iconst (v := 1) hx hb dX12_key_57 (by decide) ?_
                      refine lv_goto (tgt := 62) hx hb dX12_key_58 (by decide) ?_
                      refine lv_istore (lv' := [(4, .int 1), (3, .int 17), (2, .int 13), (1, .int 2), (0, .ref (b 0)), (5, .int (nI i_579))]) hx hb dX12_key_62 hl (by decide) rfl (fun ls hl => ?_)
                      refine lv_iconst (v := 0) hx hb dX12_key_64 (by decide) ?_
                      refine lv_istore (lv' := [(5, .int 0), (4, .int 1), (3, .int 17), (2, .int 13), (1, .int 2), (0, .ref (b 0))]) hx hb dX12_key_65 hl (by decide) rfl (fun ls hl => ?_)
                      refine r_indP (I := fun n ls => ∃ (i_646 : Nat) (x1_646 : Int32), n = 17 - 13 - i_646 ∧ (i_646 ≤ 17 - 13) ∧ (x1_646 = 0 ∨ x1_646 = 1) ∧ (x1_646 = 1 → tnd tx sz1 p0 - p0 = 17 - 13 ∧ ∀ q, q < i_646 → bA tx sz1 (p0 + q) = (kW 13).getD q 0) ∧ (x1_646 = 0 → eqw tx sz1 (kW 13) p0 = false) ∧ lv_has ls 6 [(0, .ref (b 0)), (1, .int 2), (2, .int 13), (3, .int 17), (4, .int x1_646), (5, .int (nI i_646))]) (fun n ls hI ih646 => ?_) _ _ ⟨0, 1, rfl, (by first | assumption | omega | rfl | (congr 1; omega)), (by first | exact Or.inl rfl | exact Or.inr rfl), (by first | (intro _; exact ⟨by omega, fun q hq => absurd hq (by omega)⟩) | (intro h; exact absurd h (by decide))), (by first | (intro h; exact absurd h (by decide)) | (intro _; exact eqw_len (w := kW 13) (l := 17 - 13) rfl (by omega))), lv_sub hl [5, 4, 3, 2, 1, 0] rfl⟩
                      obtain ⟨i_646, x1_646, hmu646, hL646_0, hL646_1, hL646_2, hL646_3, hl⟩ := hI
                      subst hmu646
                      refine lv_iload hx hb dX12_key_67 (lv_at hl 5 rfl) ?_
                      refine lv_iload_n hx hb dX12_key_69 rfl (lv_at hl 3 rfl) ?_
                      refine lv_iload_n hx hb dX12_key_70 rfl (lv_at hl 2 rfl) ?_
                      refine lv_isub hx hb dX12_key_71 ?_
                      refine W.eq (g2 := F0 m 72 ls [.int 4, .int (nI i_646)]) rfl ?_
                      refine lv_icmp_ge (tgt := 116) hx hb dX12_key_72 (by decide) (fun c647 => ?_) (fun c647 => ?_)
                      · have c647 := (b_le (show Int32.toInt 4 = 4 from rfl) (nI_toInt (n := i_646) (by omega))).mp c647
                        refine lv_iload hx hb dX12_key_116 (lv_at hl 4 rfl) ?_
                        refine lv_if_eq (tgt := 123) hx hb dX12_key_118 (by decide) (fun c648 => ?_) (fun c648 => ?_)
                        · have c648 := (b_eq (rfl : Int32.toInt x1_646 = _) (show Int32.toInt 0 = 0 from rfl)).mp c648
                          have EW13 : eqw tx sz1 (kW 13) p0 = false := hL646_3 (i0_of (by omega))
                          refine lv_iinc (v := 3) (lv' := [(1, .int 3), (0, .ref (b 0)), (2, .int 13), (3, .int 17), (4, .int x1_646), (5, .int (nI i_646))]) hx hb dX12_key_123 hl (k := 1) rfl (by decide) (by decide) rfl (fun ls hl => ?_)
                          refine lv_iload_n hx hb dX12_key_126 rfl (lv_at hl 3 rfl) ?_
                          refine lv_iconst (v := 1) hx hb dX12_key_127 (by decide) ?_
                          refine lv_iadd hx hb dX12_key_128 ?_
                          refine W.eq (g2 := F0 m 129 ls [.int 18]) rfl ?_
                          refine lv_istore_n (lv' := [(2, .int 18), (1, .int 3), (0, .ref (b 0)), (3, .int 17), (4, .int x1_646), (5, .int (nI i_646))]) hx hb dX12_key_129 rfl hl (by decide) rfl (fun ls hl => ?_)
                          refine lv_goto (tgt := 14) hx hb dX12_key_130 (by decide) ?_
                          refine lv_iload_n hx hb dX12_key_14 rfl (lv_at hl 0 rfl) ?_
                          refine va_ldcS hx hb hown hZ dX12_key_15 ?_
                          refine vp_callSi (va_Run.run (va_runV (As := []) (rest := [.int 18]) ⟨hx, hb, hml, hown, noTs⟩ (s_J0_length l adK adV 3 (by decide)) ⟨cbE 0 (wd_488 hE) (wd_129 hE) (wd_1527 hE) rfl rfl (by decide +kernel) ⟨Nat.le_of_ble_eq_true rfl, Nat.le_of_ble_eq_true rfl⟩, (wd_486 hE), (wd_487 hE)⟩ ⟨PS.blind, vk_recv hX.1 (by decide) hS, ps_pre (av := [.ref (adK 3)]) hX hS hE⟩ rfl rfl hl.1 rfl (lv_room (Nat.le_of_ble_eq_true rfl)) dX12_key_17 ⟨Nat.le_of_ble_eq_true rfl, Nat.le_of_ble_eq_true rfl⟩)) (fun r649 hr649 => ?_)
                          have hr649 : r649 = 18 := hr649
                          subst hr649
                          refine lv_icmp_ge (tgt := 133) hx hb dX12_key_20 (by decide) (fun c650 => ?_) (fun c650 => absurd c650 (by decide))
                          refine lv_iconst (v := -1) hx hb dX12_key_133 (by decide) ?_
                          exact W.iret (v := -1) hx hb hr (fun t ht hW => ⟨-1, rfl, Or.inr (Or.inr (Or.inr (⟨rfl, by first | omega | (have q := (kd_word (tx := tx) (n := sz1) (p := p0) (by omega)).trans ((if_neg (by rw [show eqw tx sz1 wVx p0 = false from EW1]; decide)).trans ((if_neg (by rw [show eqw tx sz1 wEd p0 = false from EW8]; decide)).trans (if_neg (by rw [show eqw tx sz1 wWo p0 = false from EW13]; decide)))); omega)⟩))), ht⟩) (fun _ h => absurd h List.not_mem_nil) dX12_key_134
                        · have c648 := mt (b_eq (rfl : Int32.toInt x1_646 = _) (show Int32.toInt 0 = 0 from rfl)).mpr c648
                          have X2 : x1_646 = 1 := i1_of hL646_1 (by omega)
                          have EW13 : eqw tx sz1 (kW 13) p0 = true := by first | exact eqw_t.mpr ⟨(hL646_2 X2).1.trans rfl, fun q hq => (hL646_2 X2).2 q (by have : (kW 13).length = 17 - 13 := rfl; omega)⟩ | (exfalso; omega)
                          refine lv_iload_n hx hb dX12_key_121 rfl (lv_at hl 1 rfl) ?_
                          exact W.iret (v := 2) hx hb hr (fun t ht hW => ⟨2, rfl, Or.inr (Or.inr (Or.inl ⟨rfl, by exact (kd_word (by omega)).trans ((if_neg (by rw [show eqw tx sz1 wVx p0 = false from EW1]; decide)).trans ((if_neg (by rw [show eqw tx sz1 wEd p0 = false from EW8]; decide)).trans (if_pos EW13)))⟩)), ht⟩) (fun _ h => absurd h List.not_mem_nil) dX12_key_122
                      · have c647 := mt (b_le (show Int32.toInt 4 = 4 from rfl) (nI_toInt (n := i_646) (by omega))).mpr c647
                        refine lv_iload hx hb dX12_key_75 (lv_at hl 4 rfl) ?_
                        refine lv_if_eq (tgt := 116) hx hb dX12_key_77 (by decide) (fun c651 => ?_) (fun c651 => ?_)
                        · have c651 := (b_eq (rfl : Int32.toInt x1_646 = _) (show Int32.toInt 0 = 0 from rfl)).mp c651
                          refine lv_iload hx hb dX12_key_116 (lv_at hl 4 rfl) ?_
                          refine lv_if_eq (tgt := 123) hx hb dX12_key_118 (by decide) (fun c652 => ?_) (fun c652 => ?_)
                          · have c652 := (b_eq (rfl : Int32.toInt x1_646 = _) (show Int32.toInt 0 = 0 from rfl)).mp c652
                            have EW13 : eqw tx sz1 (kW 13) p0 = false := hL646_3 (i0_of (by omega))
                            refine lv_iinc (v := 3) (lv' := [(1, .int 3), (0, .ref (b 0)), (2, .int 13), (3, .int 17), (4, .int x1_646), (5, .int (nI i_646))]) hx hb dX12_key_123 hl (k := 1) rfl (by decide) (by decide) rfl (fun ls hl => ?_)
                            refine lv_iload_n hx hb dX12_key_126 rfl (lv_at hl 3 rfl) ?_
                            refine lv_iconst (v := 1) hx hb dX12_key_127 (by decide) ?_
                            refine lv_iadd hx hb dX12_key_128 ?_
                            refine W.eq (g2 := F0 m 129 ls [.int 18]) rfl ?_
                            refine lv_istore_n (lv' := [(2, .int 18), (1, .int 3), (0, .ref (b 0)), (3, .int 17), (4, .int x1_646), (5, .int (nI i_646))]) hx hb dX12_key_129 rfl hl (by decide) rfl (fun ls hl => ?_)
                            refine lv_goto (tgt := 14) hx hb dX12_key_130 (by decide) ?_
                            refine lv_iload_n hx hb dX12_key_14 rfl (lv_at hl 0 rfl) ?_
                            refine va_ldcS hx hb hown hZ dX12_key_15 ?_
                            refine vp_callSi (va_Run.run (va_runV (As := []) (rest := [.int 18]) ⟨hx, hb, hml, hown, noTs⟩ (s_J0_length l adK adV 3 (by decide)) ⟨cbE 0 (wd_488 hE) (wd_129 hE) (wd_1527 hE) rfl rfl (by decide +kernel) ⟨Nat.le_of_ble_eq_true rfl, Nat.le_of_ble_eq_true rfl⟩, (wd_486 hE), (wd_487 hE)⟩ ⟨PS.blind, vk_recv hX.1 (by decide) hS, ps_pre (av := [.ref (adK 3)]) hX hS hE⟩ rfl rfl hl.1 rfl (lv_room (Nat.le_of_ble_eq_true rfl)) dX12_key_17 ⟨Nat.le_of_ble_eq_true rfl, Nat.le_of_ble_eq_true rfl⟩)) (fun r653 hr653 => ?_)
                            have hr653 : r653 = 18 := hr653
                            subst hr653
                            refine lv_icmp_ge (tgt := 133) hx hb dX12_key_20 (by decide) (fun c654 => ?_) (fun c654 => absurd c654 (by decide))
                            refine lv_iconst (v := -1) hx hb dX12_key_133 (by decide) ?_
                            exact W.iret (v := -1) hx hb hr (fun t ht hW => ⟨-1, rfl, Or.inr (Or.inr (Or.inr (⟨rfl, by first | omega | (have q := (kd_word (tx := tx) (n := sz1) (p := p0) (by omega)).trans ((if_neg (by rw [show eqw tx sz1 wVx p0 = false from EW1]; decide)).trans ((if_neg (by rw [show eqw tx sz1 wEd p0 = false from EW8]; decide)).trans (if_neg (by rw [show eqw tx sz1 wWo p0 = false from EW13]; decide)))); omega)⟩))), ht⟩) (fun _ h => absurd h List.not_mem_nil) dX12_key_134
                          · have c652 := mt (b_eq (rfl : Int32.toInt x1_646 = _) (show Int32.toInt 0 = 0 from rfl)).mpr c652
                            have X2 : x1_646 = 1 := i1_of hL646_1 (by omega)
                            have EW13 : eqw tx sz1 (kW 13) p0 = true := by first | exact eqw_t.mpr ⟨(hL646_2 X2).1.trans rfl, fun q hq => (hL646_2 X2).2 q (by have : (kW 13).length = 17 - 13 := rfl; omega)⟩ | (exfalso; omega)
                            refine lv_iload_n hx hb dX12_key_121 rfl (lv_at hl 1 rfl) ?_
                            exact W.iret (v := 2) hx hb hr (fun t ht hW => ⟨2, rfl, Or.inr (Or.inr (Or.inl ⟨rfl, by exact (kd_word (by omega)).trans ((if_neg (by rw [show eqw tx sz1 wVx p0 = false from EW1]; decide)).trans ((if_neg (by rw [show eqw tx sz1 wEd p0 = false from EW8]; decide)).trans (if_pos EW13)))⟩)), ht⟩) (fun _ h => absurd h List.not_mem_nil) dX12_key_122
                        · have c651 := mt (b_eq (rfl : Int32.toInt x1_646 = _) (show Int32.toInt 0 = 0 from rfl)).mpr c651
                          have X1 : x1_646 = 1 := i1_of hL646_1 (by omega)
                          refine va_ldcS hx hb hown hZ dX12_key_80 ?_
                          refine lv_iload_n hx hb dX12_key_82 rfl (lv_at hl 2 rfl) ?_
                          refine lv_iload hx hb dX12_key_83 (lv_at hl 5 rfl) ?_
                          refine lv_iadd hx hb dX12_key_85 ?_
                          refine W.eq (g2 := F0 m 86 ls [.int (nI (13 + i_646)), .ref (adK 3)]) (congrArg (fun z : Int32 => F0 m 86 ls (.int z :: [.ref (adK 3)])) (nI_add 13 i_646)) ?_
                          refine vp_callSi (va_Run.run (va_runV (As := [.int (nI (13 + i_646))]) (rest := []) ⟨hx, hb, hml, hown, noTs⟩ (s_J0_charAt l adK adV 3 (13 + i_646) (by decide) (by show _ < 18; omega)) ⟨cbE 1 (wd_498 hE) (wd_129 hE) (wd_1528 hE) rfl rfl (by decide +kernel) ⟨Nat.le_of_ble_eq_true rfl, Nat.le_of_ble_eq_true rfl⟩, (wd_496 hE), (wd_497 hE)⟩ ⟨PS.blind, vk_recv hX.1 (by decide) hS, ps_pre (av := [.ref (adK 3), .int (nI (13 + i_646))]) hX hS hE⟩ rfl rfl hl.1 rfl (lv_room (Nat.le_of_ble_eq_true rfl)) dX12_key_86 ⟨Nat.le_of_ble_eq_true rfl, Nat.le_of_ble_eq_true rfl⟩)) (fun r655 hr655 => ?_)
                          refine lv_aload_n hx hb dX12_key_89 rfl (lv_at hl 0 rfl) ?_
                          refine lv_aload_n hx hb dX12_key_90 rfl (lv_at hl 0 rfl) ?_
                          refine r_get (v := .int (nI p0)) hx hb (ly_X12 hE) hown hK hP rfl 13 (by decide) (wd_1394 hE) (fun _ h9 => h9) (congrArg (fun z : Int32 => some (Value.int z)) te13_2) dX12_key_91 ?_
                          refine lv_iload hx hb dX12_key_94 (lv_at hl 5 rfl) ?_
                          refine lv_iadd hx hb dX12_key_96 ?_
                          refine W.eq (g2 := F0 m 97 ls [.int (nI (p0 + i_646)), .ref (b 0), .int r655]) (congrArg (fun z : Int32 => F0 m 97 ls (.int z :: [.ref (b 0), .int r655])) (nI_add p0 i_646)) ?_
                          refine vp_callSi (va_Run.run (va_runV (As := [.int (nI (p0 + i_646))]) (rest := [.int r655]) ⟨hx, hb, hml, hown, noTs⟩ (r_X12_byteAt l dC dI s.heap.size cs b u tx hAc16 (p0 + i_646) sz1 hF11 (by first | assumption | omega | rfl | (congr 1; omega)) (by first | assumption | omega | rfl | (congr 1; omega))) ⟨cbE 1 (wd_1510 hE) (wd_126 hE) (wd_1507 hE) rfl rfl (by decide +kernel) ⟨Nat.le_of_ble_eq_true rfl, Nat.le_of_ble_eq_true rfl⟩, (wd_1509 hE), (wd_57 hE)⟩ ⟨PR.blind, r_recv hK hP rfl, (r_pre (av := [.ref (b 0), .int (nI (p0 + i_646))]) hK hP hJ hE)⟩ rfl rfl hl.1 rfl (lv_room (Nat.le_of_ble_eq_true rfl)) dX12_key_97 ⟨Nat.le_of_ble_eq_true rfl, Nat.le_of_ble_eq_true rfl⟩)) (fun r656 hr656 => ?_)
                          subst hr656
                          have htf656 := bA_f tx sz1 (p0 + i_646)
                          have HRC := hr655
                          have RCH := ch_13 i_646 (by omega)
                          refine lv_icmp_ne (tgt := 107) hx hb dX12_key_100 (by decide) (fun c657 => ?_) (fun c657 => ?_)
                          · have c657 := mt (b_eq (rfl : Int32.toInt r655 = _) (rfl : Int32.toInt (bA tx sz1 (p0 + i_646)) = _)).mpr c657
                            have NE : bA tx sz1 (p0 + i_646) ≠ (kW 13).getD i_646 0 := by rw [← RCH, ← HRC]; intro e; have := congrArg Int32.toInt e; omega
                            refine lv_iconst (v := 0) hx hb dX12_key_107 (by decide) ?_
                            refine lv_istore (lv' := [(4, .int 0), (0, .ref (b 0)), (1, .int 2), (2, .int 13), (3, .int 17), (5, .int (nI i_646))]) hx hb dX12_key_108 hl (by decide) rfl (fun ls hl => ?_)
                            refine lv_iinc (v := nI (i_646 + 1)) (lv' := [(5, .int (nI (i_646 + 1))), (4, .int 0), (0, .ref (b 0)), (1, .int 2), (2, .int 13), (3, .int 17)]) hx hb dX12_key_110 hl (k := 5) rfl (nI_1 i_646) (by decide) rfl (fun ls hl => ?_)
                            refine lv_goto (tgt := 67) hx hb dX12_key_113 (by decide) ?_
                            exact ih646 _ _ (by omega) ⟨(i_646 + 1), 0, rfl, (by first | assumption | omega | rfl | (congr 1; omega)), (by first | exact Or.inl rfl | exact Or.inr rfl), (by first | (intro _; exact ⟨(hL646_2 X1).1, fun q hq => by rcases Nat.lt_or_ge q i_646 with h | h; (exact (hL646_2 X1).2 q h); (obtain rfl : q = i_646 := by omega); exact EQ⟩) | (intro h; exact absurd h (by decide))), (by first | (intro h; exact absurd h (by decide)) | (intro _; exact eqw_at (w := kW 13) (by have : (kW 13).length = 17 - 13 := rfl; omega) NE)), lv_sub hl [2, 3, 4, 5, 1, 0] rfl⟩
                          · have c657 := (b_eq (rfl : Int32.toInt r655 = _) (rfl : Int32.toInt (bA tx sz1 (p0 + i_646)) = _)).mp c657
                            have EQ : bA tx sz1 (p0 + i_646) = (kW 13).getD i_646 0 := by rw [← RCH, ← HRC]; exact Int32.toInt_inj.mp (by omega)
                            refine lv_iconst (v := 1) hx hb dX12_key_103 (by decide) ?_
                            refine lv_goto (tgt := 108) hx hb dX12_key_104 (by decide) ?_
                            refine lv_istore (lv' := [(4, .int 1), (0, .ref (b 0)), (1, .int 2), (2, .int 13), (3, .int 17), (5, .int (nI i_646))]) hx hb dX12_key_108 hl (by decide) rfl (fun ls hl => ?_)
                            refine lv_iinc (v := nI (i_646 + 1)) (lv' := [(5, .int (nI (i_646 + 1))), (4, .int 1), (0, .ref (b 0)), (1, .int 2), (2, .int 13), (3, .int 17)]) hx hb dX12_key_110 hl (k := 5) rfl (nI_1 i_646) (by decide) rfl (fun ls hl => ?_)
                            refine lv_goto (tgt := 67) hx hb dX12_key_113 (by decide) ?_
                            exact ih646 _ _ (by omega) ⟨(i_646 + 1), 1, rfl, (by first | assumption | omega | rfl | (congr 1; omega)), (by first | exact Or.inl rfl | exact Or.inr rfl), (by first | (intro _; exact ⟨(hL646_2 X1).1, fun q hq => by rcases Nat.lt_or_ge q i_646 with h | h; (exact (hL646_2 X1).2 q h); (obtain rfl : q = i_646 := by omega); exact EQ⟩) | (intro h; exact absurd h (by decide))), (by first | (intro h; exact absurd h (by decide)) | (intro _; exact eqw_at (w := kW 13) (by have : (kW 13).length = 17 - 13 := rfl; omega) NE)), lv_sub hl [2, 3, 4, 5, 1, 0] rfl⟩
                  · have c620 := mt (b_eq (rfl : Int32.toInt x1_579 = _) (show Int32.toInt 0 = 0 from rfl)).mpr c620
                    have X2 : x1_579 = 1 := i1_of hL579_1 (by omega)
                    have EW8 : eqw tx sz1 (kW 8) p0 = true := by first | exact eqw_t.mpr ⟨(hL579_2 X2).1.trans rfl, fun q hq => (hL579_2 X2).2 q (by have : (kW 8).length = 12 - 8 := rfl; omega)⟩ | (exfalso; omega)
                    refine lv_iload_n hx hb dX12_key_121 rfl (lv_at hl 1 rfl) ?_
                    exact W.iret (v := 1) hx hb hr (fun t ht hW => ⟨1, rfl, Or.inr (Or.inl ⟨rfl, by exact (kd_word (by omega)).trans ((if_neg (by rw [show eqw tx sz1 wVx p0 = false from EW1]; decide)).trans (if_pos EW8))⟩), ht⟩) (fun _ h => absurd h List.not_mem_nil) dX12_key_122
                · have c619 := mt (b_eq (rfl : Int32.toInt x1_579 = _) (show Int32.toInt 0 = 0 from rfl)).mpr c619
                  have X1 : x1_579 = 1 := i1_of hL579_1 (by omega)
                  refine va_ldcS hx hb hown hZ dX12_key_80 ?_
                  refine lv_iload_n hx hb dX12_key_82 rfl (lv_at hl 2 rfl) ?_
                  refine lv_iload hx hb dX12_key_83 (lv_at hl 5 rfl) ?_
                  refine lv_iadd hx hb dX12_key_85 ?_
                  refine W.eq (g2 := F0 m 86 ls [.int (nI (8 + i_579)), .ref (adK 3)]) (congrArg (fun z : Int32 => F0 m 86 ls (.int z :: [.ref (adK 3)])) (nI_add 8 i_579)) ?_
                  refine vp_callSi (va_Run.run (va_runV (As := [.int (nI (8 + i_579))]) (rest := []) ⟨hx, hb, hml, hown, noTs⟩ (s_J0_charAt l adK adV 3 (8 + i_579) (by decide) (by show _ < 18; omega)) ⟨cbE 1 (wd_498 hE) (wd_129 hE) (wd_1528 hE) rfl rfl (by decide +kernel) ⟨Nat.le_of_ble_eq_true rfl, Nat.le_of_ble_eq_true rfl⟩, (wd_496 hE), (wd_497 hE)⟩ ⟨PS.blind, vk_recv hX.1 (by decide) hS, ps_pre (av := [.ref (adK 3), .int (nI (8 + i_579))]) hX hS hE⟩ rfl rfl hl.1 rfl (lv_room (Nat.le_of_ble_eq_true rfl)) dX12_key_86 ⟨Nat.le_of_ble_eq_true rfl, Nat.le_of_ble_eq_true rfl⟩)) (fun r658 hr658 => ?_)
                  refine lv_aload_n hx hb dX12_key_89 rfl (lv_at hl 0 rfl) ?_
                  refine lv_aload_n hx hb dX12_key_90 rfl (lv_at hl 0 rfl) ?_
                  refine r_get (v := .int (nI p0)) hx hb (ly_X12 hE) hown hK hP rfl 13 (by decide) (wd_1394 hE) (fun _ h9 => h9) (congrArg (fun z : Int32 => some (Value.int z)) te13_2) dX12_key_91 ?_
                  refine lv_iload hx hb dX12_key_94 (lv_at hl 5 rfl) ?_
                  refine lv_iadd hx hb dX12_key_96 ?_
                  refine W.eq (g2 := F0 m 97 ls [.int (nI (p0 + i_579)), .ref (b 0), .int r658]) (congrArg (fun z : Int32 => F0 m 97 ls (.int z :: [.ref (b 0), .int r658])) (nI_add p0 i_579)) ?_
                  refine vp_callSi (va_Run.run (va_runV (As := [.int (nI (p0 + i_579))]) (rest := [.int r658]) ⟨hx, hb, hml, hown, noTs⟩ (r_X12_byteAt l dC dI s.heap.size cs b u tx hAc16 (p0 + i_579) sz1 hF11 (by first | assumption | omega | rfl | (congr 1; omega)) (by first | assumption | omega | rfl | (congr 1; omega))) ⟨cbE 1 (wd_1510 hE) (wd_126 hE) (wd_1507 hE) rfl rfl (by decide +kernel) ⟨Nat.le_of_ble_eq_true rfl, Nat.le_of_ble_eq_true rfl⟩, (wd_1509 hE), (wd_57 hE)⟩ ⟨PR.blind, r_recv hK hP rfl, (r_pre (av := [.ref (b 0), .int (nI (p0 + i_579))]) hK hP hJ hE)⟩ rfl rfl hl.1 rfl (lv_room (Nat.le_of_ble_eq_true rfl)) dX12_key_97 ⟨Nat.le_of_ble_eq_true rfl, Nat.le_of_ble_eq_true rfl⟩)) (fun r659 hr659 => ?_)
                  subst hr659
                  have htf659 := bA_f tx sz1 (p0 + i_579)
                  have HRC := hr658
                  have RCH := ch_8 i_579 (by omega)
                  refine lv_icmp_ne (tgt := 107) hx hb dX12_key_100 (by decide) (fun c660 => ?_) (fun c660 => ?_)
                  · have c660 := mt (b_eq (rfl : Int32.toInt r658 = _) (rfl : Int32.toInt (bA tx sz1 (p0 + i_579)) = _)).mpr c660
                    have NE : bA tx sz1 (p0 + i_579) ≠ (kW 8).getD i_579 0 := by rw [← RCH, ← HRC]; intro e; have := congrArg Int32.toInt e; omega
                    refine lv_iconst (v := 0) hx hb dX12_key_107 (by decide) ?_
                    refine lv_istore (lv' := [(4, .int 0), (0, .ref (b 0)), (1, .int 1), (2, .int 8), (3, .int 12), (5, .int (nI i_579))]) hx hb dX12_key_108 hl (by decide) rfl (fun ls hl => ?_)
                    refine lv_iinc (v := nI (i_579 + 1)) (lv' := [(5, .int (nI (i_579 + 1))), (4, .int 0), (0, .ref (b 0)), (1, .int 1), (2, .int 8), (3, .int 12)]) hx hb dX12_key_110 hl (k := 5) rfl (nI_1 i_579) (by decide) rfl (fun ls hl => ?_)
                    refine lv_goto (tgt := 67) hx hb dX12_key_113 (by decide) ?_
                    exact ih579 _ _ (by omega) ⟨(i_579 + 1), 0, rfl, (by first | assumption | omega | rfl | (congr 1; omega)), (by first | exact Or.inl rfl | exact Or.inr rfl), (by first | (intro _; exact ⟨(hL579_2 X1).1, fun q hq => by rcases Nat.lt_or_ge q i_579 with h | h; (exact (hL579_2 X1).2 q h); (obtain rfl : q = i_579 := by omega); exact EQ⟩) | (intro h; exact absurd h (by decide))), (by first | (intro h; exact absurd h (by decide)) | (intro _; exact eqw_at (w := kW 8) (by have : (kW 8).length = 12 - 8 := rfl; omega) NE)), lv_sub hl [2, 3, 4, 5, 1, 0] rfl⟩
                  · have c660 := (b_eq (rfl : Int32.toInt r658 = _) (rfl : Int32.toInt (bA tx sz1 (p0 + i_579)) = _)).mp c660
                    have EQ : bA tx sz1 (p0 + i_579) = (kW 8).getD i_579 0 := by rw [← RCH, ← HRC]; exact Int32.toInt_inj.mp (by omega)
                    refine lv_iconst (v := 1) hx hb dX12_key_103 (by decide) ?_
                    refine lv_goto (tgt := 108) hx hb dX12_key_104 (by decide) ?_
                    refine lv_istore (lv' := [(4, .int 1), (0, .ref (b 0)), (1, .int 1), (2, .int 8), (3, .int 12), (5, .int (nI i_579))]) hx hb dX12_key_108 hl (by decide) rfl (fun ls hl => ?_)
                    refine lv_iinc (v := nI (i_579 + 1)) (lv' := [(5, .int (nI (i_579 + 1))), (4, .int 1), (0, .ref (b 0)), (1, .int 1), (2, .int 8), (3, .int 12)]) hx hb dX12_key_110 hl (k := 5) rfl (nI_1 i_579) (by decide) rfl (fun ls hl => ?_)
                    refine lv_goto (tgt := 67) hx hb dX12_key_113 (by decide) ?_
                    exact ih579 _ _ (by omega) ⟨(i_579 + 1), 1, rfl, (by first | assumption | omega | rfl | (congr 1; omega)), (by first | exact Or.inl rfl | exact Or.inr rfl), (by first | (intro _; exact ⟨(hL579_2 X1).1, fun q hq => by rcases Nat.lt_or_ge q i_579 with h | h; (exact (hL579_2 X1).2 q h); (obtain rfl : q = i_579 := by omega); exact EQ⟩) | (intro h; exact absurd h (by decide))), (by first | (intro h; exact absurd h (by decide)) | (intro _; exact eqw_at (w := kW 8) (by have : (kW 8).length = 12 - 8 := rfl; omega) NE)), lv_sub hl [2, 3, 4, 5, 1, 0] rfl⟩
            · have c578 := (b_eq (show Int32.toInt 4 = 4 from rfl) (nI_toInt (n := (tnd tx sz1 p0) - p0) (by omega))).mp c578
              refine lv_iconst (v := 1) hx hb dX12_key_57 (by decide) ?_
              refine lv_goto (tgt := 62) hx hb dX12_key_58 (by decide) ?_
              refine lv_istore (lv' := [(4, .int 1), (3, .int 12), (2, .int 8), (1, .int 1), (0, .ref (b 0)), (5, .int (nI i_384))]) hx hb dX12_key_62 hl (by decide) rfl (fun ls hl => ?_)
              refine lv_iconst (v := 0) hx hb dX12_key_64 (by decide) ?_
              refine lv_istore (lv' := [(5, .int 0), (4, .int 1), (3, .int 12), (2, .int 8), (1, .int 1), (0, .ref (b 0))]) hx hb dX12_key_65 hl (by decide) rfl (fun ls hl => ?_)
              refine r_indP (I := fun n ls => ∃ (i_661 : Nat) (x1_661 : Int32), n = 12 - 8 - i_661 ∧ (i_661 ≤ 12 - 8) ∧ (x1_661 = 0 ∨ x1_661 = 1) ∧ (x1_661 = 1 → tnd tx sz1 p0 - p0 = 12 - 8 ∧ ∀ q, q < i_661 → bA tx sz1 (p0 + q) = (kW 8).getD q 0) ∧ (x1_661 = 0 → eqw tx sz1 (kW 8) p0 = false) ∧ lv_has ls 6 [(0, .ref (b 0)), (1, .int 1), (2, .int 8), (3, .int 12), (4, .int x1_661), (5, .int (nI i_661))]) (fun n ls hI ih661 => ?_) _ _ ⟨0, 1, rfl, (by first | assumption | omega | rfl | (congr 1; omega)), (by first | exact Or.inl rfl | exact Or.inr rfl), (by first | (intro _; exact ⟨by omega, fun q hq => absurd hq (by omega)⟩) | (intro h; exact absurd h (by decide))), (by first | (intro h; exact absurd h (by decide)) | (intro _; exact eqw_len (w := kW 8) (l := 12 - 8) rfl (by omega))), lv_sub hl [5, 4, 3, 2, 1, 0] rfl⟩
              obtain ⟨i_661, x1_661, hmu661, hL661_0, hL661_1, hL661_2, hL661_3, hl⟩ := hI
              subst hmu661
              refine lv_iload hx hb dX12_key_67 (lv_at hl 5 rfl) ?_
              refine lv_iload_n hx hb dX12_key_69 rfl (lv_at hl 3 rfl) ?_
              refine lv_iload_n hx hb dX12_key_70 rfl (lv_at hl 2 rfl) ?_
              refine lv_isub hx hb dX12_key_71 ?_
              refine W.eq (g2 := F0 m 72 ls [.int 4, .int (nI i_661)]) rfl ?_
              refine lv_icmp_ge (tgt := 116) hx hb dX12_key_72 (by decide) (fun c662 => ?_) (fun c662 => ?_)
              · have c662 := (b_le (show Int32.toInt 4 = 4 from rfl) (nI_toInt (n := i_661) (by omega))).mp c662
                refine lv_iload hx hb dX12_key_116 (lv_at hl 4 rfl) ?_
                refine lv_if_eq (tgt := 123) hx hb dX12_key_118 (by decide) (fun c663 => ?_) (fun c663 => ?_)
                · have c663 := (b_eq (rfl : Int32.toInt x1_661 = _) (show Int32.toInt 0 = 0 from rfl)).mp c663
                  have EW8 : eqw tx sz1 (kW 8) p0 = false := hL661_3 (i0_of (by omega))
                  refine lv_iinc (v := 2) (lv' := [(1, .int 2), (0, .ref (b 0)), (2, .int 8), (3, .int 12), (4, .int x1_661), (5, .int (nI i_661))]) hx hb dX12_key_123 hl (k := 1) rfl (by decide) (by decide) rfl (fun ls hl => ?_)
                  refine lv_iload_n hx hb dX12_key_126 rfl (lv_at hl 3 rfl) ?_
                  refine lv_iconst (v := 1) hx hb dX12_key_127 (by decide) ?_
                  refine lv_iadd hx hb dX12_key_128 ?_
                  refine W.eq (g2 := F0 m 129 ls [.int 13]) rfl ?_
                  refine lv_istore_n (lv' := [(2, .int 13), (1, .int 2), (0, .ref (b 0)), (3, .int 12), (4, .int x1_661), (5, .int (nI i_661))]) hx hb dX12_key_129 rfl hl (by decide) rfl (fun ls hl => ?_)
                  refine lv_goto (tgt := 14) hx hb dX12_key_130 (by decide) ?_
                  refine lv_iload_n hx hb dX12_key_14 rfl (lv_at hl 0 rfl) ?_
                  refine va_ldcS hx hb hown hZ dX12_key_15 ?_
                  refine vp_callSi (va_Run.run (va_runV (As := []) (rest := [.int 13]) ⟨hx, hb, hml, hown, noTs⟩ (s_J0_length l adK adV 3 (by decide)) ⟨cbE 0 (wd_488 hE) (wd_129 hE) (wd_1527 hE) rfl rfl (by decide +kernel) ⟨Nat.le_of_ble_eq_true rfl, Nat.le_of_ble_eq_true rfl⟩, (wd_486 hE), (wd_487 hE)⟩ ⟨PS.blind, vk_recv hX.1 (by decide) hS, ps_pre (av := [.ref (adK 3)]) hX hS hE⟩ rfl rfl hl.1 rfl (lv_room (Nat.le_of_ble_eq_true rfl)) dX12_key_17 ⟨Nat.le_of_ble_eq_true rfl, Nat.le_of_ble_eq_true rfl⟩)) (fun r664 hr664 => ?_)
                  have hr664 : r664 = 18 := hr664
                  subst hr664
                  refine lv_icmp_ge (tgt := 133) hx hb dX12_key_20 (by decide) (fun c665 => absurd c665 (by decide)) (fun c665 => ?_)
                  refine lv_iload_n hx hb dX12_key_23 rfl (lv_at hl 0 rfl) ?_
                  refine lv_istore_n (lv' := [(3, .int 13), (2, .int 13), (1, .int 2), (0, .ref (b 0)), (4, .int x1_661), (5, .int (nI i_661))]) hx hb dX12_key_24 rfl hl (by decide) rfl (fun ls hl => ?_)
                  refine va_ldcS hx hb hown hZ dX12_key_25 ?_
                  refine lv_iload_n hx hb dX12_key_27 rfl (lv_at hl 0 rfl) ?_
                  refine vp_callSi (va_Run.run (va_runV (As := [.int (nI 13)]) (rest := []) ⟨hx, hb, hml, hown, noTs⟩ (s_J0_charAt l adK adV 3 13 (by decide) (by show _ < 18; omega)) ⟨cbE 1 (wd_498 hE) (wd_129 hE) (wd_1528 hE) rfl rfl (by decide +kernel) ⟨Nat.le_of_ble_eq_true rfl, Nat.le_of_ble_eq_true rfl⟩, (wd_496 hE), (wd_497 hE)⟩ ⟨PS.blind, vk_recv hX.1 (by decide) hS, ps_pre (av := [.ref (adK 3), .int (nI 13)]) hX hS hE⟩ rfl rfl hl.1 rfl (lv_room (Nat.le_of_ble_eq_true rfl)) dX12_key_28 ⟨Nat.le_of_ble_eq_true rfl, Nat.le_of_ble_eq_true rfl⟩)) (fun r666 hr666 => ?_)
                  have hr666 : r666 = 119 := hr666.trans (by decide)
                  subst hr666
                  refine lv_bipush (v := 32) hx hb dX12_key_31 (by decide) ?_
                  refine lv_icmp_eq (tgt := 42) hx hb dX12_key_33 (by decide) (fun c667 => absurd c667 (by decide)) (fun c667 => ?_)
                  refine lv_iinc (v := 14) (lv' := [(3, .int 14), (2, .int 13), (1, .int 2), (0, .ref (b 0)), (4, .int x1_661), (5, .int (nI i_661))]) hx hb dX12_key_36 hl (k := 0) rfl (by decide) (by decide) rfl (fun ls hl => ?_)
                  refine lv_goto (tgt := 25) hx hb dX12_key_39 (by decide) ?_
                  refine va_ldcS hx hb hown hZ dX12_key_25 ?_
                  refine lv_iload_n hx hb dX12_key_27 rfl (lv_at hl 0 rfl) ?_
                  refine vp_callSi (va_Run.run (va_runV (As := [.int (nI 14)]) (rest := []) ⟨hx, hb, hml, hown, noTs⟩ (s_J0_charAt l adK adV 3 14 (by decide) (by show _ < 18; omega)) ⟨cbE 1 (wd_498 hE) (wd_129 hE) (wd_1528 hE) rfl rfl (by decide +kernel) ⟨Nat.le_of_ble_eq_true rfl, Nat.le_of_ble_eq_true rfl⟩, (wd_496 hE), (wd_497 hE)⟩ ⟨PS.blind, vk_recv hX.1 (by decide) hS, ps_pre (av := [.ref (adK 3), .int (nI 14)]) hX hS hE⟩ rfl rfl hl.1 rfl (lv_room (Nat.le_of_ble_eq_true rfl)) dX12_key_28 ⟨Nat.le_of_ble_eq_true rfl, Nat.le_of_ble_eq_true rfl⟩)) (fun r668 hr668 => ?_)
                  have hr668 : r668 = 111 := hr668.trans (by decide)
                  subst hr668
                  refine lv_bipush (v := 32) hx hb dX12_key_31 (by decide) ?_
                  refine lv_icmp_eq (tgt := 42) hx hb dX12_key_33 (by decide) (fun c669 => absurd c669 (by decide)) (fun c669 => ?_)
                  refine lv_iinc (v := 15) (lv' := [(3, .int 15), (2, .int 13), (1, .int 2), (0, .ref (b 0)), (4, .int x1_661), (5, .int (nI i_661))]) hx hb dX12_key_36 hl (k := 0) rfl (by decide) (by decide) rfl (fun ls hl => ?_)
                  refine lv_goto (tgt := 25) hx hb dX12_key_39 (by decide) ?_
                  refine va_ldcS hx hb hown hZ dX12_key_25 ?_
                  refine lv_iload_n hx hb dX12_key_27 rfl (lv_at hl 0 rfl) ?_
                  refine vp_callSi (va_Run.run (va_runV (As := [.int (nI 15)]) (rest := []) ⟨hx, hb, hml, hown, noTs⟩ (s_J0_charAt l adK adV 3 15 (by decide) (by show _ < 18; omega)) ⟨cbE 1 (wd_498 hE) (wd_129 hE) (wd_1528 hE) rfl rfl (by decide +kernel) ⟨Nat.le_of_ble_eq_true rfl, Nat.le_of_ble_eq_true rfl⟩, (wd_496 hE), (wd_497 hE)⟩ ⟨PS.blind, vk_recv hX.1 (by decide) hS, ps_pre (av := [.ref (adK 3), .int (nI 15)]) hX hS hE⟩ rfl rfl hl.1 rfl (lv_room (Nat.le_of_ble_eq_true rfl)) dX12_key_28 ⟨Nat.le_of_ble_eq_true rfl, Nat.le_of_ble_eq_true rfl⟩)) (fun r670 hr670 => ?_)
                  have hr670 : r670 = 114 := hr670.trans (by decide)
                  subst hr670
                  refine lv_bipush (v := 32) hx hb dX12_key_31 (by decide) ?_
                  refine lv_icmp_eq (tgt := 42) hx hb dX12_key_33 (by decide) (fun c671 => absurd c671 (by decide)) (fun c671 => ?_)
                  refine lv_iinc (v := 16) (lv' := [(3, .int 16), (2, .int 13), (1, .int 2), (0, .ref (b 0)), (4, .int x1_661), (5, .int (nI i_661))]) hx hb dX12_key_36 hl (k := 0) rfl (by decide) (by decide) rfl (fun ls hl => ?_)
                  refine lv_goto (tgt := 25) hx hb dX12_key_39 (by decide) ?_
                  refine va_ldcS hx hb hown hZ dX12_key_25 ?_
                  refine lv_iload_n hx hb dX12_key_27 rfl (lv_at hl 0 rfl) ?_
                  refine vp_callSi (va_Run.run (va_runV (As := [.int (nI 16)]) (rest := []) ⟨hx, hb, hml, hown, noTs⟩ (s_J0_charAt l adK adV 3 16 (by decide) (by show _ < 18; omega)) ⟨cbE 1 (wd_498 hE) (wd_129 hE) (wd_1528 hE) rfl rfl (by decide +kernel) ⟨Nat.le_of_ble_eq_true rfl, Nat.le_of_ble_eq_true rfl⟩, (wd_496 hE), (wd_497 hE)⟩ ⟨PS.blind, vk_recv hX.1 (by decide) hS, ps_pre (av := [.ref (adK 3), .int (nI 16)]) hX hS hE⟩ rfl rfl hl.1 rfl (lv_room (Nat.le_of_ble_eq_true rfl)) dX12_key_28 ⟨Nat.le_of_ble_eq_true rfl, Nat.le_of_ble_eq_true rfl⟩)) (fun r672 hr672 => ?_)
                  have hr672 : r672 = 100 := hr672.trans (by decide)
                  subst hr672
                  refine lv_bipush (v := 32) hx hb dX12_key_31 (by decide) ?_
                  refine lv_icmp_eq (tgt := 42) hx hb dX12_key_33 (by decide) (fun c673 => absurd c673 (by decide)) (fun c673 => ?_)
                  refine lv_iinc (v := 17) (lv' := [(3, .int 17), (2, .int 13), (1, .int 2), (0, .ref (b 0)), (4, .int x1_661), (5, .int (nI i_661))]) hx hb dX12_key_36 hl (k := 0) rfl (by decide) (by decide) rfl (fun ls hl => ?_)
                  refine lv_goto (tgt := 25) hx hb dX12_key_39 (by decide) ?_
                  refine va_ldcS hx hb hown hZ dX12_key_25 ?_
                  refine lv_iload_n hx hb dX12_key_27 rfl (lv_at hl 0 rfl) ?_
                  refine vp_callSi (va_Run.run (va_runV (As := [.int (nI 17)]) (rest := []) ⟨hx, hb, hml, hown, noTs⟩ (s_J0_charAt l adK adV 3 17 (by decide) (by show _ < 18; omega)) ⟨cbE 1 (wd_498 hE) (wd_129 hE) (wd_1528 hE) rfl rfl (by decide +kernel) ⟨Nat.le_of_ble_eq_true rfl, Nat.le_of_ble_eq_true rfl⟩, (wd_496 hE), (wd_497 hE)⟩ ⟨PS.blind, vk_recv hX.1 (by decide) hS, ps_pre (av := [.ref (adK 3), .int (nI 17)]) hX hS hE⟩ rfl rfl hl.1 rfl (lv_room (Nat.le_of_ble_eq_true rfl)) dX12_key_28 ⟨Nat.le_of_ble_eq_true rfl, Nat.le_of_ble_eq_true rfl⟩)) (fun r674 hr674 => ?_)
                  have hr674 : r674 = 32 := hr674.trans (by decide)
                  subst hr674
                  refine lv_bipush (v := 32) hx hb dX12_key_31 (by decide) ?_
                  refine lv_icmp_eq (tgt := 42) hx hb dX12_key_33 (by decide) (fun c675 => ?_) (fun c675 => absurd c675 (by decide))
                  refine lv_iload_n hx hb dX12_key_42 rfl (lv_at hl 0 rfl) ?_
                  refine lv_iload_n hx hb dX12_key_43 rfl (lv_at hl 1 rfl) ?_
                  refine lv_isub hx hb dX12_key_44 ?_
                  refine W.eq (g2 := F0 m 45 ls [.int 4]) rfl ?_
                  refine lv_aload_n hx hb dX12_key_45 rfl (lv_at hl 3 rfl) ?_
                  refine r_get (v := .int (nI (tnd tx sz1 p0))) hx hb (ly_X12 hE) hown hK hP rfl 14 (by decide) (wd_1395 hE) (fun _ h9 => h9) (congrArg (fun z : Int32 => some (Value.int z)) te14_2) dX12_key_46 ?_
                  refine lv_aload_n hx hb dX12_key_49 rfl (lv_at hl 3 rfl) ?_
                  refine r_get (v := .int (nI p0)) hx hb (ly_X12 hE) hown hK hP rfl 13 (by decide) (wd_1394 hE) (fun _ h9 => h9) (congrArg (fun z : Int32 => some (Value.int z)) te13_2) dX12_key_50 ?_
                  refine lv_isub hx hb dX12_key_53 ?_
                  refine W.eq (g2 := F0 m 54 ls [.int (nI ((tnd tx sz1 p0) - p0)), .int 4]) (congrArg (fun z : Int32 => F0 m 54 ls (.int z :: [.int 4])) (pk_sub (a := tnd tx sz1 p0) (b := p0) (by omega))) ?_
                  refine lv_icmp_ne (tgt := 61) hx hb dX12_key_54 (by decide) (fun c676 => ?_) (fun c676 => ?_)
                  · have c676 := mt (b_eq (show Int32.toInt 4 = 4 from rfl) (nI_toInt (n := (tnd tx sz1 p0) - p0) (by omega))).mpr c676
                    refine lv_iconst (v := 0) hx hb dX12_key_61 (by decide) ?_
                    refine lv_istore (lv' := [(4, .int 0), (3, .int 17), (2, .int 13), (1, .int 2), (0, .ref (b 0)), (5, .int (nI i_661))]) hx hb dX12_key_62 hl (by decide) rfl (fun ls hl => ?_)
                    refine lv_iconst (v := 0) hx hb dX12_key_64 (by decide) ?_
                    refine lv_istore (lv' := [(5, .int 0), (4, .int 0), (3, .int 17), (2, .int 13), (1, .int 2), (0, .ref (b 0))]) hx hb dX12_key_65 hl (by decide) rfl (fun ls hl => ?_)
                    refine r_indP (I := fun n ls => ∃ (i_677 : Nat) (x1_677 : Int32), n = 17 - 13 - i_677 ∧ (i_677 ≤ 17 - 13) ∧ (x1_677 = 0 ∨ x1_677 = 1) ∧ (x1_677 = 1 → tnd tx sz1 p0 - p0 = 17 - 13 ∧ ∀ q, q < i_677 → bA tx sz1 (p0 + q) = (kW 13).getD q 0) ∧ (x1_677 = 0 → eqw tx sz1 (kW 13) p0 = false) ∧ lv_has ls 6 [(0, .ref (b 0)), (1, .int 2), (2, .int 13), (3, .int 17), (4, .int x1_677), (5, .int (nI i_677))]) (fun n ls hI ih677 => ?_) _ _ ⟨0, 0, rfl, (by first | assumption | omega | rfl | (congr 1; omega)), (by first | exact Or.inl rfl | exact Or.inr rfl), (by first | (intro _; exact ⟨by omega, fun q hq => absurd hq (by omega)⟩) | (intro h; exact absurd h (by decide))), (by first | (intro h; exact absurd h (by decide)) | (intro _; exact eqw_len (w := kW 13) (l := 17 - 13) rfl (by omega))), lv_sub hl [5, 4, 3, 2, 1, 0] rfl⟩
                    obtain ⟨i_677, x1_677, hmu677, hL677_0, hL677_1, hL677_2, hL677_3, hl⟩ := hI
                    subst hmu677
                    refine lv_iload hx hb dX12_key_67 (lv_at hl 5 rfl) ?_
                    refine lv_iload_n hx hb dX12_key_69 rfl (lv_at hl 3 rfl) ?_
                    refine lv_iload_n hx hb dX12_key_70 rfl (lv_at hl 2 rfl) ?_
                    refine lv_isub hx hb dX12_key_71 ?_
                    refine W.eq (g2 := F0 m 72 ls [.int 4, .int (nI i_677)]) rfl ?_
                    refine lv_icmp_ge (tgt := 116) hx hb dX12_key_72 (by decide) (fun c678 => ?_) (fun c678 => ?_)
                    · have c678 := (b_le (show Int32.toInt 4 = 4 from rfl) (nI_toInt (n := i_677) (by omega))).mp c678
                      refine lv_iload hx hb dX12_key_116 (lv_at hl 4 rfl) ?_
                      refine lv_if_eq (tgt := 123) hx hb dX12_key_118 (by decide) (fun c679 => ?_) (fun c679 => ?_)
                      · have c679 := (b_eq (rfl : Int32.toInt x1_677 = _) (show Int32.toInt 0 = 0 from rfl)).mp c679
                        have EW13 : eqw tx sz1 (kW 13) p0 = false := hL677_3 (i0_of (by omega))
                        refine lv_iinc (v := 3) (lv' := [(1, .int 3), (0, .ref (b 0)), (2, .int 13), (3, .int 17), (4, .int x1_677), (5, .int (nI i_677))]) hx hb dX12_key_123 hl (k := 1) rfl (by decide) (by decide) rfl (fun ls hl => ?_)
                        refine lv_iload_n hx hb dX12_key_126 rfl (lv_at hl 3 rfl) ?_
                        refine lv_iconst (v := 1) hx hb dX12_key_127 (by decide) ?_
                        refine lv_iadd hx hb dX12_key_128 ?_
                        refine W.eq (g2 := F0 m 129 ls [.int 18]) rfl ?_
                        refine lv_istore_n (lv' := [(2, .int 18), (1, .int 3), (0, .ref (b 0)), (3, .int 17), (4, .int x1_677), (5, .int (nI i_677))]) hx hb dX12_key_129 rfl hl (by decide) rfl (fun ls hl => ?_)
                        refine lv_goto (tgt := 14) hx hb dX12_key_130 (by decide) ?_
                        refine lv_iload_n hx hb dX12_key_14 rfl (lv_at hl 0 rfl) ?_
                        refine va_ldcS hx hb hown hZ dX12_key_15 ?_
                        refine vp_callSi (va_Run.run (va_runV (As := []) (rest := [.int 18]) ⟨hx, hb, hml, hown, noTs⟩ (s_J0_length l adK adV 3 (by decide)) ⟨cbE 0 (wd_488 hE) (wd_129 hE) (wd_1527 hE) rfl rfl (by decide +kernel) ⟨Nat.le_of_ble_eq_true rfl, Nat.le_of_ble_eq_true rfl⟩, (wd_486 hE), (wd_487 hE)⟩ ⟨PS.blind, vk_recv hX.1 (by decide) hS, ps_pre (av := [.ref (adK 3)]) hX hS hE⟩ rfl rfl hl.1 rfl (lv_room (Nat.le_of_ble_eq_true rfl)) dX12_key_17 ⟨Nat.le_of_ble_eq_true rfl, Nat.le_of_ble_eq_true rfl⟩)) (fun r680 hr680 => ?_)
                        have hr680 : r680 = 18 := hr680
                        subst hr680
                        refine lv_icmp_ge (tgt := 133) hx hb dX12_key_20 (by decide) (fun c681 => ?_) (fun c681 => absurd c681 (by decide))
                        refine lv_iconst (v := -1) hx hb dX12_key_133 (by decide) ?_
                        exact W.iret (v := -1) hx hb hr (fun t ht hW => ⟨-1, rfl, Or.inr (Or.inr (Or.inr (⟨rfl, by first | omega | (have q := (kd_word (tx := tx) (n := sz1) (p := p0) (by omega)).trans ((if_neg (by rw [show eqw tx sz1 wVx p0 = false from EW1]; decide)).trans ((if_neg (by rw [show eqw tx sz1 wEd p0 = false from EW8]; decide)).trans (if_neg (by rw [show eqw tx sz1 wWo p0 = false from EW13]; decide)))); omega)⟩))), ht⟩) (fun _ h => absurd h List.not_mem_nil) dX12_key_134
                      · have c679 := mt (b_eq (rfl : Int32.toInt x1_677 = _) (show Int32.toInt 0 = 0 from rfl)).mpr c679
                        have X2 : x1_677 = 1 := i1_of hL677_1 (by omega)
                        have EW13 : eqw tx sz1 (kW 13) p0 = true := by first | exact eqw_t.mpr ⟨(hL677_2 X2).1.trans rfl, fun q hq => (hL677_2 X2).2 q (by have : (kW 13).length = 17 - 13 := rfl; omega)⟩ | (exfalso; omega)
                        refine lv_iload_n hx hb dX12_key_121 rfl (lv_at hl 1 rfl) ?_
                        exact W.iret (v := 2) hx hb hr (fun t ht hW => ⟨2, rfl, Or.inr (Or.inr (Or.inl ⟨rfl, by exact (kd_word (by omega)).trans ((if_neg (by rw [show eqw tx sz1 wVx p0 = false from EW1]; decide)).trans ((if_neg (by rw [show eqw tx sz1 wEd p0 = false from EW8]; decide)).trans (if_pos EW13)))⟩)), ht⟩) (fun _ h => absurd h List.not_mem_nil) dX12_key_122
                    · have c678 := mt (b_le (show Int32.toInt 4 = 4 from rfl) (nI_toInt (n := i_677) (by omega))).mpr c678
                      refine lv_iload hx hb dX12_key_75 (lv_at hl 4 rfl) ?_
                      refine lv_if_eq (tgt := 116) hx hb dX12_key_77 (by decide) (fun c682 => ?_) (fun c682 => ?_)
                      · have c682 := (b_eq (rfl : Int32.toInt x1_677 = _) (show Int32.toInt 0 = 0 from rfl)).mp c682
                        refine lv_iload hx hb dX12_key_116 (lv_at hl 4 rfl) ?_
                        refine lv_if_eq (tgt := 123) hx hb dX12_key_118 (by decide) (fun c683 => ?_) (fun c683 => ?_)
                        · have c683 := (b_eq (rfl : Int32.toInt x1_677 = _) (show Int32.toInt 0 = 0 from rfl)).mp c683
                          have EW13 : eqw tx sz1 (kW 13) p0 = false := hL677_3 (i0_of (by omega))
                          refine lv_iinc (v := 3) (lv' := [(1, .int 3), (0, .ref (b 0)), (2, .int 13), (3, .int 17), (4, .int x1_677), (5, .int (nI i_677))]) hx hb dX12_key_123 hl (k := 1) rfl (by decide) (by decide) rfl (fun ls hl => ?_)
                          refine lv_iload_n hx hb dX12_key_126 rfl (lv_at hl 3 rfl) ?_
                          refine lv_iconst (v := 1) hx hb dX12_key_127 (by decide) ?_
                          refine lv_iadd hx hb dX12_key_128 ?_
                          refine W.eq (g2 := F0 m 129 ls [.int 18]) rfl ?_
                          refine lv_istore_n (lv' := [(2, .int 18), (1, .int 3), (0, .ref (b 0)), (3, .int 17), (4, .int x1_677), (5, .int (nI i_677))]) hx hb dX12_key_129 rfl hl (by decide) rfl (fun ls hl => ?_)
                          refine lv_goto (tgt := 14) hx hb dX12_key_130 (by decide) ?_
                          refine lv_iload_n hx hb dX12_key_14 rfl (lv_at hl 0 rfl) ?_
                          refine va_ldcS hx hb hown hZ dX12_key_15 ?_
                          refine vp_callSi (va_Run.run (va_runV (As := []) (rest := [.int 18]) ⟨hx, hb, hml, hown, noTs⟩ (s_J0_length l adK adV 3 (by decide)) ⟨cbE 0 (wd_488 hE) (wd_129 hE) (wd_1527 hE) rfl rfl (by decide +kernel) ⟨Nat.le_of_ble_eq_true rfl, Nat.le_of_ble_eq_true rfl⟩, (wd_486 hE), (wd_487 hE)⟩ ⟨PS.blind, vk_recv hX.1 (by decide) hS, ps_pre (av := [.ref (adK 3)]) hX hS hE⟩ rfl rfl hl.1 rfl (lv_room (Nat.le_of_ble_eq_true rfl)) dX12_key_17 ⟨Nat.le_of_ble_eq_true rfl, Nat.le_of_ble_eq_true rfl⟩)) (fun r684 hr684 => ?_)
                          have hr684 : r684 = 18 := hr684
                          subst hr684
                          refine lv_icmp_ge (tgt := 133) hx hb dX12_key_20 (by decide) (fun c685 => ?_) (fun c685 => absurd c685 (by decide))
                          refine lv_iconst (v := -1) hx hb dX12_key_133 (by decide) ?_
                          exact W.iret (v := -1) hx hb hr (fun t ht hW => ⟨-1, rfl, Or.inr (Or.inr (Or.inr (⟨rfl, by first | omega | (have q := (kd_word (tx := tx) (n := sz1) (p := p0) (by omega)).trans ((if_neg (by rw [show eqw tx sz1 wVx p0 = false from EW1]; decide)).trans ((if_neg (by rw [show eqw tx sz1 wEd p0 = false from EW8]; decide)).trans (if_neg (by rw [show eqw tx sz1 wWo p0 = false from EW13]; decide)))); omega)⟩))), ht⟩) (fun _ h => absurd h List.not_mem_nil) dX12_key_134
                        · have c683 := mt (b_eq (rfl : Int32.toInt x1_677 = _) (show Int32.toInt 0 = 0 from rfl)).mpr c683
                          have X2 : x1_677 = 1 := i1_of hL677_1 (by omega)
                          have EW13 : eqw tx sz1 (kW 13) p0 = true := by first | exact eqw_t.mpr ⟨(hL677_2 X2).1.trans rfl, fun q hq => (hL677_2 X2).2 q (by have : (kW 13).length = 17 - 13 := rfl; omega)⟩ | (exfalso; omega)
                          refine lv_iload_n hx hb dX12_key_121 rfl (lv_at hl 1 rfl) ?_
                          exact W.iret (v := 2) hx hb hr (fun t ht hW => ⟨2, rfl, Or.inr (Or.inr (Or.inl ⟨rfl, by exact (kd_word (by omega)).trans ((if_neg (by rw [show eqw tx sz1 wVx p0 = false from EW1]; decide)).trans ((if_neg (by rw [show eqw tx sz1 wEd p0 = false from EW8]; decide)).trans (if_pos EW13)))⟩)), ht⟩) (fun _ h => absurd h List.not_mem_nil) dX12_key_122
                      · have c682 := mt (b_eq (rfl : Int32.toInt x1_677 = _) (show Int32.toInt 0 = 0 from rfl)).mpr c682
                        have X1 : x1_677 = 1 := i1_of hL677_1 (by omega)
                        refine va_ldcS hx hb hown hZ dX12_key_80 ?_
                        refine lv_iload_n hx hb dX12_key_82 rfl (lv_at hl 2 rfl) ?_
                        refine lv_iload hx hb dX12_key_83 (lv_at hl 5 rfl) ?_
                        refine lv_iadd hx hb dX12_key_85 ?_
                        refine W.eq (g2 := F0 m 86 ls [.int (nI (13 + i_677)), .ref (adK 3)]) (congrArg (fun z : Int32 => F0 m 86 ls (.int z :: [.ref (adK 3)])) (nI_add 13 i_677)) ?_
                        refine vp_callSi (va_Run.run (va_runV (As := [.int (nI (13 + i_677))]) (rest := []) ⟨hx, hb, hml, hown, noTs⟩ (s_J0_charAt l adK adV 3 (13 + i_677) (by decide) (by show _ < 18; omega)) ⟨cbE 1 (wd_498 hE) (wd_129 hE) (wd_1528 hE) rfl rfl (by decide +kernel) ⟨Nat.le_of_ble_eq_true rfl, Nat.le_of_ble_eq_true rfl⟩, (wd_496 hE), (wd_497 hE)⟩ ⟨PS.blind, vk_recv hX.1 (by decide) hS, ps_pre (av := [.ref (adK 3), .int (nI (13 + i_677))]) hX hS hE⟩ rfl rfl hl.1 rfl (lv_room (Nat.le_of_ble_eq_true rfl)) dX12_key_86 ⟨Nat.le_of_ble_eq_true rfl, Nat.le_of_ble_eq_true rfl⟩)) (fun r686 hr686 => ?_)
                        refine lv_aload_n hx hb dX12_key_89 rfl (lv_at hl 0 rfl) ?_
                        refine lv_aload_n hx hb dX12_key_90 rfl (lv_at hl 0 rfl) ?_
                        refine r_get (v := .int (nI p0)) hx hb (ly_X12 hE) hown hK hP rfl 13 (by decide) (wd_1394 hE) (fun _ h9 => h9) (congrArg (fun z : Int32 => some (Value.int z)) te13_2) dX12_key_91 ?_
                        refine lv_iload hx hb dX12_key_94 (lv_at hl 5 rfl) ?_
                        refine lv_iadd hx hb dX12_key_96 ?_
                        refine W.eq (g2 := F0 m 97 ls [.int (nI (p0 + i_677)), .ref (b 0), .int r686]) (congrArg (fun z : Int32 => F0 m 97 ls (.int z :: [.ref (b 0), .int r686])) (nI_add p0 i_677)) ?_
                        refine vp_callSi (va_Run.run (va_runV (As := [.int (nI (p0 + i_677))]) (rest := [.int r686]) ⟨hx, hb, hml, hown, noTs⟩ (r_X12_byteAt l dC dI s.heap.size cs b u tx hAc16 (p0 + i_677) sz1 hF11 (by first | assumption | omega | rfl | (congr 1; omega)) (by first | assumption | omega | rfl | (congr 1; omega))) ⟨cbE 1 (wd_1510 hE) (wd_126 hE) (wd_1507 hE) rfl rfl (by decide +kernel) ⟨Nat.le_of_ble_eq_true rfl, Nat.le_of_ble_eq_true rfl⟩, (wd_1509 hE), (wd_57 hE)⟩ ⟨PR.blind, r_recv hK hP rfl, (r_pre (av := [.ref (b 0), .int (nI (p0 + i_677))]) hK hP hJ hE)⟩ rfl rfl hl.1 rfl (lv_room (Nat.le_of_ble_eq_true rfl)) dX12_key_97 ⟨Nat.le_of_ble_eq_true rfl, Nat.le_of_ble_eq_true rfl⟩)) (fun r687 hr687 => ?_)
                        subst hr687
                        have htf687 := bA_f tx sz1 (p0 + i_677)
                        have HRC := hr686
                        have RCH := ch_13 i_677 (by omega)
                        refine lv_icmp_ne (tgt := 107) hx hb dX12_key_100 (by decide) (fun c688 => ?_) (fun c688 => ?_)
                        · have c688 := mt (b_eq (rfl : Int32.toInt r686 = _) (rfl : Int32.toInt (bA tx sz1 (p0 + i_677)) = _)).mpr c688
                          have NE : bA tx sz1 (p0 + i_677) ≠ (kW 13).getD i_677 0 := by rw [← RCH, ← HRC]; intro e; have := congrArg Int32.toInt e; omega
                          refine lv_iconst (v := 0) hx hb dX12_key_107 (by decide) ?_
                          refine lv_istore (lv' := [(4, .int 0), (0, .ref (b 0)), (1, .int 2), (2, .int 13), (3, .int 17), (5, .int (nI i_677))]) hx hb dX12_key_108 hl (by decide) rfl (fun ls hl => ?_)
                          refine lv_iinc (v := nI (i_677 + 1)) (lv' := [(5, .int (nI (i_677 + 1))), (4, .int 0), (0, .ref (b 0)), (1, .int 2), (2, .int 13), (3, .int 17)]) hx hb dX12_key_110 hl (k := 5) rfl (nI_1 i_677) (by decide) rfl (fun ls hl => ?_)
                          refine lv_goto (tgt := 67) hx hb dX12_key_113 (by decide) ?_
                          exact ih677 _ _ (by omega) ⟨(i_677 + 1), 0, rfl, (by first | assumption | omega | rfl | (congr 1; omega)), (by first | exact Or.inl rfl | exact Or.inr rfl), (by first | (intro _; exact ⟨(hL677_2 X1).1, fun q hq => by rcases Nat.lt_or_ge q i_677 with h | h; (exact (hL677_2 X1).2 q h); (obtain rfl : q = i_677 := by omega); exact EQ⟩) | (intro h; exact absurd h (by decide))), (by first | (intro h; exact absurd h (by decide)) | (intro _; exact eqw_at (w := kW 13) (by have : (kW 13).length = 17 - 13 := rfl; omega) NE)), lv_sub hl [2, 3, 4, 5, 1, 0] rfl⟩
                        · have c688 := (b_eq (rfl : Int32.toInt r686 = _) (rfl : Int32.toInt (bA tx sz1 (p0 + i_677)) = _)).mp c688
                          have EQ : bA tx sz1 (p0 + i_677) = (kW 13).getD i_677 0 := by rw [← RCH, ← HRC]; exact Int32.toInt_inj.mp (by omega)
                          refine lv_iconst (v := 1) hx hb dX12_key_103 (by decide) ?_
                          refine lv_goto (tgt := 108) hx hb dX12_key_104 (by decide) ?_
                          refine lv_istore (lv' := [(4, .int 1), (0, .ref (b 0)), (1, .int 2), (2, .int 13), (3, .int 17), (5, .int (nI i_677))]) hx hb dX12_key_108 hl (by decide) rfl (fun ls hl => ?_)
                          refine lv_iinc (v := nI (i_677 + 1)) (lv' := [(5, .int (nI (i_677 + 1))), (4, .int 1), (0, .ref (b 0)), (1, .int 2), (2, .int 13), (3, .int 17)]) hx hb dX12_key_110 hl (k := 5) rfl (nI_1 i_677) (by decide) rfl (fun ls hl => ?_)
                          refine lv_goto (tgt := 67) hx hb dX12_key_113 (by decide) ?_
                          exact ih677 _ _ (by omega) ⟨(i_677 + 1), 1, rfl, (by first | assumption | omega | rfl | (congr 1; omega)), (by first | exact Or.inl rfl | exact Or.inr rfl), (by first | (intro _; exact ⟨(hL677_2 X1).1, fun q hq => by rcases Nat.lt_or_ge q i_677 with h | h; (exact (hL677_2 X1).2 q h); (obtain rfl : q = i_677 := by omega); exact EQ⟩) | (intro h; exact absurd h (by decide))), (by first | (intro h; exact absurd h (by decide)) | (intro _; exact eqw_at (w := kW 13) (by have : (kW 13).length = 17 - 13 := rfl; omega) NE)), lv_sub hl [2, 3, 4, 5, 1, 0] rfl⟩
                  · have c676 := (b_eq (show Int32.toInt 4 = 4 from rfl) (nI_toInt (n := (tnd tx sz1 p0) - p0) (by omega))).mp c676
                    refine lv_iconst (v := 1) hx hb dX12_key_57 (by decide) ?_
                    refine lv_goto (tgt := 62) hx hb dX12_key_58 (by decide) ?_
                    refine lv_istore (lv' := [(4, .int 1), (3, .int 17), (2, .int 13), (1, .int 2), (0, .ref (b 0)), (5, .int (nI i_661))]) hx hb dX12_key_62 hl (by decide) rfl (fun ls hl => ?_)
                    refine lv_iconst (v := 0) hx hb dX12_key_64 (by decide) ?_
                    refine lv_istore (lv' := [(5, .int 0), (4, .int 1), (3, .int 17), (2, .int 13), (1, .int 2), (0, .ref (b 0))]) hx hb dX12_key_65 hl (by decide) rfl (fun ls hl => ?_)
                    refine r_indP (I := fun n ls => ∃ (i_689 : Nat) (x1_689 : Int32), n = 17 - 13 - i_689 ∧ (i_689 ≤ 17 - 13) ∧ (x1_689 = 0 ∨ x1_689 = 1) ∧ (x1_689 = 1 → tnd tx sz1 p0 - p0 = 17 - 13 ∧ ∀ q, q < i_689 → bA tx sz1 (p0 + q) = (kW 13).getD q 0) ∧ (x1_689 = 0 → eqw tx sz1 (kW 13) p0 = false) ∧ lv_has ls 6 [(0, .ref (b 0)), (1, .int 2), (2, .int 13), (3, .int 17), (4, .int x1_689), (5, .int (nI i_689))]) (fun n ls hI ih689 => ?_) _ _ ⟨0, 1, rfl, (by first | assumption | omega | rfl | (congr 1; omega)), (by first | exact Or.inl rfl | exact Or.inr rfl), (by first | (intro _; exact ⟨by omega, fun q hq => absurd hq (by omega)⟩) | (intro h; exact absurd h (by decide))), (by first | (intro h; exact absurd h (by decide)) | (intro _; exact eqw_len (w := kW 13) (l := 17 - 13) rfl (by omega))), lv_sub hl [5, 4, 3, 2, 1, 0] rfl⟩
                    obtain ⟨i_689, x1_689, hmu689, hL689_0, hL689_1, hL689_2, hL689_3, hl⟩ := hI
                    subst hmu689
                    refine lv_iload hx hb dX12_key_67 (lv_at hl 5 rfl) ?_
                    refine lv_iload_n hx hb dX12_key_69 rfl (lv_at hl 3 rfl) ?_
                    refine lv_iload_n hx hb dX12_key_70 rfl (lv_at hl 2 rfl) ?_
                    refine lv_isub hx hb dX12_key_71 ?_
                    refine W.eq (g2 := F0 m 72 ls [.int 4, .int (nI i_689)]) rfl ?_
                    refine lv_icmp_ge (tgt := 116) hx hb dX12_key_72 (by decide) (fun c690 => ?_) (fun c690 => ?_)
                    · have c690 := (b_le (show Int32.toInt 4 = 4 from rfl) (nI_toInt (n := i_689) (by omega))).mp c690
                      refine lv_iload hx hb dX12_key_116 (lv_at hl 4 rfl) ?_
                      refine lv_if_eq (tgt := 123) hx hb dX12_key_118 (by decide) (fun c691 => ?_) (fun c691 => ?_)
                      · have c691 := (b_eq (rfl : Int32.toInt x1_689 = _) (show Int32.toInt 0 = 0 from rfl)).mp c691
                        have EW13 : eqw tx sz1 (kW 13) p0 = false := hL689_3 (i0_of (by omega))
                        refine lv_iinc (v := 3) (lv' := [(1, .int 3), (0, .ref (b 0)), (2, .int 13), (3, .int 17), (4, .int x1_689), (5, .int (nI i_689))]) hx hb dX12_key_123 hl (k := 1) rfl (by decide) (by decide) rfl (fun ls hl => ?_)
                        refine lv_iload_n hx hb dX12_key_126 rfl (lv_at hl 3 rfl) ?_
                        refine lv_iconst (v := 1) hx hb dX12_key_127 (by decide) ?_
                        refine lv_iadd hx hb dX12_key_128 ?_
                        refine W.eq (g2 := F0 m 129 ls [.int 18]) rfl ?_
                        refine lv_istore_n (lv' := [(2, .int 18), (1, .int 3), (0, .ref (b 0)), (3, .int 17), (4, .int x1_689), (5, .int (nI i_689))]) hx hb dX12_key_129 rfl hl (by decide) rfl (fun ls hl => ?_)
                        refine lv_goto (tgt := 14) hx hb dX12_key_130 (by decide) ?_
                        refine lv_iload_n hx hb dX12_key_14 rfl (lv_at hl 0 rfl) ?_
                        refine va_ldcS hx hb hown hZ dX12_key_15 ?_
                        refine vp_callSi (va_Run.run (va_runV (As := []) (rest := [.int 18]) ⟨hx, hb, hml, hown, noTs⟩ (s_J0_length l adK adV 3 (by decide)) ⟨cbE 0 (wd_488 hE) (wd_129 hE) (wd_1527 hE) rfl rfl (by decide +kernel) ⟨Nat.le_of_ble_eq_true rfl, Nat.le_of_ble_eq_true rfl⟩, (wd_486 hE), (wd_487 hE)⟩ ⟨PS.blind, vk_recv hX.1 (by decide) hS, ps_pre (av := [.ref (adK 3)]) hX hS hE⟩ rfl rfl hl.1 rfl (lv_room (Nat.le_of_ble_eq_true rfl)) dX12_key_17 ⟨Nat.le_of_ble_eq_true rfl, Nat.le_of_ble_eq_true rfl⟩)) (fun r692 hr692 => ?_)
                        have hr692 : r692 = 18 := hr692
                        subst hr692
                        refine lv_icmp_ge (tgt := 133) hx hb dX12_key_20 (by decide) (fun c693 => ?_) (fun c693 => absurd c693 (by decide))
                        refine lv_iconst (v := -1) hx hb dX12_key_133 (by decide) ?_
                        exact W.iret (v := -1) hx hb hr (fun t ht hW => ⟨-1, rfl, Or.inr (Or.inr (Or.inr (⟨rfl, by first | omega | (have q := (kd_word (tx := tx) (n := sz1) (p := p0) (by omega)).trans ((if_neg (by rw [show eqw tx sz1 wVx p0 = false from EW1]; decide)).trans ((if_neg (by rw [show eqw tx sz1 wEd p0 = false from EW8]; decide)).trans (if_neg (by rw [show eqw tx sz1 wWo p0 = false from EW13]; decide)))); omega)⟩))), ht⟩) (fun _ h => absurd h List.not_mem_nil) dX12_key_134
                      · have c691 := mt (b_eq (rfl : Int32.toInt x1_689 = _) (show Int32.toInt 0 = 0 from rfl)).mpr c691
                        have X2 : x1_689 = 1 := i1_of hL689_1 (by omega)
                        have EW13 : eqw tx sz1 (kW 13) p0 = true := by first | exact eqw_t.mpr ⟨(hL689_2 X2).1.trans rfl, fun q hq => (hL689_2 X2).2 q (by have : (kW 13).length = 17 - 13 := rfl; omega)⟩ | (exfalso; omega)
                        refine lv_iload_n hx hb dX12_key_121 rfl (lv_at hl 1 rfl) ?_
                        exact W.iret (v := 2) hx hb hr (fun t ht hW => ⟨2, rfl, Or.inr (Or.inr (Or.inl ⟨rfl, by exact (kd_word (by omega)).trans ((if_neg (by rw [show eqw tx sz1 wVx p0 = false from EW1]; decide)).trans ((if_neg (by rw [show eqw tx sz1 wEd p0 = false from EW8]; decide)).trans (if_pos EW13)))⟩)), ht⟩) (fun _ h => absurd h List.not_mem_nil) dX12_key_122
                    · have c690 := mt (b_le (show Int32.toInt 4 = 4 from rfl) (nI_toInt (n := i_689) (by omega))).mpr c690
                      refine lv_iload hx hb dX12_key_75 (lv_at hl 4 rfl) ?_
                      refine lv_if_eq (tgt := 116) hx hb dX12_key_77 (by decide) (fun c694 => ?_) (fun c694 => ?_)
                      · have c694 := (b_eq (rfl : Int32.toInt x1_689 = _) (show Int32.toInt 0 = 0 from rfl)).mp c694
                        refine lv_iload hx hb dX12_key_116 (lv_at hl 4 rfl) ?_
                        refine lv_if_eq (tgt := 123) hx hb dX12_key_118 (by decide) (fun c695 => ?_) (fun c695 => ?_)
                        · have c695 := (b_eq (rfl : Int32.toInt x1_689 = _) (show Int32.toInt 0 = 0 from rfl)).mp c695
                          have EW13 : eqw tx sz1 (kW 13) p0 = false := hL689_3 (i0_of (by omega))
                          refine lv_iinc (v := 3) (lv' := [(1, .int 3), (0, .ref (b 0)), (2, .int 13), (3, .int 17), (4, .int x1_689), (5, .int (nI i_689))]) hx hb dX12_key_123 hl (k := 1) rfl (by decide) (by decide) rfl (fun ls hl => ?_)
                          refine lv_iload_n hx hb dX12_key_126 rfl (lv_at hl 3 rfl) ?_
                          refine lv_iconst (v := 1) hx hb dX12_key_127 (by decide) ?_
                          refine lv_iadd hx hb dX12_key_128 ?_
                          refine W.eq (g2 := F0 m 129 ls [.int 18]) rfl ?_
                          refine lv_istore_n (lv' := [(2, .int 18), (1, .int 3), (0, .ref (b 0)), (3, .int 17), (4, .int x1_689), (5, .int (nI i_689))]) hx hb dX12_key_129 rfl hl (by decide) rfl (fun ls hl => ?_)
                          refine lv_goto (tgt := 14) hx hb dX12_key_130 (by decide) ?_
                          refine lv_iload_n hx hb dX12_key_14 rfl (lv_at hl 0 rfl) ?_
                          refine va_ldcS hx hb hown hZ dX12_key_15 ?_
                          refine vp_callSi (va_Run.run (va_runV (As := []) (rest := [.int 18]) ⟨hx, hb, hml, hown, noTs⟩ (s_J0_length l adK adV 3 (by decide)) ⟨cbE 0 (wd_488 hE) (wd_129 hE) (wd_1527 hE) rfl rfl (by decide +kernel) ⟨Nat.le_of_ble_eq_true rfl, Nat.le_of_ble_eq_true rfl⟩, (wd_486 hE), (wd_487 hE)⟩ ⟨PS.blind, vk_recv hX.1 (by decide) hS, ps_pre (av := [.ref (adK 3)]) hX hS hE⟩ rfl rfl hl.1 rfl (lv_room (Nat.le_of_ble_eq_true rfl)) dX12_key_17 ⟨Nat.le_of_ble_eq_true rfl, Nat.le_of_ble_eq_true rfl⟩)) (fun r696 hr696 => ?_)
                          have hr696 : r696 = 18 := hr696
                          subst hr696
                          refine lv_icmp_ge (tgt := 133) hx hb dX12_key_20 (by decide) (fun c697 => ?_) (fun c697 => absurd c697 (by decide))
                          refine lv_iconst (v := -1) hx hb dX12_key_133 (by decide) ?_
                          exact W.iret (v := -1) hx hb hr (fun t ht hW => ⟨-1, rfl, Or.inr (Or.inr (Or.inr (⟨rfl, by first | omega | (have q := (kd_word (tx := tx) (n := sz1) (p := p0) (by omega)).trans ((if_neg (by rw [show eqw tx sz1 wVx p0 = false from EW1]; decide)).trans ((if_neg (by rw [show eqw tx sz1 wEd p0 = false from EW8]; decide)).trans (if_neg (by rw [show eqw tx sz1 wWo p0 = false from EW13]; decide)))); omega)⟩))), ht⟩) (fun _ h => absurd h List.not_mem_nil) dX12_key_134
                        · have c695 := mt (b_eq (rfl : Int32.toInt x1_689 = _) (show Int32.toInt 0 = 0 from rfl)).mpr c695
                          have X2 : x1_689 = 1 := i1_of hL689_1 (by omega)
                          have EW13 : eqw tx sz1 (kW 13) p0 = true := by first | exact eqw_t.mpr ⟨(hL689_2 X2).1.trans rfl, fun q hq => (hL689_2 X2).2 q (by have : (kW 13).length = 17 - 13 := rfl; omega)⟩ | (exfalso; omega)
                          refine lv_iload_n hx hb dX12_key_121 rfl (lv_at hl 1 rfl) ?_
                          exact W.iret (v := 2) hx hb hr (fun t ht hW => ⟨2, rfl, Or.inr (Or.inr (Or.inl ⟨rfl, by exact (kd_word (by omega)).trans ((if_neg (by rw [show eqw tx sz1 wVx p0 = false from EW1]; decide)).trans ((if_neg (by rw [show eqw tx sz1 wEd p0 = false from EW8]; decide)).trans (if_pos EW13)))⟩)), ht⟩) (fun _ h => absurd h List.not_mem_nil) dX12_key_122
                      · have c694 := mt (b_eq (rfl : Int32.toInt x1_689 = _) (show Int32.toInt 0 = 0 from rfl)).mpr c694
                        have X1 : x1_689 = 1 := i1_of hL689_1 (by omega)
                        refine va_ldcS hx hb hown hZ dX12_key_80 ?_
                        refine lv_iload_n hx hb dX12_key_82 rfl (lv_at hl 2 rfl) ?_
                        refine lv_iload hx hb dX12_key_83 (lv_at hl 5 rfl) ?_
                        refine lv_iadd hx hb dX12_key_85 ?_
                        refine W.eq (g2 := F0 m 86 ls [.int (nI (13 + i_689)), .ref (adK 3)]) (congrArg (fun z : Int32 => F0 m 86 ls (.int z :: [.ref (adK 3)])) (nI_add 13 i_689)) ?_
                        refine vp_callSi (va_Run.run (va_runV (As := [.int (nI (13 + i_689))]) (rest := []) ⟨hx, hb, hml, hown, noTs⟩ (s_J0_charAt l adK adV 3 (13 + i_689) (by decide) (by show _ < 18; omega)) ⟨cbE 1 (wd_498 hE) (wd_129 hE) (wd_1528 hE) rfl rfl (by decide +kernel) ⟨Nat.le_of_ble_eq_true rfl, Nat.le_of_ble_eq_true rfl⟩, (wd_496 hE), (wd_497 hE)⟩ ⟨PS.blind, vk_recv hX.1 (by decide) hS, ps_pre (av := [.ref (adK 3), .int (nI (13 + i_689))]) hX hS hE⟩ rfl rfl hl.1 rfl (lv_room (Nat.le_of_ble_eq_true rfl)) dX12_key_86 ⟨Nat.le_of_ble_eq_true rfl, Nat.le_of_ble_eq_true rfl⟩)) (fun r698 hr698 => ?_)
                        refine lv_aload_n hx hb dX12_key_89 rfl (lv_at hl 0 rfl) ?_
                        refine lv_aload_n hx hb dX12_key_90 rfl (lv_at hl 0 rfl) ?_
                        refine r_get (v := .int (nI p0)) hx hb (ly_X12 hE) hown hK hP rfl 13 (by decide) (wd_1394 hE) (fun _ h9 => h9) (congrArg (fun z : Int32 => some (Value.int z)) te13_2) dX12_key_91 ?_
                        refine lv_iload hx hb dX12_key_94 (lv_at hl 5 rfl) ?_
                        refine lv_iadd hx hb dX12_key_96 ?_
                        refine W.eq (g2 := F0 m 97 ls [.int (nI (p0 + i_689)), .ref (b 0), .int r698]) (congrArg (fun z : Int32 => F0 m 97 ls (.int z :: [.ref (b 0), .int r698])) (nI_add p0 i_689)) ?_
                        refine vp_callSi (va_Run.run (va_runV (As := [.int (nI (p0 + i_689))]) (rest := [.int r698]) ⟨hx, hb, hml, hown, noTs⟩ (r_X12_byteAt l dC dI s.heap.size cs b u tx hAc16 (p0 + i_689) sz1 hF11 (by first | assumption | omega | rfl | (congr 1; omega)) (by first | assumption | omega | rfl | (congr 1; omega))) ⟨cbE 1 (wd_1510 hE) (wd_126 hE) (wd_1507 hE) rfl rfl (by decide +kernel) ⟨Nat.le_of_ble_eq_true rfl, Nat.le_of_ble_eq_true rfl⟩, (wd_1509 hE), (wd_57 hE)⟩ ⟨PR.blind, r_recv hK hP rfl, (r_pre (av := [.ref (b 0), .int (nI (p0 + i_689))]) hK hP hJ hE)⟩ rfl rfl hl.1 rfl (lv_room (Nat.le_of_ble_eq_true rfl)) dX12_key_97 ⟨Nat.le_of_ble_eq_true rfl, Nat.le_of_ble_eq_true rfl⟩)) (fun r699 hr699 => ?_)
                        subst hr699
                        have htf699 := bA_f tx sz1 (p0 + i_689)
                        have HRC := hr698
                        have RCH := ch_13 i_689 (by omega)
                        refine lv_icmp_ne (tgt := 107) hx hb dX12_key_100 (by decide) (fun c700 => ?_) (fun c700 => ?_)
                        · have c700 := mt (b_eq (rfl : Int32.toInt r698 = _) (rfl : Int32.toInt (bA tx sz1 (p0 + i_689)) = _)).mpr c700
                          have NE : bA tx sz1 (p0 + i_689) ≠ (kW 13).getD i_689 0 := by rw [← RCH, ← HRC]; intro e; have := congrArg Int32.toInt e; omega
                          refine lv_iconst (v := 0) hx hb dX12_key_107 (by decide) ?_
                          refine lv_istore (lv' := [(4, .int 0), (0, .ref (b 0)), (1, .int 2), (2, .int 13), (3, .int 17), (5, .int (nI i_689))]) hx hb dX12_key_108 hl (by decide) rfl (fun ls hl => ?_)
                          refine lv_iinc (v := nI (i_689 + 1)) (lv' := [(5, .int (nI (i_689 + 1))), (4, .int 0), (0, .ref (b 0)), (1, .int 2), (2, .int 13), (3, .int 17)]) hx hb dX12_key_110 hl (k := 5) rfl (nI_1 i_689) (by decide) rfl (fun ls hl => ?_)
                          refine lv_goto (tgt := 67) hx hb dX12_key_113 (by decide) ?_
                          exact ih689 _ _ (by omega) ⟨(i_689 + 1), 0, rfl, (by first | assumption | omega | rfl | (congr 1; omega)), (by first | exact Or.inl rfl | exact Or.inr rfl), (by first | (intro _; exact ⟨(hL689_2 X1).1, fun q hq => by rcases Nat.lt_or_ge q i_689 with h | h; (exact (hL689_2 X1).2 q h); (obtain rfl : q = i_689 := by omega); exact EQ⟩) | (intro h; exact absurd h (by decide))), (by first | (intro h; exact absurd h (by decide)) | (intro _; exact eqw_at (w := kW 13) (by have : (kW 13).length = 17 - 13 := rfl; omega) NE)), lv_sub hl [2, 3, 4, 5, 1, 0] rfl⟩
                        · have c700 := (b_eq (rfl : Int32.toInt r698 = _) (rfl : Int32.toInt (bA tx sz1 (p0 + i_689)) = _)).mp c700
                          have EQ : bA tx sz1 (p0 + i_689) = (kW 13).getD i_689 0 := by rw [← RCH, ← HRC]; exact Int32.toInt_inj.mp (by omega)
                          refine lv_iconst (v := 1) hx hb dX12_key_103 (by decide) ?_
                          refine lv_goto (tgt := 108) hx hb dX12_key_104 (by decide) ?_
                          refine lv_istore (lv' := [(4, .int 1), (0, .ref (b 0)), (1, .int 2), (2, .int 13), (3, .int 17), (5, .int (nI i_689))]) hx hb dX12_key_108 hl (by decide) rfl (fun ls hl => ?_)
                          refine lv_iinc (v := nI (i_689 + 1)) (lv' := [(5, .int (nI (i_689 + 1))), (4, .int 1), (0, .ref (b 0)), (1, .int 2), (2, .int 13), (3, .int 17)]) hx hb dX12_key_110 hl (k := 5) rfl (nI_1 i_689) (by decide) rfl (fun ls hl => ?_)
                          refine lv_goto (tgt := 67) hx hb dX12_key_113 (by decide) ?_
                          exact ih689 _ _ (by omega) ⟨(i_689 + 1), 1, rfl, (by first | assumption | omega | rfl | (congr 1; omega)), (by first | exact Or.inl rfl | exact Or.inr rfl), (by first | (intro _; exact ⟨(hL689_2 X1).1, fun q hq => by rcases Nat.lt_or_ge q i_689 with h | h; (exact (hL689_2 X1).2 q h); (obtain rfl : q = i_689 := by omega); exact EQ⟩) | (intro h; exact absurd h (by decide))), (by first | (intro h; exact absurd h (by decide)) | (intro _; exact eqw_at (w := kW 13) (by have : (kW 13).length = 17 - 13 := rfl; omega) NE)), lv_sub hl [2, 3, 4, 5, 1, 0] rfl⟩
                · have c663 := mt (b_eq (rfl : Int32.toInt x1_661 = _) (show Int32.toInt 0 = 0 from rfl)).mpr c663
                  have X2 : x1_661 = 1 := i1_of hL661_1 (by omega)
                  have EW8 : eqw tx sz1 (kW 8) p0 = true := by first | exact eqw_t.mpr ⟨(hL661_2 X2).1.trans rfl, fun q hq => (hL661_2 X2).2 q (by have : (kW 8).length = 12 - 8 := rfl; omega)⟩ | (exfalso; omega)
                  refine lv_iload_n hx hb dX12_key_121 rfl (lv_at hl 1 rfl) ?_
                  exact W.iret (v := 1) hx hb hr (fun t ht hW => ⟨1, rfl, Or.inr (Or.inl ⟨rfl, by exact (kd_word (by omega)).trans ((if_neg (by rw [show eqw tx sz1 wVx p0 = false from EW1]; decide)).trans (if_pos EW8))⟩), ht⟩) (fun _ h => absurd h List.not_mem_nil) dX12_key_122
              · have c662 := mt (b_le (show Int32.toInt 4 = 4 from rfl) (nI_toInt (n := i_661) (by omega))).mpr c662
                refine lv_iload hx hb dX12_key_75 (lv_at hl 4 rfl) ?_
                refine lv_if_eq (tgt := 116) hx hb dX12_key_77 (by decide) (fun c701 => ?_) (fun c701 => ?_)
                · have c701 := (b_eq (rfl : Int32.toInt x1_661 = _) (show Int32.toInt 0 = 0 from rfl)).mp c701
                  refine lv_iload hx hb dX12_key_116 (lv_at hl 4 rfl) ?_
                  refine lv_if_eq (tgt := 123) hx hb dX12_key_118 (by decide) (fun c702 => ?_) (fun c702 => ?_)
                  · have c702 := (b_eq (rfl : Int32.toInt x1_661 = _) (show Int32.toInt 0 = 0 from rfl)).mp c702
                    have EW8 : eqw tx sz1 (kW 8) p0 = false := hL661_3 (i0_of (by omega))
                    refine lv_iinc (v := 2) (lv' := [(1, .int 2), (0, .ref (b 0)), (2, .int 8), (3, .int 12), (4, .int x1_661), (5, .int (nI i_661))]) hx hb dX12_key_123 hl (k := 1) rfl (by decide) (by decide) rfl (fun ls hl => ?_)
                    refine lv_iload_n hx hb dX12_key_126 rfl (lv_at hl 3 rfl) ?_
                    refine lv_iconst (v := 1) hx hb dX12_key_127 (by decide) ?_
                    refine lv_iadd hx hb dX12_key_128 ?_
                    refine W.eq (g2 := F0 m 129 ls [.int 13]) rfl ?_
                    refine lv_istore_n (lv' := [(2, .int 13), (1, .int 2), (0, .ref (b 0)), (3, .int 12), (4, .int x1_661), (5, .int (nI i_661))]) hx hb dX12_key_129 rfl hl (by decide) rfl (fun ls hl => ?_)
                    refine lv_goto (tgt := 14) hx hb dX12_key_130 (by decide) ?_
                    refine lv_iload_n hx hb dX12_key_14 rfl (lv_at hl 0 rfl) ?_
                    refine va_ldcS hx hb hown hZ dX12_key_15 ?_
                    refine vp_callSi (va_Run.run (va_runV (As := []) (rest := [.int 13]) ⟨hx, hb, hml, hown, noTs⟩ (s_J0_length l adK adV 3 (by decide)) ⟨cbE 0 (wd_488 hE) (wd_129 hE) (wd_1527 hE) rfl rfl (by decide +kernel) ⟨Nat.le_of_ble_eq_true rfl, Nat.le_of_ble_eq_true rfl⟩, (wd_486 hE), (wd_487 hE)⟩ ⟨PS.blind, vk_recv hX.1 (by decide) hS, ps_pre (av := [.ref (adK 3)]) hX hS hE⟩ rfl rfl hl.1 rfl (lv_room (Nat.le_of_ble_eq_true rfl)) dX12_key_17 ⟨Nat.le_of_ble_eq_true rfl, Nat.le_of_ble_eq_true rfl⟩)) (fun r703 hr703 => ?_)
                    have hr703 : r703 = 18 := hr703
                    subst hr703
                    refine lv_icmp_ge (tgt := 133) hx hb dX12_key_20 (by decide) (fun c704 => absurd c704 (by decide)) (fun c704 => ?_)
                    refine lv_iload_n hx hb dX12_key_23 rfl (lv_at hl 0 rfl) ?_
                    refine lv_istore_n (lv' := [(3, .int 13), (2, .int 13), (1, .int 2), (0, .ref (b 0)), (4, .int x1_661), (5, .int (nI i_661))]) hx hb dX12_key_24 rfl hl (by decide) rfl (fun ls hl => ?_)
                    refine va_ldcS hx hb hown hZ dX12_key_25 ?_
                    refine lv_iload_n hx hb dX12_key_27 rfl (lv_at hl 0 rfl) ?_
                    refine vp_callSi (va_Run.run (va_runV (As := [.int (nI 13)]) (rest := []) ⟨hx, hb, hml, hown, noTs⟩ (s_J0_charAt l adK adV 3 13 (by decide) (by show _ < 18; omega)) ⟨cbE 1 (wd_498 hE) (wd_129 hE) (wd_1528 hE) rfl rfl (by decide +kernel) ⟨Nat.le_of_ble_eq_true rfl, Nat.le_of_ble_eq_true rfl⟩, (wd_496 hE), (wd_497 hE)⟩ ⟨PS.blind, vk_recv hX.1 (by decide) hS, ps_pre (av := [.ref (adK 3), .int (nI 13)]) hX hS hE⟩ rfl rfl hl.1 rfl (lv_room (Nat.le_of_ble_eq_true rfl)) dX12_key_28 ⟨Nat.le_of_ble_eq_true rfl, Nat.le_of_ble_eq_true rfl⟩)) (fun r705 hr705 => ?_)
                    have hr705 : r705 = 119 := hr705.trans (by decide)
                    subst hr705
                    refine lv_bipush (v := 32) hx hb dX12_key_31 (by decide) ?_
                    refine lv_icmp_eq (tgt := 42) hx hb dX12_key_33 (by decide) (fun c706 => absurd c706 (by decide)) (fun c706 => ?_)
                    refine lv_iinc (v := 14) (lv' := [(3, .int 14), (2, .int 13), (1, .int 2), (0, .ref (b 0)), (4, .int x1_661), (5, .int (nI i_661))]) hx hb dX12_key_36 hl (k := 0) rfl (by decide) (by decide) rfl (fun ls hl => ?_)
                    refine lv_goto (tgt := 25) hx hb dX12_key_39 (by decide) ?_
                    refine va_ldcS hx hb hown hZ dX12_key_25 ?_
                    refine lv_iload_n hx hb dX12_key_27 rfl (lv_at hl 0 rfl) ?_
                    refine vp_callSi (va_Run.run (va_runV (As := [.int (nI 14)]) (rest := []) ⟨hx, hb, hml, hown, noTs⟩ (s_J0_charAt l adK adV 3 14 (by decide) (by show _ < 18; omega)) ⟨cbE 1 (wd_498 hE) (wd_129 hE) (wd_1528 hE) rfl rfl (by decide +kernel) ⟨Nat.le_of_ble_eq_true rfl, Nat.le_of_ble_eq_true rfl⟩, (wd_496 hE), (wd_497 hE)⟩ ⟨PS.blind, vk_recv hX.1 (by decide) hS, ps_pre (av := [.ref (adK 3), .int (nI 14)]) hX hS hE⟩ rfl rfl hl.1 rfl (lv_room (Nat.le_of_ble_eq_true rfl)) dX12_key_28 ⟨Nat.le_of_ble_eq_true rfl, Nat.le_of_ble_eq_true rfl⟩)) (fun r707 hr707 => ?_)
                    have hr707 : r707 = 111 := hr707.trans (by decide)
                    subst hr707
                    refine lv_bipush (v := 32) hx hb dX12_key_31 (by decide) ?_
                    refine lv_icmp_eq (tgt := 42) hx hb dX12_key_33 (by decide) (fun c708 => absurd c708 (by decide)) (fun c708 => ?_)
                    refine lv_iinc (v := 15) (lv' := [(3, .int 15), (2, .int 13), (1, .int 2), (0, .ref (b 0)), (4, .int x1_661), (5, .int (nI i_661))]) hx hb dX12_key_36 hl (k := 0) rfl (by decide) (by decide) rfl (fun ls hl => ?_)
                    refine lv_goto (tgt := 25) hx hb dX12_key_39 (by decide) ?_
                    refine va_ldcS hx hb hown hZ dX12_key_25 ?_
                    refine lv_iload_n hx hb dX12_key_27 rfl (lv_at hl 0 rfl) ?_
                    refine vp_callSi (va_Run.run (va_runV (As := [.int (nI 15)]) (rest := []) ⟨hx, hb, hml, hown, noTs⟩ (s_J0_charAt l adK adV 3 15 (by decide) (by show _ < 18; omega)) ⟨cbE 1 (wd_498 hE) (wd_129 hE) (wd_1528 hE) rfl rfl (by decide +kernel) ⟨Nat.le_of_ble_eq_true rfl, Nat.le_of_ble_eq_true rfl⟩, (wd_496 hE), (wd_497 hE)⟩ ⟨PS.blind, vk_recv hX.1 (by decide) hS, ps_pre (av := [.ref (adK 3), .int (nI 15)]) hX hS hE⟩ rfl rfl hl.1 rfl (lv_room (Nat.le_of_ble_eq_true rfl)) dX12_key_28 ⟨Nat.le_of_ble_eq_true rfl, Nat.le_of_ble_eq_true rfl⟩)) (fun r709 hr709 => ?_)
                    have hr709 : r709 = 114 := hr709.trans (by decide)
                    subst hr709
                    refine lv_bipush (v := 32) hx hb dX12_key_31 (by decide) ?_
                    refine lv_icmp_eq (tgt := 42) hx hb dX12_key_33 (by decide) (fun c710 => absurd c710 (by decide)) (fun c710 => ?_)
                    refine lv_iinc (v := 16) (lv' := [(3, .int 16), (2, .int 13), (1, .int 2), (0, .ref (b 0)), (4, .int x1_661), (5, .int (nI i_661))]) hx hb dX12_key_36 hl (k := 0) rfl (by decide) (by decide) rfl (fun ls hl => ?_)
                    refine lv_goto (tgt := 25) hx hb dX12_key_39 (by decide) ?_
                    refine va_ldcS hx hb hown hZ dX12_key_25 ?_
                    refine lv_iload_n hx hb dX12_key_27 rfl (lv_at hl 0 rfl) ?_
                    refine vp_callSi (va_Run.run (va_runV (As := [.int (nI 16)]) (rest := []) ⟨hx, hb, hml, hown, noTs⟩ (s_J0_charAt l adK adV 3 16 (by decide) (by show _ < 18; omega)) ⟨cbE 1 (wd_498 hE) (wd_129 hE) (wd_1528 hE) rfl rfl (by decide +kernel) ⟨Nat.le_of_ble_eq_true rfl, Nat.le_of_ble_eq_true rfl⟩, (wd_496 hE), (wd_497 hE)⟩ ⟨PS.blind, vk_recv hX.1 (by decide) hS, ps_pre (av := [.ref (adK 3), .int (nI 16)]) hX hS hE⟩ rfl rfl hl.1 rfl (lv_room (Nat.le_of_ble_eq_true rfl)) dX12_key_28 ⟨Nat.le_of_ble_eq_true rfl, Nat.le_of_ble_eq_true rfl⟩)) (fun r711 hr711 => ?_)
                    have hr711 : r711 = 100 := hr711.trans (by decide)
                    subst hr711
                    refine lv_bipush (v := 32) hx hb dX12_key_31 (by decide) ?_
                    refine lv_icmp_eq (tgt := 42) hx hb dX12_key_33 (by decide) (fun c712 => absurd c712 (by decide)) (fun c712 => ?_)
                    refine lv_iinc (v := 17) (lv' := [(3, .int 17), (2, .int 13), (1, .int 2), (0, .ref (b 0)), (4, .int x1_661), (5, .int (nI i_661))]) hx hb dX12_key_36 hl (k := 0) rfl (by decide) (by decide) rfl (fun ls hl => ?_)
                    refine lv_goto (tgt := 25) hx hb dX12_key_39 (by decide) ?_
                    refine va_ldcS hx hb hown hZ dX12_key_25 ?_
                    refine lv_iload_n hx hb dX12_key_27 rfl (lv_at hl 0 rfl) ?_
                    refine vp_callSi (va_Run.run (va_runV (As := [.int (nI 17)]) (rest := []) ⟨hx, hb, hml, hown, noTs⟩ (s_J0_charAt l adK adV 3 17 (by decide) (by show _ < 18; omega)) ⟨cbE 1 (wd_498 hE) (wd_129 hE) (wd_1528 hE) rfl rfl (by decide +kernel) ⟨Nat.le_of_ble_eq_true rfl, Nat.le_of_ble_eq_true rfl⟩, (wd_496 hE), (wd_497 hE)⟩ ⟨PS.blind, vk_recv hX.1 (by decide) hS, ps_pre (av := [.ref (adK 3), .int (nI 17)]) hX hS hE⟩ rfl rfl hl.1 rfl (lv_room (Nat.le_of_ble_eq_true rfl)) dX12_key_28 ⟨Nat.le_of_ble_eq_true rfl, Nat.le_of_ble_eq_true rfl⟩)) (fun r713 hr713 => ?_)
                    have hr713 : r713 = 32 := hr713.trans (by decide)
                    subst hr713
                    refine lv_bipush (v := 32) hx hb dX12_key_31 (by decide) ?_
                    refine lv_icmp_eq (tgt := 42) hx hb dX12_key_33 (by decide) (fun c714 => ?_) (fun c714 => absurd c714 (by decide))
                    refine lv_iload_n hx hb dX12_key_42 rfl (lv_at hl 0 rfl) ?_
                    refine lv_iload_n hx hb dX12_key_43 rfl (lv_at hl 1 rfl) ?_
                    refine lv_isub hx hb dX12_key_44 ?_
                    refine W.eq (g2 := F0 m 45 ls [.int 4]) rfl ?_
                    refine lv_aload_n hx hb dX12_key_45 rfl (lv_at hl 3 rfl) ?_
                    refine r_get (v := .int (nI (tnd tx sz1 p0))) hx hb (ly_X12 hE) hown hK hP rfl 14 (by decide) (wd_1395 hE) (fun _ h9 => h9) (congrArg (fun z : Int32 => some (Value.int z)) te14_2) dX12_key_46 ?_
                    refine lv_aload_n hx hb dX12_key_49 rfl (lv_at hl 3 rfl) ?_
                    refine r_get (v := .int (nI p0)) hx hb (ly_X12 hE) hown hK hP rfl 13 (by decide) (wd_1394 hE) (fun _ h9 => h9) (congrArg (fun z : Int32 => some (Value.int z)) te13_2) dX12_key_50 ?_
                    refine lv_isub hx hb dX12_key_53 ?_
                    refine W.eq (g2 := F0 m 54 ls [.int (nI ((tnd tx sz1 p0) - p0)), .int 4]) (congrArg (fun z : Int32 => F0 m 54 ls (.int z :: [.int 4])) (pk_sub (a := tnd tx sz1 p0) (b := p0) (by omega))) ?_
                    refine lv_icmp_ne (tgt := 61) hx hb dX12_key_54 (by decide) (fun c715 => ?_) (fun c715 => ?_)
                    · have c715 := mt (b_eq (show Int32.toInt 4 = 4 from rfl) (nI_toInt (n := (tnd tx sz1 p0) - p0) (by omega))).mpr c715
                      refine lv_iconst (v := 0) hx hb dX12_key_61 (by decide) ?_
                      refine lv_istore (lv' := [(4, .int 0), (3, .int 17), (2, .int 13), (1, .int 2), (0, .ref (b 0)), (5, .int (nI i_661))]) hx hb dX12_key_62 hl (by decide) rfl (fun ls hl => ?_)
                      refine lv_iconst (v := 0) hx hb dX12_key_64 (by decide) ?_
                      refine lv_istore (lv' := [(5, .int 0), (4, .int 0), (3, .int 17), (2, .int 13), (1, .int 2), (0, .ref (b 0))]) hx hb dX12_key_65 hl (by decide) rfl (fun ls hl => ?_)
                      refine r_indP (I := fun n ls => ∃ (i_716 : Nat) (x1_716 : Int32), n = 17 - 13 - i_716 ∧ (i_716 ≤ 17 - 13) ∧ (x1_716 = 0 ∨ x1_716 = 1) ∧ (x1_716 = 1 → tnd tx sz1 p0 - p0 = 17 - 13 ∧ ∀ q, q < i_716 → bA tx sz1 (p0 + q) = (kW 13).getD q 0) ∧ (x1_716 = 0 → eqw tx sz1 (kW 13) p0 = false) ∧ lv_has ls 6 [(0, .ref (b 0)), (1, .int 2), (2, .int 13), (3, .int 17), (4, .int x1_716), (5, .int (nI i_716))]) (fun n ls hI ih716 => ?_) _ _ ⟨0, 0, rfl, (by first | assumption | omega | rfl | (congr 1; omega)), (by first | exact Or.inl rfl | exact Or.inr rfl), (by first | (intro _; exact ⟨by omega, fun q hq => absurd hq (by omega)⟩) | (intro h; exact absurd h (by decide))), (by first | (intro h; exact absurd h (by decide)) | (intro _; exact eqw_len (w := kW 13) (l := 17 - 13) rfl (by omega))), lv_sub hl [5, 4, 3, 2, 1, 0] rfl⟩
                      obtain ⟨i_716, x1_716, hmu716, hL716_0, hL716_1, hL716_2, hL716_3, hl⟩ := hI
                      subst hmu716
                      refine lv_iload hx hb dX12_key_67 (lv_at hl 5 rfl) ?_
                      refine lv_iload_n hx hb dX12_key_69 rfl (lv_at hl 3 rfl) ?_
                      refine lv_iload_n hx hb dX12_key_70 rfl (lv_at hl 2 rfl) ?_
                      refine lv_isub hx hb dX12_key_71 ?_
                      refine W.eq (g2 := F0 m 72 ls [.int 4, .int (nI i_716)]) rfl ?_
                      refine lv_icmp_ge (tgt := 116) hx hb dX12_key_72 (by decide) (fun c717 => ?_) (fun c717 => ?_)
                      · have c717 := (b_le (show Int32.toInt 4 = 4 from rfl) (nI_toInt (n := i_716) (by omega))).mp c717
                        refine lv_iload hx hb dX12_key_116 (lv_at hl 4 rfl) ?_
                        refine lv_if_eq (tgt := 123) hx hb dX12_key_118 (by decide) (fun c718 => ?_) (fun c718 => ?_)
                        · have c718 := (b_eq (rfl : Int32.toInt x1_716 = _) (show Int32.toInt 0 = 0 from rfl)).mp c718
                          have EW13 : eqw tx sz1 (kW 13) p0 = false := hL716_3 (i0_of (by omega))
                          refine lv_iinc (v := 3) (lv' := [(1, .int 3), (0, .ref (b 0)), (2, .int 13), (3, .int 17), (4, .int x1_716), (5, .int (nI i_716))]) hx hb dX12_key_123 hl (k := 1) rfl (by decide) (by decide) rfl (fun ls hl => ?_)
                          refine lv_iload_n hx hb dX12_key_126 rfl (lv_at hl 3 rfl) ?_
                          refine lv_iconst (v := 1) hx hb dX12_key_127 (by decide) ?_
                          refine lv_iadd hx hb dX12_key_128 ?_
                          refine W.eq (g2 := F0 m 129 ls [.int 18]) rfl ?_
                          refine lv_istore_n (lv' := [(2, .int 18), (1, .int 3), (0, .ref (b 0)), (3, .int 17), (4, .int x1_716), (5, .int (nI i_716))]) hx hb dX12_key_129 rfl hl (by decide) rfl (fun ls hl => ?_)
                          refine lv_goto (tgt := 14) hx hb dX12_key_130 (by decide) ?_
                          refine lv_iload_n hx hb dX12_key_14 rfl (lv_at hl 0 rfl) ?_
                          refine va_ldcS hx hb hown hZ dX12_key_15 ?_
                          refine vp_callSi (va_Run.run (va_runV (As := []) (rest := [.int 18]) ⟨hx, hb, hml, hown, noTs⟩ (s_J0_length l adK adV 3 (by decide)) ⟨cbE 0 (wd_488 hE) (wd_129 hE) (wd_1527 hE) rfl rfl (by decide +kernel) ⟨Nat.le_of_ble_eq_true rfl, Nat.le_of_ble_eq_true rfl⟩, (wd_486 hE), (wd_487 hE)⟩ ⟨PS.blind, vk_recv hX.1 (by decide) hS, ps_pre (av := [.ref (adK 3)]) hX hS hE⟩ rfl rfl hl.1 rfl (lv_room (Nat.le_of_ble_eq_true rfl)) dX12_key_17 ⟨Nat.le_of_ble_eq_true rfl, Nat.le_of_ble_eq_true rfl⟩)) (fun r719 hr719 => ?_)
                          have hr719 : r719 = 18 := hr719
                          subst hr719
                          refine lv_icmp_ge (tgt := 133) hx hb dX12_key_20 (by decide) (fun c720 => ?_) (fun c720 => absurd c720 (by decide))
                          refine lv_iconst (v := -1) hx hb dX12_key_133 (by decide) ?_
                          exact W.iret (v := -1) hx hb hr (fun t ht hW => ⟨-1, rfl, Or.inr (Or.inr (Or.inr (⟨rfl, by first | omega | (have q := (kd_word (tx := tx) (n := sz1) (p := p0) (by omega)).trans ((if_neg (by rw [show eqw tx sz1 wVx p0 = false from EW1]; decide)).trans ((if_neg (by rw [show eqw tx sz1 wEd p0 = false from EW8]; decide)).trans (if_neg (by rw [show eqw tx sz1 wWo p0 = false from EW13]; decide)))); omega)⟩))), ht⟩) (fun _ h => absurd h List.not_mem_nil) dX12_key_134
                        · have c718 := mt (b_eq (rfl : Int32.toInt x1_716 = _) (show Int32.toInt 0 = 0 from rfl)).mpr c718
                          have X2 : x1_716 = 1 := i1_of hL716_1 (by omega)
                          have EW13 : eqw tx sz1 (kW 13) p0 = true := by first | exact eqw_t.mpr ⟨(hL716_2 X2).1.trans rfl, fun q hq => (hL716_2 X2).2 q (by have : (kW 13).length = 17 - 13 := rfl; omega)⟩ | (exfalso; omega)
                          refine lv_iload_n hx hb dX12_key_121 rfl (lv_at hl 1 rfl) ?_
                          exact W.iret (v := 2) hx hb hr (fun t ht hW => ⟨2, rfl, Or.inr (Or.inr (Or.inl ⟨rfl, by exact (kd_word (by omega)).trans ((if_neg (by rw [show eqw tx sz1 wVx p0 = false from EW1]; decide)).trans ((if_neg (by rw [show eqw tx sz1 wEd p0 = false from EW8]; decide)).trans (if_pos EW13)))⟩)), ht⟩) (fun _ h => absurd h List.not_mem_nil) dX12_key_122
                      · have c717 := mt (b_le (show Int32.toInt 4 = 4 from rfl) (nI_toInt (n := i_716) (by omega))).mpr c717
                        refine lv_iload hx hb dX12_key_75 (lv_at hl 4 rfl) ?_
                        refine lv_if_eq (tgt := 116) hx hb dX12_key_77 (by decide) (fun c721 => ?_) (fun c721 => ?_)
                        · have c721 := (b_eq (rfl : Int32.toInt x1_716 = _) (show Int32.toInt 0 = 0 from rfl)).mp c721
                          refine lv_iload hx hb dX12_key_116 (lv_at hl 4 rfl) ?_
                          refine lv_if_eq (tgt := 123) hx hb dX12_key_118 (by decide) (fun c722 => ?_) (fun c722 => ?_)
                          · have c722 := (b_eq (rfl : Int32.toInt x1_716 = _) (show Int32.toInt 0 = 0 from rfl)).mp c722
                            have EW13 : eqw tx sz1 (kW 13) p0 = false := hL716_3 (i0_of (by omega))
                            refine lv_iinc (v := 3) (lv' := [(1, .int 3), (0, .ref (b 0)), (2, .int 13), (3, .int 17), (4, .int x1_716), (5, .int (nI i_716))]) hx hb dX12_key_123 hl (k := 1) rfl (by decide) (by decide) rfl (fun ls hl => ?_)
                            refine lv_iload_n hx hb dX12_key_126 rfl (lv_at hl 3 rfl) ?_
                            refine lv_iconst (v := 1) hx hb dX12_key_127 (by decide) ?_
                            refine lv_iadd hx hb dX12_key_128 ?_
                            refine W.eq (g2 := F0 m 129 ls [.int 18]) rfl ?_
                            refine lv_istore_n (lv' := [(2, .int 18), (1, .int 3), (0, .ref (b 0)), (3, .int 17), (4, .int x1_716), (5, .int (nI i_716))]) hx hb dX12_key_129 rfl hl (by decide) rfl (fun ls hl => ?_)
                            refine lv_goto (tgt := 14) hx hb dX12_key_130 (by decide) ?_
                            refine lv_iload_n hx hb dX12_key_14 rfl (lv_at hl 0 rfl) ?_
                            refine va_ldcS hx hb hown hZ dX12_key_15 ?_
                            refine vp_callSi (va_Run.run (va_runV (As := []) (rest := [.int 18]) ⟨hx, hb, hml, hown, noTs⟩ (s_J0_length l adK adV 3 (by decide)) ⟨cbE 0 (wd_488 hE) (wd_129 hE) (wd_1527 hE) rfl rfl (by decide +kernel) ⟨Nat.le_of_ble_eq_true rfl, Nat.le_of_ble_eq_true rfl⟩, (wd_486 hE), (wd_487 hE)⟩ ⟨PS.blind, vk_recv hX.1 (by decide) hS, ps_pre (av := [.ref (adK 3)]) hX hS hE⟩ rfl rfl hl.1 rfl (lv_room (Nat.le_of_ble_eq_true rfl)) dX12_key_17 ⟨Nat.le_of_ble_eq_true rfl, Nat.le_of_ble_eq_true rfl⟩)) (fun r723 hr723 => ?_)
                            have hr723 : r723 = 18 := hr723
                            subst hr723
                            refine lv_icmp_ge (tgt := 133) hx hb dX12_key_20 (by decide) (fun c724 => ?_) (fun c724 => absurd c724 (by decide))
                            refine lv_iconst (v := -1) hx hb dX12_key_133 (by decide) ?_
                            exact W.iret (v := -1) hx hb hr (fun t ht hW => ⟨-1, rfl, Or.inr (Or.inr (Or.inr (⟨rfl, by first | omega | (have q := (kd_word (tx := tx) (n := sz1) (p := p0) (by omega)).trans ((if_neg (by rw [show eqw tx sz1 wVx p0 = false from EW1]; decide)).trans ((if_neg (by rw [show eqw tx sz1 wEd p0 = false from EW8]; decide)).trans (if_neg (by rw [show eqw tx sz1 wWo p0 = false from EW13]; decide)))); omega)⟩))), ht⟩) (fun _ h => absurd h List.not_mem_nil) dX12_key_134
                          · have c722 := mt (b_eq (rfl : Int32.toInt x1_716 = _) (show Int32.toInt 0 = 0 from rfl)).mpr c722
                            have X2 : x1_716 = 1 := i1_of hL716_1 (by omega)
                            have EW13 : eqw tx sz1 (kW 13) p0 = true := by first | exact eqw_t.mpr ⟨(hL716_2 X2).1.trans rfl, fun q hq => (hL716_2 X2).2 q (by have : (kW 13).length = 17 - 13 := rfl; omega)⟩ | (exfalso; omega)
                            refine lv_iload_n hx hb dX12_key_121 rfl (lv_at hl 1 rfl) ?_
                            exact W.iret (v := 2) hx hb hr (fun t ht hW => ⟨2, rfl, Or.inr (Or.inr (Or.inl ⟨rfl, by exact (kd_word (by omega)).trans ((if_neg (by rw [show eqw tx sz1 wVx p0 = false from EW1]; decide)).trans ((if_neg (by rw [show eqw tx sz1 wEd p0 = false from EW8]; decide)).trans (if_pos EW13)))⟩)), ht⟩) (fun _ h => absurd h List.not_mem_nil) dX12_key_122
                        · have c721 := mt (b_eq (rfl : Int32.toInt x1_716 = _) (show Int32.toInt 0 = 0 from rfl)).mpr c721
                          have X1 : x1_716 = 1 := i1_of hL716_1 (by omega)
                          refine va_ldcS hx hb hown hZ dX12_key_80 ?_
                          refine lv_iload_n hx hb dX12_key_82 rfl (lv_at hl 2 rfl) ?_
                          refine lv_iload hx hb dX12_key_83 (lv_at hl 5 rfl) ?_
                          refine lv_iadd hx hb dX12_key_85 ?_
                          refine W.eq (g2 := F0 m 86 ls [.int (nI (13 + i_716)), .ref (adK 3)]) (congrArg (fun z : Int32 => F0 m 86 ls (.int z :: [.ref (adK 3)])) (nI_add 13 i_716)) ?_
                          refine vp_callSi (va_Run.run (va_runV (As := [.int (nI (13 + i_716))]) (rest := []) ⟨hx, hb, hml, hown, noTs⟩ (s_J0_charAt l adK adV 3 (13 + i_716) (by decide) (by show _ < 18; omega)) ⟨cbE 1 (wd_498 hE) (wd_129 hE) (wd_1528 hE) rfl rfl (by decide +kernel) ⟨Nat.le_of_ble_eq_true rfl, Nat.le_of_ble_eq_true rfl⟩, (wd_496 hE), (wd_497 hE)⟩ ⟨PS.blind, vk_recv hX.1 (by decide) hS, ps_pre (av := [.ref (adK 3), .int (nI (13 + i_716))]) hX hS hE⟩ rfl rfl hl.1 rfl (lv_room (Nat.le_of_ble_eq_true rfl)) dX12_key_86 ⟨Nat.le_of_ble_eq_true rfl, Nat.le_of_ble_eq_true rfl⟩)) (fun r725 hr725 => ?_)
                          refine lv_aload_n hx hb dX12_key_89 rfl (lv_at hl 0 rfl) ?_
                          refine lv_aload_n hx hb dX12_key_90 rfl (lv_at hl 0 rfl) ?_
                          refine r_get (v := .int (nI p0)) hx hb (ly_X12 hE) hown hK hP rfl 13 (by decide) (wd_1394 hE) (fun _ h9 => h9) (congrArg (fun z : Int32 => some (Value.int z)) te13_2) dX12_key_91 ?_
                          refine lv_iload hx hb dX12_key_94 (lv_at hl 5 rfl) ?_
                          refine lv_iadd hx hb dX12_key_96 ?_
                          refine W.eq (g2 := F0 m 97 ls [.int (nI (p0 + i_716)), .ref (b 0), .int r725]) (congrArg (fun z : Int32 => F0 m 97 ls (.int z :: [.ref (b 0), .int r725])) (nI_add p0 i_716)) ?_
                          refine vp_callSi (va_Run.run (va_runV (As := [.int (nI (p0 + i_716))]) (rest := [.int r725]) ⟨hx, hb, hml, hown, noTs⟩ (r_X12_byteAt l dC dI s.heap.size cs b u tx hAc16 (p0 + i_716) sz1 hF11 (by first | assumption | omega | rfl | (congr 1; omega)) (by first | assumption | omega | rfl | (congr 1; omega))) ⟨cbE 1 (wd_1510 hE) (wd_126 hE) (wd_1507 hE) rfl rfl (by decide +kernel) ⟨Nat.le_of_ble_eq_true rfl, Nat.le_of_ble_eq_true rfl⟩, (wd_1509 hE), (wd_57 hE)⟩ ⟨PR.blind, r_recv hK hP rfl, (r_pre (av := [.ref (b 0), .int (nI (p0 + i_716))]) hK hP hJ hE)⟩ rfl rfl hl.1 rfl (lv_room (Nat.le_of_ble_eq_true rfl)) dX12_key_97 ⟨Nat.le_of_ble_eq_true rfl, Nat.le_of_ble_eq_true rfl⟩)) (fun r726 hr726 => ?_)
                          subst hr726
                          have htf726 := bA_f tx sz1 (p0 + i_716)
                          have HRC := hr725
                          have RCH := ch_13 i_716 (by omega)
                          refine lv_icmp_ne (tgt := 107) hx hb dX12_key_100 (by decide) (fun c727 => ?_) (fun c727 => ?_)
                          · have c727 := mt (b_eq (rfl : Int32.toInt r725 = _) (rfl : Int32.toInt (bA tx sz1 (p0 + i_716)) = _)).mpr c727
                            have NE : bA tx sz1 (p0 + i_716) ≠ (kW 13).getD i_716 0 := by rw [← RCH, ← HRC]; intro e; have := congrArg Int32.toInt e; omega
                            refine lv_iconst (v := 0) hx hb dX12_key_107 (by decide) ?_
                            refine lv_istore (lv' := [(4, .int 0), (0, .ref (b 0)), (1, .int 2), (2, .int 13), (3, .int 17), (5, .int (nI i_716))]) hx hb dX12_key_108 hl (by decide) rfl (fun ls hl => ?_)
                            refine lv_iinc (v := nI (i_716 + 1)) (lv' := [(5, .int (nI (i_716 + 1))), (4, .int 0), (0, .ref (b 0)), (1, .int 2), (2, .int 13), (3, .int 17)]) hx hb dX12_key_110 hl (k := 5) rfl (nI_1 i_716) (by decide) rfl (fun ls hl => ?_)
                            refine lv_goto (tgt := 67) hx hb dX12_key_113 (by decide) ?_
                            exact ih716 _ _ (by omega) ⟨(i_716 + 1), 0, rfl, (by first | assumption | omega | rfl | (congr 1; omega)), (by first | exact Or.inl rfl | exact Or.inr rfl), (by first | (intro _; exact ⟨(hL716_2 X1).1, fun q hq => by rcases Nat.lt_or_ge q i_716 with h | h; (exact (hL716_2 X1).2 q h); (obtain rfl : q = i_716 := by omega); exact EQ⟩) | (intro h; exact absurd h (by decide))), (by first | (intro h; exact absurd h (by decide)) | (intro _; exact eqw_at (w := kW 13) (by have : (kW 13).length = 17 - 13 := rfl; omega) NE)), lv_sub hl [2, 3, 4, 5, 1, 0] rfl⟩
                          · have c727 := (b_eq (rfl : Int32.toInt r725 = _) (rfl : Int32.toInt (bA tx sz1 (p0 + i_716)) = _)).mp c727
                            have EQ : bA tx sz1 (p0 + i_716) = (kW 13).getD i_716 0 := by rw [← RCH, ← HRC]; exact Int32.toInt_inj.mp (by omega)
                            refine lv_iconst (v := 1) hx hb dX12_key_103 (by decide) ?_
                            refine lv_goto (tgt := 108) hx hb dX12_key_104 (by decide) ?_
                            refine lv_istore (lv' := [(4, .int 1), (0, .ref (b 0)), (1, .int 2), (2, .int 13), (3, .int 17), (5, .int (nI i_716))]) hx hb dX12_key_108 hl (by decide) rfl (fun ls hl => ?_)
                            refine lv_iinc (v := nI (i_716 + 1)) (lv' := [(5, .int (nI (i_716 + 1))), (4, .int 1), (0, .ref (b 0)), (1, .int 2), (2, .int 13), (3, .int 17)]) hx hb dX12_key_110 hl (k := 5) rfl (nI_1 i_716) (by decide) rfl (fun ls hl => ?_)
                            refine lv_goto (tgt := 67) hx hb dX12_key_113 (by decide) ?_
                            exact ih716 _ _ (by omega) ⟨(i_716 + 1), 1, rfl, (by first | assumption | omega | rfl | (congr 1; omega)), (by first | exact Or.inl rfl | exact Or.inr rfl), (by first | (intro _; exact ⟨(hL716_2 X1).1, fun q hq => by rcases Nat.lt_or_ge q i_716 with h | h; (exact (hL716_2 X1).2 q h); (obtain rfl : q = i_716 := by omega); exact EQ⟩) | (intro h; exact absurd h (by decide))), (by first | (intro h; exact absurd h (by decide)) | (intro _; exact eqw_at (w := kW 13) (by have : (kW 13).length = 17 - 13 := rfl; omega) NE)), lv_sub hl [2, 3, 4, 5, 1, 0] rfl⟩
                    · have c715 := (b_eq (show Int32.toInt 4 = 4 from rfl) (nI_toInt (n := (tnd tx sz1 p0) - p0) (by omega))).mp c715
                      refine lv_iconst (v := 1) hx hb dX12_key_57 (by decide) ?_
                      refine lv_goto (tgt := 62) hx hb dX12_key_58 (by decide) ?_
                      refine lv_istore (lv' := [(4, .int 1), (3, .int 17), (2, .int 13), (1, .int 2), (0, .ref (b 0)), (5, .int (nI i_661))]) hx hb dX12_key_62 hl (by decide) rfl (fun ls hl => ?_)
                      refine lv_iconst (v := 0) hx hb dX12_key_64 (by decide) ?_
                      refine lv_istore (lv' := [(5, .int 0), (4, .int 1), (3, .int 17), (2, .int 13), (1, .int 2), (0, .ref (b 0))]) hx hb dX12_key_65 hl (by decide) rfl (fun ls hl => ?_)
                      refine r_indP (I := fun n ls => ∃ (i_728 : Nat) (x1_728 : Int32), n = 17 - 13 - i_728 ∧ (i_728 ≤ 17 - 13) ∧ (x1_728 = 0 ∨ x1_728 = 1) ∧ (x1_728 = 1 → tnd tx sz1 p0 - p0 = 17 - 13 ∧ ∀ q, q < i_728 → bA tx sz1 (p0 + q) = (kW 13).getD q 0) ∧ (x1_728 = 0 → eqw tx sz1 (kW 13) p0 = false) ∧ lv_has ls 6 [(0, .ref (b 0)), (1, .int 2), (2, .int 13), (3, .int 17), (4, .int x1_728), (5, .int (nI i_728))]) (fun n ls hI ih728 => ?_) _ _ ⟨0, 1, rfl, (by first | assumption | omega | rfl | (congr 1; omega)), (by first | exact Or.inl rfl | exact Or.inr rfl), (by first | (intro _; exact ⟨by omega, fun q hq => absurd hq (by omega)⟩) | (intro h; exact absurd h (by decide))), (by first | (intro h; exact absurd h (by decide)) | (intro _; exact eqw_len (w := kW 13) (l := 17 - 13) rfl (by omega))), lv_sub hl [5, 4, 3, 2, 1, 0] rfl⟩
                      obtain ⟨i_728, x1_728, hmu728, hL728_0, hL728_1, hL728_2, hL728_3, hl⟩ := hI
                      subst hmu728
                      refine lv_iload hx hb dX12_key_67 (lv_at hl 5 rfl) ?_
                      refine lv_iload_n hx hb dX12_key_69 rfl (lv_at hl 3 rfl) ?_
                      refine lv_iload_n hx hb dX12_key_70 rfl (lv_at hl 2 rfl) ?_
                      refine lv_isub hx hb dX12_key_71 ?_
                      refine W.eq (g2 := F0 m 72 ls [.int 4, .int (nI i_728)]) rfl ?_
                      refine lv_icmp_ge (tgt := 116) hx hb dX12_key_72 (by decide) (fun c729 => ?_) (fun c729 => ?_)
                      · have c729 := (b_le (show Int32.toInt 4 = 4 from rfl) (nI_toInt (n := i_728) (by omega))).mp c729
                        refine lv_iload hx hb dX12_key_116 (lv_at hl 4 rfl) ?_
                        refine lv_if_eq (tgt := 123) hx hb dX12_key_118 (by decide) (fun c730 => ?_) (fun c730 => ?_)
                        · have c730 := (b_eq (rfl : Int32.toInt x1_728 = _) (show Int32.toInt 0 = 0 from rfl)).mp c730
                          have EW13 : eqw tx sz1 (kW 13) p0 = false := hL728_3 (i0_of (by omega))
                          refine lv_iinc (v := 3) (lv' := [(1, .int 3), (0, .ref (b 0)), (2, .int 13), (3, .int 17), (4, .int x1_728), (5, .int (nI i_728))]) hx hb dX12_key_123 hl (k := 1) rfl (by decide) (by decide) rfl (fun ls hl => ?_)
                          refine lv_iload_n hx hb dX12_key_126 rfl (lv_at hl 3 rfl) ?_
                          refine lv_iconst (v := 1) hx hb dX12_key_127 (by decide) ?_
                          refine lv_iadd hx hb dX12_key_128 ?_
                          refine W.eq (g2 := F0 m 129 ls [.int 18]) rfl ?_
                          refine lv_istore_n (lv' := [(2, .int 18), (1, .int 3), (0, .ref (b 0)), (3, .int 17), (4, .int x1_728), (5, .int (nI i_728))]) hx hb dX12_key_129 rfl hl (by decide) rfl (fun ls hl => ?_)
                          refine lv_goto (tgt := 14) hx hb dX12_key_130 (by decide) ?_
                          refine lv_iload_n hx hb dX12_key_14 rfl (lv_at hl 0 rfl) ?_
                          refine va_ldcS hx hb hown hZ dX12_key_15 ?_
                          refine vp_callSi (va_Run.run (va_runV (As := []) (rest := [.int 18]) ⟨hx, hb, hml, hown, noTs⟩ (s_J0_length l adK adV 3 (by decide)) ⟨cbE 0 (wd_488 hE) (wd_129 hE) (wd_1527 hE) rfl rfl (by decide +kernel) ⟨Nat.le_of_ble_eq_true rfl, Nat.le_of_ble_eq_true rfl⟩, (wd_486 hE), (wd_487 hE)⟩ ⟨PS.blind, vk_recv hX.1 (by decide) hS, ps_pre (av := [.ref (adK 3)]) hX hS hE⟩ rfl rfl hl.1 rfl (lv_room (Nat.le_of_ble_eq_true rfl)) dX12_key_17 ⟨Nat.le_of_ble_eq_true rfl, Nat.le_of_ble_eq_true rfl⟩)) (fun r731 hr731 => ?_)
                          have hr731 : r731 = 18 := hr731
                          subst hr731
                          refine lv_icmp_ge (tgt := 133) hx hb dX12_key_20 (by decide) (fun c732 => ?_) (fun c732 => absurd c732 (by decide))
                          refine lv_iconst (v := -1) hx hb dX12_key_133 (by decide) ?_
                          exact W.iret (v := -1) hx hb hr (fun t ht hW => ⟨-1, rfl, Or.inr (Or.inr (Or.inr (⟨rfl, by first | omega | (have q := (kd_word (tx := tx) (n := sz1) (p := p0) (by omega)).trans ((if_neg (by rw [show eqw tx sz1 wVx p0 = false from EW1]; decide)).trans ((if_neg (by rw [show eqw tx sz1 wEd p0 = false from EW8]; decide)).trans (if_neg (by rw [show eqw tx sz1 wWo p0 = false from EW13]; decide)))); omega)⟩))), ht⟩) (fun _ h => absurd h List.not_mem_nil) dX12_key_134
                        · have c730 := mt (b_eq (rfl : Int32.toInt x1_728 = _) (show Int32.toInt 0 = 0 from rfl)).mpr c730
                          have X2 : x1_728 = 1 := i1_of hL728_1 (by omega)
                          have EW13 : eqw tx sz1 (kW 13) p0 = true := by first | exact eqw_t.mpr ⟨(hL728_2 X2).1.trans rfl, fun q hq => (hL728_2 X2).2 q (by have : (kW 13).length = 17 - 13 := rfl; omega)⟩ | (exfalso; omega)
                          refine lv_iload_n hx hb dX12_key_121 rfl (lv_at hl 1 rfl) ?_
                          exact W.iret (v := 2) hx hb hr (fun t ht hW => ⟨2, rfl, Or.inr (Or.inr (Or.inl ⟨rfl, by exact (kd_word (by omega)).trans ((if_neg (by rw [show eqw tx sz1 wVx p0 = false from EW1]; decide)).trans ((if_neg (by rw [show eqw tx sz1 wEd p0 = false from EW8]; decide)).trans (if_pos EW13)))⟩)), ht⟩) (fun _ h => absurd h List.not_mem_nil) dX12_key_122
                      · have c729 := mt (b_le (show Int32.toInt 4 = 4 from rfl) (nI_toInt (n := i_728) (by omega))).mpr c729
                        refine lv_iload hx hb dX12_key_75 (lv_at hl 4 rfl) ?_
                        refine lv_if_eq (tgt := 116) hx hb dX12_key_77 (by decide) (fun c733 => ?_) (fun c733 => ?_)
                        · have c733 := (b_eq (rfl : Int32.toInt x1_728 = _) (show Int32.toInt 0 = 0 from rfl)).mp c733
                          refine lv_iload hx hb dX12_key_116 (lv_at hl 4 rfl) ?_
                          refine lv_if_eq (tgt := 123) hx hb dX12_key_118 (by decide) (fun c734 => ?_) (fun c734 => ?_)
                          · have c734 := (b_eq (rfl : Int32.toInt x1_728 = _) (show Int32.toInt 0 = 0 from rfl)).mp c734
                            have EW13 : eqw tx sz1 (kW 13) p0 = false := hL728_3 (i0_of (by omega))
                            refine lv_iinc (v := 3) (lv' := [(1, .int 3), (0, .ref (b 0)), (2, .int 13), (3, .int 17), (4, .int x1_728), (5, .int (nI i_728))]) hx hb dX12_key_123 hl (k := 1) rfl (by decide) (by decide) rfl (fun ls hl => ?_)
                            refine lv_iload_n hx hb dX12_key_126 rfl (lv_at hl 3 rfl) ?_
                            refine lv_iconst (v := 1) hx hb dX12_key_127 (by decide) ?_
                            refine lv_iadd hx hb dX12_key_128 ?_
                            refine W.eq (g2 := F0 m 129 ls [.int 18]) rfl ?_
                            refine lv_istore_n (lv' := [(2, .int 18), (1, .int 3), (0, .ref (b 0)), (3, .int 17), (4, .int x1_728), (5, .int (nI i_728))]) hx hb dX12_key_129 rfl hl (by decide) rfl (fun ls hl => ?_)
                            refine lv_goto (tgt := 14) hx hb dX12_key_130 (by decide) ?_
                            refine lv_iload_n hx hb dX12_key_14 rfl (lv_at hl 0 rfl) ?_
                            refine va_ldcS hx hb hown hZ dX12_key_15 ?_
                            refine vp_callSi (va_Run.run (va_runV (As := []) (rest := [.int 18]) ⟨hx, hb, hml, hown, noTs⟩ (s_J0_length l adK adV 3 (by decide)) ⟨cbE 0 (wd_488 hE) (wd_129 hE) (wd_1527 hE) rfl rfl (by decide +kernel) ⟨Nat.le_of_ble_eq_true rfl, Nat.le_of_ble_eq_true rfl⟩, (wd_486 hE), (wd_487 hE)⟩ ⟨PS.blind, vk_recv hX.1 (by decide) hS, ps_pre (av := [.ref (adK 3)]) hX hS hE⟩ rfl rfl hl.1 rfl (lv_room (Nat.le_of_ble_eq_true rfl)) dX12_key_17 ⟨Nat.le_of_ble_eq_true rfl, Nat.le_of_ble_eq_true rfl⟩)) (fun r735 hr735 => ?_)
                            have hr735 : r735 = 18 := hr735
                            subst hr735
                            refine lv_icmp_ge (tgt := 133) hx hb dX12_key_20 (by decide) (fun c736 => ?_) (fun c736 => absurd c736 (by decide))
                            refine lv_iconst (v := -1) hx hb dX12_key_133 (by decide) ?_
                            exact W.iret (v := -1) hx hb hr (fun t ht hW => ⟨-1, rfl, Or.inr (Or.inr (Or.inr (⟨rfl, by first | omega | (have q := (kd_word (tx := tx) (n := sz1) (p := p0) (by omega)).trans ((if_neg (by rw [show eqw tx sz1 wVx p0 = false from EW1]; decide)).trans ((if_neg (by rw [show eqw tx sz1 wEd p0 = false from EW8]; decide)).trans (if_neg (by rw [show eqw tx sz1 wWo p0 = false from EW13]; decide)))); omega)⟩))), ht⟩) (fun _ h => absurd h List.not_mem_nil) dX12_key_134
                          · have c734 := mt (b_eq (rfl : Int32.toInt x1_728 = _) (show Int32.toInt 0 = 0 from rfl)).mpr c734
                            have X2 : x1_728 = 1 := i1_of hL728_1 (by omega)
                            have EW13 : eqw tx sz1 (kW 13) p0 = true := by first | exact eqw_t.mpr ⟨(hL728_2 X2).1.trans rfl, fun q hq => (hL728_2 X2).2 q (by have : (kW 13).length = 17 - 13 := rfl; omega)⟩ | (exfalso; omega)
                            refine lv_iload_n hx hb dX12_key_121 rfl (lv_at hl 1 rfl) ?_
                            exact W.iret (v := 2) hx hb hr (fun t ht hW => ⟨2, rfl, Or.inr (Or.inr (Or.inl ⟨rfl, by exact (kd_word (by omega)).trans ((if_neg (by rw [show eqw tx sz1 wVx p0 = false from EW1]; decide)).trans ((if_neg (by rw [show eqw tx sz1 wEd p0 = false from EW8]; decide)).trans (if_pos EW13)))⟩)), ht⟩) (fun _ h => absurd h List.not_mem_nil) dX12_key_122
                        · have c733 := mt (b_eq (rfl : Int32.toInt x1_728 = _) (show Int32.toInt 0 = 0 from rfl)).mpr c733
                          have X1 : x1_728 = 1 := i1_of hL728_1 (by omega)
                          refine va_ldcS hx hb hown hZ dX12_key_80 ?_
                          refine lv_iload_n hx hb dX12_key_82 rfl (lv_at hl 2 rfl) ?_
                          refine lv_iload hx hb dX12_key_83 (lv_at hl 5 rfl) ?_
                          refine lv_iadd hx hb dX12_key_85 ?_
                          refine W.eq (g2 := F0 m 86 ls [.int (nI (13 + i_728)), .ref (adK 3)]) (congrArg (fun z : Int32 => F0 m 86 ls (.int z :: [.ref (adK 3)])) (nI_add 13 i_728)) ?_
                          refine vp_callSi (va_Run.run (va_runV (As := [.int (nI (13 + i_728))]) (rest := []) ⟨hx, hb, hml, hown, noTs⟩ (s_J0_charAt l adK adV 3 (13 + i_728) (by decide) (by show _ < 18; omega)) ⟨cbE 1 (wd_498 hE) (wd_129 hE) (wd_1528 hE) rfl rfl (by decide +kernel) ⟨Nat.le_of_ble_eq_true rfl, Nat.le_of_ble_eq_true rfl⟩, (wd_496 hE), (wd_497 hE)⟩ ⟨PS.blind, vk_recv hX.1 (by decide) hS, ps_pre (av := [.ref (adK 3), .int (nI (13 + i_728))]) hX hS hE⟩ rfl rfl hl.1 rfl (lv_room (Nat.le_of_ble_eq_true rfl)) dX12_key_86 ⟨Nat.le_of_ble_eq_true rfl, Nat.le_of_ble_eq_true rfl⟩)) (fun r737 hr737 => ?_)
                          refine lv_aload_n hx hb dX12_key_89 rfl (lv_at hl 0 rfl) ?_
                          refine lv_aload_n hx hb dX12_key_90 rfl (lv_at hl 0 rfl) ?_
                          refine r_get (v := .int (nI p0)) hx hb (ly_X12 hE) hown hK hP rfl 13 (by decide) (wd_1394 hE) (fun _ h9 => h9) (congrArg (fun z : Int32 => some (Value.int z)) te13_2) dX12_key_91 ?_
                          refine lv_iload hx hb dX12_key_94 (lv_at hl 5 rfl) ?_
                          refine lv_iadd hx hb dX12_key_96 ?_
                          refine W.eq (g2 := F0 m 97 ls [.int (nI (p0 + i_728)), .ref (b 0), .int r737]) (congrArg (fun z : Int32 => F0 m 97 ls (.int z :: [.ref (b 0), .int r737])) (nI_add p0 i_728)) ?_
                          refine vp_callSi (va_Run.run (va_runV (As := [.int (nI (p0 + i_728))]) (rest := [.int r737]) ⟨hx, hb, hml, hown, noTs⟩ (r_X12_byteAt l dC dI s.heap.size cs b u tx hAc16 (p0 + i_728) sz1 hF11 (by first | assumption | omega | rfl | (congr 1; omega)) (by first | assumption | omega | rfl | (congr 1; omega))) ⟨cbE 1 (wd_1510 hE) (wd_126 hE) (wd_1507 hE) rfl rfl (by decide +kernel) ⟨Nat.le_of_ble_eq_true rfl, Nat.le_of_ble_eq_true rfl⟩, (wd_1509 hE), (wd_57 hE)⟩ ⟨PR.blind, r_recv hK hP rfl, (r_pre (av := [.ref (b 0), .int (nI (p0 + i_728))]) hK hP hJ hE)⟩ rfl rfl hl.1 rfl (lv_room (Nat.le_of_ble_eq_true rfl)) dX12_key_97 ⟨Nat.le_of_ble_eq_true rfl, Nat.le_of_ble_eq_true rfl⟩)) (fun r738 hr738 => ?_)
                          subst hr738
                          have htf738 := bA_f tx sz1 (p0 + i_728)
                          have HRC := hr737
                          have RCH := ch_13 i_728 (by omega)
                          refine lv_icmp_ne (tgt := 107) hx hb dX12_key_100 (by decide) (fun c739 => ?_) (fun c739 => ?_)
                          · have c739 := mt (b_eq (rfl : Int32.toInt r737 = _) (rfl : Int32.toInt (bA tx sz1 (p0 + i_728)) = _)).mpr c739
                            have NE : bA tx sz1 (p0 + i_728) ≠ (kW 13).getD i_728 0 := by rw [← RCH, ← HRC]; intro e; have := congrArg Int32.toInt e; omega
                            refine lv_iconst (v := 0) hx hb dX12_key_107 (by decide) ?_
                            refine lv_istore (lv' := [(4, .int 0), (0, .ref (b 0)), (1, .int 2), (2, .int 13), (3, .int 17), (5, .int (nI i_728))]) hx hb dX12_key_108 hl (by decide) rfl (fun ls hl => ?_)
                            refine lv_iinc (v := nI (i_728 + 1)) (lv' := [(5, .int (nI (i_728 + 1))), (4, .int 0), (0, .ref (b 0)), (1, .int 2), (2, .int 13), (3, .int 17)]) hx hb dX12_key_110 hl (k := 5) rfl (nI_1 i_728) (by decide) rfl (fun ls hl => ?_)
                            refine lv_goto (tgt := 67) hx hb dX12_key_113 (by decide) ?_
                            exact ih728 _ _ (by omega) ⟨(i_728 + 1), 0, rfl, (by first | assumption | omega | rfl | (congr 1; omega)), (by first | exact Or.inl rfl | exact Or.inr rfl), (by first | (intro _; exact ⟨(hL728_2 X1).1, fun q hq => by rcases Nat.lt_or_ge q i_728 with h | h; (exact (hL728_2 X1).2 q h); (obtain rfl : q = i_728 := by omega); exact EQ⟩) | (intro h; exact absurd h (by decide))), (by first | (intro h; exact absurd h (by decide)) | (intro _; exact eqw_at (w := kW 13) (by have : (kW 13).length = 17 - 13 := rfl; omega) NE)), lv_sub hl [2, 3, 4, 5, 1, 0] rfl⟩
                          · have c739 := (b_eq (rfl : Int32.toInt r737 = _) (rfl : Int32.toInt (bA tx sz1 (p0 + i_728)) = _)).mp c739
                            have EQ : bA tx sz1 (p0 + i_728) = (kW 13).getD i_728 0 := by rw [← RCH, ← HRC]; exact Int32.toInt_inj.mp (by omega)
                            refine lv_iconst (v := 1) hx hb dX12_key_103 (by decide) ?_
                            refine lv_goto (tgt := 108) hx hb dX12_key_104 (by decide) ?_
                            refine lv_istore (lv' := [(4, .int 1), (0, .ref (b 0)), (1, .int 2), (2, .int 13), (3, .int 17), (5, .int (nI i_728))]) hx hb dX12_key_108 hl (by decide) rfl (fun ls hl => ?_)
                            refine lv_iinc (v := nI (i_728 + 1)) (lv' := [(5, .int (nI (i_728 + 1))), (4, .int 1), (0, .ref (b 0)), (1, .int 2), (2, .int 13), (3, .int 17)]) hx hb dX12_key_110 hl (k := 5) rfl (nI_1 i_728) (by decide) rfl (fun ls hl => ?_)
                            refine lv_goto (tgt := 67) hx hb dX12_key_113 (by decide) ?_
                            exact ih728 _ _ (by omega) ⟨(i_728 + 1), 1, rfl, (by first | assumption | omega | rfl | (congr 1; omega)), (by first | exact Or.inl rfl | exact Or.inr rfl), (by first | (intro _; exact ⟨(hL728_2 X1).1, fun q hq => by rcases Nat.lt_or_ge q i_728 with h | h; (exact (hL728_2 X1).2 q h); (obtain rfl : q = i_728 := by omega); exact EQ⟩) | (intro h; exact absurd h (by decide))), (by first | (intro h; exact absurd h (by decide)) | (intro _; exact eqw_at (w := kW 13) (by have : (kW 13).length = 17 - 13 := rfl; omega) NE)), lv_sub hl [2, 3, 4, 5, 1, 0] rfl⟩
                  · have c702 := mt (b_eq (rfl : Int32.toInt x1_661 = _) (show Int32.toInt 0 = 0 from rfl)).mpr c702
                    have X2 : x1_661 = 1 := i1_of hL661_1 (by omega)
                    have EW8 : eqw tx sz1 (kW 8) p0 = true := by first | exact eqw_t.mpr ⟨(hL661_2 X2).1.trans rfl, fun q hq => (hL661_2 X2).2 q (by have : (kW 8).length = 12 - 8 := rfl; omega)⟩ | (exfalso; omega)
                    refine lv_iload_n hx hb dX12_key_121 rfl (lv_at hl 1 rfl) ?_
                    exact W.iret (v := 1) hx hb hr (fun t ht hW => ⟨1, rfl, Or.inr (Or.inl ⟨rfl, by exact (kd_word (by omega)).trans ((if_neg (by rw [show eqw tx sz1 wVx p0 = false from EW1]; decide)).trans (if_pos EW8))⟩), ht⟩) (fun _ h => absurd h List.not_mem_nil) dX12_key_122
                · have c701 := mt (b_eq (rfl : Int32.toInt x1_661 = _) (show Int32.toInt 0 = 0 from rfl)).mpr c701
                  have X1 : x1_661 = 1 := i1_of hL661_1 (by omega)
                  refine va_ldcS hx hb hown hZ dX12_key_80 ?_
                  refine lv_iload_n hx hb dX12_key_82 rfl (lv_at hl 2 rfl) ?_
                  refine lv_iload hx hb dX12_key_83 (lv_at hl 5 rfl) ?_
                  refine lv_iadd hx hb dX12_key_85 ?_
                  refine W.eq (g2 := F0 m 86 ls [.int (nI (8 + i_661)), .ref (adK 3)]) (congrArg (fun z : Int32 => F0 m 86 ls (.int z :: [.ref (adK 3)])) (nI_add 8 i_661)) ?_
                  refine vp_callSi (va_Run.run (va_runV (As := [.int (nI (8 + i_661))]) (rest := []) ⟨hx, hb, hml, hown, noTs⟩ (s_J0_charAt l adK adV 3 (8 + i_661) (by decide) (by show _ < 18; omega)) ⟨cbE 1 (wd_498 hE) (wd_129 hE) (wd_1528 hE) rfl rfl (by decide +kernel) ⟨Nat.le_of_ble_eq_true rfl, Nat.le_of_ble_eq_true rfl⟩, (wd_496 hE), (wd_497 hE)⟩ ⟨PS.blind, vk_recv hX.1 (by decide) hS, ps_pre (av := [.ref (adK 3), .int (nI (8 + i_661))]) hX hS hE⟩ rfl rfl hl.1 rfl (lv_room (Nat.le_of_ble_eq_true rfl)) dX12_key_86 ⟨Nat.le_of_ble_eq_true rfl, Nat.le_of_ble_eq_true rfl⟩)) (fun r740 hr740 => ?_)
                  refine lv_aload_n hx hb dX12_key_89 rfl (lv_at hl 0 rfl) ?_
                  refine lv_aload_n hx hb dX12_key_90 rfl (lv_at hl 0 rfl) ?_
                  refine r_get (v := .int (nI p0)) hx hb (ly_X12 hE) hown hK hP rfl 13 (by decide) (wd_1394 hE) (fun _ h9 => h9) (congrArg (fun z : Int32 => some (Value.int z)) te13_2) dX12_key_91 ?_
                  refine lv_iload hx hb dX12_key_94 (lv_at hl 5 rfl) ?_
                  refine lv_iadd hx hb dX12_key_96 ?_
                  refine W.eq (g2 := F0 m 97 ls [.int (nI (p0 + i_661)), .ref (b 0), .int r740]) (congrArg (fun z : Int32 => F0 m 97 ls (.int z :: [.ref (b 0), .int r740])) (nI_add p0 i_661)) ?_
                  refine vp_callSi (va_Run.run (va_runV (As := [.int (nI (p0 + i_661))]) (rest := [.int r740]) ⟨hx, hb, hml, hown, noTs⟩ (r_X12_byteAt l dC dI s.heap.size cs b u tx hAc16 (p0 + i_661) sz1 hF11 (by first | assumption | omega | rfl | (congr 1; omega)) (by first | assumption | omega | rfl | (congr 1; omega))) ⟨cbE 1 (wd_1510 hE) (wd_126 hE) (wd_1507 hE) rfl rfl (by decide +kernel) ⟨Nat.le_of_ble_eq_true rfl, Nat.le_of_ble_eq_true rfl⟩, (wd_1509 hE), (wd_57 hE)⟩ ⟨PR.blind, r_recv hK hP rfl, (r_pre (av := [.ref (b 0), .int (nI (p0 + i_661))]) hK hP hJ hE)⟩ rfl rfl hl.1 rfl (lv_room (Nat.le_of_ble_eq_true rfl)) dX12_key_97 ⟨Nat.le_of_ble_eq_true rfl, Nat.le_of_ble_eq_true rfl⟩)) (fun r741 hr741 => ?_)
                  subst hr741
                  have htf741 := bA_f tx sz1 (p0 + i_661)
                  have HRC := hr740
                  have RCH := ch_8 i_661 (by omega)
                  refine lv_icmp_ne (tgt := 107) hx hb dX12_key_100 (by decide) (fun c742 => ?_) (fun c742 => ?_)
                  · have c742 := mt (b_eq (rfl : Int32.toInt r740 = _) (rfl : Int32.toInt (bA tx sz1 (p0 + i_661)) = _)).mpr c742
                    have NE : bA tx sz1 (p0 + i_661) ≠ (kW 8).getD i_661 0 := by rw [← RCH, ← HRC]; intro e; have := congrArg Int32.toInt e; omega
                    refine lv_iconst (v := 0) hx hb dX12_key_107 (by decide) ?_
                    refine lv_istore (lv' := [(4, .int 0), (0, .ref (b 0)), (1, .int 1), (2, .int 8), (3, .int 12), (5, .int (nI i_661))]) hx hb dX12_key_108 hl (by decide) rfl (fun ls hl => ?_)
                    refine lv_iinc (v := nI (i_661 + 1)) (lv' := [(5, .int (nI (i_661 + 1))), (4, .int 0), (0, .ref (b 0)), (1, .int 1), (2, .int 8), (3, .int 12)]) hx hb dX12_key_110 hl (k := 5) rfl (nI_1 i_661) (by decide) rfl (fun ls hl => ?_)
                    refine lv_goto (tgt := 67) hx hb dX12_key_113 (by decide) ?_
                    exact ih661 _ _ (by omega) ⟨(i_661 + 1), 0, rfl, (by first | assumption | omega | rfl | (congr 1; omega)), (by first | exact Or.inl rfl | exact Or.inr rfl), (by first | (intro _; exact ⟨(hL661_2 X1).1, fun q hq => by rcases Nat.lt_or_ge q i_661 with h | h; (exact (hL661_2 X1).2 q h); (obtain rfl : q = i_661 := by omega); exact EQ⟩) | (intro h; exact absurd h (by decide))), (by first | (intro h; exact absurd h (by decide)) | (intro _; exact eqw_at (w := kW 8) (by have : (kW 8).length = 12 - 8 := rfl; omega) NE)), lv_sub hl [2, 3, 4, 5, 1, 0] rfl⟩
                  · have c742 := (b_eq (rfl : Int32.toInt r740 = _) (rfl : Int32.toInt (bA tx sz1 (p0 + i_661)) = _)).mp c742
                    have EQ : bA tx sz1 (p0 + i_661) = (kW 8).getD i_661 0 := by rw [← RCH, ← HRC]; exact Int32.toInt_inj.mp (by omega)
                    refine lv_iconst (v := 1) hx hb dX12_key_103 (by decide) ?_
                    refine lv_goto (tgt := 108) hx hb dX12_key_104 (by decide) ?_
                    refine lv_istore (lv' := [(4, .int 1), (0, .ref (b 0)), (1, .int 1), (2, .int 8), (3, .int 12), (5, .int (nI i_661))]) hx hb dX12_key_108 hl (by decide) rfl (fun ls hl => ?_)
                    refine lv_iinc (v := nI (i_661 + 1)) (lv' := [(5, .int (nI (i_661 + 1))), (4, .int 1), (0, .ref (b 0)), (1, .int 1), (2, .int 8), (3, .int 12)]) hx hb dX12_key_110 hl (k := 5) rfl (nI_1 i_661) (by decide) rfl (fun ls hl => ?_)
                    refine lv_goto (tgt := 67) hx hb dX12_key_113 (by decide) ?_
                    exact ih661 _ _ (by omega) ⟨(i_661 + 1), 1, rfl, (by first | assumption | omega | rfl | (congr 1; omega)), (by first | exact Or.inl rfl | exact Or.inr rfl), (by first | (intro _; exact ⟨(hL661_2 X1).1, fun q hq => by rcases Nat.lt_or_ge q i_661 with h | h; (exact (hL661_2 X1).2 q h); (obtain rfl : q = i_661 := by omega); exact EQ⟩) | (intro h; exact absurd h (by decide))), (by first | (intro h; exact absurd h (by decide)) | (intro _; exact eqw_at (w := kW 8) (by have : (kW 8).length = 12 - 8 := rfl; omega) NE)), lv_sub hl [2, 3, 4, 5, 1, 0] rfl⟩
          · have c565 := mt (b_eq (rfl : Int32.toInt x1_384 = _) (show Int32.toInt 0 = 0 from rfl)).mpr c565
            have X2 : x1_384 = 1 := i1_of hL384_1 (by omega)
            have EW1 : eqw tx sz1 (kW 1) p0 = true := by first | exact eqw_t.mpr ⟨(hL384_2 X2).1.trans rfl, fun q hq => (hL384_2 X2).2 q (by have : (kW 1).length = 7 - 1 := rfl; omega)⟩ | (exfalso; omega)
            refine lv_iload_n hx hb dX12_key_121 rfl (lv_at hl 1 rfl) ?_
            exact W.iret (v := 0) hx hb hr (fun t ht hW => ⟨0, rfl, Or.inl ⟨rfl, by exact (kd_word (by omega)).trans (if_pos EW1)⟩, ht⟩) (fun _ h => absurd h List.not_mem_nil) dX12_key_122
        · have c564 := mt (b_eq (rfl : Int32.toInt x1_384 = _) (show Int32.toInt 0 = 0 from rfl)).mpr c564
          have X1 : x1_384 = 1 := i1_of hL384_1 (by omega)
          refine va_ldcS hx hb hown hZ dX12_key_80 ?_
          refine lv_iload_n hx hb dX12_key_82 rfl (lv_at hl 2 rfl) ?_
          refine lv_iload hx hb dX12_key_83 (lv_at hl 5 rfl) ?_
          refine lv_iadd hx hb dX12_key_85 ?_
          refine W.eq (g2 := F0 m 86 ls [.int (nI (1 + i_384)), .ref (adK 3)]) (congrArg (fun z : Int32 => F0 m 86 ls (.int z :: [.ref (adK 3)])) (nI_add 1 i_384)) ?_
          refine vp_callSi (va_Run.run (va_runV (As := [.int (nI (1 + i_384))]) (rest := []) ⟨hx, hb, hml, hown, noTs⟩ (s_J0_charAt l adK adV 3 (1 + i_384) (by decide) (by show _ < 18; omega)) ⟨cbE 1 (wd_498 hE) (wd_129 hE) (wd_1528 hE) rfl rfl (by decide +kernel) ⟨Nat.le_of_ble_eq_true rfl, Nat.le_of_ble_eq_true rfl⟩, (wd_496 hE), (wd_497 hE)⟩ ⟨PS.blind, vk_recv hX.1 (by decide) hS, ps_pre (av := [.ref (adK 3), .int (nI (1 + i_384))]) hX hS hE⟩ rfl rfl hl.1 rfl (lv_room (Nat.le_of_ble_eq_true rfl)) dX12_key_86 ⟨Nat.le_of_ble_eq_true rfl, Nat.le_of_ble_eq_true rfl⟩)) (fun r743 hr743 => ?_)
          refine lv_aload_n hx hb dX12_key_89 rfl (lv_at hl 0 rfl) ?_
          refine lv_aload_n hx hb dX12_key_90 rfl (lv_at hl 0 rfl) ?_
          refine r_get (v := .int (nI p0)) hx hb (ly_X12 hE) hown hK hP rfl 13 (by decide) (wd_1394 hE) (fun _ h9 => h9) (congrArg (fun z : Int32 => some (Value.int z)) te13_2) dX12_key_91 ?_
          refine lv_iload hx hb dX12_key_94 (lv_at hl 5 rfl) ?_
          refine lv_iadd hx hb dX12_key_96 ?_
          refine W.eq (g2 := F0 m 97 ls [.int (nI (p0 + i_384)), .ref (b 0), .int r743]) (congrArg (fun z : Int32 => F0 m 97 ls (.int z :: [.ref (b 0), .int r743])) (nI_add p0 i_384)) ?_
          refine vp_callSi (va_Run.run (va_runV (As := [.int (nI (p0 + i_384))]) (rest := [.int r743]) ⟨hx, hb, hml, hown, noTs⟩ (r_X12_byteAt l dC dI s.heap.size cs b u tx hAc16 (p0 + i_384) sz1 hF11 (by first | assumption | omega | rfl | (congr 1; omega)) (by first | assumption | omega | rfl | (congr 1; omega))) ⟨cbE 1 (wd_1510 hE) (wd_126 hE) (wd_1507 hE) rfl rfl (by decide +kernel) ⟨Nat.le_of_ble_eq_true rfl, Nat.le_of_ble_eq_true rfl⟩, (wd_1509 hE), (wd_57 hE)⟩ ⟨PR.blind, r_recv hK hP rfl, (r_pre (av := [.ref (b 0), .int (nI (p0 + i_384))]) hK hP hJ hE)⟩ rfl rfl hl.1 rfl (lv_room (Nat.le_of_ble_eq_true rfl)) dX12_key_97 ⟨Nat.le_of_ble_eq_true rfl, Nat.le_of_ble_eq_true rfl⟩)) (fun r744 hr744 => ?_)
          subst hr744
          have htf744 := bA_f tx sz1 (p0 + i_384)
          have HRC := hr743
          have RCH := ch_1 i_384 (by omega)
          refine lv_icmp_ne (tgt := 107) hx hb dX12_key_100 (by decide) (fun c745 => ?_) (fun c745 => ?_)
          · have c745 := mt (b_eq (rfl : Int32.toInt r743 = _) (rfl : Int32.toInt (bA tx sz1 (p0 + i_384)) = _)).mpr c745
            have NE : bA tx sz1 (p0 + i_384) ≠ (kW 1).getD i_384 0 := by rw [← RCH, ← HRC]; intro e; have := congrArg Int32.toInt e; omega
            refine lv_iconst (v := 0) hx hb dX12_key_107 (by decide) ?_
            refine lv_istore (lv' := [(4, .int 0), (0, .ref (b 0)), (1, .int 0), (2, .int 1), (3, .int 7), (5, .int (nI i_384))]) hx hb dX12_key_108 hl (by decide) rfl (fun ls hl => ?_)
            refine lv_iinc (v := nI (i_384 + 1)) (lv' := [(5, .int (nI (i_384 + 1))), (4, .int 0), (0, .ref (b 0)), (1, .int 0), (2, .int 1), (3, .int 7)]) hx hb dX12_key_110 hl (k := 5) rfl (nI_1 i_384) (by decide) rfl (fun ls hl => ?_)
            refine lv_goto (tgt := 67) hx hb dX12_key_113 (by decide) ?_
            exact ih384 _ _ (by omega) ⟨(i_384 + 1), 0, rfl, (by first | assumption | omega | rfl | (congr 1; omega)), (by first | exact Or.inl rfl | exact Or.inr rfl), (by first | (intro _; exact ⟨(hL384_2 X1).1, fun q hq => by rcases Nat.lt_or_ge q i_384 with h | h; (exact (hL384_2 X1).2 q h); (obtain rfl : q = i_384 := by omega); exact EQ⟩) | (intro h; exact absurd h (by decide))), (by first | (intro h; exact absurd h (by decide)) | (intro _; exact eqw_at (w := kW 1) (by have : (kW 1).length = 7 - 1 := rfl; omega) NE)), lv_sub hl [2, 3, 4, 5, 1, 0] rfl⟩
          · have c745 := (b_eq (rfl : Int32.toInt r743 = _) (rfl : Int32.toInt (bA tx sz1 (p0 + i_384)) = _)).mp c745
            have EQ : bA tx sz1 (p0 + i_384) = (kW 1).getD i_384 0 := by rw [← RCH, ← HRC]; exact Int32.toInt_inj.mp (by omega)
            refine lv_iconst (v := 1) hx hb dX12_key_103 (by decide) ?_
            refine lv_goto (tgt := 108) hx hb dX12_key_104 (by decide) ?_
            refine lv_istore (lv' := [(4, .int 1), (0, .ref (b 0)), (1, .int 0), (2, .int 1), (3, .int 7), (5, .int (nI i_384))]) hx hb dX12_key_108 hl (by decide) rfl (fun ls hl => ?_)
            refine lv_iinc (v := nI (i_384 + 1)) (lv' := [(5, .int (nI (i_384 + 1))), (4, .int 1), (0, .ref (b 0)), (1, .int 0), (2, .int 1), (3, .int 7)]) hx hb dX12_key_110 hl (k := 5) rfl (nI_1 i_384) (by decide) rfl (fun ls hl => ?_)
            refine lv_goto (tgt := 67) hx hb dX12_key_113 (by decide) ?_
            exact ih384 _ _ (by omega) ⟨(i_384 + 1), 1, rfl, (by first | assumption | omega | rfl | (congr 1; omega)), (by first | exact Or.inl rfl | exact Or.inr rfl), (by first | (intro _; exact ⟨(hL384_2 X1).1, fun q hq => by rcases Nat.lt_or_ge q i_384 with h | h; (exact (hL384_2 X1).2 q h); (obtain rfl : q = i_384 := by omega); exact EQ⟩) | (intro h; exact absurd h (by decide))), (by first | (intro h; exact absurd h (by decide)) | (intro _; exact eqw_at (w := kW 1) (by have : (kW 1).length = 7 - 1 := rfl; omega) NE)), lv_sub hl [2, 3, 4, 5, 1, 0] rfl⟩
  · have c4 := mt (b_eq (nI_toInt (n := tkr (kd tx sz1 p0)) (by omega)) (show Int32.toInt 2 = 2 from rfl)).mpr c4
    refine lv_iconst (v := -1) hx hb dX12_key_8 (by decide) ?_
    exact W.iret (v := -1) hx hb hr (fun t ht hW => ⟨-1, rfl, Or.inr (Or.inr (Or.inr (⟨rfl, by first | omega | (have q := (kd_word (tx := tx) (n := sz1) (p := p0) (by omega)).trans ((if_neg (by rw [show eqw tx sz1 wVx p0 = false from EW1]; decide)).trans ((if_neg (by rw [show eqw tx sz1 wEd p0 = false from EW8]; decide)).trans (if_neg (by rw [show eqw tx sz1 wWo p0 = false from EW13]; decide)))); omega)⟩))), ht⟩) (fun _ h => absurd h List.not_mem_nil) dX12_key_9
