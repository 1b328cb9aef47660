set_option maxHeartbeats 4000000 in
set_option maxRecDepth 100000 in
theorem r_X12_partOf (l : Launch) (dC : Nat → ClassId) (dI : Nat → Nat → Nat) (sz : Nat) (cs : Nat → ClassId) (b : Nat → Nat) (u : RS) (a : Nat → Int32) (hA1 : rA u 1 = a) (v : Nat) (hp0 : GG a) : Met l yX12_partOf [.code yX12_partOf cX12_partOf 5 (some .int)] ({ frames := 4, cells := 0, slots := 0, locals := 160 }) (PR [.ref (b 0), .int (nI v)] sz dC dI cs b u) (vp_Si (fun (r : Int32) => True)) 0 0 (fun _ => False) := by
  refine Met.ofW (cc := cX12_partOf) (maxL := 5) (ret := (some .int)) (by decide) rfl ?_
  intro p e s m args below meth c s₁ B hml hv
  obtain ⟨rfl, hsz, hP, hK, hJ, hE⟩ := hv
  have hx := B.exec
  have hb := B.bytes
  have hr := B.returns
  have hown : s.vm.findClass RX12 = some m.cls := findClass_of_methodNamed B.named
  have hlocks := B.notSynchronized
  subst hsz
  have hl := lv_entry ([.ref (b 0), .int (nI v)]) (n := 5) (Nat.le_of_ble_eq_true rfl)
  rw [lg_entry_eq]
  generalize (lg_sl ([.ref (b 0), .int (nI v)]) ++ List.replicate (5 - (lg_sl ([.ref (b 0), .int (nI v)])).length) Slot.unset).toArray = ls at hl ⊢
  have hl : lv_has ls 5 [(0, .ref (b 0)), (1, .int (nI v))] := hl
  have hG := hp0
  have ha1 := gg_le hp0
  refine lv_iconst (v := 1) hx hb dX12_partOf_0 (by decide) ?_
  refine lv_iload_n hx hb dX12_partOf_1 rfl (lv_at hl 1 rfl) ?_
  refine lv_ishl hx hb dX12_partOf_2 ?_
  refine lv_topi (fun x2 ex2 => ?_)
  refine lv_istore_n (lv' := [(2, .int x2), (0, .ref (b 0)), (1, .int (nI v))]) hx hb dX12_partOf_3 rfl hl (by decide) rfl (fun ls hl => ?_)
  refine lv_iconst (v := 0) hx hb dX12_partOf_4 (by decide) ?_
  refine lv_istore_n (lv' := [(3, .int 0), (2, .int x2), (0, .ref (b 0)), (1, .int (nI v))]) hx hb dX12_partOf_5 rfl hl (by decide) rfl (fun ls hl => ?_)
  refine r_indP (I := fun n ls => ∃ (k_3 : Nat) (x1_3 : Int32), n = 6 - k_3 ∧ (k_3 ≤ 6) ∧ lv_has ls 5 [(0, .ref (b 0)), (1, .int (nI v)), (2, .int x1_3), (3, .int (nI k_3))]) (fun n ls hI ih3 => ?_) _ _ ⟨0, x2, rfl, (by first | assumption | omega | rfl | (congr 1; omega)), lv_sub hl [2, 3, 1, 0] rfl⟩
  obtain ⟨k_3, x1_3, hmu3, hL3_0, hl⟩ := hI
  subst hmu3
  refine lv_iload_n hx hb dX12_partOf_6 rfl (lv_at hl 3 rfl) ?_
  refine lv_bipush (v := 6) hx hb dX12_partOf_7 (by decide) ?_
  refine lv_icmp_ge (tgt := 68) hx hb dX12_partOf_9 (by decide) (fun c4 => ?_) (fun c4 => ?_)
  · have c4 := (b_le (show Int32.toInt 6 = 6 from rfl) (nI_toInt (n := k_3) (by omega))).mp c4
    refine lv_iload_n hx hb dX12_partOf_68 rfl (lv_at hl 2 rfl) ?_
    exact W.iret (v := x1_3) hx hb hr (fun t ht hW => ⟨x1_3, rfl, trivial, ht⟩) (fun _ h => absurd h List.not_mem_nil) dX12_partOf_69
  · have c4 := mt (b_le (show Int32.toInt 6 = 6 from rfl) (nI_toInt (n := k_3) (by omega))).mpr c4
    refine lv_iconst (v := 0) hx hb dX12_partOf_12 (by decide) ?_
    refine lv_istore (lv' := [(4, .int 0), (0, .ref (b 0)), (1, .int (nI v)), (2, .int x1_3), (3, .int (nI k_3))]) hx hb dX12_partOf_13 hl (by decide) rfl (fun ls hl => ?_)
    refine r_indP (I := fun n ls => ∃ (sq_5 : Nat) (x1_5 : Int32), n = 2 * eN a - sq_5 ∧ (sq_5 ≤ 2 * eN a) ∧ lv_has ls 5 [(0, .ref (b 0)), (1, .int (nI v)), (2, .int x1_5), (3, .int (nI k_3)), (4, .int (nI sq_5))]) (fun n ls hI ih5 => ?_) _ _ ⟨0, x1_3, rfl, (by first | assumption | omega | rfl | (congr 1; omega)), lv_sub hl [1, 2, 3, 4, 0] rfl⟩
    obtain ⟨sq_5, x1_5, hmu5, hL5_0, hl⟩ := hI
    subst hmu5
    refine lv_iload hx hb dX12_partOf_15 (lv_at hl 4 rfl) ?_
    refine lv_iconst (v := 2) hx hb dX12_partOf_17 (by decide) ?_
    refine lv_aload_n hx hb dX12_partOf_18 rfl (lv_at hl 0 rfl) ?_
    refine lv_iconst (v := 1) hx hb dX12_partOf_19 (by decide) ?_
    refine vp_callSi (va_Run.run (va_runV (As := [.int (nI 1)]) (rest := [.int 2, .int (nI sq_5)]) ⟨hx, hb, hml, hown, noTs⟩ (r_X12_of l dC dI s.heap.size cs b u a hA1 1 (by first | assumption | omega | rfl | (congr 1; omega))) ⟨cbE 1 (wd_1536 hE) (wd_126 hE) (wd_1533 hE) rfl rfl (by decide +kernel) ⟨Nat.le_of_ble_eq_true rfl, Nat.le_of_ble_eq_true rfl⟩, (wd_1535 hE), (wd_61 hE)⟩ ⟨PR.blind, r_recv hK hP rfl, (r_pre (av := [.ref (b 0), .int (nI 1)]) hK hP hJ hE)⟩ rfl rfl hl.1 rfl (lv_room (Nat.le_of_ble_eq_true rfl)) dX12_partOf_20 ⟨Nat.le_of_ble_eq_true rfl, Nat.le_of_ble_eq_true rfl⟩)) (fun r6 hr6 => ?_)
    have hr6 := hr6.trans (gg_e hG)
    subst hr6
    refine lv_imul hx hb dX12_partOf_23 ?_
    refine W.eq (g2 := F0 m 24 ls [.int (nI (2 * (eN a))), .int (nI sq_5)]) (congrArg (fun z : Int32 => F0 m 24 ls (.int z :: [.int (nI sq_5)])) (pk_mul 2 (eN a))) ?_
    refine lv_icmp_ge (tgt := 62) hx hb dX12_partOf_24 (by decide) (fun c7 => ?_) (fun c7 => ?_)
    · have c7 := (b_le (nI_toInt (n := 2 * (eN a)) (by omega)) (nI_toInt (n := sq_5) (by omega))).mp c7
      refine lv_iinc (v := nI (k_3 + 1)) (lv' := [(3, .int (nI (k_3 + 1))), (0, .ref (b 0)), (1, .int (nI v)), (2, .int x1_5), (4, .int (nI sq_5))]) hx hb dX12_partOf_62 hl (k := 3) rfl (nI_1 k_3) (by decide) rfl (fun ls hl => ?_)
      refine lv_goto (tgt := 6) hx hb dX12_partOf_65 (by decide) ?_
      exact ih3 _ _ (by omega) ⟨(k_3 + 1), x1_5, rfl, (by first | assumption | omega | rfl | (congr 1; omega)), lv_sub hl [1, 2, 3, 0] rfl⟩
    · have c7 := mt (b_le (nI_toInt (n := 2 * (eN a)) (by omega)) (nI_toInt (n := sq_5) (by omega))).mpr c7
      refine lv_iload_n hx hb dX12_partOf_27 rfl (lv_at hl 2 rfl) ?_
      refine lv_iload_n hx hb dX12_partOf_28 rfl (lv_at hl 2 rfl) ?_
      refine lv_aload_n hx hb dX12_partOf_29 rfl (lv_at hl 0 rfl) ?_
      refine lv_iload hx hb dX12_partOf_30 (lv_at hl 4 rfl) ?_
      refine vp_callSi (va_Run.run (va_runV (As := [.int (nI sq_5)]) (rest := [.int x1_5, .int x1_5]) ⟨hx, hb, hml, hown, noTs⟩ (r_X12_from l dC dI s.heap.size cs b u a hA1 sq_5 (by first | assumption | omega | rfl | (congr 1; omega)) (by first | assumption | omega | rfl | (congr 1; omega))) ⟨cbE 1 (wd_1591 hE) (wd_126 hE) (wd_1588 hE) rfl rfl (by decide +kernel) ⟨Nat.le_of_ble_eq_true rfl, Nat.le_of_ble_eq_true rfl⟩, (wd_1590 hE), (wd_74 hE)⟩ ⟨PR.blind, r_recv hK hP rfl, (r_pre (av := [.ref (b 0), .int (nI sq_5)]) hK hP hJ hE)⟩ rfl rfl hl.1 rfl (lv_room (Nat.le_of_ble_eq_true rfl)) dX12_partOf_32 ⟨Nat.le_of_ble_eq_true rfl, Nat.le_of_ble_eq_true rfl⟩)) (fun r8 hr8 => ?_)
      have hau8 := gg_src (a := a) (s := sq_5) (by assumption) (by first | assumption | omega)
      subst hr8
      refine lv_ishr hx hb dX12_partOf_35 ?_
      refine lv_topi (fun x9 ex9 => ?_)
      refine lv_iconst (v := 1) hx hb dX12_partOf_36 (by decide) ?_
      refine lv_iand hx hb dX12_partOf_37 ?_
      refine lv_topi (fun x10 ex10 => ?_)
      refine lv_iconst (v := 1) hx hb dX12_partOf_38 (by decide) ?_
      refine lv_icmp_ne (tgt := 53) hx hb dX12_partOf_39 (by decide) (fun c11 => ?_) (fun c11 => ?_)
      · have c11 := mt (b_eq (rfl : Int32.toInt x10 = _) (show Int32.toInt 1 = 1 from rfl)).mpr c11
        refine lv_iconst (v := 0) hx hb dX12_partOf_53 (by decide) ?_
        refine lv_ior hx hb dX12_partOf_54 ?_
        refine lv_topi (fun x12 ex12 => ?_)
        refine lv_istore_n (lv' := [(2, .int x12), (0, .ref (b 0)), (1, .int (nI v)), (3, .int (nI k_3)), (4, .int (nI sq_5))]) hx hb dX12_partOf_55 rfl hl (by decide) rfl (fun ls hl => ?_)
        refine lv_iinc (v := nI (sq_5 + 1)) (lv' := [(4, .int (nI (sq_5 + 1))), (2, .int x12), (0, .ref (b 0)), (1, .int (nI v)), (3, .int (nI k_3))]) hx hb dX12_partOf_56 hl (k := 4) rfl (nI_1 sq_5) (by decide) rfl (fun ls hl => ?_)
        refine lv_goto (tgt := 15) hx hb dX12_partOf_59 (by decide) ?_
        exact ih5 _ _ (by omega) ⟨(sq_5 + 1), x12, rfl, (by first | assumption | omega | rfl | (congr 1; omega)), lv_sub hl [2, 3, 1, 4, 0] rfl⟩
      · have c11 := (b_eq (rfl : Int32.toInt x10 = _) (show Int32.toInt 1 = 1 from rfl)).mp c11
        refine lv_iconst (v := 1) hx hb dX12_partOf_42 (by decide) ?_
        refine lv_aload_n hx hb dX12_partOf_43 rfl (lv_at hl 0 rfl) ?_
        refine lv_iload hx hb dX12_partOf_44 (lv_at hl 4 rfl) ?_
        refine vp_callSi (va_Run.run (va_runV (As := [.int (nI sq_5)]) (rest := [.int 1, .int x1_5]) ⟨hx, hb, hml, hown, noTs⟩ (r_X12_to l dC dI s.heap.size cs b u a hA1 sq_5 (by first | assumption | omega | rfl | (congr 1; omega)) (by first | assumption | omega | rfl | (congr 1; omega))) ⟨cbE 1 (wd_1606 hE) (wd_126 hE) (wd_1603 hE) rfl rfl (by decide +kernel) ⟨Nat.le_of_ble_eq_true rfl, Nat.le_of_ble_eq_true rfl⟩, (wd_1605 hE), (wd_77 hE)⟩ ⟨PR.blind, r_recv hK hP rfl, (r_pre (av := [.ref (b 0), .int (nI sq_5)]) hK hP hJ hE)⟩ rfl rfl hl.1 rfl (lv_room (Nat.le_of_ble_eq_true rfl)) dX12_partOf_46 ⟨Nat.le_of_ble_eq_true rfl, Nat.le_of_ble_eq_true rfl⟩)) (fun r13 hr13 => ?_)
        have hau13 := gg_dst (a := a) (s := sq_5) (by assumption) (by first | assumption | omega)
        subst hr13
        refine lv_ishl hx hb dX12_partOf_49 ?_
        refine lv_topi (fun x14 ex14 => ?_)
        refine lv_goto (tgt := 54) hx hb dX12_partOf_50 (by decide) ?_
        refine lv_ior hx hb dX12_partOf_54 ?_
        refine lv_topi (fun x15 ex15 => ?_)
        refine lv_istore_n (lv' := [(2, .int x15), (0, .ref (b 0)), (1, .int (nI v)), (3, .int (nI k_3)), (4, .int (nI sq_5))]) hx hb dX12_partOf_55 rfl hl (by decide) rfl (fun ls hl => ?_)
        refine lv_iinc (v := nI (sq_5 + 1)) (lv' := [(4, .int (nI (sq_5 + 1))), (2, .int x15), (0, .ref (b 0)), (1, .int (nI v)), (3, .int (nI k_3))]) hx hb dX12_partOf_56 hl (k := 4) rfl (nI_1 sq_5) (by decide) rfl (fun ls hl => ?_)
        refine lv_goto (tgt := 15) hx hb dX12_partOf_59 (by decide) ?_
        exact ih5 _ _ (by omega) ⟨(sq_5 + 1), x15, rfl, (by first | assumption | omega | rfl | (congr 1; omega)), lv_sub hl [2, 3, 1, 4, 0] rfl⟩

set_option maxHeartbeats 4000000 in
set_option maxRecDepth 100000 in
theorem r_X12_parts (l : Launch) (dC : Nat → ClassId) (dI : Nat → Nat → Nat) (sz : Nat) (cs : Nat → ClassId) (b : Nat → Nat) (u : RS) (a : Nat → Int32) (hA1 : rA u 1 = a) (hp0 : GG a) : Met l yX12_parts [.code yX12_parts cX12_parts 3 (some .int)] ({ frames := 5, cells := 0, slots := 0, locals := 200 }) (PR [.ref (b 0)] sz dC dI cs b u) (vp_Si (fun (r : Int32) => True)) 0 0 (fun _ => False) := by
  refine Met.ofW (cc := cX12_parts) (maxL := 3) (ret := (some .int)) (by decide) rfl ?_
  intro p e s m args below meth c s₁ B hml hv
  obtain ⟨rfl, hsz, hP, hK, hJ, hE⟩ := hv
  have hx := B.exec
  have hb := B.bytes
  have hr := B.returns
  have hown : s.vm.findClass RX12 = some m.cls := findClass_of_methodNamed B.named
  have hlocks := B.notSynchronized
  subst hsz
  have hl := lv_entry ([.ref (b 0)]) (n := 3) (Nat.le_of_ble_eq_true rfl)
  rw [lg_entry_eq]
  generalize (lg_sl ([.ref (b 0)]) ++ List.replicate (3 - (lg_sl ([.ref (b 0)])).length) Slot.unset).toArray = ls at hl ⊢
  have hl : lv_has ls 3 [(0, .ref (b 0))] := hl
  have hG := hp0
  have ha1 := gg_le hp0
  refine lv_iconst (v := 0) hx hb dX12_parts_0 (by decide) ?_
  refine lv_istore_n (lv' := [(1, .int 0), (0, .ref (b 0))]) hx hb dX12_parts_1 rfl hl (by decide) rfl (fun ls hl => ?_)
  refine lv_iconst (v := 0) hx hb dX12_parts_2 (by decide) ?_
  refine lv_istore_n (lv' := [(2, .int 0), (1, .int 0), (0, .ref (b 0))]) hx hb dX12_parts_3 rfl hl (by decide) rfl (fun ls hl => ?_)
  refine r_indP (I := fun n ls => ∃ (k_2 : Nat) (x1_2 : Int32), n = vN a - k_2 ∧ (k_2 ≤ vN a) ∧ lv_has ls 3 [(0, .ref (b 0)), (1, .int x1_2), (2, .int (nI k_2))]) (fun n ls hI ih2 => ?_) _ _ ⟨0, 0, rfl, (by first | assumption | omega | rfl | (congr 1; omega)), lv_sub hl [2, 1, 0] rfl⟩
  obtain ⟨k_2, x1_2, hmu2, hL2_0, hl⟩ := hI
  subst hmu2
  refine lv_iload_n hx hb dX12_parts_4 rfl (lv_at hl 2 rfl) ?_
  refine lv_aload_n hx hb dX12_parts_5 rfl (lv_at hl 0 rfl) ?_
  refine lv_iconst (v := 0) hx hb dX12_parts_6 (by decide) ?_
  refine vp_callSi (va_Run.run (va_runV (As := [.int (nI 0)]) (rest := [.int (nI k_2)]) ⟨hx, hb, hml, hown, noTs⟩ (r_X12_of l dC dI s.heap.size cs b u a hA1 0 (by first | assumption | omega | rfl | (congr 1; omega))) ⟨cbE 1 (wd_1536 hE) (wd_126 hE) (wd_1533 hE) rfl rfl (by decide +kernel) ⟨Nat.le_of_ble_eq_true rfl, Nat.le_of_ble_eq_true rfl⟩, (wd_1535 hE), (wd_61 hE)⟩ ⟨PR.blind, r_recv hK hP rfl, (r_pre (av := [.ref (b 0), .int (nI 0)]) hK hP hJ hE)⟩ rfl rfl hl.1 rfl (lv_room (Nat.le_of_ble_eq_true rfl)) dX12_parts_7 ⟨Nat.le_of_ble_eq_true rfl, Nat.le_of_ble_eq_true rfl⟩)) (fun r3 hr3 => ?_)
  have hr3 := hr3.trans (gg_v hG)
  subst hr3
  refine lv_icmp_ge (tgt := 41) hx hb dX12_parts_10 (by decide) (fun c4 => ?_) (fun c4 => ?_)
  · have c4 := (b_le (nI_toInt (n := vN a) (by omega)) (nI_toInt (n := k_2) (by omega))).mp c4
    refine lv_iload_n hx hb dX12_parts_41 rfl (lv_at hl 1 rfl) ?_
    exact W.iret (v := x1_2) hx hb hr (fun t ht hW => ⟨x1_2, rfl, trivial, ht⟩) (fun _ h => absurd h List.not_mem_nil) dX12_parts_42
  · have c4 := mt (b_le (nI_toInt (n := vN a) (by omega)) (nI_toInt (n := k_2) (by omega))).mpr c4
    refine lv_iload_n hx hb dX12_parts_13 rfl (lv_at hl 1 rfl) ?_
    refine lv_aload_n hx hb dX12_parts_14 rfl (lv_at hl 0 rfl) ?_
    refine lv_iload_n hx hb dX12_parts_15 rfl (lv_at hl 2 rfl) ?_
    refine vp_callSi (va_Run.run (va_runV (As := [.int (nI k_2)]) (rest := [.int x1_2]) ⟨hx, hb, hml, hown, noTs⟩ (r_X12_partOf l dC dI s.heap.size cs b u a hA1 k_2 (by first | assumption | omega | rfl | (congr 1; omega))) ⟨cbE 1 (wd_1637 hE) (wd_126 hE) (wd_1634 hE) rfl rfl (by decide +kernel) ⟨Nat.le_of_ble_eq_true rfl, Nat.le_of_ble_eq_true rfl⟩, (wd_1636 hE), (wd_82 hE)⟩ ⟨PR.blind, r_recv hK hP rfl, (r_pre (av := [.ref (b 0), .int (nI k_2)]) hK hP hJ hE)⟩ rfl rfl hl.1 rfl (lv_room (Nat.le_of_ble_eq_true rfl)) dX12_parts_16 ⟨Nat.le_of_ble_eq_true rfl, Nat.le_of_ble_eq_true rfl⟩)) (fun r5 hr5 => ?_)
    refine lv_iconst (v := 1) hx hb dX12_parts_19 (by decide) ?_
    refine lv_iload_n hx hb dX12_parts_20 rfl (lv_at hl 2 rfl) ?_
    refine lv_ishl hx hb dX12_parts_21 ?_
    refine lv_topi (fun x6 ex6 => ?_)
    refine lv_iconst (v := 1) hx hb dX12_parts_22 (by decide) ?_
    refine lv_isub hx hb dX12_parts_23 ?_
    refine lv_topi (fun x7 ex7 => ?_)
    refine lv_iand hx hb dX12_parts_24 ?_
    refine lv_topi (fun x8 ex8 => ?_)
    refine lv_if_ne (tgt := 32) hx hb dX12_parts_25 (by decide) (fun c9 => ?_) (fun c9 => ?_)
    · have c9 := mt (b_eq (rfl : Int32.toInt x8 = _) (show Int32.toInt 0 = 0 from rfl)).mpr c9
      refine lv_iconst (v := 0) hx hb dX12_parts_32 (by decide) ?_
      refine lv_iadd hx hb dX12_parts_33 ?_
      refine lv_topi (fun x10 ex10 => ?_)
      refine lv_istore_n (lv' := [(1, .int x10), (0, .ref (b 0)), (2, .int (nI k_2))]) hx hb dX12_parts_34 rfl hl (by decide) rfl (fun ls hl => ?_)
      refine lv_iinc (v := nI (k_2 + 1)) (lv' := [(2, .int (nI (k_2 + 1))), (1, .int x10), (0, .ref (b 0))]) hx hb dX12_parts_35 hl (k := 2) rfl (nI_1 k_2) (by decide) rfl (fun ls hl => ?_)
      refine lv_goto (tgt := 4) hx hb dX12_parts_38 (by decide) ?_
      exact ih2 _ _ (by omega) ⟨(k_2 + 1), x10, rfl, (by first | assumption | omega | rfl | (congr 1; omega)), lv_sub hl [2, 1, 0] rfl⟩
    · have c9 := (b_eq (rfl : Int32.toInt x8 = _) (show Int32.toInt 0 = 0 from rfl)).mp c9
      refine lv_iconst (v := 1) hx hb dX12_parts_28 (by decide) ?_
      refine lv_goto (tgt := 33) hx hb dX12_parts_29 (by decide) ?_
      refine lv_iadd hx hb dX12_parts_33 ?_
      refine lv_topi (fun x11 ex11 => ?_)
      refine lv_istore_n (lv' := [(1, .int x11), (0, .ref (b 0)), (2, .int (nI k_2))]) hx hb dX12_parts_34 rfl hl (by decide) rfl (fun ls hl => ?_)
      refine lv_iinc (v := nI (k_2 + 1)) (lv' := [(2, .int (nI (k_2 + 1))), (1, .int x11), (0, .ref (b 0))]) hx hb dX12_parts_35 hl (k := 2) rfl (nI_1 k_2) (by decide) rfl (fun ls hl => ?_)
      refine lv_goto (tgt := 4) hx hb dX12_parts_38 (by decide) ?_
      exact ih2 _ _ (by omega) ⟨(k_2 + 1), x11, rfl, (by first | assumption | omega | rfl | (congr 1; omega)), lv_sub hl [2, 1, 0] rfl⟩

set_option maxHeartbeats 4000000 in
set_option maxRecDepth 100000 in
theorem r_X12_many (l : Launch) (dC : Nat → ClassId) (dI : Nat → Nat → Nat) (sz : Nat) (cs : Nat → ClassId) (b : Nat → Nat) (u : RS) (a : Nat → Int32) (hA1 : rA u 1 = a) (x : Int32) (hp0 : BG a) : Met l yX12_many [.code yX12_many cX12_many 2 (some .int)] ({ frames := 6, cells := 0, slots := 0, locals := 240 }) (PR [.ref (b 0), .int x] sz dC dI cs b u) (va_Qi (fun (r : Int32) (u' : RS) => (True) ∧ FR [3, 4, 5, 6, 7, 8, 9, 10, 11, 12, 13, 14, 17, 18, 19, 20] [1, 5, 21, 22] true u u') (BR dC dI cs b) (AR b sz)) 0 0 (AR b sz) := by
  refine Met.ofW (cc := cX12_many) (maxL := 2) (ret := (some .int)) (by decide) rfl ?_
  intro p e s m args below meth c s₁ B hml hv
  obtain ⟨rfl, hsz, hP, hK, hJ, hE⟩ := hv
  have hx := B.exec
  have hb := B.bytes
  have hr := B.returns
  have hown : s.vm.findClass RX12 = some m.cls := findClass_of_methodNamed B.named
  have hlocks := B.notSynchronized
  subst hsz
  have hAL : ∀ i, i < 108 → AR b s.heap.size (b i) := fun i h => Or.inl ⟨i, h, rfl⟩
  have hA : ∀ q : Nat, s.heap.size ≤ q → AR b s.heap.size q := fun q h => Or.inr h
  have hS : va_S (AR b s.heap.size) s.heap s.heap [] := va_S.rf
  have hfr : FR [3, 4, 5, 6, 7, 8, 9, 10, 11, 12, 13, 14, 17, 18, 19, 20] [1, 5, 21, 22] true u u := FR.refl
  have hl := lv_entry ([.ref (b 0), .int x]) (n := 2) (Nat.le_of_ble_eq_true rfl)
  rw [lg_entry_eq]
  generalize (lg_sl ([.ref (b 0), .int x]) ++ List.replicate (2 - (lg_sl ([.ref (b 0), .int x])).length) Slot.unset).toArray = ls at hl ⊢
  have hl : lv_has ls 2 [(0, .ref (b 0)), (1, .int x)] := hl
  have hB := hp0
  have hG := bg_g hp0
  have ha1 := gg_le hG
  have ha1b := bg_w hp0
  refine lv_iload_n hx hb dX12_many_0 rfl (lv_at hl 1 rfl) ?_
  by_cases t2 : x = 0
  · refine lv_tableIn (tgt := 44) hx hb dX12_many_1 (by rw [t2]; decide) (by rw [t2]; decide) (by rw [t2]; rfl) (by decide) ?_
    refine lv_aload_n hx hb dX12_many_44 rfl (lv_at hl 0 rfl) ?_
    refine lv_aload_n hx hb dX12_many_45 rfl (lv_at hl 0 rfl) ?_
    refine lv_iconst (v := 0) hx hb dX12_many_46 (by decide) ?_
    refine vp_callSi (va_Run.run (va_runV (As := [.int (nI 0)]) (rest := [.ref (b 0)]) ⟨hx, hb, hml, hown, noTs⟩ (r_X12_of l dC dI s.heap.size cs b u a hA1 0 (by first | assumption | omega | rfl | (congr 1; omega))) ⟨cbE 1 (wd_1536 hE) (wd_126 hE) (wd_1533 hE) rfl rfl (by decide +kernel) ⟨Nat.le_of_ble_eq_true rfl, Nat.le_of_ble_eq_true rfl⟩, (wd_1535 hE), (wd_61 hE)⟩ ⟨PR.blind, r_recv hK hP rfl, (r_pre (av := [.ref (b 0), .int (nI 0)]) hK hP hJ hE)⟩ rfl rfl hl.1 rfl (lv_room (Nat.le_of_ble_eq_true rfl)) dX12_many_47 ⟨Nat.le_of_ble_eq_true rfl, Nat.le_of_ble_eq_true rfl⟩)) (fun r3 hr3 => ?_)
    have hr3 := hr3.trans (gg_v hG)
    subst hr3
    refine rc_i hAL hS hA (va_runV (As := [.int (nI (vN a))]) (rest := []) ⟨hx, hb, hml, hown, noTs⟩ (r_X12_gives l dC dI s.heap.size cs b u a hA1 (nI (vN a))) ⟨cbE 1 (wd_1621 hE) (wd_126 hE) (wd_1618 hE) rfl rfl (by decide +kernel) ⟨Nat.le_of_ble_eq_true rfl, Nat.le_of_ble_eq_true rfl⟩, (wd_1620 hE), (wd_80 hE)⟩ ⟨PR.blind, r_recv hK hP rfl, (r_pre (av := [.ref (b 0), .int (nI (vN a))]) hK hP hJ hE)⟩ rfl rfl hl.1 rfl (lv_room (Nat.le_of_ble_eq_true rfl)) dX12_many_50 ⟨Nat.le_of_ble_eq_true rfl, Nat.le_of_ble_eq_true rfl⟩) (fun r4 u4 H locs hpo4 hP hS => ?_)
    obtain ⟨hr4, hq4⟩ := hpo4
    have hA5 := (hq4.1 1 List.not_mem_nil).trans hA1
    have hfr := FR.step hfr hq4 (fun _ h => absurd h List.not_mem_nil) (by decide) (fun h => rfl)
    refine W.eq (g2 := F0 m 53 ls [.int (nI (vN a))]) (by rw [hr4]) ?_
    exact W.iret (v := nI (vN a)) hx hb hr (fun t ht hW => ⟨⟨nI (vN a), u4, rfl, ⟨trivial, hfr⟩, (show va_P (dC, dI) vwCl (rW cs b u4) t.heap by rw [ht]; exact hP)⟩, hS.F ht⟩) hS.2.2 dX12_many_53
  by_cases t6 : x = 1
  · refine lv_tableIn (tgt := 54) hx hb dX12_many_1 (by rw [t6]; decide) (by rw [t6]; decide) (by rw [t6]; rfl) (by decide) ?_
    refine lv_aload_n hx hb dX12_many_54 rfl (lv_at hl 0 rfl) ?_
    refine lv_aload_n hx hb dX12_many_55 rfl (lv_at hl 0 rfl) ?_
    refine lv_iconst (v := 1) hx hb dX12_many_56 (by decide) ?_
    refine vp_callSi (va_Run.run (va_runV (As := [.int (nI 1)]) (rest := [.ref (b 0)]) ⟨hx, hb, hml, hown, noTs⟩ (r_X12_of l dC dI s.heap.size cs b u a hA1 1 (by first | assumption | omega | rfl | (congr 1; omega))) ⟨cbE 1 (wd_1536 hE) (wd_126 hE) (wd_1533 hE) rfl rfl (by decide +kernel) ⟨Nat.le_of_ble_eq_true rfl, Nat.le_of_ble_eq_true rfl⟩, (wd_1535 hE), (wd_61 hE)⟩ ⟨PR.blind, r_recv hK hP rfl, (r_pre (av := [.ref (b 0), .int (nI 1)]) hK hP hJ hE)⟩ rfl rfl hl.1 rfl (lv_room (Nat.le_of_ble_eq_true rfl)) dX12_many_57 ⟨Nat.le_of_ble_eq_true rfl, Nat.le_of_ble_eq_true rfl⟩)) (fun r7 hr7 => ?_)
    have hr7 := hr7.trans (gg_e hG)
    subst hr7
    refine rc_i hAL hS hA (va_runV (As := [.int (nI (eN a))]) (rest := []) ⟨hx, hb, hml, hown, noTs⟩ (r_X12_gives l dC dI s.heap.size cs b u a hA1 (nI (eN a))) ⟨cbE 1 (wd_1621 hE) (wd_126 hE) (wd_1618 hE) rfl rfl (by decide +kernel) ⟨Nat.le_of_ble_eq_true rfl, Nat.le_of_ble_eq_true rfl⟩, (wd_1620 hE), (wd_80 hE)⟩ ⟨PR.blind, r_recv hK hP rfl, (r_pre (av := [.ref (b 0), .int (nI (eN a))]) hK hP hJ hE)⟩ rfl rfl hl.1 rfl (lv_room (Nat.le_of_ble_eq_true rfl)) dX12_many_60 ⟨Nat.le_of_ble_eq_true rfl, Nat.le_of_ble_eq_true rfl⟩) (fun r8 u8 H locs hpo8 hP hS => ?_)
    obtain ⟨hr8, hq8⟩ := hpo8
    have hA9 := (hq8.1 1 List.not_mem_nil).trans hA1
    have hfr := FR.step hfr hq8 (fun _ h => absurd h List.not_mem_nil) (by decide) (fun h => rfl)
    refine W.eq (g2 := F0 m 63 ls [.int (nI (eN a))]) (by rw [hr8]) ?_
    exact W.iret (v := nI (eN a)) hx hb hr (fun t ht hW => ⟨⟨nI (eN a), u8, rfl, ⟨trivial, hfr⟩, (show va_P (dC, dI) vwCl (rW cs b u8) t.heap by rw [ht]; exact hP)⟩, hS.F ht⟩) hS.2.2 dX12_many_63
  by_cases t10 : x = 2
  · refine lv_tableIn (tgt := 64) hx hb dX12_many_1 (by rw [t10]; decide) (by rw [t10]; decide) (by rw [t10]; rfl) (by decide) ?_
    refine lv_aload_n hx hb dX12_many_64 rfl (lv_at hl 0 rfl) ?_
    refine lv_aload_n hx hb dX12_many_65 rfl (lv_at hl 0 rfl) ?_
    refine lv_iconst (v := 2) hx hb dX12_many_66 (by decide) ?_
    refine vp_callSi (va_Run.run (va_runV (As := [.int (nI 2)]) (rest := [.ref (b 0)]) ⟨hx, hb, hml, hown, noTs⟩ (r_X12_of l dC dI s.heap.size cs b u a hA1 2 (by first | assumption | omega | rfl | (congr 1; omega))) ⟨cbE 1 (wd_1536 hE) (wd_126 hE) (wd_1533 hE) rfl rfl (by decide +kernel) ⟨Nat.le_of_ble_eq_true rfl, Nat.le_of_ble_eq_true rfl⟩, (wd_1535 hE), (wd_61 hE)⟩ ⟨PR.blind, r_recv hK hP rfl, (r_pre (av := [.ref (b 0), .int (nI 2)]) hK hP hJ hE)⟩ rfl rfl hl.1 rfl (lv_room (Nat.le_of_ble_eq_true rfl)) dX12_many_67 ⟨Nat.le_of_ble_eq_true rfl, Nat.le_of_ble_eq_true rfl⟩)) (fun r11 hr11 => ?_)
    have hr11 := hr11.trans ((bg_w hB).1)
    subst hr11
    refine rc_i hAL hS hA (va_runV (As := [.int (nI (wN a))]) (rest := []) ⟨hx, hb, hml, hown, noTs⟩ (r_X12_gives l dC dI s.heap.size cs b u a hA1 (nI (wN a))) ⟨cbE 1 (wd_1621 hE) (wd_126 hE) (wd_1618 hE) rfl rfl (by decide +kernel) ⟨Nat.le_of_ble_eq_true rfl, Nat.le_of_ble_eq_true rfl⟩, (wd_1620 hE), (wd_80 hE)⟩ ⟨PR.blind, r_recv hK hP rfl, (r_pre (av := [.ref (b 0), .int (nI (wN a))]) hK hP hJ hE)⟩ rfl rfl hl.1 rfl (lv_room (Nat.le_of_ble_eq_true rfl)) dX12_many_70 ⟨Nat.le_of_ble_eq_true rfl, Nat.le_of_ble_eq_true rfl⟩) (fun r12 u12 H locs hpo12 hP hS => ?_)
    obtain ⟨hr12, hq12⟩ := hpo12
    have hA13 := (hq12.1 1 List.not_mem_nil).trans hA1
    have hfr := FR.step hfr hq12 (fun _ h => absurd h List.not_mem_nil) (by decide) (fun h => rfl)
    refine W.eq (g2 := F0 m 73 ls [.int (nI (wN a))]) (by rw [hr12]) ?_
    exact W.iret (v := nI (wN a)) hx hb hr (fun t ht hW => ⟨⟨nI (wN a), u12, rfl, ⟨trivial, hfr⟩, (show va_P (dC, dI) vwCl (rW cs b u12) t.heap by rw [ht]; exact hP)⟩, hS.F ht⟩) hS.2.2 dX12_many_73
  by_cases t14 : x = 3
  · refine lv_tableIn (tgt := 74) hx hb dX12_many_1 (by rw [t14]; decide) (by rw [t14]; decide) (by rw [t14]; rfl) (by decide) ?_
    refine lv_aload_n hx hb dX12_many_74 rfl (lv_at hl 0 rfl) ?_
    refine lv_aload_n hx hb dX12_many_75 rfl (lv_at hl 0 rfl) ?_
    obtain ⟨y15, hy15⟩ : ∃ z : Int32, rF u 2 = z := ⟨_, rfl⟩
    refine r_get (v := .int y15) hx hb (ly_X12 hE) hown hK hP rfl 2 (by decide) (wd_1383 hE) (fun _ h9 => h9) (congrArg (fun z : Int32 => some (Value.int z)) hy15) dX12_many_76 ?_
    refine rc_i hAL hS hA (va_runV (As := [.int y15]) (rest := []) ⟨hx, hb, hml, hown, noTs⟩ (r_X12_gives l dC dI s.heap.size cs b u a hA1 y15) ⟨cbE 1 (wd_1621 hE) (wd_126 hE) (wd_1618 hE) rfl rfl (by decide +kernel) ⟨Nat.le_of_ble_eq_true rfl, Nat.le_of_ble_eq_true rfl⟩, (wd_1620 hE), (wd_80 hE)⟩ ⟨PR.blind, r_recv hK hP rfl, (r_pre (av := [.ref (b 0), .int y15]) hK hP hJ hE)⟩ rfl rfl hl.1 rfl (lv_room (Nat.le_of_ble_eq_true rfl)) dX12_many_79 ⟨Nat.le_of_ble_eq_true rfl, Nat.le_of_ble_eq_true rfl⟩) (fun r16 u16 H locs hpo16 hP hS => ?_)
    obtain ⟨hr16, hq16⟩ := hpo16
    have hA17 := (hq16.1 1 List.not_mem_nil).trans hA1
    have hF18x := (hq16.2.1 2 (by decide)).trans hy15
    have hfr := FR.step hfr hq16 (fun _ h => absurd h List.not_mem_nil) (by decide) (fun h => rfl)
    refine W.eq (g2 := F0 m 82 ls [.int y15]) (by rw [hr16]) ?_
    exact W.iret (v := y15) hx hb hr (fun t ht hW => ⟨⟨y15, u16, rfl, ⟨trivial, hfr⟩, (show va_P (dC, dI) vwCl (rW cs b u16) t.heap by rw [ht]; exact hP)⟩, hS.F ht⟩) hS.2.2 dX12_many_82
  by_cases t19 : x = 4
  · refine lv_tableIn (tgt := 83) hx hb dX12_many_1 (by rw [t19]; decide) (by rw [t19]; decide) (by rw [t19]; rfl) (by decide) ?_
    refine lv_aload_n hx hb dX12_many_83 rfl (lv_at hl 0 rfl) ?_
    refine lv_aload_n hx hb dX12_many_84 rfl (lv_at hl 0 rfl) ?_
    obtain ⟨y20, hy20⟩ : ∃ z : Int32, rF u 3 = z := ⟨_, rfl⟩
    refine r_get (v := .int y20) hx hb (ly_X12 hE) hown hK hP rfl 3 (by decide) (wd_1384 hE) (fun _ h9 => h9) (congrArg (fun z : Int32 => some (Value.int z)) hy20) dX12_many_85 ?_
    refine rc_i hAL hS hA (va_runV (As := [.int y20]) (rest := []) ⟨hx, hb, hml, hown, noTs⟩ (r_X12_gives l dC dI s.heap.size cs b u a hA1 y20) ⟨cbE 1 (wd_1621 hE) (wd_126 hE) (wd_1618 hE) rfl rfl (by decide +kernel) ⟨Nat.le_of_ble_eq_true rfl, Nat.le_of_ble_eq_true rfl⟩, (wd_1620 hE), (wd_80 hE)⟩ ⟨PR.blind, r_recv hK hP rfl, (r_pre (av := [.ref (b 0), .int y20]) hK hP hJ hE)⟩ rfl rfl hl.1 rfl (lv_room (Nat.le_of_ble_eq_true rfl)) dX12_many_88 ⟨Nat.le_of_ble_eq_true rfl, Nat.le_of_ble_eq_true rfl⟩) (fun r21 u21 H locs hpo21 hP hS => ?_)
    obtain ⟨hr21, hq21⟩ := hpo21
    have hA22 := (hq21.1 1 List.not_mem_nil).trans hA1
    have hF23x := (hq21.2.1 3 (by decide)).trans hy20
    have hfr := FR.step hfr hq21 (fun _ h => absurd h List.not_mem_nil) (by decide) (fun h => rfl)
    refine W.eq (g2 := F0 m 91 ls [.int y20]) (by rw [hr21]) ?_
    exact W.iret (v := y20) hx hb hr (fun t ht hW => ⟨⟨y20, u21, rfl, ⟨trivial, hfr⟩, (show va_P (dC, dI) vwCl (rW cs b u21) t.heap by rw [ht]; exact hP)⟩, hS.F ht⟩) hS.2.2 dX12_many_91
  by_cases t24 : x = 5
  · refine lv_tableIn (tgt := 92) hx hb dX12_many_1 (by rw [t24]; decide) (by rw [t24]; decide) (by rw [t24]; rfl) (by decide) ?_
    refine lv_aload_n hx hb dX12_many_92 rfl (lv_at hl 0 rfl) ?_
    refine lv_aload_n hx hb dX12_many_93 rfl (lv_at hl 0 rfl) ?_
    refine lv_iconst (v := 1) hx hb dX12_many_94 (by decide) ?_
    refine vp_callSi (va_Run.run (va_runV (As := [.int (nI 1)]) (rest := [.ref (b 0)]) ⟨hx, hb, hml, hown, noTs⟩ (r_X12_of l dC dI s.heap.size cs b u a hA1 1 (by first | assumption | omega | rfl | (congr 1; omega))) ⟨cbE 1 (wd_1536 hE) (wd_126 hE) (wd_1533 hE) rfl rfl (by decide +kernel) ⟨Nat.le_of_ble_eq_true rfl, Nat.le_of_ble_eq_true rfl⟩, (wd_1535 hE), (wd_61 hE)⟩ ⟨PR.blind, r_recv hK hP rfl, (r_pre (av := [.ref (b 0), .int (nI 1)]) hK hP hJ hE)⟩ rfl rfl hl.1 rfl (lv_room (Nat.le_of_ble_eq_true rfl)) dX12_many_95 ⟨Nat.le_of_ble_eq_true rfl, Nat.le_of_ble_eq_true rfl⟩)) (fun r25 hr25 => ?_)
    have hr25 := hr25.trans (gg_e hG)
    subst hr25
    refine lv_aload_n hx hb dX12_many_98 rfl (lv_at hl 0 rfl) ?_
    refine lv_iconst (v := 0) hx hb dX12_many_99 (by decide) ?_
    refine vp_callSi (va_Run.run (va_runV (As := [.int (nI 0)]) (rest := [.int (nI (eN a)), .ref (b 0)]) ⟨hx, hb, hml, hown, noTs⟩ (r_X12_of l dC dI s.heap.size cs b u a hA1 0 (by first | assumption | omega | rfl | (congr 1; omega))) ⟨cbE 1 (wd_1536 hE) (wd_126 hE) (wd_1533 hE) rfl rfl (by decide +kernel) ⟨Nat.le_of_ble_eq_true rfl, Nat.le_of_ble_eq_true rfl⟩, (wd_1535 hE), (wd_61 hE)⟩ ⟨PR.blind, r_recv hK hP rfl, (r_pre (av := [.ref (b 0), .int (nI 0)]) hK hP hJ hE)⟩ rfl rfl hl.1 rfl (lv_room (Nat.le_of_ble_eq_true rfl)) dX12_many_100 ⟨Nat.le_of_ble_eq_true rfl, Nat.le_of_ble_eq_true rfl⟩)) (fun r26 hr26 => ?_)
    have hr26 := hr26.trans (gg_v hG)
    subst hr26
    refine lv_isub hx hb dX12_many_103 ?_
    refine lv_topi (fun x27 ex27 => ?_)
    refine lv_aload_n hx hb dX12_many_104 rfl (lv_at hl 0 rfl) ?_
    refine vp_callSi (va_Run.run (va_runV (As := []) (rest := [.int x27, .ref (b 0)]) ⟨hx, hb, hml, hown, noTs⟩ (r_X12_parts l dC dI s.heap.size cs b u a hA1 (by first | assumption | omega | rfl | (congr 1; omega))) ⟨cbE 0 (wd_1633 hE) (wd_126 hE) (wd_1630 hE) rfl rfl (by decide +kernel) ⟨Nat.le_of_ble_eq_true rfl, Nat.le_of_ble_eq_true rfl⟩, (wd_1632 hE), (wd_81 hE)⟩ ⟨PR.blind, r_recv hK hP rfl, (r_pre (av := [.ref (b 0)]) hK hP hJ hE)⟩ rfl rfl hl.1 rfl (lv_room (Nat.le_of_ble_eq_true rfl)) dX12_many_105 ⟨Nat.le_of_ble_eq_true rfl, Nat.le_of_ble_eq_true rfl⟩)) (fun r28 hr28 => ?_)
    refine lv_iadd hx hb dX12_many_108 ?_
    refine lv_topi (fun x29 ex29 => ?_)
    refine rc_i hAL hS hA (va_runV (As := [.int x29]) (rest := []) ⟨hx, hb, hml, hown, noTs⟩ (r_X12_gives l dC dI s.heap.size cs b u a hA1 x29) ⟨cbE 1 (wd_1621 hE) (wd_126 hE) (wd_1618 hE) rfl rfl (by decide +kernel) ⟨Nat.le_of_ble_eq_true rfl, Nat.le_of_ble_eq_true rfl⟩, (wd_1620 hE), (wd_80 hE)⟩ ⟨PR.blind, r_recv hK hP rfl, (r_pre (av := [.ref (b 0), .int x29]) hK hP hJ hE)⟩ rfl rfl hl.1 rfl (lv_room (Nat.le_of_ble_eq_true rfl)) dX12_many_109 ⟨Nat.le_of_ble_eq_true rfl, Nat.le_of_ble_eq_true rfl⟩) (fun r30 u30 H locs hpo30 hP hS => ?_)
    obtain ⟨hr30, hq30⟩ := hpo30
    have hA31 := (hq30.1 1 List.not_mem_nil).trans hA1
    have hfr := FR.step hfr hq30 (fun _ h => absurd h List.not_mem_nil) (by decide) (fun h => rfl)
    refine W.eq (g2 := F0 m 112 ls [.int x29]) (by rw [hr30]) ?_
    exact W.iret (v := x29) hx hb hr (fun t ht hW => ⟨⟨x29, u30, rfl, ⟨trivial, hfr⟩, (show va_P (dC, dI) vwCl (rW cs b u30) t.heap by rw [ht]; exact hP)⟩, hS.F ht⟩) hS.2.2 dX12_many_112
  by_cases t32 : x = 6
  · refine lv_tableIn (tgt := 113) hx hb dX12_many_1 (by rw [t32]; decide) (by rw [t32]; decide) (by rw [t32]; rfl) (by decide) ?_
    refine lv_aload_n hx hb dX12_many_113 rfl (lv_at hl 0 rfl) ?_
    refine lv_aload_n hx hb dX12_many_114 rfl (lv_at hl 0 rfl) ?_
    refine vp_callSi (va_Run.run (va_runV (As := []) (rest := [.ref (b 0)]) ⟨hx, hb, hml, hown, noTs⟩ (r_X12_parts l dC dI s.heap.size cs b u a hA1 (by first | assumption | omega | rfl | (congr 1; omega))) ⟨cbE 0 (wd_1633 hE) (wd_126 hE) (wd_1630 hE) rfl rfl (by decide +kernel) ⟨Nat.le_of_ble_eq_true rfl, Nat.le_of_ble_eq_true rfl⟩, (wd_1632 hE), (wd_81 hE)⟩ ⟨PR.blind, r_recv hK hP rfl, (r_pre (av := [.ref (b 0)]) hK hP hJ hE)⟩ rfl rfl hl.1 rfl (lv_room (Nat.le_of_ble_eq_true rfl)) dX12_many_115 ⟨Nat.le_of_ble_eq_true rfl, Nat.le_of_ble_eq_true rfl⟩)) (fun r33 hr33 => ?_)
    refine rc_i hAL hS hA (va_runV (As := [.int r33]) (rest := []) ⟨hx, hb, hml, hown, noTs⟩ (r_X12_gives l dC dI s.heap.size cs b u a hA1 r33) ⟨cbE 1 (wd_1621 hE) (wd_126 hE) (wd_1618 hE) rfl rfl (by decide +kernel) ⟨Nat.le_of_ble_eq_true rfl, Nat.le_of_ble_eq_true rfl⟩, (wd_1620 hE), (wd_80 hE)⟩ ⟨PR.blind, r_recv hK hP rfl, (r_pre (av := [.ref (b 0), .int r33]) hK hP hJ hE)⟩ rfl rfl hl.1 rfl (lv_room (Nat.le_of_ble_eq_true rfl)) dX12_many_118 ⟨Nat.le_of_ble_eq_true rfl, Nat.le_of_ble_eq_true rfl⟩) (fun r34 u34 H locs hpo34 hP hS => ?_)
    obtain ⟨hr34, hq34⟩ := hpo34
    have hA35 := (hq34.1 1 List.not_mem_nil).trans hA1
    have hfr := FR.step hfr hq34 (fun _ h => absurd h List.not_mem_nil) (by decide) (fun h => rfl)
    refine W.eq (g2 := F0 m 121 ls [.int r33]) (by rw [hr34]) ?_
    exact W.iret (v := r33) hx hb hr (fun t ht hW => ⟨⟨r33, u34, rfl, ⟨trivial, hfr⟩, (show va_P (dC, dI) vwCl (rW cs b u34) t.heap by rw [ht]; exact hP)⟩, hS.F ht⟩) hS.2.2 dX12_many_121
  have t2 := mt (b_eq (rfl : Int32.toInt x = _) (show Int32.toInt 0 = 0 from rfl)).mpr t2
  have t6 := mt (b_eq (rfl : Int32.toInt x = _) (show Int32.toInt 1 = 1 from rfl)).mpr t6
  have t10 := mt (b_eq (rfl : Int32.toInt x = _) (show Int32.toInt 2 = 2 from rfl)).mpr t10
  have t14 := mt (b_eq (rfl : Int32.toInt x = _) (show Int32.toInt 3 = 3 from rfl)).mpr t14
  have t19 := mt (b_eq (rfl : Int32.toInt x = _) (show Int32.toInt 4 = 4 from rfl)).mpr t19
  have t24 := mt (b_eq (rfl : Int32.toInt x = _) (show Int32.toInt 5 = 5 from rfl)).mpr t24
  have t32 := mt (b_eq (rfl : Int32.toInt x = _) (show Int32.toInt 6 = 6 from rfl)).mpr t32
  have hT36 : x.toInt < 0 ∨ 6 < x.toInt := by omega
  refine lv_tableOut (tgt := 122) hx hb dX12_many_1 hT36 (by decide) ?_
  refine lv_aload_n hx hb dX12_many_122 rfl (lv_at hl 0 rfl) ?_
  refine lv_iconst (v := 1) hx hb dX12_many_123 (by decide) ?_
  refine rc_i hAL hS hA (va_runV (As := [.int 1]) (rest := []) ⟨hx, hb, hml, hown, noTs⟩ (r_X12_refuse l dC dI s.heap.size cs b u a hA1 1) ⟨cbE 1 (wd_1498 hE) (wd_126 hE) (wd_1495 hE) rfl rfl (by decide +kernel) ⟨Nat.le_of_ble_eq_true rfl, Nat.le_of_ble_eq_true rfl⟩, (wd_1497 hE), (wd_54 hE)⟩ ⟨PR.blind, r_recv hK hP rfl, (r_pre (av := [.ref (b 0), .int 1]) hK hP hJ hE)⟩ rfl rfl hl.1 rfl (lv_room (Nat.le_of_ble_eq_true rfl)) dX12_many_124 ⟨Nat.le_of_ble_eq_true rfl, Nat.le_of_ble_eq_true rfl⟩) (fun r37 u37 H locs hpo37 hP hS => ?_)
  obtain ⟨hr37, hq37⟩ := hpo37
  have hA38 := (hq37.1 1 List.not_mem_nil).trans hA1
  have hfr := FR.step hfr hq37 (fun _ h => absurd h List.not_mem_nil) (by decide) (fun h => rfl)
  subst hr37
  exact W.iret (v := -1) hx hb hr (fun t ht hW => ⟨⟨-1, u37, rfl, ⟨trivial, hfr⟩, (show va_P (dC, dI) vwCl (rW cs b u37) t.heap by rw [ht]; exact hP)⟩, hS.F ht⟩) hS.2.2 dX12_many_127

set_option maxHeartbeats 4000000 in
set_option maxRecDepth 100000 in
theorem r_X12_order (l : Launch) (dC : Nat → ClassId) (dI : Nat → Nat → Nat) (sz : Nat) (cs : Nat → ClassId) (b : Nat → Nat) (u : RS) (a : Nat → Int32) (hA1 : rA u 1 = a) (x : Int32) (hp0 : BG a) : Met l yX12_order [.code yX12_order cX12_order 2 (some .int)] ({ frames := 2, cells := 0, slots := 0, locals := 80 }) (PR [.ref (b 0), .int x] sz dC dI cs b u) (va_Qi (fun (r : Int32) (u' : RS) => (True) ∧ FR [3, 4, 5, 6, 7, 8, 9, 10, 11, 12, 13, 14, 17, 18, 19, 20] [1, 5, 21, 22] true u u') (BR dC dI cs b) (AR b sz)) 0 0 (AR b sz) := by
  refine Met.ofW (cc := cX12_order) (maxL := 2) (ret := (some .int)) (by decide) rfl ?_
  intro p e s m args below meth c s₁ B hml hv
  obtain ⟨rfl, hsz, hP, hK, hJ, hE⟩ := hv
  have hx := B.exec
  have hb := B.bytes
  have hr := B.returns
  have hown : s.vm.findClass RX12 = some m.cls := findClass_of_methodNamed B.named
  have hlocks := B.notSynchronized
  subst hsz
  have hAL : ∀ i, i < 108 → AR b s.heap.size (b i) := fun i h => Or.inl ⟨i, h, rfl⟩
  have hA : ∀ q : Nat, s.heap.size ≤ q → AR b s.heap.size q := fun q h => Or.inr h
  have hS : va_S (AR b s.heap.size) s.heap s.heap [] := va_S.rf
  have hfr : FR [3, 4, 5, 6, 7, 8, 9, 10, 11, 12, 13, 14, 17, 18, 19, 20] [1, 5, 21, 22] true u u := FR.refl
  have hl := lv_entry ([.ref (b 0), .int x]) (n := 2) (Nat.le_of_ble_eq_true rfl)
  rw [lg_entry_eq]
  generalize (lg_sl ([.ref (b 0), .int x]) ++ List.replicate (2 - (lg_sl ([.ref (b 0), .int x])).length) Slot.unset).toArray = ls at hl ⊢
  have hl : lv_has ls 2 [(0, .ref (b 0)), (1, .int x)] := hl
  have hB := hp0
  have hG := bg_g hp0
  have ha1 := gg_le hG
  have ha1b := bg_w hp0
  refine lv_aload_n hx hb dX12_order_0 rfl (lv_at hl 0 rfl) ?_
  refine lv_iload_n hx hb dX12_order_1 rfl (lv_at hl 1 rfl) ?_
  refine vp_callSi (va_Run.run (va_runV (As := [.int x]) (rest := []) ⟨hx, hb, hml, hown, noTs⟩ (r_X12_isVertex l dC dI s.heap.size cs b u a hA1 x (by first | assumption | omega | rfl | (congr 1; omega))) ⟨cbE 1 (wd_1560 hE) (wd_126 hE) (wd_1557 hE) rfl rfl (by decide +kernel) ⟨Nat.le_of_ble_eq_true rfl, Nat.le_of_ble_eq_true rfl⟩, (wd_1559 hE), (wd_67 hE)⟩ ⟨PR.blind, r_recv hK hP rfl, (r_pre (av := [.ref (b 0), .int x]) hK hP hJ hE)⟩ rfl rfl hl.1 rfl (lv_room (Nat.le_of_ble_eq_true rfl)) dX12_order_2 ⟨Nat.le_of_ble_eq_true rfl, Nat.le_of_ble_eq_true rfl⟩)) (fun r2 hr2 => ?_)
  rcases hr2 with ⟨rfl, hb2⟩ | ⟨rfl, hb2⟩
  · obtain ⟨n2, hbe2_1, hb2⟩ := hb2
    subst hbe2_1
    have hti3 := nI_toInt (n := n2) (by omega)
    refine lv_if_eq (tgt := 20) hx hb dX12_order_5 (by decide) (fun c4 => absurd c4 (by decide)) (fun c4 => ?_)
    refine lv_aload_n hx hb dX12_order_8 rfl (lv_at hl 0 rfl) ?_
    refine lv_aload_n hx hb dX12_order_9 rfl (lv_at hl 0 rfl) ?_
    refine lv_iload_n hx hb dX12_order_10 rfl (lv_at hl 1 rfl) ?_
    refine vp_callSi (va_Run.run (va_runV (As := [.int (nI n2)]) (rest := [.ref (b 0)]) ⟨hx, hb, hml, hown, noTs⟩ (r_X12_orderAt l dC dI s.heap.size cs b u a hA1 n2 (by first | assumption | omega | rfl | (congr 1; omega)) (by first | assumption | omega | rfl | (congr 1; omega))) ⟨cbE 1 (wd_1564 hE) (wd_126 hE) (wd_1561 hE) rfl rfl (by decide +kernel) ⟨Nat.le_of_ble_eq_true rfl, Nat.le_of_ble_eq_true rfl⟩, (wd_1563 hE), (wd_68 hE)⟩ ⟨PR.blind, r_recv hK hP rfl, (r_pre (av := [.ref (b 0), .int (nI n2)]) hK hP hJ hE)⟩ rfl rfl hl.1 rfl (lv_room (Nat.le_of_ble_eq_true rfl)) dX12_order_11 ⟨Nat.le_of_ble_eq_true rfl, Nat.le_of_ble_eq_true rfl⟩)) (fun r5 hr5 => ?_)
    have hau5 := (gg_od (a := a) (v := n2) (by assumption) (by first | assumption | omega)).2
    subst hr5
    refine rc_i hAL hS hA (va_runV (As := [.int (nI (od a n2))]) (rest := []) ⟨hx, hb, hml, hown, noTs⟩ (r_X12_gives l dC dI s.heap.size cs b u a hA1 (nI (od a n2))) ⟨cbE 1 (wd_1621 hE) (wd_126 hE) (wd_1618 hE) rfl rfl (by decide +kernel) ⟨Nat.le_of_ble_eq_true rfl, Nat.le_of_ble_eq_true rfl⟩, (wd_1620 hE), (wd_80 hE)⟩ ⟨PR.blind, r_recv hK hP rfl, (r_pre (av := [.ref (b 0), .int (nI (od a n2))]) hK hP hJ hE)⟩ rfl rfl hl.1 rfl (lv_room (Nat.le_of_ble_eq_true rfl)) dX12_order_14 ⟨Nat.le_of_ble_eq_true rfl, Nat.le_of_ble_eq_true rfl⟩) (fun r6 u6 H locs hpo6 hP hS => ?_)
    obtain ⟨hr6, hq6⟩ := hpo6
    have hA7 := (hq6.1 1 List.not_mem_nil).trans hA1
    have hfr := FR.step hfr hq6 (fun _ h => absurd h List.not_mem_nil) (by decide) (fun h => rfl)
    refine W.eq (g2 := F0 m 17 ls [.int (nI (od a n2))]) (by rw [hr6]) ?_
    refine lv_goto (tgt := 25) hx hb dX12_order_17 (by decide) ?_
    exact W.iret (v := nI (od a n2)) hx hb hr (fun t ht hW => ⟨⟨nI (od a n2), u6, rfl, ⟨trivial, hfr⟩, (show va_P (dC, dI) vwCl (rW cs b u6) t.heap by rw [ht]; exact hP)⟩, hS.F ht⟩) hS.2.2 dX12_order_25
  · refine lv_if_eq (tgt := 20) hx hb dX12_order_5 (by decide) (fun c8 => ?_) (fun c8 => absurd c8 (by decide))
    refine lv_aload_n hx hb dX12_order_20 rfl (lv_at hl 0 rfl) ?_
    refine lv_iconst (v := 2) hx hb dX12_order_21 (by decide) ?_
    refine rc_i hAL hS hA (va_runV (As := [.int 2]) (rest := []) ⟨hx, hb, hml, hown, noTs⟩ (r_X12_refuse l dC dI s.heap.size cs b u a hA1 2) ⟨cbE 1 (wd_1498 hE) (wd_126 hE) (wd_1495 hE) rfl rfl (by decide +kernel) ⟨Nat.le_of_ble_eq_true rfl, Nat.le_of_ble_eq_true rfl⟩, (wd_1497 hE), (wd_54 hE)⟩ ⟨PR.blind, r_recv hK hP rfl, (r_pre (av := [.ref (b 0), .int 2]) hK hP hJ hE)⟩ rfl rfl hl.1 rfl (lv_room (Nat.le_of_ble_eq_true rfl)) dX12_order_22 ⟨Nat.le_of_ble_eq_true rfl, Nat.le_of_ble_eq_true rfl⟩) (fun r9 u9 H locs hpo9 hP hS => ?_)
    obtain ⟨hr9, hq9⟩ := hpo9
    have hA10 := (hq9.1 1 List.not_mem_nil).trans hA1
    have hfr := FR.step hfr hq9 (fun _ h => absurd h List.not_mem_nil) (by decide) (fun h => rfl)
    subst hr9
    exact W.iret (v := -1) hx hb hr (fun t ht hW => ⟨⟨-1, u9, rfl, ⟨trivial, hfr⟩, (show va_P (dC, dI) vwCl (rW cs b u9) t.heap by rw [ht]; exact hP)⟩, hS.F ht⟩) hS.2.2 dX12_order_25

set_option maxHeartbeats 4000000 in
set_option maxRecDepth 100000 in
theorem r_X12_edge (l : Launch) (dC : Nat → ClassId) (dI : Nat → Nat → Nat) (sz : Nat) (cs : Nat → ClassId) (b : Nat → Nat) (u : RS) (a : Nat → Int32) (hA1 : rA u 1 = a) (x : Int32) (y : Int32) (hp0 : BG a) : Met l yX12_edge [.code yX12_edge cX12_edge 3 (some .int)] ({ frames := 2, cells := 0, slots := 0, locals := 80 }) (PR [.ref (b 0), .int x, .int y] sz dC dI cs b u) (va_Qi (fun (r : Int32) (u' : RS) => (True) ∧ FR [3, 4, 5, 6, 7, 8, 9, 10, 11, 12, 13, 14, 17, 18, 19, 20] [1, 5, 21, 22] true u u') (BR dC dI cs b) (AR b sz)) 0 0 (AR b sz) := by
  refine Met.ofW (cc := cX12_edge) (maxL := 3) (ret := (some .int)) (by decide) rfl ?_
  intro p e s m args below meth c s₁ B hml hv
  obtain ⟨rfl, hsz, hP, hK, hJ, hE⟩ := hv
  have hx := B.exec
  have hb := B.bytes
  have hr := B.returns
  have hown : s.vm.findClass RX12 = some m.cls := findClass_of_methodNamed B.named
  have hlocks := B.notSynchronized
  subst hsz
  have hAL : ∀ i, i < 108 → AR b s.heap.size (b i) := fun i h => Or.inl ⟨i, h, rfl⟩
  have hA : ∀ q : Nat, s.heap.size ≤ q → AR b s.heap.size q := fun q h => Or.inr h
  have hS : va_S (AR b s.heap.size) s.heap s.heap [] := va_S.rf
  have hfr : FR [3, 4, 5, 6, 7, 8, 9, 10, 11, 12, 13, 14, 17, 18, 19, 20] [1, 5, 21, 22] true u u := FR.refl
  have hl := lv_entry ([.ref (b 0), .int x, .int y]) (n := 3) (Nat.le_of_ble_eq_true rfl)
  rw [lg_entry_eq]
  generalize (lg_sl ([.ref (b 0), .int x, .int y]) ++ List.replicate (3 - (lg_sl ([.ref (b 0), .int x, .int y])).length) Slot.unset).toArray = ls at hl ⊢
  have hl : lv_has ls 3 [(0, .ref (b 0)), (1, .int x), (2, .int y)] := hl
  have hB := hp0
  have hG := bg_g hp0
  have ha1 := gg_le hG
  have ha1b := bg_w hp0
  refine lv_iload_n hx hb dX12_edge_0 rfl (lv_at hl 2 rfl) ?_
  refine lv_iconst (v := 0) hx hb dX12_edge_1 (by decide) ?_
  refine lv_iconst (v := 4) hx hb dX12_edge_2 (by decide) ?_
  refine vp_callSi (va_Run.run (va_runS (As := [.int y, .int 0, .int 4]) (rest := []) ⟨hx, hb, hml, hown, noTs⟩ (r_X12_isFrom l dC dI s.heap.size cs b u a hA1 y 0 4 ((0 : Int)) ((4 : Int)) (show Int32.toInt 0 = 0 from rfl) (show Int32.toInt 4 = 4 from rfl)) ⟨cbE 3 (wd_1494 hE) (wd_126 hE) (wd_1492 hE) rfl rfl (by decide +kernel) ⟨Nat.le_of_ble_eq_true rfl, Nat.le_of_ble_eq_true rfl⟩, (wd_1493 hE)⟩ ⟨PR.blind, (r_pre (av := [.int y, .int 0, .int 4]) hK hP hJ hE)⟩ rfl rfl hl.1 rfl (lv_room (Nat.le_of_ble_eq_true rfl)) dX12_edge_3 ⟨Nat.le_of_ble_eq_true rfl, Nat.le_of_ble_eq_true rfl⟩)) (fun r2 hr2 => ?_)
  rcases hr2 with ⟨rfl, hb2⟩ | ⟨rfl, hb2⟩
  · refine lv_if_ne (tgt := 15) hx hb dX12_edge_6 (by decide) (fun c3 => ?_) (fun c3 => absurd c3 (by decide))
    refine lv_aload_n hx hb dX12_edge_15 rfl (lv_at hl 0 rfl) ?_
    refine lv_iload_n hx hb dX12_edge_16 rfl (lv_at hl 1 rfl) ?_
    refine vp_callSi (va_Run.run (va_runV (As := [.int x]) (rest := []) ⟨hx, hb, hml, hown, noTs⟩ (r_X12_isEdge l dC dI s.heap.size cs b u a hA1 x (by first | assumption | omega | rfl | (congr 1; omega))) ⟨cbE 1 (wd_1587 hE) (wd_126 hE) (wd_1584 hE) rfl rfl (by decide +kernel) ⟨Nat.le_of_ble_eq_true rfl, Nat.le_of_ble_eq_true rfl⟩, (wd_1586 hE), (wd_73 hE)⟩ ⟨PR.blind, r_recv hK hP rfl, (r_pre (av := [.ref (b 0), .int x]) hK hP hJ hE)⟩ rfl rfl hl.1 rfl (lv_room (Nat.le_of_ble_eq_true rfl)) dX12_edge_17 ⟨Nat.le_of_ble_eq_true rfl, Nat.le_of_ble_eq_true rfl⟩)) (fun r4 hr4 => ?_)
    rcases hr4 with ⟨rfl, hb4⟩ | ⟨rfl, hb4⟩
    · obtain ⟨n4, hbe4_1, hb4⟩ := hb4
      subst hbe4_1
      have hti5 := nI_toInt (n := n4) (by omega)
      refine lv_if_ne (tgt := 29) hx hb dX12_edge_20 (by decide) (fun c6 => ?_) (fun c6 => absurd c6 (by decide))
      refine lv_aload_n hx hb dX12_edge_29 rfl (lv_at hl 0 rfl) ?_
      refine lv_iload_n hx hb dX12_edge_30 rfl (lv_at hl 2 rfl) ?_
      refine lv_iconst (v := 4) hx hb dX12_edge_31 (by decide) ?_
      refine lv_icmp_ge (tgt := 44) hx hb dX12_edge_32 (by decide) (fun c7 => ?_) (fun c7 => ?_)
      · have c7 := (b_le (show Int32.toInt 4 = 4 from rfl) (rfl : Int32.toInt y = _)).mp c7
        refine lv_aload_n hx hb dX12_edge_44 rfl (lv_at hl 0 rfl) ?_
        refine lv_aload_n hx hb dX12_edge_45 rfl (lv_at hl 0 rfl) ?_
        refine lv_iload_n hx hb dX12_edge_46 rfl (lv_at hl 1 rfl) ?_
        refine lv_iconst (v := 0) hx hb dX12_edge_47 (by decide) ?_
        refine vp_callSi (va_Run.run (va_runV (As := [.int (nI n4), .int (nI 0)]) (rest := [.ref (b 0), .ref (b 0)]) ⟨hx, hb, hml, hown, noTs⟩ (r_X12_ofEdge l dC dI s.heap.size cs b u a hA1 n4 0 (by first | assumption | omega | rfl | (congr 1; omega)) (by first | assumption | omega | rfl | (congr 1; omega)) (by first | assumption | omega | rfl | (congr 1; omega))) ⟨cbE 2 (wd_1595 hE) (wd_126 hE) (wd_1592 hE) rfl rfl (by decide +kernel) ⟨Nat.le_of_ble_eq_true rfl, Nat.le_of_ble_eq_true rfl⟩, (wd_1594 hE), (wd_75 hE)⟩ ⟨PR.blind, r_recv hK hP rfl, (r_pre (av := [.ref (b 0), .int (nI n4), .int (nI 0)]) hK hP hJ hE)⟩ rfl rfl hl.1 rfl (lv_room (Nat.le_of_ble_eq_true rfl)) dX12_edge_48 ⟨Nat.le_of_ble_eq_true rfl, Nat.le_of_ble_eq_true rfl⟩)) (fun r8 hr8 => ?_)
        have hev0 := (gg_edge hG (e := n4) (by omega)).2.1
        subst hr8
        refine vp_callSi (va_Run.run (va_runV (As := [.int (nI (ev a n4 0))]) (rest := [.ref (b 0)]) ⟨hx, hb, hml, hown, noTs⟩ (r_X12_orderAt l dC dI s.heap.size cs b u a hA1 (ev a n4 0) (by first | assumption | omega | rfl | (congr 1; omega)) (by first | assumption | omega | rfl | (congr 1; omega))) ⟨cbE 1 (wd_1564 hE) (wd_126 hE) (wd_1561 hE) rfl rfl (by decide +kernel) ⟨Nat.le_of_ble_eq_true rfl, Nat.le_of_ble_eq_true rfl⟩, (wd_1563 hE), (wd_68 hE)⟩ ⟨PR.blind, r_recv hK hP rfl, (r_pre (av := [.ref (b 0), .int (nI (ev a n4 0))]) hK hP hJ hE)⟩ rfl rfl hl.1 rfl (lv_room (Nat.le_of_ble_eq_true rfl)) dX12_edge_51 ⟨Nat.le_of_ble_eq_true rfl, Nat.le_of_ble_eq_true rfl⟩)) (fun r9 hr9 => ?_)
        have hau9 := (gg_od (a := a) (v := (ev a n4 0)) (by assumption) (by first | assumption | omega)).2
        subst hr9
        refine lv_aload_n hx hb dX12_edge_54 rfl (lv_at hl 0 rfl) ?_
        refine lv_iload_n hx hb dX12_edge_55 rfl (lv_at hl 1 rfl) ?_
        refine lv_iconst (v := 1) hx hb dX12_edge_56 (by decide) ?_
        refine vp_callSi (va_Run.run (va_runV (As := [.int (nI n4), .int (nI 1)]) (rest := [.int (nI (od a (ev a n4 0))), .ref (b 0)]) ⟨hx, hb, hml, hown, noTs⟩ (r_X12_ofEdge l dC dI s.heap.size cs b u a hA1 n4 1 (by first | assumption | omega | rfl | (congr 1; omega)) (by first | assumption | omega | rfl | (congr 1; omega)) (by first | assumption | omega | rfl | (congr 1; omega))) ⟨cbE 2 (wd_1595 hE) (wd_126 hE) (wd_1592 hE) rfl rfl (by decide +kernel) ⟨Nat.le_of_ble_eq_true rfl, Nat.le_of_ble_eq_true rfl⟩, (wd_1594 hE), (wd_75 hE)⟩ ⟨PR.blind, r_recv hK hP rfl, (r_pre (av := [.ref (b 0), .int (nI n4), .int (nI 1)]) hK hP hJ hE)⟩ rfl rfl hl.1 rfl (lv_room (Nat.le_of_ble_eq_true rfl)) dX12_edge_57 ⟨Nat.le_of_ble_eq_true rfl, Nat.le_of_ble_eq_true rfl⟩)) (fun r10 hr10 => ?_)
        have hix1 := gg_idx hG (s := 2 * n4) (by omega)
        have hix2 : idx a (2 * n4) = ev a n4 1 := by unfold idx; rw [if_pos (by omega), show 2 * n4 / 2 = n4 by omega]
        subst hr10
        refine lv_idiv hx hb dX12_edge_60 (nI_ne0 (n := ev a n4 1) (by omega) (by omega)) ?_
        refine W.eq (g2 := F0 m 61 ls [.int (nI ((od a (ev a n4 0)) / (ev a n4 1))), .ref (b 0)]) (congrArg (fun z : Int32 => F0 m 61 ls (.int z :: [.ref (b 0)])) (pk_div (a := od a (ev a n4 0)) (d := ev a n4 1) (by omega) (by omega) (by omega))) ?_
        have hmd11 := Nat.div_le_self (od a (ev a n4 0)) (ev a n4 1)
        refine rc_i hAL hS hA (va_runV (As := [.int (nI ((od a (ev a n4 0)) / (ev a n4 1)))]) (rest := []) ⟨hx, hb, hml, hown, noTs⟩ (r_X12_gives l dC dI s.heap.size cs b u a hA1 (nI ((od a (ev a n4 0)) / (ev a n4 1)))) ⟨cbE 1 (wd_1621 hE) (wd_126 hE) (wd_1618 hE) rfl rfl (by decide +kernel) ⟨Nat.le_of_ble_eq_true rfl, Nat.le_of_ble_eq_true rfl⟩, (wd_1620 hE), (wd_80 hE)⟩ ⟨PR.blind, r_recv hK hP rfl, (r_pre (av := [.ref (b 0), .int (nI ((od a (ev a n4 0)) / (ev a n4 1)))]) hK hP hJ hE)⟩ rfl rfl hl.1 rfl (lv_room (Nat.le_of_ble_eq_true rfl)) dX12_edge_61 ⟨Nat.le_of_ble_eq_true rfl, Nat.le_of_ble_eq_true rfl⟩) (fun r12 u12 H locs hpo12 hP hS => ?_)
        obtain ⟨hr12, hq12⟩ := hpo12
        have hA13 := (hq12.1 1 List.not_mem_nil).trans hA1
        have hfr := FR.step hfr hq12 (fun _ h => absurd h List.not_mem_nil) (by decide) (fun h => rfl)
        refine W.eq (g2 := F0 m 64 ls [.int (nI ((od a (ev a n4 0)) / (ev a n4 1)))]) (by rw [hr12]) ?_
        exact W.iret (v := nI ((od a (ev a n4 0)) / (ev a n4 1))) hx hb hr (fun t ht hW => ⟨⟨nI ((od a (ev a n4 0)) / (ev a n4 1)), u12, rfl, ⟨trivial, hfr⟩, (show va_P (dC, dI) vwCl (rW cs b u12) t.heap by rw [ht]; exact hP)⟩, hS.F ht⟩) hS.2.2 dX12_edge_64
      · have c7 := mt (b_le (show Int32.toInt 4 = 4 from rfl) (rfl : Int32.toInt y = _)).mpr c7
        obtain ⟨nx14, hi14, hj14⟩ := z_ex (x := y) (n := 4) (by omega) (by omega)
        subst hi14
        have hti15 := nI_toInt (n := nx14) (by omega)
        refine lv_aload_n hx hb dX12_edge_35 rfl (lv_at hl 0 rfl) ?_
        refine lv_iload_n hx hb dX12_edge_36 rfl (lv_at hl 1 rfl) ?_
        refine lv_iload_n hx hb dX12_edge_37 rfl (lv_at hl 2 rfl) ?_
        refine vp_callSi (va_Run.run (va_runV (As := [.int (nI n4), .int (nI nx14)]) (rest := [.ref (b 0)]) ⟨hx, hb, hml, hown, noTs⟩ (r_X12_ofEdge l dC dI s.heap.size cs b u a hA1 n4 nx14 (by first | assumption | omega | rfl | (congr 1; omega)) (by first | assumption | omega | rfl | (congr 1; omega)) (by first | assumption | omega | rfl | (congr 1; omega))) ⟨cbE 2 (wd_1595 hE) (wd_126 hE) (wd_1592 hE) rfl rfl (by decide +kernel) ⟨Nat.le_of_ble_eq_true rfl, Nat.le_of_ble_eq_true rfl⟩, (wd_1594 hE), (wd_75 hE)⟩ ⟨PR.blind, r_recv hK hP rfl, (r_pre (av := [.ref (b 0), .int (nI n4), .int (nI nx14)]) hK hP hJ hE)⟩ rfl rfl hl.1 rfl (lv_room (Nat.le_of_ble_eq_true rfl)) dX12_edge_38 ⟨Nat.le_of_ble_eq_true rfl, Nat.le_of_ble_eq_true rfl⟩)) (fun r16 hr16 => ?_)
        subst hr16
        refine lv_goto (tgt := 61) hx hb dX12_edge_41 (by decide) ?_
        refine rc_i hAL hS hA (va_runV (As := [.int (nI (ev a n4 nx14))]) (rest := []) ⟨hx, hb, hml, hown, noTs⟩ (r_X12_gives l dC dI s.heap.size cs b u a hA1 (nI (ev a n4 nx14))) ⟨cbE 1 (wd_1621 hE) (wd_126 hE) (wd_1618 hE) rfl rfl (by decide +kernel) ⟨Nat.le_of_ble_eq_true rfl, Nat.le_of_ble_eq_true rfl⟩, (wd_1620 hE), (wd_80 hE)⟩ ⟨PR.blind, r_recv hK hP rfl, (r_pre (av := [.ref (b 0), .int (nI (ev a n4 nx14))]) hK hP hJ hE)⟩ rfl rfl hl.1 rfl (lv_room (Nat.le_of_ble_eq_true rfl)) dX12_edge_61 ⟨Nat.le_of_ble_eq_true rfl, Nat.le_of_ble_eq_true rfl⟩) (fun r17 u17 H locs hpo17 hP hS => ?_)
        obtain ⟨hr17, hq17⟩ := hpo17
        have hA18 := (hq17.1 1 List.not_mem_nil).trans hA1
        have hfr := FR.step hfr hq17 (fun _ h => absurd h List.not_mem_nil) (by decide) (fun h => rfl)
        refine W.eq (g2 := F0 m 64 ls [.int (nI (ev a n4 nx14))]) (by rw [hr17]) ?_
        exact W.iret (v := nI (ev a n4 nx14)) hx hb hr (fun t ht hW => ⟨⟨nI (ev a n4 nx14), u17, rfl, ⟨trivial, hfr⟩, (show va_P (dC, dI) vwCl (rW cs b u17) t.heap by rw [ht]; exact hP)⟩, hS.F ht⟩) hS.2.2 dX12_edge_64
    · refine lv_if_ne (tgt := 29) hx hb dX12_edge_20 (by decide) (fun c19 => absurd c19 (by decide)) (fun c19 => ?_)
      refine lv_aload_n hx hb dX12_edge_23 rfl (lv_at hl 0 rfl) ?_
      refine lv_iconst (v := 2) hx hb dX12_edge_24 (by decide) ?_
      refine rc_i hAL hS hA (va_runV (As := [.int 2]) (rest := []) ⟨hx, hb, hml, hown, noTs⟩ (r_X12_refuse l dC dI s.heap.size cs b u a hA1 2) ⟨cbE 1 (wd_1498 hE) (wd_126 hE) (wd_1495 hE) rfl rfl (by decide +kernel) ⟨Nat.le_of_ble_eq_true rfl, Nat.le_of_ble_eq_true rfl⟩, (wd_1497 hE), (wd_54 hE)⟩ ⟨PR.blind, r_recv hK hP rfl, (r_pre (av := [.ref (b 0), .int 2]) hK hP hJ hE)⟩ rfl rfl hl.1 rfl (lv_room (Nat.le_of_ble_eq_true rfl)) dX12_edge_25 ⟨Nat.le_of_ble_eq_true rfl, Nat.le_of_ble_eq_true rfl⟩) (fun r20 u20 H locs hpo20 hP hS => ?_)
      obtain ⟨hr20, hq20⟩ := hpo20
      have hA21 := (hq20.1 1 List.not_mem_nil).trans hA1
      have hfr := FR.step hfr hq20 (fun _ h => absurd h List.not_mem_nil) (by decide) (fun h => rfl)
      subst hr20
      exact W.iret (v := -1) hx hb hr (fun t ht hW => ⟨⟨-1, u20, rfl, ⟨trivial, hfr⟩, (show va_P (dC, dI) vwCl (rW cs b u20) t.heap by rw [ht]; exact hP)⟩, hS.F ht⟩) hS.2.2 dX12_edge_28
  · refine lv_if_ne (tgt := 15) hx hb dX12_edge_6 (by decide) (fun c22 => absurd c22 (by decide)) (fun c22 => ?_)
    refine lv_aload_n hx hb dX12_edge_9 rfl (lv_at hl 0 rfl) ?_
    refine lv_iconst (v := 1) hx hb dX12_edge_10 (by decide) ?_
    refine rc_i hAL hS hA (va_runV (As := [.int 1]) (rest := []) ⟨hx, hb, hml, hown, noTs⟩ (r_X12_refuse l dC dI s.heap.size cs b u a hA1 1) ⟨cbE 1 (wd_1498 hE) (wd_126 hE) (wd_1495 hE) rfl rfl (by decide +kernel) ⟨Nat.le_of_ble_eq_true rfl, Nat.le_of_ble_eq_true rfl⟩, (wd_1497 hE), (wd_54 hE)⟩ ⟨PR.blind, r_recv hK hP rfl, (r_pre (av := [.ref (b 0), .int 1]) hK hP hJ hE)⟩ rfl rfl hl.1 rfl (lv_room (Nat.le_of_ble_eq_true rfl)) dX12_edge_11 ⟨Nat.le_of_ble_eq_true rfl, Nat.le_of_ble_eq_true rfl⟩) (fun r23 u23 H locs hpo23 hP hS => ?_)
    obtain ⟨hr23, hq23⟩ := hpo23
    have hA24 := (hq23.1 1 List.not_mem_nil).trans hA1
    have hfr := FR.step hfr hq23 (fun _ h => absurd h List.not_mem_nil) (by decide) (fun h => rfl)
    subst hr23
    exact W.iret (v := -1) hx hb hr (fun t ht hW => ⟨⟨-1, u23, rfl, ⟨trivial, hfr⟩, (show va_P (dC, dI) vwCl (rW cs b u23) t.heap by rw [ht]; exact hP)⟩, hS.F ht⟩) hS.2.2 dX12_edge_14

set_option maxHeartbeats 4000000 in
set_option maxRecDepth 100000 in
theorem r_X12_word (l : Launch) (dC : Nat → ClassId) (dI : Nat → Nat → Nat) (sz : Nat) (cs : Nat → ClassId) (b : Nat → Nat) (u : RS) (a : Nat → Int32) (hA1 : rA u 1 = a) (x : Int32) (y : Int32) (hp0 : BG a) : Met l yX12_word [.code yX12_word cX12_word 3 (some .int)] ({ frames := 5, cells := 0, slots := 0, locals := 200 }) (PR [.ref (b 0), .int x, .int y] sz dC dI cs b u) (va_Qi (fun (r : Int32) (u' : RS) => (True) ∧ FR [3, 4, 5, 6, 7, 8, 9, 10, 11, 12, 13, 14, 17, 18, 19, 20] [1, 5, 21, 22] true u u') (BR dC dI cs b) (AR b sz)) 0 0 (AR b sz) := by
  refine Met.ofW (cc := cX12_word) (maxL := 3) (ret := (some .int)) (by decide) rfl ?_
  intro p e s m args below meth c s₁ B hml hv
  obtain ⟨rfl, hsz, hP, hK, hJ, hE⟩ := hv
  have hx := B.exec
  have hb := B.bytes
  have hr := B.returns
  have hown : s.vm.findClass RX12 = some m.cls := findClass_of_methodNamed B.named
  have hlocks := B.notSynchronized
  subst hsz
  have hAL : ∀ i, i < 108 → AR b s.heap.size (b i) := fun i h => Or.inl ⟨i, h, rfl⟩
  have hA : ∀ q : Nat, s.heap.size ≤ q → AR b s.heap.size q := fun q h => Or.inr h
  have hS : va_S (AR b s.heap.size) s.heap s.heap [] := va_S.rf
  have hfr : FR [3, 4, 5, 6, 7, 8, 9, 10, 11, 12, 13, 14, 17, 18, 19, 20] [1, 5, 21, 22] true u u := FR.refl
  have hl := lv_entry ([.ref (b 0), .int x, .int y]) (n := 3) (Nat.le_of_ble_eq_true rfl)
  rw [lg_entry_eq]
  generalize (lg_sl ([.ref (b 0), .int x, .int y]) ++ List.replicate (3 - (lg_sl ([.ref (b 0), .int x, .int y])).length) Slot.unset).toArray = ls at hl ⊢
  have hl : lv_has ls 3 [(0, .ref (b 0)), (1, .int x), (2, .int y)] := hl
  have hB := hp0
  have hG := bg_g hp0
  have ha1 := gg_le hG
  have ha1b := bg_w hp0
  refine lv_iload_n hx hb dX12_word_0 rfl (lv_at hl 2 rfl) ?_
  refine lv_iconst (v := 0) hx hb dX12_word_1 (by decide) ?_
  refine lv_iconst (v := 4) hx hb dX12_word_2 (by decide) ?_
  refine vp_callSi (va_Run.run (va_runS (As := [.int y, .int 0, .int 4]) (rest := []) ⟨hx, hb, hml, hown, noTs⟩ (r_X12_isFrom l dC dI s.heap.size cs b u a hA1 y 0 4 ((0 : Int)) ((4 : Int)) (show Int32.toInt 0 = 0 from rfl) (show Int32.toInt 4 = 4 from rfl)) ⟨cbE 3 (wd_1494 hE) (wd_126 hE) (wd_1492 hE) rfl rfl (by decide +kernel) ⟨Nat.le_of_ble_eq_true rfl, Nat.le_of_ble_eq_true rfl⟩, (wd_1493 hE)⟩ ⟨PR.blind, (r_pre (av := [.int y, .int 0, .int 4]) hK hP hJ hE)⟩ rfl rfl hl.1 rfl (lv_room (Nat.le_of_ble_eq_true rfl)) dX12_word_3 ⟨Nat.le_of_ble_eq_true rfl, Nat.le_of_ble_eq_true rfl⟩)) (fun r2 hr2 => ?_)
  rcases hr2 with ⟨rfl, hb2⟩ | ⟨rfl, hb2⟩
  · refine lv_if_ne (tgt := 15) hx hb dX12_word_6 (by decide) (fun c3 => ?_) (fun c3 => absurd c3 (by decide))
    refine lv_aload_n hx hb dX12_word_15 rfl (lv_at hl 0 rfl) ?_
    refine lv_iload_n hx hb dX12_word_16 rfl (lv_at hl 1 rfl) ?_
    refine vp_callSi (va_Run.run (va_runV (As := [.int x]) (rest := []) ⟨hx, hb, hml, hown, noTs⟩ (r_X12_isWord l dC dI s.heap.size cs b u a hA1 x (by first | assumption | omega | rfl | (congr 1; omega))) ⟨cbE 1 (wd_1653 hE) (wd_126 hE) (wd_1650 hE) rfl rfl (by decide +kernel) ⟨Nat.le_of_ble_eq_true rfl, Nat.le_of_ble_eq_true rfl⟩, (wd_1652 hE), (wd_83 hE)⟩ ⟨PR.blind, r_recv hK hP rfl, (r_pre (av := [.ref (b 0), .int x]) hK hP hJ hE)⟩ rfl rfl hl.1 rfl (lv_room (Nat.le_of_ble_eq_true rfl)) dX12_word_17 ⟨Nat.le_of_ble_eq_true rfl, Nat.le_of_ble_eq_true rfl⟩)) (fun r4 hr4 => ?_)
    rcases hr4 with ⟨rfl, hb4⟩ | ⟨rfl, hb4⟩
    · obtain ⟨n4, hbe4_1, hb4⟩ := hb4
      subst hbe4_1
      have hti5 := nI_toInt (n := n4) (by omega)
      refine lv_if_ne (tgt := 29) hx hb dX12_word_20 (by decide) (fun c6 => ?_) (fun c6 => absurd c6 (by decide))
      refine lv_aload_n hx hb dX12_word_29 rfl (lv_at hl 0 rfl) ?_
      refine lv_iload_n hx hb dX12_word_30 rfl (lv_at hl 1 rfl) ?_
      refine lv_aload_n hx hb dX12_word_31 rfl (lv_at hl 0 rfl) ?_
      refine r_get (v := .ref (b 2)) hx hb (ly_X12 hE) hown hK hP rfl 4 (by decide) (wd_1385 hE) (fun _ h9 => h9) rfl dX12_word_32 ?_
      refine lv_iconst (v := 0) hx hb dX12_word_35 (by decide) ?_
      refine r_aald (j := 2) (k := 0) (n := 10) (t0 := 4) (j2 := 3) hx hb hK hP (by decide) rfl rfl (by decide) (by decide) rfl dX12_word_36 ?_
      obtain ⟨g7, hg7⟩ : ∃ g, rA u 3 = g := ⟨_, rfl⟩
      refine rc_v hAL hS hA (va_runV (As := [.int (nI n4), .ref (b 3)]) (rest := []) ⟨hx, hb, hml, hown, noTs⟩ (r_X12_takes l dC dI s.heap.size cs b u a hA1 n4 3 (by decide) g7 hg7 (by first | assumption | omega | rfl | (congr 1; omega)) (by first | assumption | omega | rfl | (congr 1; omega))) ⟨cbE 2 (wd_1657 hE) (wd_126 hE) (wd_1654 hE) rfl rfl (by decide +kernel) ⟨Nat.le_of_ble_eq_true rfl, Nat.le_of_ble_eq_true rfl⟩, (wd_1656 hE), (wd_84 hE)⟩ ⟨PR.blind, r_recv hK hP rfl, (r_pre (av := [.ref (b 0), .int (nI n4), .ref (b 3)]) hK hP hJ hE)⟩ rfl rfl hl.1 rfl (lv_room (Nat.le_of_ble_eq_true rfl)) dX12_word_37 ⟨Nat.le_of_ble_eq_true rfl, Nat.le_of_ble_eq_true rfl⟩) (fun u8 H locs hpo8 hP hS => ?_)
      obtain ⟨h8_0, h8_1, h8_2, h8_3, h8_4, h8_5, hq8⟩ := hpo8
      obtain ⟨w9, hA9⟩ : ∃ g, rA u8 3 = g := ⟨_, rfl⟩
      rw [hA9] at h8_0 h8_1 h8_2 h8_3 h8_4 h8_5
      have hA10 := (hq8.1 1 (by decide)).trans hA1
      have hfr := FR.step hfr hq8 (by decide) (fun _ h => absurd h List.not_mem_nil) (fun h => rfl)
      have hl8_0 := pg_le h8_0
      refine lv_aload_n hx hb dX12_word_40 rfl (lv_at hl 0 rfl) ?_
      refine lv_aload_n hx hb dX12_word_41 rfl (lv_at hl 0 rfl) ?_
      refine r_get (v := .ref (b 2)) hx hb (ly_X12 hE) hown hK hP rfl 4 (by decide) (wd_1385 hE) (fun _ h9 => h9) rfl dX12_word_42 ?_
      refine lv_iconst (v := 0) hx hb dX12_word_45 (by decide) ?_
      refine r_aald (j := 2) (k := 0) (n := 10) (t0 := 4) (j2 := 3) hx hb hK hP (by decide) rfl rfl (by decide) (by decide) rfl dX12_word_46 ?_
      refine lv_aload_n hx hb dX12_word_47 rfl (lv_at hl 0 rfl) ?_
      refine r_get (v := .ref (b 2)) hx hb (ly_X12 hE) hown hK hP rfl 4 (by decide) (wd_1385 hE) (fun _ h9 => h9) rfl dX12_word_48 ?_
      refine lv_iconst (v := 1) hx hb dX12_word_51 (by decide) ?_
      refine r_aald (j := 2) (k := 1) (n := 10) (t0 := 4) (j2 := 4) hx hb hK hP (by decide) rfl rfl (by decide) (by decide) rfl dX12_word_52 ?_
      obtain ⟨g11, hg11⟩ : ∃ g, rA u8 4 = g := ⟨_, rfl⟩
      refine rc_v hAL hS hA (va_runV (As := [.ref (b 3), .ref (b 4)]) (rest := []) ⟨hx, hb, hml, hown, noTs⟩ (r_X12_forms l dC dI H.size cs b u8 a hA10 3 (by decide) w9 hA9 4 (by decide) g11 hg11 (by first | assumption | omega | rfl | (congr 1; omega)) (by first | assumption | omega | rfl | (congr 1; omega)) (by first | assumption | omega | rfl | (congr 1; omega)) (by first | assumption | omega | rfl | (congr 1; omega))) ⟨cbE 2 (wd_1661 hE) (wd_126 hE) (wd_1658 hE) rfl rfl (by decide +kernel) ⟨Nat.le_of_ble_eq_true rfl, Nat.le_of_ble_eq_true rfl⟩, (wd_1660 hE), (wd_85 hE)⟩ ⟨PR.blind, r_recv hK hP rfl, (r_pre (av := [.ref (b 0), .ref (b 3), .ref (b 4)]) hK hP hJ hE)⟩ rfl rfl hl.1 rfl (lv_room (Nat.le_of_ble_eq_true rfl)) dX12_word_53 ⟨Nat.le_of_ble_eq_true rfl, Nat.le_of_ble_eq_true rfl⟩) (fun u12 H locs hpo12 hP hS => ?_)
      obtain ⟨h12_0, h12_1, h12_2, h12_3, h12_4, hq12⟩ := hpo12
      obtain ⟨w13, hA13⟩ : ∃ g, rA u12 4 = g := ⟨_, rfl⟩
      rw [hA13] at h12_0 h12_1 h12_2 h12_3 h12_4
      have hA14 := (hq12.1 1 (by decide)).trans hA10
      have hA15 := (hq12.1 3 (by decide)).trans hA9
      have hfr := FR.step hfr hq12 (by decide) (by decide) (fun h => rfl)
      have hl12_0 := pg_le h12_0
      refine lv_iload_n hx hb dX12_word_56 rfl (lv_at hl 2 rfl) ?_
      by_cases t16 : y = 0
      · refine lv_tableIn (tgt := 88) hx hb dX12_word_57 (by rw [t16]; decide) (by rw [t16]; decide) (by rw [t16]; rfl) (by decide) ?_
        refine lv_aload_n hx hb dX12_word_88 rfl (lv_at hl 0 rfl) ?_
        refine lv_aload_n hx hb dX12_word_89 rfl (lv_at hl 0 rfl) ?_
        refine r_get (v := .ref (b 2)) hx hb (ly_X12 hE) hown hK hP rfl 4 (by decide) (wd_1385 hE) (fun _ h9 => h9) rfl dX12_word_90 ?_
        refine lv_iconst (v := 0) hx hb dX12_word_93 (by decide) ?_
        refine r_aald (j := 2) (k := 0) (n := 10) (t0 := 4) (j2 := 3) hx hb hK hP (by decide) rfl rfl (by decide) (by decide) rfl dX12_word_94 ?_
        refine lv_iconst (v := 0) hx hb dX12_word_95 (by decide) ?_
        refine r_iald (j := 3) (k := 0) (n := 200) (x := nI (rb w9)) hx hb hK hP (by decide) rfl (by decide) (by decide) (by rw [hA15]; exact pg_b h8_0) dX12_word_96 ?_
        refine rc_i hAL hS hA (va_runV (As := [.int (nI (rb w9))]) (rest := []) ⟨hx, hb, hml, hown, noTs⟩ (r_X12_gives l dC dI H.size cs b u12 a hA14 (nI (rb w9))) ⟨cbE 1 (wd_1621 hE) (wd_126 hE) (wd_1618 hE) rfl rfl (by decide +kernel) ⟨Nat.le_of_ble_eq_true rfl, Nat.le_of_ble_eq_true rfl⟩, (wd_1620 hE), (wd_80 hE)⟩ ⟨PR.blind, r_recv hK hP rfl, (r_pre (av := [.ref (b 0), .int (nI (rb w9))]) hK hP hJ hE)⟩ rfl rfl hl.1 rfl (lv_room (Nat.le_of_ble_eq_true rfl)) dX12_word_97 ⟨Nat.le_of_ble_eq_true rfl, Nat.le_of_ble_eq_true rfl⟩) (fun r18 u18 H locs hpo18 hP hS => ?_)
        obtain ⟨hr18, hq18⟩ := hpo18
        have hA19 := (hq18.1 1 List.not_mem_nil).trans hA14
        have hA20 := (hq18.1 3 List.not_mem_nil).trans hA15
        have hA21 := (hq18.1 4 List.not_mem_nil).trans hA13
        have hfr := FR.step hfr hq18 (fun _ h => absurd h List.not_mem_nil) (by decide) (fun h => rfl)
        refine W.eq (g2 := F0 m 100 ls [.int (nI (rb w9))]) (by rw [hr18]) ?_
        exact W.iret (v := nI (rb w9)) hx hb hr (fun t ht hW => ⟨⟨nI (rb w9), u18, rfl, ⟨trivial, hfr⟩, (show va_P (dC, dI) vwCl (rW cs b u18) t.heap by rw [ht]; exact hP)⟩, hS.F ht⟩) hS.2.2 dX12_word_100
      by_cases t22 : y = 1
      · refine lv_tableIn (tgt := 101) hx hb dX12_word_57 (by rw [t22]; decide) (by rw [t22]; decide) (by rw [t22]; rfl) (by decide) ?_
        refine lv_aload_n hx hb dX12_word_101 rfl (lv_at hl 0 rfl) ?_
        refine lv_aload_n hx hb dX12_word_102 rfl (lv_at hl 0 rfl) ?_
        refine lv_aload_n hx hb dX12_word_103 rfl (lv_at hl 0 rfl) ?_
        refine r_get (v := .ref (b 2)) hx hb (ly_X12 hE) hown hK hP rfl 4 (by decide) (wd_1385 hE) (fun _ h9 => h9) rfl dX12_word_104 ?_
        refine lv_iconst (v := 0) hx hb dX12_word_107 (by decide) ?_
        refine r_aald (j := 2) (k := 0) (n := 10) (t0 := 4) (j2 := 3) hx hb hK hP (by decide) rfl rfl (by decide) (by decide) rfl dX12_word_108 ?_
        refine vp_callSi (va_Run.run (va_runV (As := [.ref (b 3)]) (rest := [.ref (b 0)]) ⟨hx, hb, hml, hown, noTs⟩ (r_X12_end l dC dI H.size cs b u12 a hA14 3 (by decide) w9 hA15 (by first | assumption | omega | rfl | (congr 1; omega)) (by first | assumption | omega | rfl | (congr 1; omega))) ⟨cbE 1 (wd_1599 hE) (wd_126 hE) (wd_1596 hE) rfl rfl (by decide +kernel) ⟨Nat.le_of_ble_eq_true rfl, Nat.le_of_ble_eq_true rfl⟩, (wd_1598 hE), (wd_76 hE)⟩ ⟨PR.blind, r_recv hK hP rfl, (r_pre (av := [.ref (b 0), .ref (b 3)]) hK hP hJ hE)⟩ rfl rfl hl.1 rfl (lv_room (Nat.le_of_ble_eq_true rfl)) dX12_word_109 ⟨Nat.le_of_ble_eq_true rfl, Nat.le_of_ble_eq_true rfl⟩)) (fun r23 hr23 => ?_)
        have hau23 := pg_end (a := a) (w := w9) (by assumption) (by assumption)
        subst hr23
        refine rc_i hAL hS hA (va_runV (As := [.int (nI (vend a w9))]) (rest := []) ⟨hx, hb, hml, hown, noTs⟩ (r_X12_gives l dC dI H.size cs b u12 a hA14 (nI (vend a w9))) ⟨cbE 1 (wd_1621 hE) (wd_126 hE) (wd_1618 hE) rfl rfl (by decide +kernel) ⟨Nat.le_of_ble_eq_true rfl, Nat.le_of_ble_eq_true rfl⟩, (wd_1620 hE), (wd_80 hE)⟩ ⟨PR.blind, r_recv hK hP rfl, (r_pre (av := [.ref (b 0), .int (nI (vend a w9))]) hK hP hJ hE)⟩ rfl rfl hl.1 rfl (lv_room (Nat.le_of_ble_eq_true rfl)) dX12_word_112 ⟨Nat.le_of_ble_eq_true rfl, Nat.le_of_ble_eq_true rfl⟩) (fun r24 u24 H locs hpo24 hP hS => ?_)
        obtain ⟨hr24, hq24⟩ := hpo24
        have hA25 := (hq24.1 1 List.not_mem_nil).trans hA14
        have hA26 := (hq24.1 3 List.not_mem_nil).trans hA15
        have hA27 := (hq24.1 4 List.not_mem_nil).trans hA13
        have hfr := FR.step hfr hq24 (fun _ h => absurd h List.not_mem_nil) (by decide) (fun h => rfl)
        refine W.eq (g2 := F0 m 115 ls [.int (nI (vend a w9))]) (by rw [hr24]) ?_
        exact W.iret (v := nI (vend a w9)) hx hb hr (fun t ht hW => ⟨⟨nI (vend a w9), u24, rfl, ⟨trivial, hfr⟩, (show va_P (dC, dI) vwCl (rW cs b u24) t.heap by rw [ht]; exact hP)⟩, hS.F ht⟩) hS.2.2 dX12_word_115
      by_cases t28 : y = 2
      · refine lv_tableIn (tgt := 116) hx hb dX12_word_57 (by rw [t28]; decide) (by rw [t28]; decide) (by rw [t28]; rfl) (by decide) ?_
        refine lv_aload_n hx hb dX12_word_116 rfl (lv_at hl 0 rfl) ?_
        refine lv_aload_n hx hb dX12_word_117 rfl (lv_at hl 0 rfl) ?_
        refine r_get (v := .ref (b 2)) hx hb (ly_X12 hE) hown hK hP rfl 4 (by decide) (wd_1385 hE) (fun _ h9 => h9) rfl dX12_word_118 ?_
        refine lv_iconst (v := 0) hx hb dX12_word_121 (by decide) ?_
        refine r_aald (j := 2) (k := 0) (n := 10) (t0 := 4) (j2 := 3) hx hb hK hP (by decide) rfl rfl (by decide) (by decide) rfl dX12_word_122 ?_
        refine lv_iconst (v := 1) hx hb dX12_word_123 (by decide) ?_
        refine r_iald (j := 3) (k := 1) (n := 200) (x := nI (rn w9)) hx hb hK hP (by decide) rfl (by decide) (by decide) (by rw [hA15]; exact pg_n h8_0) dX12_word_124 ?_
        refine rc_i hAL hS hA (va_runV (As := [.int (nI (rn w9))]) (rest := []) ⟨hx, hb, hml, hown, noTs⟩ (r_X12_gives l dC dI H.size cs b u12 a hA14 (nI (rn w9))) ⟨cbE 1 (wd_1621 hE) (wd_126 hE) (wd_1618 hE) rfl rfl (by decide +kernel) ⟨Nat.le_of_ble_eq_true rfl, Nat.le_of_ble_eq_true rfl⟩, (wd_1620 hE), (wd_80 hE)⟩ ⟨PR.blind, r_recv hK hP rfl, (r_pre (av := [.ref (b 0), .int (nI (rn w9))]) hK hP hJ hE)⟩ rfl rfl hl.1 rfl (lv_room (Nat.le_of_ble_eq_true rfl)) dX12_word_125 ⟨Nat.le_of_ble_eq_true rfl, Nat.le_of_ble_eq_true rfl⟩) (fun r30 u30 H locs hpo30 hP hS => ?_)
        obtain ⟨hr30, hq30⟩ := hpo30
        have hA31 := (hq30.1 1 List.not_mem_nil).trans hA14
        have hA32 := (hq30.1 3 List.not_mem_nil).trans hA15
        have hA33 := (hq30.1 4 List.not_mem_nil).trans hA13
        have hfr := FR.step hfr hq30 (fun _ h => absurd h List.not_mem_nil) (by decide) (fun h => rfl)
        refine W.eq (g2 := F0 m 128 ls [.int (nI (rn w9))]) (by rw [hr30]) ?_
        exact W.iret (v := nI (rn w9)) hx hb hr (fun t ht hW => ⟨⟨nI (rn w9), u30, rfl, ⟨trivial, hfr⟩, (show va_P (dC, dI) vwCl (rW cs b u30) t.heap by rw [ht]; exact hP)⟩, hS.F ht⟩) hS.2.2 dX12_word_128
      by_cases t34 : y = 3
      · refine lv_tableIn (tgt := 129) hx hb dX12_word_57 (by rw [t34]; decide) (by rw [t34]; decide) (by rw [t34]; rfl) (by decide) ?_
        refine lv_aload_n hx hb dX12_word_129 rfl (lv_at hl 0 rfl) ?_
        refine lv_aload_n hx hb dX12_word_130 rfl (lv_at hl 0 rfl) ?_
        refine r_get (v := .ref (b 2)) hx hb (ly_X12 hE) hown hK hP rfl 4 (by decide) (wd_1385 hE) (fun _ h9 => h9) rfl dX12_word_131 ?_
        refine lv_iconst (v := 0) hx hb dX12_word_134 (by decide) ?_
        refine r_aald (j := 2) (k := 0) (n := 10) (t0 := 4) (j2 := 3) hx hb hK hP (by decide) rfl rfl (by decide) (by decide) rfl dX12_word_135 ?_
        refine lv_aload_n hx hb dX12_word_136 rfl (lv_at hl 0 rfl) ?_
        refine r_get (v := .ref (b 2)) hx hb (ly_X12 hE) hown hK hP rfl 4 (by decide) (wd_1385 hE) (fun _ h9 => h9) rfl dX12_word_137 ?_
        refine lv_iconst (v := 1) hx hb dX12_word_140 (by decide) ?_
        refine r_aald (j := 2) (k := 1) (n := 10) (t0 := 4) (j2 := 4) hx hb hK hP (by decide) rfl rfl (by decide) (by decide) rfl dX12_word_141 ?_
        refine vp_callSi (va_Run.run (va_runS (As := [.ref (b 3), .ref (b 4)]) (rest := [.ref (b 0)]) ⟨hx, hb, hml, hown, noTs⟩ (r_X12_isLike l dC dI H.size cs b u12 a hA14 3 (by decide) w9 hA15 4 (by decide) w13 hA13 (by first | assumption | omega | rfl | (congr 1; omega)) (by first | assumption | omega | rfl | (congr 1; omega))) ⟨cbE 2 (wd_1675 hE) (wd_126 hE) (wd_1673 hE) rfl rfl (by decide +kernel) ⟨Nat.le_of_ble_eq_true rfl, Nat.le_of_ble_eq_true rfl⟩, (wd_1674 hE)⟩ ⟨PR.blind, (r_pre (av := [.ref (b 3), .ref (b 4)]) hK hP hJ hE)⟩ rfl rfl hl.1 rfl (lv_room (Nat.le_of_ble_eq_true rfl)) dX12_word_142 ⟨Nat.le_of_ble_eq_true rfl, Nat.le_of_ble_eq_true rfl⟩)) (fun r35 hr35 => ?_)
        rcases hr35 with ⟨rfl, hb35⟩ | ⟨rfl, hb35⟩
        · refine lv_if_eq (tgt := 152) hx hb dX12_word_145 (by decide) (fun c36 => absurd c36 (by decide)) (fun c36 => ?_)
          refine lv_iconst (v := 1) hx hb dX12_word_148 (by decide) ?_
          refine lv_goto (tgt := 153) hx hb dX12_word_149 (by decide) ?_
          refine rc_i hAL hS hA (va_runV (As := [.int 1]) (rest := []) ⟨hx, hb, hml, hown, noTs⟩ (r_X12_gives l dC dI H.size cs b u12 a hA14 1) ⟨cbE 1 (wd_1621 hE) (wd_126 hE) (wd_1618 hE) rfl rfl (by decide +kernel) ⟨Nat.le_of_ble_eq_true rfl, Nat.le_of_ble_eq_true rfl⟩, (wd_1620 hE), (wd_80 hE)⟩ ⟨PR.blind, r_recv hK hP rfl, (r_pre (av := [.ref (b 0), .int 1]) hK hP hJ hE)⟩ rfl rfl hl.1 rfl (lv_room (Nat.le_of_ble_eq_true rfl)) dX12_word_153 ⟨Nat.le_of_ble_eq_true rfl, Nat.le_of_ble_eq_true rfl⟩) (fun r37 u37 H locs hpo37 hP hS => ?_)
          obtain ⟨hr37, hq37⟩ := hpo37
          have hA38 := (hq37.1 1 List.not_mem_nil).trans hA14
          have hA39 := (hq37.1 3 List.not_mem_nil).trans hA15
          have hA40 := (hq37.1 4 List.not_mem_nil).trans hA13
          have hfr := FR.step hfr hq37 (fun _ h => absurd h List.not_mem_nil) (by decide) (fun h => rfl)
          subst hr37
          exact W.iret (v := 1) hx hb hr (fun t ht hW => ⟨⟨1, u37, rfl, ⟨trivial, hfr⟩, (show va_P (dC, dI) vwCl (rW cs b u37) t.heap by rw [ht]; exact hP)⟩, hS.F ht⟩) hS.2.2 dX12_word_156
        · refine lv_if_eq (tgt := 152) hx hb dX12_word_145 (by decide) (fun c41 => ?_) (fun c41 => absurd c41 (by decide))
          refine lv_iconst (v := 0) hx hb dX12_word_152 (by decide) ?_
          refine rc_i hAL hS hA (va_runV (As := [.int 0]) (rest := []) ⟨hx, hb, hml, hown, noTs⟩ (r_X12_gives l dC dI H.size cs b u12 a hA14 0) ⟨cbE 1 (wd_1621 hE) (wd_126 hE) (wd_1618 hE) rfl rfl (by decide +kernel) ⟨Nat.le_of_ble_eq_true rfl, Nat.le_of_ble_eq_true rfl⟩, (wd_1620 hE), (wd_80 hE)⟩ ⟨PR.blind, r_recv hK hP rfl, (r_pre (av := [.ref (b 0), .int 0]) hK hP hJ hE)⟩ rfl rfl hl.1 rfl (lv_room (Nat.le_of_ble_eq_true rfl)) dX12_word_153 ⟨Nat.le_of_ble_eq_true rfl, Nat.le_of_ble_eq_true rfl⟩) (fun r42 u42 H locs hpo42 hP hS => ?_)
          obtain ⟨hr42, hq42⟩ := hpo42
          have hA43 := (hq42.1 1 List.not_mem_nil).trans hA14
          have hA44 := (hq42.1 3 List.not_mem_nil).trans hA15
          have hA45 := (hq42.1 4 List.not_mem_nil).trans hA13
          have hfr := FR.step hfr hq42 (fun _ h => absurd h List.not_mem_nil) (by decide) (fun h => rfl)
          subst hr42
          exact W.iret (v := 0) hx hb hr (fun t ht hW => ⟨⟨0, u42, rfl, ⟨trivial, hfr⟩, (show va_P (dC, dI) vwCl (rW cs b u42) t.heap by rw [ht]; exact hP)⟩, hS.F ht⟩) hS.2.2 dX12_word_156
      have t16 := mt (b_eq (rfl : Int32.toInt y = _) (show Int32.toInt 0 = 0 from rfl)).mpr t16
      have t22 := mt (b_eq (rfl : Int32.toInt y = _) (show Int32.toInt 1 = 1 from rfl)).mpr t22
      have t28 := mt (b_eq (rfl : Int32.toInt y = _) (show Int32.toInt 2 = 2 from rfl)).mpr t28
      have t34 := mt (b_eq (rfl : Int32.toInt y = _) (show Int32.toInt 3 = 3 from rfl)).mpr t34
      have hT46 : y.toInt < 0 ∨ 3 < y.toInt := by omega
      refine lv_tableOut (tgt := 157) hx hb dX12_word_57 hT46 (by decide) ?_
      refine lv_aload_n hx hb dX12_word_157 rfl (lv_at hl 0 rfl) ?_
      refine lv_aload_n hx hb dX12_word_158 rfl (lv_at hl 0 rfl) ?_
      obtain ⟨y47, hy47⟩ : ∃ z : Int32, rF u12 5 = z := ⟨_, rfl⟩
      refine r_get (v := .int y47) hx hb (ly_X12 hE) hown hK hP rfl 5 (by decide) (wd_1386 hE) (fun _ h9 => h9) (congrArg (fun z : Int32 => some (Value.int z)) hy47) dX12_word_159 ?_
      refine rc_i hAL hS hA (va_runV (As := [.int y47]) (rest := []) ⟨hx, hb, hml, hown, noTs⟩ (r_X12_gives l dC dI H.size cs b u12 a hA14 y47) ⟨cbE 1 (wd_1621 hE) (wd_126 hE) (wd_1618 hE) rfl rfl (by decide +kernel) ⟨Nat.le_of_ble_eq_true rfl, Nat.le_of_ble_eq_true rfl⟩, (wd_1620 hE), (wd_80 hE)⟩ ⟨PR.blind, r_recv hK hP rfl, (r_pre (av := [.ref (b 0), .int y47]) hK hP hJ hE)⟩ rfl rfl hl.1 rfl (lv_room (Nat.le_of_ble_eq_true rfl)) dX12_word_162 ⟨Nat.le_of_ble_eq_true rfl, Nat.le_of_ble_eq_true rfl⟩) (fun r48 u48 H locs hpo48 hP hS => ?_)
      obtain ⟨hr48, hq48⟩ := hpo48
      have hA49 := (hq48.1 1 List.not_mem_nil).trans hA14
      have hA50 := (hq48.1 3 List.not_mem_nil).trans hA15
      have hA51 := (hq48.1 4 List.not_mem_nil).trans hA13
      have hF52x := (hq48.2.1 5 (by decide)).trans hy47
      have hfr := FR.step hfr hq48 (fun _ h => absurd h List.not_mem_nil) (by decide) (fun h => rfl)
      refine W.eq (g2 := F0 m 165 ls [.int y47]) (by rw [hr48]) ?_
      exact W.iret (v := y47) hx hb hr (fun t ht hW => ⟨⟨y47, u48, rfl, ⟨trivial, hfr⟩, (show va_P (dC, dI) vwCl (rW cs b u48) t.heap by rw [ht]; exact hP)⟩, hS.F ht⟩) hS.2.2 dX12_word_165
    · refine lv_if_ne (tgt := 29) hx hb dX12_word_20 (by decide) (fun c53 => absurd c53 (by decide)) (fun c53 => ?_)
      refine lv_aload_n hx hb dX12_word_23 rfl (lv_at hl 0 rfl) ?_
      refine lv_iconst (v := 2) hx hb dX12_word_24 (by decide) ?_
      refine rc_i hAL hS hA (va_runV (As := [.int 2]) (rest := []) ⟨hx, hb, hml, hown, noTs⟩ (r_X12_refuse l dC dI s.heap.size cs b u a hA1 2) ⟨cbE 1 (wd_1498 hE) (wd_126 hE) (wd_1495 hE) rfl rfl (by decide +kernel) ⟨Nat.le_of_ble_eq_true rfl, Nat.le_of_ble_eq_true rfl⟩, (wd_1497 hE), (wd_54 hE)⟩ ⟨PR.blind, r_recv hK hP rfl, (r_pre (av := [.ref (b 0), .int 2]) hK hP hJ hE)⟩ rfl rfl hl.1 rfl (lv_room (Nat.le_of_ble_eq_true rfl)) dX12_word_25 ⟨Nat.le_of_ble_eq_true rfl, Nat.le_of_ble_eq_true rfl⟩) (fun r54 u54 H locs hpo54 hP hS => ?_)
      obtain ⟨hr54, hq54⟩ := hpo54
      have hA55 := (hq54.1 1 List.not_mem_nil).trans hA1
      have hfr := FR.step hfr hq54 (fun _ h => absurd h List.not_mem_nil) (by decide) (fun h => rfl)
      subst hr54
      exact W.iret (v := -1) hx hb hr (fun t ht hW => ⟨⟨-1, u54, rfl, ⟨trivial, hfr⟩, (show va_P (dC, dI) vwCl (rW cs b u54) t.heap by rw [ht]; exact hP)⟩, hS.F ht⟩) hS.2.2 dX12_word_28
  · refine lv_if_ne (tgt := 15) hx hb dX12_word_6 (by decide) (fun c56 => absurd c56 (by decide)) (fun c56 => ?_)
    refine lv_aload_n hx hb dX12_word_9 rfl (lv_at hl 0 rfl) ?_
    refine lv_iconst (v := 1) hx hb dX12_word_10 (by decide) ?_
    refine rc_i hAL hS hA (va_runV (As := [.int 1]) (rest := []) ⟨hx, hb, hml, hown, noTs⟩ (r_X12_refuse l dC dI s.heap.size cs b u a hA1 1) ⟨cbE 1 (wd_1498 hE) (wd_126 hE) (wd_1495 hE) rfl rfl (by decide +kernel) ⟨Nat.le_of_ble_eq_true rfl, Nat.le_of_ble_eq_true rfl⟩, (wd_1497 hE), (wd_54 hE)⟩ ⟨PR.blind, r_recv hK hP rfl, (r_pre (av := [.ref (b 0), .int 1]) hK hP hJ hE)⟩ rfl rfl hl.1 rfl (lv_room (Nat.le_of_ble_eq_true rfl)) dX12_word_11 ⟨Nat.le_of_ble_eq_true rfl, Nat.le_of_ble_eq_true rfl⟩) (fun r57 u57 H locs hpo57 hP hS => ?_)
    obtain ⟨hr57, hq57⟩ := hpo57
    have hA58 := (hq57.1 1 List.not_mem_nil).trans hA1
    have hfr := FR.step hfr hq57 (fun _ h => absurd h List.not_mem_nil) (by decide) (fun h => rfl)
    subst hr57
    exact W.iret (v := -1) hx hb hr (fun t ht hW => ⟨⟨-1, u57, rfl, ⟨trivial, hfr⟩, (show va_P (dC, dI) vwCl (rW cs b u57) t.heap by rw [ht]; exact hP)⟩, hS.F ht⟩) hS.2.2 dX12_word_14
