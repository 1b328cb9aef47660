set_option maxHeartbeats 4000000 in
set_option maxRecDepth 100000 in
theorem r_X12_isCentral (l : Launch) (dC : Nat → ClassId) (dI : Nat → Nat → Nat) (sz : Nat) (cs : Nat → ClassId) (b : Nat → Nat) (u : RS) (a : Nat → Int32) (hA1 : rA u 1 = a) (v : Nat) (y : Int32) (hp0 : GG a) (hp1 : v < vN a) : Met l yX12_isCentral [.code yX12_isCentral cX12_isCentral 7 (some .boolean)] ({ frames := 4, cells := 0, slots := 0, locals := 160 }) (PR [.ref (b 0), .int (nI v), .int y] sz dC dI cs b u) (va_Qi (fun (r : Int32) (u' : RS) => ((r = 1 ∧ (True)) ∨ (r = 0 ∧ (True))) ∧ FR [20] [] false u u') (BR dC dI cs b) (AR b sz)) 0 0 (AR b sz) := by
  refine Met.ofW (cc := cX12_isCentral) (maxL := 7) (ret := (some .boolean)) (by decide) rfl ?_
  intro p e s m args below meth c s₁ B hml hv
  obtain ⟨rfl, hsz, hP, hK, hJ, hE⟩ := hv
  have hx := B.exec
  have hb := B.bytes
  have hr := B.returns
  have hown : s.vm.findClass RX12 = some m.cls := findClass_of_methodNamed B.named
  have hlocks := B.notSynchronized
  subst hsz
  have hAL : ∀ i, i < 108 → AR b s.heap.size (b i) := fun i h => Or.inl ⟨i, h, rfl⟩
  have hA : ∀ q : Nat, s.heap.size ≤ q → AR b s.heap.size q := fun q h => Or.inr h
  have hS : va_S (AR b s.heap.size) s.heap s.heap [] := va_S.rf
  have hfr : FR [20] [] false u u := FR.refl
  have hl := lv_entry ([.ref (b 0), .int (nI v), .int y]) (n := 7) (Nat.le_of_ble_eq_true rfl)
  rw [lg_entry_eq]
  generalize (lg_sl ([.ref (b 0), .int (nI v), .int y]) ++ List.replicate (7 - (lg_sl ([.ref (b 0), .int (nI v), .int y])).length) Slot.unset).toArray = ls at hl ⊢
  have hl : lv_has ls 7 [(0, .ref (b 0)), (1, .int (nI v)), (2, .int y)] := hl
  have hG := hp0
  have ha1 := gg_le hp0
  refine lv_iconst (v := 0) hx hb dX12_isCentral_0 (by decide) ?_
  refine lv_istore_n (lv' := [(3, .int 0), (0, .ref (b 0)), (1, .int (nI v)), (2, .int y)]) hx hb dX12_isCentral_1 rfl hl (by decide) rfl (fun ls hl => ?_)
  refine r_ind (I := fun n u_ H locs ls => va_P (dC, dI) vwCl (rW cs b u_) H ∧ va_S (AR b s.heap.size) s.heap H locs ∧ FR [20] [] false u u_ ∧ ∃ (k_3 : Nat), n = 6 - k_3 ∧ (k_3 ≤ 6) ∧ lv_has ls 7 [(0, .ref (b 0)), (1, .int (nI v)), (2, .int y), (3, .int (nI k_3))]) (fun n u3 H locs ls hI ih3 => ?_) _ u _ _ _ ⟨hP, hS, hfr, 0, rfl, (by first | assumption | omega | rfl | (congr 1; omega)), lv_sub hl [1, 2, 3, 0] rfl⟩
  obtain ⟨hP, hS, hfr, k_3, hmu3, hL3_0, hl⟩ := hI
  have hA4 := (hfr.1 1 (by decide)).trans hA1
  subst hmu3
  refine lv_iload_n hx hb dX12_isCentral_2 rfl (lv_at hl 3 rfl) ?_
  refine lv_bipush (v := 6) hx hb dX12_isCentral_3 (by decide) ?_
  refine lv_icmp_ge (tgt := 21) hx hb dX12_isCentral_5 (by decide) (fun c5 => ?_) (fun c5 => ?_)
  · have c5 := (b_le (show Int32.toInt 6 = 6 from rfl) (nI_toInt (n := k_3) (by omega))).mp c5
    refine lv_aload_n hx hb dX12_isCentral_21 rfl (lv_at hl 0 rfl) ?_
    refine r_get (v := .ref (b 20)) hx hb (ly_X12 hE) hown hK hP rfl 26 (by decide) (wd_1407 hE) (fun _ h9 => h9) rfl dX12_isCentral_22 ?_
    refine lv_iload_n hx hb dX12_isCentral_25 rfl (lv_at hl 1 rfl) ?_
    refine lv_iload_n hx hb dX12_isCentral_26 rfl (lv_at hl 2 rfl) ?_
    obtain ⟨g7, hg7⟩ : ∃ g, rA u3 20 = g := ⟨_, rfl⟩
    refine r_iast (j := 20) (k := v) (n := 6) (x := y) hx hb hK hP hJ hAL hS (by decide) (fun _ => rfl) hg7 (by omega) (by decide) dX12_isCentral_27 (fun u6 H locs hs6 hq6 hP hS => ?_)
    obtain ⟨w6, hw6⟩ : ∃ g, g = upd g7 v y := ⟨_, rfl⟩
    rw [← hw6] at hs6
    have hA8 := (hq6.1 1 (by decide)).trans hA4
    have hfr := FR.step hfr hq6 (by decide) (fun _ h => absurd h List.not_mem_nil) (fun h => rfl)
    refine lv_iconst (v := 0) hx hb dX12_isCentral_28 (by decide) ?_
    refine lv_istore_n (lv' := [(3, .int 0), (0, .ref (b 0)), (1, .int (nI v)), (2, .int y)]) hx hb dX12_isCentral_29 rfl hl (by decide) rfl (fun ls hl => ?_)
    refine r_ind (I := fun n u_ H locs ls => va_P (dC, dI) vwCl (rW cs b u_) H ∧ va_S (AR b s.heap.size) s.heap H locs ∧ FR [20] [] false u u_ ∧ ∃ (k_9 : Nat), n = 7 - k_9 ∧ (k_9 ≤ 7) ∧ lv_has ls 7 [(0, .ref (b 0)), (1, .int (nI v)), (2, .int y), (3, .int (nI k_9))]) (fun n u9 H locs ls hI ih9 => ?_) _ u6 _ _ _ ⟨hP, hS, hfr, 0, rfl, (by first | assumption | omega | rfl | (congr 1; omega)), lv_sub hl [1, 2, 3, 0] rfl⟩
    obtain ⟨hP, hS, hfr, k_9, hmu9, hL9_0, hl⟩ := hI
    have hA10 := (hfr.1 1 (by decide)).trans hA1
    subst hmu9
    refine lv_iload_n hx hb dX12_isCentral_30 rfl (lv_at hl 3 rfl) ?_
    refine lv_bipush (v := 6) hx hb dX12_isCentral_31 (by decide) ?_
    refine lv_icmp_gt (tgt := 163) hx hb dX12_isCentral_33 (by decide) (fun c11 => ?_) (fun c11 => ?_)
    · have c11 := (b_lt (show Int32.toInt 6 = 6 from rfl) (nI_toInt (n := k_9) (by omega))).mp c11
      refine lv_iconst (v := 1) hx hb dX12_isCentral_163 (by decide) ?_
      exact W.zret (v := 1) hx hb hr rfl (fun t ht hW => ⟨⟨1, u9, rfl, ⟨Or.inl ⟨rfl, by trivial⟩, hfr⟩, (show va_P (dC, dI) vwCl (rW cs b u9) t.heap by rw [ht]; exact hP)⟩, hS.F ht⟩) hS.2.2 dX12_isCentral_164
    · have c11 := mt (b_lt (show Int32.toInt 6 = 6 from rfl) (nI_toInt (n := k_9) (by omega))).mpr c11
      refine lv_iconst (v := 0) hx hb dX12_isCentral_36 (by decide) ?_
      refine lv_istore (lv' := [(4, .int 0), (0, .ref (b 0)), (1, .int (nI v)), (2, .int y), (3, .int (nI k_9))]) hx hb dX12_isCentral_37 hl (by decide) rfl (fun ls hl => ?_)
      refine r_ind (I := fun n u_ H locs ls => va_P (dC, dI) vwCl (rW cs b u_) H ∧ va_S (AR b s.heap.size) s.heap H locs ∧ FR [20] [] false u u_ ∧ ∃ (sq_12 : Nat), n = 2 * eN a - sq_12 ∧ (sq_12 ≤ 2 * eN a) ∧ lv_has ls 7 [(0, .ref (b 0)), (1, .int (nI v)), (2, .int y), (3, .int (nI k_9)), (4, .int (nI sq_12))]) (fun n u12 H locs ls hI ih12 => ?_) _ u9 _ _ _ ⟨hP, hS, hfr, 0, rfl, (by first | assumption | omega | rfl | (congr 1; omega)), lv_sub hl [1, 2, 3, 4, 0] rfl⟩
      obtain ⟨hP, hS, hfr, sq_12, hmu12, hL12_0, hl⟩ := hI
      have hA13 := (hfr.1 1 (by decide)).trans hA1
      subst hmu12
      refine lv_iload hx hb dX12_isCentral_39 (lv_at hl 4 rfl) ?_
      refine lv_iconst (v := 2) hx hb dX12_isCentral_41 (by decide) ?_
      refine lv_aload_n hx hb dX12_isCentral_42 rfl (lv_at hl 0 rfl) ?_
      refine lv_iconst (v := 1) hx hb dX12_isCentral_43 (by decide) ?_
      refine vp_callSi (va_Run.run (va_runV (As := [.int (nI 1)]) (rest := [.int 2, .int (nI sq_12)]) ⟨hx, hb, hml, hown, noTs⟩ (r_X12_of l dC dI H.size cs b u12 a hA13 1 (by first | assumption | omega | rfl | (congr 1; omega))) ⟨cbE 1 (wd_1536 hE) (wd_126 hE) (wd_1533 hE) rfl rfl (by decide +kernel) ⟨Nat.le_of_ble_eq_true rfl, Nat.le_of_ble_eq_true rfl⟩, (wd_1535 hE), (wd_61 hE)⟩ ⟨PR.blind, r_recv hK hP rfl, (r_pre (av := [.ref (b 0), .int (nI 1)]) hK hP hJ hE)⟩ rfl rfl hl.1 rfl (lv_room (Nat.le_of_ble_eq_true rfl)) dX12_isCentral_44 ⟨Nat.le_of_ble_eq_true rfl, Nat.le_of_ble_eq_true rfl⟩)) (fun r14 hr14 => ?_)
      have hr14 := hr14.trans (gg_e hG)
      subst hr14
      refine lv_imul hx hb dX12_isCentral_47 ?_
      refine W.eq (g2 := F0 m 48 ls [.int (nI (2 * (eN a))), .int (nI sq_12)]) (congrArg (fun z : Int32 => F0 m 48 ls (.int z :: [.int (nI sq_12)])) (pk_mul 2 (eN a))) ?_
      refine lv_icmp_ge (tgt := 157) hx hb dX12_isCentral_48 (by decide) (fun c15 => ?_) (fun c15 => ?_)
      · have c15 := (b_le (nI_toInt (n := 2 * (eN a)) (by omega)) (nI_toInt (n := sq_12) (by omega))).mp c15
        refine lv_iinc (v := nI (k_9 + 1)) (lv' := [(3, .int (nI (k_9 + 1))), (0, .ref (b 0)), (1, .int (nI v)), (2, .int y), (4, .int (nI sq_12))]) hx hb dX12_isCentral_157 hl (k := 3) rfl (nI_1 k_9) (by decide) rfl (fun ls hl => ?_)
        refine lv_goto (tgt := 30) hx hb dX12_isCentral_160 (by decide) ?_
        exact ih9 _ u12 _ _ _ (by omega) ⟨hP, hS, hfr, (k_9 + 1), rfl, (by first | assumption | omega | rfl | (congr 1; omega)), lv_sub hl [1, 2, 3, 0] rfl⟩
      · have c15 := mt (b_le (nI_toInt (n := 2 * (eN a)) (by omega)) (nI_toInt (n := sq_12) (by omega))).mpr c15
        refine lv_aload_n hx hb dX12_isCentral_51 rfl (lv_at hl 0 rfl) ?_
        refine r_get (v := .ref (b 20)) hx hb (ly_X12 hE) hown hK hP rfl 26 (by decide) (wd_1407 hE) (fun _ h9 => h9) rfl dX12_isCentral_52 ?_
        refine lv_aload_n hx hb dX12_isCentral_55 rfl (lv_at hl 0 rfl) ?_
        refine lv_iload hx hb dX12_isCentral_56 (lv_at hl 4 rfl) ?_
        refine vp_callSi (va_Run.run (va_runV (As := [.int (nI sq_12)]) (rest := [.ref (b 20)]) ⟨hx, hb, hml, hown, noTs⟩ (r_X12_from l dC dI H.size cs b u12 a hA13 sq_12 (by first | assumption | omega | rfl | (congr 1; omega)) (by first | assumption | omega | rfl | (congr 1; omega))) ⟨cbE 1 (wd_1591 hE) (wd_126 hE) (wd_1588 hE) rfl rfl (by decide +kernel) ⟨Nat.le_of_ble_eq_true rfl, Nat.le_of_ble_eq_true rfl⟩, (wd_1590 hE), (wd_74 hE)⟩ ⟨PR.blind, r_recv hK hP rfl, (r_pre (av := [.ref (b 0), .int (nI sq_12)]) hK hP hJ hE)⟩ rfl rfl hl.1 rfl (lv_room (Nat.le_of_ble_eq_true rfl)) dX12_isCentral_58 ⟨Nat.le_of_ble_eq_true rfl, Nat.le_of_ble_eq_true rfl⟩)) (fun r16 hr16 => ?_)
        have hau16 := gg_src (a := a) (s := sq_12) (by assumption) (by first | assumption | omega)
        subst hr16
        obtain ⟨y17, hy17⟩ : ∃ z : Int32, rA u12 20 (src a sq_12) = z := ⟨_, rfl⟩
        refine r_iald (j := 20) (k := src a sq_12) (n := 6) (x := y17) hx hb hK hP (by decide) rfl (by omega) (by decide) hy17 dX12_isCentral_61 ?_
        refine lv_istore (lv' := [(5, .int y17), (0, .ref (b 0)), (1, .int (nI v)), (2, .int y), (3, .int (nI k_9)), (4, .int (nI sq_12))]) hx hb dX12_isCentral_62 hl (by decide) rfl (fun ls hl => ?_)
        refine lv_iload hx hb dX12_isCentral_64 (lv_at hl 0 rfl) ?_
        refine lv_iconst (v := -1) hx hb dX12_isCentral_66 (by decide) ?_
        refine lv_icmp_ne (tgt := 73) hx hb dX12_isCentral_67 (by decide) (fun c18 => ?_) (fun c18 => ?_)
        · have c18 := mt (b_eq (rfl : Int32.toInt y17 = _) (show Int32.toInt (-1) = -1 from rfl)).mpr c18
          refine lv_iload hx hb dX12_isCentral_73 (lv_at hl 0 rfl) ?_
          refine lv_aload_n hx hb dX12_isCentral_75 rfl (lv_at hl 1 rfl) ?_
          refine lv_iload hx hb dX12_isCentral_76 (lv_at hl 5 rfl) ?_
          refine vp_callSi (va_Run.run (va_runV (As := [.int (nI sq_12)]) (rest := [.int y17]) ⟨hx, hb, hml, hown, noTs⟩ (r_X12_by l dC dI H.size cs b u12 a hA13 sq_12 (by first | assumption | omega | rfl | (congr 1; omega)) (by first | assumption | omega | rfl | (congr 1; omega))) ⟨cbE 1 (wd_1668 hE) (wd_126 hE) (wd_1665 hE) rfl rfl (by decide +kernel) ⟨Nat.le_of_ble_eq_true rfl, Nat.le_of_ble_eq_true rfl⟩, (wd_1667 hE), (wd_86 hE)⟩ ⟨PR.blind, r_recv hK hP rfl, (r_pre (av := [.ref (b 0), .int (nI sq_12)]) hK hP hJ hE)⟩ rfl rfl hl.1 rfl (lv_room (Nat.le_of_ble_eq_true rfl)) dX12_isCentral_78 ⟨Nat.le_of_ble_eq_true rfl, Nat.le_of_ble_eq_true rfl⟩)) (fun r19 hr19 => ?_)
          have hau19 := gg_idx (a := a) (s := sq_12) (by assumption) (by first | assumption | omega)
          subst hr19
          refine lv_irem hx hb dX12_isCentral_81 (nI_ne0 (n := idx a sq_12) (by omega) (by omega)) ?_
          refine lv_topi (fun x20 ex20 => ?_)
          refine lv_if_eq (tgt := 87) hx hb dX12_isCentral_82 (by decide) (fun c21 => ?_) (fun c21 => ?_)
          · have c21 := (b_eq (rfl : Int32.toInt x20 = _) (show Int32.toInt 0 = 0 from rfl)).mp c21
            refine lv_iload hx hb dX12_isCentral_87 (lv_at hl 0 rfl) ?_
            refine lv_aload_n hx hb dX12_isCentral_89 rfl (lv_at hl 1 rfl) ?_
            refine lv_iload hx hb dX12_isCentral_90 (lv_at hl 5 rfl) ?_
            refine vp_callSi (va_Run.run (va_runV (As := [.int (nI sq_12)]) (rest := [.int y17]) ⟨hx, hb, hml, hown, noTs⟩ (r_X12_by l dC dI H.size cs b u12 a hA13 sq_12 (by first | assumption | omega | rfl | (congr 1; omega)) (by first | assumption | omega | rfl | (congr 1; omega))) ⟨cbE 1 (wd_1668 hE) (wd_126 hE) (wd_1665 hE) rfl rfl (by decide +kernel) ⟨Nat.le_of_ble_eq_true rfl, Nat.le_of_ble_eq_true rfl⟩, (wd_1667 hE), (wd_86 hE)⟩ ⟨PR.blind, r_recv hK hP rfl, (r_pre (av := [.ref (b 0), .int (nI sq_12)]) hK hP hJ hE)⟩ rfl rfl hl.1 rfl (lv_room (Nat.le_of_ble_eq_true rfl)) dX12_isCentral_92 ⟨Nat.le_of_ble_eq_true rfl, Nat.le_of_ble_eq_true rfl⟩)) (fun r22 hr22 => ?_)
            have hau22 := gg_idx (a := a) (s := sq_12) (by assumption) (by first | assumption | omega)
            subst hr22
            refine lv_idiv hx hb dX12_isCentral_95 (nI_ne0 (n := idx a sq_12) (by omega) (by omega)) ?_
            refine lv_topi (fun x23 ex23 => ?_)
            refine lv_aload_n hx hb dX12_isCentral_96 rfl (lv_at hl 1 rfl) ?_
            refine lv_iload hx hb dX12_isCentral_97 (lv_at hl 5 rfl) ?_
            refine vp_callSi (va_Run.run (va_runV (As := [.int (nI sq_12)]) (rest := [.int x23]) ⟨hx, hb, hml, hown, noTs⟩ (r_X12_into l dC dI H.size cs b u12 a hA13 sq_12 (by first | assumption | omega | rfl | (congr 1; omega)) (by first | assumption | omega | rfl | (congr 1; omega))) ⟨cbE 1 (wd_1672 hE) (wd_126 hE) (wd_1669 hE) rfl rfl (by decide +kernel) ⟨Nat.le_of_ble_eq_true rfl, Nat.le_of_ble_eq_true rfl⟩, (wd_1671 hE), (wd_87 hE)⟩ ⟨PR.blind, r_recv hK hP rfl, (r_pre (av := [.ref (b 0), .int (nI sq_12)]) hK hP hJ hE)⟩ rfl rfl hl.1 rfl (lv_room (Nat.le_of_ble_eq_true rfl)) dX12_isCentral_99 ⟨Nat.le_of_ble_eq_true rfl, Nat.le_of_ble_eq_true rfl⟩)) (fun r24 hr24 => ?_)
            have hau24 := gg_jdx (a := a) (s := sq_12) (by assumption) (by first | assumption | omega)
            subst hr24
            refine lv_imul hx hb dX12_isCentral_102 ?_
            refine lv_topi (fun x25 ex25 => ?_)
            refine lv_istore (lv' := [(6, .int x25), (5, .int y17), (0, .ref (b 0)), (1, .int (nI v)), (2, .int y), (3, .int (nI k_9)), (4, .int (nI sq_12))]) hx hb dX12_isCentral_103 hl (by decide) rfl (fun ls hl => ?_)
            refine lv_aload_n hx hb dX12_isCentral_105 rfl (lv_at hl 2 rfl) ?_
            refine r_get (v := .ref (b 20)) hx hb (ly_X12 hE) hown hK hP rfl 26 (by decide) (wd_1407 hE) (fun _ h9 => h9) rfl dX12_isCentral_106 ?_
            refine lv_aload_n hx hb dX12_isCentral_109 rfl (lv_at hl 2 rfl) ?_
            refine lv_iload hx hb dX12_isCentral_110 (lv_at hl 6 rfl) ?_
            refine vp_callSi (va_Run.run (va_runV (As := [.int (nI sq_12)]) (rest := [.ref (b 20)]) ⟨hx, hb, hml, hown, noTs⟩ (r_X12_to l dC dI H.size cs b u12 a hA13 sq_12 (by first | assumption | omega | rfl | (congr 1; omega)) (by first | assumption | omega | rfl | (congr 1; omega))) ⟨cbE 1 (wd_1606 hE) (wd_126 hE) (wd_1603 hE) rfl rfl (by decide +kernel) ⟨Nat.le_of_ble_eq_true rfl, Nat.le_of_ble_eq_true rfl⟩, (wd_1605 hE), (wd_77 hE)⟩ ⟨PR.blind, r_recv hK hP rfl, (r_pre (av := [.ref (b 0), .int (nI sq_12)]) hK hP hJ hE)⟩ rfl rfl hl.1 rfl (lv_room (Nat.le_of_ble_eq_true rfl)) dX12_isCentral_112 ⟨Nat.le_of_ble_eq_true rfl, Nat.le_of_ble_eq_true rfl⟩)) (fun r26 hr26 => ?_)
            have hau26 := gg_dst (a := a) (s := sq_12) (by assumption) (by first | assumption | omega)
            subst hr26
            obtain ⟨y27, hy27⟩ : ∃ z : Int32, rA u12 20 (dst a sq_12) = z := ⟨_, rfl⟩
            refine r_iald (j := 20) (k := dst a sq_12) (n := 6) (x := y27) hx hb hK hP (by decide) rfl (by omega) (by decide) hy27 dX12_isCentral_115 ?_
            refine lv_iconst (v := -1) hx hb dX12_isCentral_116 (by decide) ?_
            refine lv_icmp_eq (tgt := 138) hx hb dX12_isCentral_117 (by decide) (fun c28 => ?_) (fun c28 => ?_)
            · have c28 := (b_eq (rfl : Int32.toInt y27 = _) (show Int32.toInt (-1) = -1 from rfl)).mp c28
              refine lv_aload_n hx hb dX12_isCentral_138 rfl (lv_at hl 2 rfl) ?_
              refine r_get (v := .ref (b 20)) hx hb (ly_X12 hE) hown hK hP rfl 26 (by decide) (wd_1407 hE) (fun _ h9 => h9) rfl dX12_isCentral_139 ?_
              refine lv_aload_n hx hb dX12_isCentral_142 rfl (lv_at hl 2 rfl) ?_
              refine lv_iload hx hb dX12_isCentral_143 (lv_at hl 6 rfl) ?_
              refine vp_callSi (va_Run.run (va_runV (As := [.int (nI sq_12)]) (rest := [.ref (b 20)]) ⟨hx, hb, hml, hown, noTs⟩ (r_X12_to l dC dI H.size cs b u12 a hA13 sq_12 (by first | assumption | omega | rfl | (congr 1; omega)) (by first | assumption | omega | rfl | (congr 1; omega))) ⟨cbE 1 (wd_1606 hE) (wd_126 hE) (wd_1603 hE) rfl rfl (by decide +kernel) ⟨Nat.le_of_ble_eq_true rfl, Nat.le_of_ble_eq_true rfl⟩, (wd_1605 hE), (wd_77 hE)⟩ ⟨PR.blind, r_recv hK hP rfl, (r_pre (av := [.ref (b 0), .int (nI sq_12)]) hK hP hJ hE)⟩ rfl rfl hl.1 rfl (lv_room (Nat.le_of_ble_eq_true rfl)) dX12_isCentral_145 ⟨Nat.le_of_ble_eq_true rfl, Nat.le_of_ble_eq_true rfl⟩)) (fun r29 hr29 => ?_)
              have hau29 := gg_dst (a := a) (s := sq_12) (by assumption) (by first | assumption | omega)
              subst hr29
              refine lv_iload hx hb dX12_isCentral_148 (lv_at hl 0 rfl) ?_
              obtain ⟨g31, hg31⟩ : ∃ g, rA u12 20 = g := ⟨_, rfl⟩
              refine r_iast (j := 20) (k := dst a sq_12) (n := 6) (x := x25) hx hb hK hP hJ hAL hS (by decide) (fun _ => rfl) hg31 (by omega) (by decide) dX12_isCentral_150 (fun u30 H locs hs30 hq30 hP hS => ?_)
              obtain ⟨w30, hw30⟩ : ∃ g, g = upd g31 (dst a sq_12) x25 := ⟨_, rfl⟩
              rw [← hw30] at hs30
              have hA32 := (hq30.1 1 (by decide)).trans hA13
              have hfr := FR.step hfr hq30 (by decide) (fun _ h => absurd h List.not_mem_nil) (fun h => rfl)
              refine lv_iinc (v := nI (sq_12 + 1)) (lv' := [(4, .int (nI (sq_12 + 1))), (6, .int x25), (5, .int y17), (0, .ref (b 0)), (1, .int (nI v)), (2, .int y), (3, .int (nI k_9))]) hx hb dX12_isCentral_151 hl (k := 6) rfl (nI_1 sq_12) (by decide) rfl (fun ls hl => ?_)
              refine lv_goto (tgt := 39) hx hb dX12_isCentral_154 (by decide) ?_
              exact ih12 _ u30 _ _ _ (by omega) ⟨hP, hS, hfr, (sq_12 + 1), rfl, (by first | assumption | omega | rfl | (congr 1; omega)), lv_sub hl [3, 4, 5, 6, 0] rfl⟩
            · have c28 := mt (b_eq (rfl : Int32.toInt y27 = _) (show Int32.toInt (-1) = -1 from rfl)).mpr c28
              refine lv_aload_n hx hb dX12_isCentral_120 rfl (lv_at hl 2 rfl) ?_
              refine r_get (v := .ref (b 20)) hx hb (ly_X12 hE) hown hK hP rfl 26 (by decide) (wd_1407 hE) (fun _ h9 => h9) rfl dX12_isCentral_121 ?_
              refine lv_aload_n hx hb dX12_isCentral_124 rfl (lv_at hl 2 rfl) ?_
              refine lv_iload hx hb dX12_isCentral_125 (lv_at hl 6 rfl) ?_
              refine vp_callSi (va_Run.run (va_runV (As := [.int (nI sq_12)]) (rest := [.ref (b 20)]) ⟨hx, hb, hml, hown, noTs⟩ (r_X12_to l dC dI H.size cs b u12 a hA13 sq_12 (by first | assumption | omega | rfl | (congr 1; omega)) (by first | assumption | omega | rfl | (congr 1; omega))) ⟨cbE 1 (wd_1606 hE) (wd_126 hE) (wd_1603 hE) rfl rfl (by decide +kernel) ⟨Nat.le_of_ble_eq_true rfl, Nat.le_of_ble_eq_true rfl⟩, (wd_1605 hE), (wd_77 hE)⟩ ⟨PR.blind, r_recv hK hP rfl, (r_pre (av := [.ref (b 0), .int (nI sq_12)]) hK hP hJ hE)⟩ rfl rfl hl.1 rfl (lv_room (Nat.le_of_ble_eq_true rfl)) dX12_isCentral_127 ⟨Nat.le_of_ble_eq_true rfl, Nat.le_of_ble_eq_true rfl⟩)) (fun r33 hr33 => ?_)
              have hau33 := gg_dst (a := a) (s := sq_12) (by assumption) (by first | assumption | omega)
              subst hr33
              obtain ⟨y34, hy34⟩ : ∃ z : Int32, rA u12 20 (dst a sq_12) = z := ⟨_, rfl⟩
              refine r_iald (j := 20) (k := dst a sq_12) (n := 6) (x := y34) hx hb hK hP (by decide) rfl (by omega) (by decide) hy34 dX12_isCentral_130 ?_
              refine lv_iload hx hb dX12_isCentral_131 (lv_at hl 0 rfl) ?_
              refine lv_icmp_eq (tgt := 138) hx hb dX12_isCentral_133 (by decide) (fun c35 => ?_) (fun c35 => ?_)
              · have c35 := (b_eq (rfl : Int32.toInt y34 = _) (rfl : Int32.toInt x25 = _)).mp c35
                refine lv_aload_n hx hb dX12_isCentral_138 rfl (lv_at hl 2 rfl) ?_
                refine r_get (v := .ref (b 20)) hx hb (ly_X12 hE) hown hK hP rfl 26 (by decide) (wd_1407 hE) (fun _ h9 => h9) rfl dX12_isCentral_139 ?_
                refine lv_aload_n hx hb dX12_isCentral_142 rfl (lv_at hl 2 rfl) ?_
                refine lv_iload hx hb dX12_isCentral_143 (lv_at hl 6 rfl) ?_
                refine vp_callSi (va_Run.run (va_runV (As := [.int (nI sq_12)]) (rest := [.ref (b 20)]) ⟨hx, hb, hml, hown, noTs⟩ (r_X12_to l dC dI H.size cs b u12 a hA13 sq_12 (by first | assumption | omega | rfl | (congr 1; omega)) (by first | assumption | omega | rfl | (congr 1; omega))) ⟨cbE 1 (wd_1606 hE) (wd_126 hE) (wd_1603 hE) rfl rfl (by decide +kernel) ⟨Nat.le_of_ble_eq_true rfl, Nat.le_of_ble_eq_true rfl⟩, (wd_1605 hE), (wd_77 hE)⟩ ⟨PR.blind, r_recv hK hP rfl, (r_pre (av := [.ref (b 0), .int (nI sq_12)]) hK hP hJ hE)⟩ rfl rfl hl.1 rfl (lv_room (Nat.le_of_ble_eq_true rfl)) dX12_isCentral_145 ⟨Nat.le_of_ble_eq_true rfl, Nat.le_of_ble_eq_true rfl⟩)) (fun r36 hr36 => ?_)
                have hau36 := gg_dst (a := a) (s := sq_12) (by assumption) (by first | assumption | omega)
                subst hr36
                refine lv_iload hx hb dX12_isCentral_148 (lv_at hl 0 rfl) ?_
                obtain ⟨g38, hg38⟩ : ∃ g, rA u12 20 = g := ⟨_, rfl⟩
                refine r_iast (j := 20) (k := dst a sq_12) (n := 6) (x := x25) hx hb hK hP hJ hAL hS (by decide) (fun _ => rfl) hg38 (by omega) (by decide) dX12_isCentral_150 (fun u37 H locs hs37 hq37 hP hS => ?_)
                obtain ⟨w37, hw37⟩ : ∃ g, g = upd g38 (dst a sq_12) x25 := ⟨_, rfl⟩
                rw [← hw37] at hs37
                have hA39 := (hq37.1 1 (by decide)).trans hA13
                have hfr := FR.step hfr hq37 (by decide) (fun _ h => absurd h List.not_mem_nil) (fun h => rfl)
                refine lv_iinc (v := nI (sq_12 + 1)) (lv' := [(4, .int (nI (sq_12 + 1))), (6, .int x25), (5, .int y17), (0, .ref (b 0)), (1, .int (nI v)), (2, .int y), (3, .int (nI k_9))]) hx hb dX12_isCentral_151 hl (k := 6) rfl (nI_1 sq_12) (by decide) rfl (fun ls hl => ?_)
                refine lv_goto (tgt := 39) hx hb dX12_isCentral_154 (by decide) ?_
                exact ih12 _ u37 _ _ _ (by omega) ⟨hP, hS, hfr, (sq_12 + 1), rfl, (by first | assumption | omega | rfl | (congr 1; omega)), lv_sub hl [3, 4, 5, 6, 0] rfl⟩
              · have c35 := mt (b_eq (rfl : Int32.toInt y34 = _) (rfl : Int32.toInt x25 = _)).mpr c35
                refine lv_iconst (v := 0) hx hb dX12_isCentral_136 (by decide) ?_
                exact W.zret (v := 0) hx hb hr rfl (fun t ht hW => ⟨⟨0, u12, rfl, ⟨Or.inr ⟨rfl, by trivial⟩, hfr⟩, (show va_P (dC, dI) vwCl (rW cs b u12) t.heap by rw [ht]; exact hP)⟩, hS.F ht⟩) hS.2.2 dX12_isCentral_137
          · have c21 := mt (b_eq (rfl : Int32.toInt x20 = _) (show Int32.toInt 0 = 0 from rfl)).mpr c21
            refine lv_iconst (v := 0) hx hb dX12_isCentral_85 (by decide) ?_
            exact W.zret (v := 0) hx hb hr rfl (fun t ht hW => ⟨⟨0, u12, rfl, ⟨Or.inr ⟨rfl, by trivial⟩, hfr⟩, (show va_P (dC, dI) vwCl (rW cs b u12) t.heap by rw [ht]; exact hP)⟩, hS.F ht⟩) hS.2.2 dX12_isCentral_86
        · have c18 := (b_eq (rfl : Int32.toInt y17 = _) (show Int32.toInt (-1) = -1 from rfl)).mp c18
          refine lv_goto (tgt := 151) hx hb dX12_isCentral_70 (by decide) ?_
          refine lv_iinc (v := nI (sq_12 + 1)) (lv' := [(4, .int (nI (sq_12 + 1))), (5, .int y17), (0, .ref (b 0)), (1, .int (nI v)), (2, .int y), (3, .int (nI k_9))]) hx hb dX12_isCentral_151 hl (k := 5) rfl (nI_1 sq_12) (by decide) rfl (fun ls hl => ?_)
          refine lv_goto (tgt := 39) hx hb dX12_isCentral_154 (by decide) ?_
          exact ih12 _ u12 _ _ _ (by omega) ⟨hP, hS, hfr, (sq_12 + 1), rfl, (by first | assumption | omega | rfl | (congr 1; omega)), lv_sub hl [2, 3, 4, 5, 0] rfl⟩
  · have c5 := mt (b_le (show Int32.toInt 6 = 6 from rfl) (nI_toInt (n := k_3) (by omega))).mpr c5
    refine lv_aload_n hx hb dX12_isCentral_8 rfl (lv_at hl 0 rfl) ?_
    refine r_get (v := .ref (b 20)) hx hb (ly_X12 hE) hown hK hP rfl 26 (by decide) (wd_1407 hE) (fun _ h9 => h9) rfl dX12_isCentral_9 ?_
    refine lv_iload_n hx hb dX12_isCentral_12 rfl (lv_at hl 3 rfl) ?_
    refine lv_iconst (v := -1) hx hb dX12_isCentral_13 (by decide) ?_
    obtain ⟨g41, hg41⟩ : ∃ g, rA u3 20 = g := ⟨_, rfl⟩
    refine r_iast (j := 20) (k := k_3) (n := 6) (x := -1) hx hb hK hP hJ hAL hS (by decide) (fun _ => rfl) hg41 (by omega) (by decide) dX12_isCentral_14 (fun u40 H locs hs40 hq40 hP hS => ?_)
    obtain ⟨w40, hw40⟩ : ∃ g, g = upd g41 k_3 (-1) := ⟨_, rfl⟩
    rw [← hw40] at hs40
    have hA42 := (hq40.1 1 (by decide)).trans hA4
    have hfr := FR.step hfr hq40 (by decide) (fun _ h => absurd h List.not_mem_nil) (fun h => rfl)
    refine lv_iinc (v := nI (k_3 + 1)) (lv' := [(3, .int (nI (k_3 + 1))), (0, .ref (b 0)), (1, .int (nI v)), (2, .int y)]) hx hb dX12_isCentral_15 hl (k := 3) rfl (nI_1 k_3) (by decide) rfl (fun ls hl => ?_)
    refine lv_goto (tgt := 2) hx hb dX12_isCentral_18 (by decide) ?_
    exact ih3 _ u40 _ _ _ (by omega) ⟨hP, hS, hfr, (k_3 + 1), rfl, (by first | assumption | omega | rfl | (congr 1; omega)), lv_sub hl [1, 2, 3, 0] rfl⟩

set_option maxHeartbeats 4000000 in
set_option maxRecDepth 100000 in
theorem r_X12_central (l : Launch) (dC : Nat → ClassId) (dI : Nat → Nat → Nat) (sz : Nat) (cs : Nat → ClassId) (b : Nat → Nat) (u : RS) (a : Nat → Int32) (hA1 : rA u 1 = a) (x : Int32) (y : Int32) (hp0 : BG a) : Met l yX12_central [.code yX12_central cX12_central 3 (some .int)] ({ frames := 5, cells := 0, slots := 0, locals := 200 }) (PR [.ref (b 0), .int x, .int y] sz dC dI cs b u) (va_Qi (fun (r : Int32) (u' : RS) => (True) ∧ FR [3, 4, 5, 6, 7, 8, 9, 10, 11, 12, 13, 14, 17, 18, 19, 20] [1, 5, 21, 22] true u u') (BR dC dI cs b) (AR b sz)) 0 0 (AR b sz) := by
  refine Met.ofW (cc := cX12_central) (maxL := 3) (ret := (some .int)) (by decide) rfl ?_
  intro p e s m args below meth c s₁ B hml hv
  obtain ⟨rfl, hsz, hP, hK, hJ, hE⟩ := hv
  have hx := B.exec
  have hb := B.bytes
  have hr := B.returns
  have hown : s.vm.findClass RX12 = some m.cls := findClass_of_methodNamed B.named
  have hlocks := B.notSynchronized
  subst hsz
  have hAL : ∀ i, i < 108 → AR b s.heap.size (b i) := fun i h => Or.inl ⟨i, h, rfl⟩
  have hA : ∀ q : Nat, s.heap.size ≤ q → AR b s.heap.size q := fun q h => Or.inr h
  have hS : va_S (AR b s.heap.size) s.heap s.heap [] := va_S.rf
  have hfr : FR [3, 4, 5, 6, 7, 8, 9, 10, 11, 12, 13, 14, 17, 18, 19, 20] [1, 5, 21, 22] true u u := FR.refl
  have hl := lv_entry ([.ref (b 0), .int x, .int y]) (n := 3) (Nat.le_of_ble_eq_true rfl)
  rw [lg_entry_eq]
  generalize (lg_sl ([.ref (b 0), .int x, .int y]) ++ List.replicate (3 - (lg_sl ([.ref (b 0), .int x, .int y])).length) Slot.unset).toArray = ls at hl ⊢
  have hl : lv_has ls 3 [(0, .ref (b 0)), (1, .int x), (2, .int y)] := hl
  have hB := hp0
  have hG := bg_g hp0
  have ha1 := gg_le hG
  have ha1b := bg_w hp0
  refine lv_iload_n hx hb dX12_central_0 rfl (lv_at hl 2 rfl) ?_
  refine lv_if_ge (tgt := 10) hx hb dX12_central_1 (by decide) (fun c2 => ?_) (fun c2 => ?_)
  · have c2 := (b_le (show Int32.toInt 0 = 0 from rfl) (rfl : Int32.toInt y = _)).mp c2
    refine lv_aload_n hx hb dX12_central_10 rfl (lv_at hl 0 rfl) ?_
    refine lv_iload_n hx hb dX12_central_11 rfl (lv_at hl 1 rfl) ?_
    refine vp_callSi (va_Run.run (va_runV (As := [.int x]) (rest := []) ⟨hx, hb, hml, hown, noTs⟩ (r_X12_isVertex l dC dI s.heap.size cs b u a hA1 x (by first | assumption | omega | rfl | (congr 1; omega))) ⟨cbE 1 (wd_1560 hE) (wd_126 hE) (wd_1557 hE) rfl rfl (by decide +kernel) ⟨Nat.le_of_ble_eq_true rfl, Nat.le_of_ble_eq_true rfl⟩, (wd_1559 hE), (wd_67 hE)⟩ ⟨PR.blind, r_recv hK hP rfl, (r_pre (av := [.ref (b 0), .int x]) hK hP hJ hE)⟩ rfl rfl hl.1 rfl (lv_room (Nat.le_of_ble_eq_true rfl)) dX12_central_12 ⟨Nat.le_of_ble_eq_true rfl, Nat.le_of_ble_eq_true rfl⟩)) (fun r3 hr3 => ?_)
    rcases hr3 with ⟨rfl, hb3⟩ | ⟨rfl, hb3⟩
    · obtain ⟨n3, hbe3_1, hb3⟩ := hb3
      subst hbe3_1
      have hti4 := nI_toInt (n := n3) (by omega)
      refine lv_if_ne (tgt := 24) hx hb dX12_central_15 (by decide) (fun c5 => ?_) (fun c5 => absurd c5 (by decide))
      refine lv_iload_n hx hb dX12_central_24 rfl (lv_at hl 2 rfl) ?_
      refine lv_aload_n hx hb dX12_central_25 rfl (lv_at hl 0 rfl) ?_
      refine lv_iload_n hx hb dX12_central_26 rfl (lv_at hl 1 rfl) ?_
      refine vp_callSi (va_Run.run (va_runV (As := [.int (nI n3)]) (rest := [.int y]) ⟨hx, hb, hml, hown, noTs⟩ (r_X12_orderAt l dC dI s.heap.size cs b u a hA1 n3 (by first | assumption | omega | rfl | (congr 1; omega)) (by first | assumption | omega | rfl | (congr 1; omega))) ⟨cbE 1 (wd_1564 hE) (wd_126 hE) (wd_1561 hE) rfl rfl (by decide +kernel) ⟨Nat.le_of_ble_eq_true rfl, Nat.le_of_ble_eq_true rfl⟩, (wd_1563 hE), (wd_68 hE)⟩ ⟨PR.blind, r_recv hK hP rfl, (r_pre (av := [.ref (b 0), .int (nI n3)]) hK hP hJ hE)⟩ rfl rfl hl.1 rfl (lv_room (Nat.le_of_ble_eq_true rfl)) dX12_central_27 ⟨Nat.le_of_ble_eq_true rfl, Nat.le_of_ble_eq_true rfl⟩)) (fun r6 hr6 => ?_)
      have hau6 := (gg_od (a := a) (v := n3) (by assumption) (by first | assumption | omega)).2
      subst hr6
      refine lv_icmp_ge (tgt := 54) hx hb dX12_central_30 (by decide) (fun c7 => ?_) (fun c7 => ?_)
      · have c7 := (b_le (nI_toInt (n := od a n3) (by omega)) (rfl : Int32.toInt y = _)).mp c7
        refine lv_aload_n hx hb dX12_central_54 rfl (lv_at hl 0 rfl) ?_
        refine lv_iconst (v := 1) hx hb dX12_central_55 (by decide) ?_
        refine rc_i hAL hS hA (va_runV (As := [.int 1]) (rest := []) ⟨hx, hb, hml, hown, noTs⟩ (r_X12_refuse l dC dI s.heap.size cs b u a hA1 1) ⟨cbE 1 (wd_1498 hE) (wd_126 hE) (wd_1495 hE) rfl rfl (by decide +kernel) ⟨Nat.le_of_ble_eq_true rfl, Nat.le_of_ble_eq_true rfl⟩, (wd_1497 hE), (wd_54 hE)⟩ ⟨PR.blind, r_recv hK hP rfl, (r_pre (av := [.ref (b 0), .int 1]) hK hP hJ hE)⟩ rfl rfl hl.1 rfl (lv_room (Nat.le_of_ble_eq_true rfl)) dX12_central_56 ⟨Nat.le_of_ble_eq_true rfl, Nat.le_of_ble_eq_true rfl⟩) (fun r8 u8 H locs hpo8 hP hS => ?_)
        obtain ⟨hr8, hq8⟩ := hpo8
        have hA9 := (hq8.1 1 List.not_mem_nil).trans hA1
        have hfr := FR.step hfr hq8 (fun _ h => absurd h List.not_mem_nil) (by decide) (fun h => rfl)
        subst hr8
        exact W.iret (v := -1) hx hb hr (fun t ht hW => ⟨⟨-1, u8, rfl, ⟨trivial, hfr⟩, (show va_P (dC, dI) vwCl (rW cs b u8) t.heap by rw [ht]; exact hP)⟩, hS.F ht⟩) hS.2.2 dX12_central_59
      · have c7 := mt (b_le (nI_toInt (n := od a n3) (by omega)) (rfl : Int32.toInt y = _)).mpr c7
        refine lv_aload_n hx hb dX12_central_33 rfl (lv_at hl 0 rfl) ?_
        refine lv_aload_n hx hb dX12_central_34 rfl (lv_at hl 0 rfl) ?_
        refine lv_iload_n hx hb dX12_central_35 rfl (lv_at hl 1 rfl) ?_
        refine lv_iload_n hx hb dX12_central_36 rfl (lv_at hl 2 rfl) ?_
        refine rc_i hAL hS hA (va_runV (As := [.int (nI n3), .int y]) (rest := [.ref (b 0)]) ⟨hx, hb, hml, hown, noTs⟩ (r_X12_isCentral l dC dI s.heap.size cs b u a hA1 n3 y (by first | assumption | omega | rfl | (congr 1; omega)) (by first | assumption | omega | rfl | (congr 1; omega))) ⟨cbE 2 (wd_1832 hE) (wd_126 hE) (wd_1829 hE) rfl rfl (by decide +kernel) ⟨Nat.le_of_ble_eq_true rfl, Nat.le_of_ble_eq_true rfl⟩, (wd_1831 hE), (wd_101 hE)⟩ ⟨PR.blind, r_recv hK hP rfl, (r_pre (av := [.ref (b 0), .int (nI n3), .int y]) hK hP hJ hE)⟩ rfl rfl hl.1 rfl (lv_room (Nat.le_of_ble_eq_true rfl)) dX12_central_37 ⟨Nat.le_of_ble_eq_true rfl, Nat.le_of_ble_eq_true rfl⟩) (fun r10 u10 H locs hpo10 hP hS => ?_)
        obtain ⟨hr10, hq10⟩ := hpo10
        have hA11 := (hq10.1 1 (by decide)).trans hA1
        have hfr := FR.step hfr hq10 (by decide) (fun _ h => absurd h List.not_mem_nil) (fun h => rfl)
        rcases hr10 with ⟨rfl, hb10⟩ | ⟨rfl, hb10⟩
        · refine lv_if_eq (tgt := 47) hx hb dX12_central_40 (by decide) (fun c12 => absurd c12 (by decide)) (fun c12 => ?_)
          refine lv_iconst (v := 1) hx hb dX12_central_43 (by decide) ?_
          refine lv_goto (tgt := 48) hx hb dX12_central_44 (by decide) ?_
          refine rc_i hAL hS hA (va_runV (As := [.int 1]) (rest := []) ⟨hx, hb, hml, hown, noTs⟩ (r_X12_gives l dC dI H.size cs b u10 a hA11 1) ⟨cbE 1 (wd_1621 hE) (wd_126 hE) (wd_1618 hE) rfl rfl (by decide +kernel) ⟨Nat.le_of_ble_eq_true rfl, Nat.le_of_ble_eq_true rfl⟩, (wd_1620 hE), (wd_80 hE)⟩ ⟨PR.blind, r_recv hK hP rfl, (r_pre (av := [.ref (b 0), .int 1]) hK hP hJ hE)⟩ rfl rfl hl.1 rfl (lv_room (Nat.le_of_ble_eq_true rfl)) dX12_central_48 ⟨Nat.le_of_ble_eq_true rfl, Nat.le_of_ble_eq_true rfl⟩) (fun r13 u13 H locs hpo13 hP hS => ?_)
          obtain ⟨hr13, hq13⟩ := hpo13
          have hA14 := (hq13.1 1 List.not_mem_nil).trans hA11
          have hfr := FR.step hfr hq13 (fun _ h => absurd h List.not_mem_nil) (by decide) (fun h => rfl)
          subst hr13
          refine lv_goto (tgt := 59) hx hb dX12_central_51 (by decide) ?_
          exact W.iret (v := 1) hx hb hr (fun t ht hW => ⟨⟨1, u13, rfl, ⟨trivial, hfr⟩, (show va_P (dC, dI) vwCl (rW cs b u13) t.heap by rw [ht]; exact hP)⟩, hS.F ht⟩) hS.2.2 dX12_central_59
        · refine lv_if_eq (tgt := 47) hx hb dX12_central_40 (by decide) (fun c15 => ?_) (fun c15 => absurd c15 (by decide))
          refine lv_iconst (v := 0) hx hb dX12_central_47 (by decide) ?_
          refine rc_i hAL hS hA (va_runV (As := [.int 0]) (rest := []) ⟨hx, hb, hml, hown, noTs⟩ (r_X12_gives l dC dI H.size cs b u10 a hA11 0) ⟨cbE 1 (wd_1621 hE) (wd_126 hE) (wd_1618 hE) rfl rfl (by decide +kernel) ⟨Nat.le_of_ble_eq_true rfl, Nat.le_of_ble_eq_true rfl⟩, (wd_1620 hE), (wd_80 hE)⟩ ⟨PR.blind, r_recv hK hP rfl, (r_pre (av := [.ref (b 0), .int 0]) hK hP hJ hE)⟩ rfl rfl hl.1 rfl (lv_room (Nat.le_of_ble_eq_true rfl)) dX12_central_48 ⟨Nat.le_of_ble_eq_true rfl, Nat.le_of_ble_eq_true rfl⟩) (fun r16 u16 H locs hpo16 hP hS => ?_)
          obtain ⟨hr16, hq16⟩ := hpo16
          have hA17 := (hq16.1 1 List.not_mem_nil).trans hA11
          have hfr := FR.step hfr hq16 (fun _ h => absurd h List.not_mem_nil) (by decide) (fun h => rfl)
          subst hr16
          refine lv_goto (tgt := 59) hx hb dX12_central_51 (by decide) ?_
          exact W.iret (v := 0) hx hb hr (fun t ht hW => ⟨⟨0, u16, rfl, ⟨trivial, hfr⟩, (show va_P (dC, dI) vwCl (rW cs b u16) t.heap by rw [ht]; exact hP)⟩, hS.F ht⟩) hS.2.2 dX12_central_59
    · refine lv_if_ne (tgt := 24) hx hb dX12_central_15 (by decide) (fun c18 => absurd c18 (by decide)) (fun c18 => ?_)
      refine lv_aload_n hx hb dX12_central_18 rfl (lv_at hl 0 rfl) ?_
      refine lv_iconst (v := 2) hx hb dX12_central_19 (by decide) ?_
      refine rc_i hAL hS hA (va_runV (As := [.int 2]) (rest := []) ⟨hx, hb, hml, hown, noTs⟩ (r_X12_refuse l dC dI s.heap.size cs b u a hA1 2) ⟨cbE 1 (wd_1498 hE) (wd_126 hE) (wd_1495 hE) rfl rfl (by decide +kernel) ⟨Nat.le_of_ble_eq_true rfl, Nat.le_of_ble_eq_true rfl⟩, (wd_1497 hE), (wd_54 hE)⟩ ⟨PR.blind, r_recv hK hP rfl, (r_pre (av := [.ref (b 0), .int 2]) hK hP hJ hE)⟩ rfl rfl hl.1 rfl (lv_room (Nat.le_of_ble_eq_true rfl)) dX12_central_20 ⟨Nat.le_of_ble_eq_true rfl, Nat.le_of_ble_eq_true rfl⟩) (fun r19 u19 H locs hpo19 hP hS => ?_)
      obtain ⟨hr19, hq19⟩ := hpo19
      have hA20 := (hq19.1 1 List.not_mem_nil).trans hA1
      have hfr := FR.step hfr hq19 (fun _ h => absurd h List.not_mem_nil) (by decide) (fun h => rfl)
      subst hr19
      exact W.iret (v := -1) hx hb hr (fun t ht hW => ⟨⟨-1, u19, rfl, ⟨trivial, hfr⟩, (show va_P (dC, dI) vwCl (rW cs b u19) t.heap by rw [ht]; exact hP)⟩, hS.F ht⟩) hS.2.2 dX12_central_23
  · have c2 := mt (b_le (show Int32.toInt 0 = 0 from rfl) (rfl : Int32.toInt y = _)).mpr c2
    refine lv_aload_n hx hb dX12_central_4 rfl (lv_at hl 0 rfl) ?_
    refine lv_iconst (v := 1) hx hb dX12_central_5 (by decide) ?_
    refine rc_i hAL hS hA (va_runV (As := [.int 1]) (rest := []) ⟨hx, hb, hml, hown, noTs⟩ (r_X12_refuse l dC dI s.heap.size cs b u a hA1 1) ⟨cbE 1 (wd_1498 hE) (wd_126 hE) (wd_1495 hE) rfl rfl (by decide +kernel) ⟨Nat.le_of_ble_eq_true rfl, Nat.le_of_ble_eq_true rfl⟩, (wd_1497 hE), (wd_54 hE)⟩ ⟨PR.blind, r_recv hK hP rfl, (r_pre (av := [.ref (b 0), .int 1]) hK hP hJ hE)⟩ rfl rfl hl.1 rfl (lv_room (Nat.le_of_ble_eq_true rfl)) dX12_central_6 ⟨Nat.le_of_ble_eq_true rfl, Nat.le_of_ble_eq_true rfl⟩) (fun r21 u21 H locs hpo21 hP hS => ?_)
    obtain ⟨hr21, hq21⟩ := hpo21
    have hA22 := (hq21.1 1 List.not_mem_nil).trans hA1
    have hfr := FR.step hfr hq21 (fun _ h => absurd h List.not_mem_nil) (by decide) (fun h => rfl)
    subst hr21
    exact W.iret (v := -1) hx hb hr (fun t ht hW => ⟨⟨-1, u21, rfl, ⟨trivial, hfr⟩, (show va_P (dC, dI) vwCl (rW cs b u21) t.heap by rw [ht]; exact hP)⟩, hS.F ht⟩) hS.2.2 dX12_central_9

set_option maxHeartbeats 4000000 in
set_option maxRecDepth 100000 in
theorem r_X12_centre (l : Launch) (dC : Nat → ClassId) (dI : Nat → Nat → Nat) (sz : Nat) (cs : Nat → ClassId) (b : Nat → Nat) (u : RS) (a : Nat → Int32) (hA1 : rA u 1 = a) (x : Int32) (hp0 : BG a) : Met l yX12_centre [.code yX12_centre cX12_centre 4 (some .int)] ({ frames := 5, cells := 0, slots := 0, locals := 200 }) (PR [.ref (b 0), .int x] sz dC dI cs b u) (va_Qi (fun (r : Int32) (u' : RS) => (True) ∧ FR [3, 4, 5, 6, 7, 8, 9, 10, 11, 12, 13, 14, 17, 18, 19, 20] [1, 5, 21, 22] true u u') (BR dC dI cs b) (AR b sz)) 0 0 (AR b sz) := by
  refine Met.ofW (cc := cX12_centre) (maxL := 4) (ret := (some .int)) (by decide) rfl ?_
  intro p e s m args below meth c s₁ B hml hv
  obtain ⟨rfl, hsz, hP, hK, hJ, hE⟩ := hv
  have hx := B.exec
  have hb := B.bytes
  have hr := B.returns
  have hown : s.vm.findClass RX12 = some m.cls := findClass_of_methodNamed B.named
  have hlocks := B.notSynchronized
  subst hsz
  have hAL : ∀ i, i < 108 → AR b s.heap.size (b i) := fun i h => Or.inl ⟨i, h, rfl⟩
  have hA : ∀ q : Nat, s.heap.size ≤ q → AR b s.heap.size q := fun q h => Or.inr h
  have hS : va_S (AR b s.heap.size) s.heap s.heap [] := va_S.rf
  have hfr : FR [3, 4, 5, 6, 7, 8, 9, 10, 11, 12, 13, 14, 17, 18, 19, 20] [1, 5, 21, 22] true u u := FR.refl
  have hl := lv_entry ([.ref (b 0), .int x]) (n := 4) (Nat.le_of_ble_eq_true rfl)
  rw [lg_entry_eq]
  generalize (lg_sl ([.ref (b 0), .int x]) ++ List.replicate (4 - (lg_sl ([.ref (b 0), .int x])).length) Slot.unset).toArray = ls at hl ⊢
  have hl : lv_has ls 4 [(0, .ref (b 0)), (1, .int x)] := hl
  have hB := hp0
  have hG := bg_g hp0
  have ha1 := gg_le hG
  have ha1b := bg_w hp0
  refine lv_aload_n hx hb dX12_centre_0 rfl (lv_at hl 0 rfl) ?_
  refine lv_iload_n hx hb dX12_centre_1 rfl (lv_at hl 1 rfl) ?_
  refine vp_callSi (va_Run.run (va_runV (As := [.int x]) (rest := []) ⟨hx, hb, hml, hown, noTs⟩ (r_X12_isVertex l dC dI s.heap.size cs b u a hA1 x (by first | assumption | omega | rfl | (congr 1; omega))) ⟨cbE 1 (wd_1560 hE) (wd_126 hE) (wd_1557 hE) rfl rfl (by decide +kernel) ⟨Nat.le_of_ble_eq_true rfl, Nat.le_of_ble_eq_true rfl⟩, (wd_1559 hE), (wd_67 hE)⟩ ⟨PR.blind, r_recv hK hP rfl, (r_pre (av := [.ref (b 0), .int x]) hK hP hJ hE)⟩ rfl rfl hl.1 rfl (lv_room (Nat.le_of_ble_eq_true rfl)) dX12_centre_2 ⟨Nat.le_of_ble_eq_true rfl, Nat.le_of_ble_eq_true rfl⟩)) (fun r2 hr2 => ?_)
  rcases hr2 with ⟨rfl, hb2⟩ | ⟨rfl, hb2⟩
  · obtain ⟨n2, hbe2_1, hb2⟩ := hb2
    subst hbe2_1
    have hti3 := nI_toInt (n := n2) (by omega)
    refine lv_if_ne (tgt := 14) hx hb dX12_centre_5 (by decide) (fun c4 => ?_) (fun c4 => absurd c4 (by decide))
    refine lv_iconst (v := 0) hx hb dX12_centre_14 (by decide) ?_
    refine lv_istore_n (lv' := [(2, .int 0), (0, .ref (b 0)), (1, .int (nI n2))]) hx hb dX12_centre_15 rfl hl (by decide) rfl (fun ls hl => ?_)
    refine lv_iconst (v := 0) hx hb dX12_centre_16 (by decide) ?_
    refine lv_istore_n (lv' := [(3, .int 0), (2, .int 0), (0, .ref (b 0)), (1, .int (nI n2))]) hx hb dX12_centre_17 rfl hl (by decide) rfl (fun ls hl => ?_)
    refine r_ind (I := fun n u_ H locs ls => va_P (dC, dI) vwCl (rW cs b u_) H ∧ va_S (AR b s.heap.size) s.heap H locs ∧ FR [3, 4, 5, 6, 7, 8, 9, 10, 11, 12, 13, 14, 17, 18, 19, 20] [1, 5, 21, 22] true u u_ ∧ ∃ (k_5 : Nat) (x1_5 : Int32), n = od a n2 - k_5 ∧ (k_5 ≤ od a n2) ∧ lv_has ls 4 [(0, .ref (b 0)), (1, .int (nI n2)), (2, .int x1_5), (3, .int (nI k_5))]) (fun n u5 H locs ls hI ih5 => ?_) _ u _ _ _ ⟨hP, hS, hfr, 0, 0, rfl, (by first | assumption | omega | rfl | (congr 1; omega)), lv_sub hl [2, 3, 1, 0] rfl⟩
    obtain ⟨hP, hS, hfr, k_5, x1_5, hmu5, hL5_0, hl⟩ := hI
    have hA6 := (hfr.1 1 (by decide)).trans hA1
    subst hmu5
    refine lv_iload_n hx hb dX12_centre_18 rfl (lv_at hl 3 rfl) ?_
    refine lv_aload_n hx hb dX12_centre_19 rfl (lv_at hl 0 rfl) ?_
    refine lv_iload_n hx hb dX12_centre_20 rfl (lv_at hl 1 rfl) ?_
    refine vp_callSi (va_Run.run (va_runV (As := [.int (nI n2)]) (rest := [.int (nI k_5)]) ⟨hx, hb, hml, hown, noTs⟩ (r_X12_orderAt l dC dI H.size cs b u5 a hA6 n2 (by first | assumption | omega | rfl | (congr 1; omega)) (by first | assumption | omega | rfl | (congr 1; omega))) ⟨cbE 1 (wd_1564 hE) (wd_126 hE) (wd_1561 hE) rfl rfl (by decide +kernel) ⟨Nat.le_of_ble_eq_true rfl, Nat.le_of_ble_eq_true rfl⟩, (wd_1563 hE), (wd_68 hE)⟩ ⟨PR.blind, r_recv hK hP rfl, (r_pre (av := [.ref (b 0), .int (nI n2)]) hK hP hJ hE)⟩ rfl rfl hl.1 rfl (lv_room (Nat.le_of_ble_eq_true rfl)) dX12_centre_21 ⟨Nat.le_of_ble_eq_true rfl, Nat.le_of_ble_eq_true rfl⟩)) (fun r7 hr7 => ?_)
    have hau7 := (gg_od (a := a) (v := n2) (by assumption) (by first | assumption | omega)).2
    subst hr7
    refine lv_icmp_ge (tgt := 50) hx hb dX12_centre_24 (by decide) (fun c8 => ?_) (fun c8 => ?_)
    · have c8 := (b_le (nI_toInt (n := od a n2) (by omega)) (nI_toInt (n := k_5) (by omega))).mp c8
      refine lv_aload_n hx hb dX12_centre_50 rfl (lv_at hl 0 rfl) ?_
      refine lv_iload_n hx hb dX12_centre_51 rfl (lv_at hl 2 rfl) ?_
      refine rc_i hAL hS hA (va_runV (As := [.int x1_5]) (rest := []) ⟨hx, hb, hml, hown, noTs⟩ (r_X12_gives l dC dI H.size cs b u5 a hA6 x1_5) ⟨cbE 1 (wd_1621 hE) (wd_126 hE) (wd_1618 hE) rfl rfl (by decide +kernel) ⟨Nat.le_of_ble_eq_true rfl, Nat.le_of_ble_eq_true rfl⟩, (wd_1620 hE), (wd_80 hE)⟩ ⟨PR.blind, r_recv hK hP rfl, (r_pre (av := [.ref (b 0), .int x1_5]) hK hP hJ hE)⟩ rfl rfl hl.1 rfl (lv_room (Nat.le_of_ble_eq_true rfl)) dX12_centre_52 ⟨Nat.le_of_ble_eq_true rfl, Nat.le_of_ble_eq_true rfl⟩) (fun r9 u9 H locs hpo9 hP hS => ?_)
      obtain ⟨hr9, hq9⟩ := hpo9
      have hA10 := (hq9.1 1 List.not_mem_nil).trans hA6
      have hfr := FR.step hfr hq9 (fun _ h => absurd h List.not_mem_nil) (by decide) (fun h => rfl)
      refine W.eq (g2 := F0 m 55 ls [.int x1_5]) (by rw [hr9]) ?_
      exact W.iret (v := x1_5) hx hb hr (fun t ht hW => ⟨⟨x1_5, u9, rfl, ⟨trivial, hfr⟩, (show va_P (dC, dI) vwCl (rW cs b u9) t.heap by rw [ht]; exact hP)⟩, hS.F ht⟩) hS.2.2 dX12_centre_55
    · have c8 := mt (b_le (nI_toInt (n := od a n2) (by omega)) (nI_toInt (n := k_5) (by omega))).mpr c8
      refine lv_iload_n hx hb dX12_centre_27 rfl (lv_at hl 2 rfl) ?_
      refine lv_aload_n hx hb dX12_centre_28 rfl (lv_at hl 0 rfl) ?_
      refine lv_iload_n hx hb dX12_centre_29 rfl (lv_at hl 1 rfl) ?_
      refine lv_iload_n hx hb dX12_centre_30 rfl (lv_at hl 3 rfl) ?_
      refine rc_i hAL hS hA (va_runV (As := [.int (nI n2), .int (nI k_5)]) (rest := [.int x1_5]) ⟨hx, hb, hml, hown, noTs⟩ (r_X12_isCentral l dC dI H.size cs b u5 a hA6 n2 (nI k_5) (by first | assumption | omega | rfl | (congr 1; omega)) (by first | assumption | omega | rfl | (congr 1; omega))) ⟨cbE 2 (wd_1832 hE) (wd_126 hE) (wd_1829 hE) rfl rfl (by decide +kernel) ⟨Nat.le_of_ble_eq_true rfl, Nat.le_of_ble_eq_true rfl⟩, (wd_1831 hE), (wd_101 hE)⟩ ⟨PR.blind, r_recv hK hP rfl, (r_pre (av := [.ref (b 0), .int (nI n2), .int (nI k_5)]) hK hP hJ hE)⟩ rfl rfl hl.1 rfl (lv_room (Nat.le_of_ble_eq_true rfl)) dX12_centre_31 ⟨Nat.le_of_ble_eq_true rfl, Nat.le_of_ble_eq_true rfl⟩) (fun r11 u11 H locs hpo11 hP hS => ?_)
      obtain ⟨hr11, hq11⟩ := hpo11
      have hA12 := (hq11.1 1 (by decide)).trans hA6
      have hfr := FR.step hfr hq11 (by decide) (fun _ h => absurd h List.not_mem_nil) (fun h => rfl)
      rcases hr11 with ⟨rfl, hb11⟩ | ⟨rfl, hb11⟩
      · refine lv_if_eq (tgt := 41) hx hb dX12_centre_34 (by decide) (fun c13 => absurd c13 (by decide)) (fun c13 => ?_)
        refine lv_iconst (v := 1) hx hb dX12_centre_37 (by decide) ?_
        refine lv_goto (tgt := 42) hx hb dX12_centre_38 (by decide) ?_
        refine lv_iadd hx hb dX12_centre_42 ?_
        refine lv_topi (fun x14 ex14 => ?_)
        refine lv_istore_n (lv' := [(2, .int x14), (0, .ref (b 0)), (1, .int (nI n2)), (3, .int (nI k_5))]) hx hb dX12_centre_43 rfl hl (by decide) rfl (fun ls hl => ?_)
        refine lv_iinc (v := nI (k_5 + 1)) (lv' := [(3, .int (nI (k_5 + 1))), (2, .int x14), (0, .ref (b 0)), (1, .int (nI n2))]) hx hb dX12_centre_44 hl (k := 3) rfl (nI_1 k_5) (by decide) rfl (fun ls hl => ?_)
        refine lv_goto (tgt := 18) hx hb dX12_centre_47 (by decide) ?_
        exact ih5 _ u11 _ _ _ (by omega) ⟨hP, hS, hfr, (k_5 + 1), x14, rfl, (by first | assumption | omega | rfl | (congr 1; omega)), lv_sub hl [2, 3, 1, 0] rfl⟩
      · refine lv_if_eq (tgt := 41) hx hb dX12_centre_34 (by decide) (fun c15 => ?_) (fun c15 => absurd c15 (by decide))
        refine lv_iconst (v := 0) hx hb dX12_centre_41 (by decide) ?_
        refine lv_iadd hx hb dX12_centre_42 ?_
        refine lv_topi (fun x16 ex16 => ?_)
        refine lv_istore_n (lv' := [(2, .int x16), (0, .ref (b 0)), (1, .int (nI n2)), (3, .int (nI k_5))]) hx hb dX12_centre_43 rfl hl (by decide) rfl (fun ls hl => ?_)
        refine lv_iinc (v := nI (k_5 + 1)) (lv' := [(3, .int (nI (k_5 + 1))), (2, .int x16), (0, .ref (b 0)), (1, .int (nI n2))]) hx hb dX12_centre_44 hl (k := 3) rfl (nI_1 k_5) (by decide) rfl (fun ls hl => ?_)
        refine lv_goto (tgt := 18) hx hb dX12_centre_47 (by decide) ?_
        exact ih5 _ u11 _ _ _ (by omega) ⟨hP, hS, hfr, (k_5 + 1), x16, rfl, (by first | assumption | omega | rfl | (congr 1; omega)), lv_sub hl [2, 3, 1, 0] rfl⟩
  · refine lv_if_ne (tgt := 14) hx hb dX12_centre_5 (by decide) (fun c17 => absurd c17 (by decide)) (fun c17 => ?_)
    refine lv_aload_n hx hb dX12_centre_8 rfl (lv_at hl 0 rfl) ?_
    refine lv_iconst (v := 2) hx hb dX12_centre_9 (by decide) ?_
    refine rc_i hAL hS hA (va_runV (As := [.int 2]) (rest := []) ⟨hx, hb, hml, hown, noTs⟩ (r_X12_refuse l dC dI s.heap.size cs b u a hA1 2) ⟨cbE 1 (wd_1498 hE) (wd_126 hE) (wd_1495 hE) rfl rfl (by decide +kernel) ⟨Nat.le_of_ble_eq_true rfl, Nat.le_of_ble_eq_true rfl⟩, (wd_1497 hE), (wd_54 hE)⟩ ⟨PR.blind, r_recv hK hP rfl, (r_pre (av := [.ref (b 0), .int 2]) hK hP hJ hE)⟩ rfl rfl hl.1 rfl (lv_room (Nat.le_of_ble_eq_true rfl)) dX12_centre_10 ⟨Nat.le_of_ble_eq_true rfl, Nat.le_of_ble_eq_true rfl⟩) (fun r18 u18 H locs hpo18 hP hS => ?_)
    obtain ⟨hr18, hq18⟩ := hpo18
    have hA19 := (hq18.1 1 List.not_mem_nil).trans hA1
    have hfr := FR.step hfr hq18 (fun _ h => absurd h List.not_mem_nil) (by decide) (fun h => rfl)
    subst hr18
    exact W.iret (v := -1) hx hb hr (fun t ht hW => ⟨⟨-1, u18, rfl, ⟨trivial, hfr⟩, (show va_P (dC, dI) vwCl (rW cs b u18) t.heap by rw [ht]; exact hP)⟩, hS.F ht⟩) hS.2.2 dX12_centre_13

set_option maxHeartbeats 4000000 in
set_option maxRecDepth 100000 in
theorem r_X12_having (l : Launch) (dC : Nat → ClassId) (dI : Nat → Nat → Nat) (sz : Nat) (cs : Nat → ClassId) (b : Nat → Nat) (u : RS) (a : Nat → Int32) (hA1 : rA u 1 = a) (x : Int32) (y : Int32) (hp0 : BG a) : Met l yX12_having [.code yX12_having cX12_having 5 (some .int)] ({ frames := 63, cells := 0, slots := 0, locals := 2520 }) (PR [.ref (b 0), .int x, .int y] sz dC dI cs b u) (va_Qi (fun (r : Int32) (u' : RS) => (True) ∧ FR [3, 4, 5, 6, 7, 8, 9, 10, 11, 12, 13, 14, 17, 18, 19, 20] [1, 5, 21, 22] true u u') (BR dC dI cs b) (AR b sz)) 0 0 (AR b sz) := by
  refine Met.ofW (cc := cX12_having) (maxL := 5) (ret := (some .int)) (by decide) rfl ?_
  intro p e s m args below meth c s₁ B hml hv
  obtain ⟨rfl, hsz, hP, hK, hJ, hE⟩ := hv
  have hx := B.exec
  have hb := B.bytes
  have hr := B.returns
  have hown : s.vm.findClass RX12 = some m.cls := findClass_of_methodNamed B.named
  have hlocks := B.notSynchronized
  subst hsz
  have hAL : ∀ i, i < 108 → AR b s.heap.size (b i) := fun i h => Or.inl ⟨i, h, rfl⟩
  have hA : ∀ q : Nat, s.heap.size ≤ q → AR b s.heap.size q := fun q h => Or.inr h
  have hS : va_S (AR b s.heap.size) s.heap s.heap [] := va_S.rf
  have hfr : FR [3, 4, 5, 6, 7, 8, 9, 10, 11, 12, 13, 14, 17, 18, 19, 20] [1, 5, 21, 22] true u u := FR.refl
  have hl := lv_entry ([.ref (b 0), .int x, .int y]) (n := 5) (Nat.le_of_ble_eq_true rfl)
  rw [lg_entry_eq]
  generalize (lg_sl ([.ref (b 0), .int x, .int y]) ++ List.replicate (5 - (lg_sl ([.ref (b 0), .int x, .int y])).length) Slot.unset).toArray = ls at hl ⊢
  have hl : lv_has ls 5 [(0, .ref (b 0)), (1, .int x), (2, .int y)] := hl
  have hB := hp0
  have hG := bg_g hp0
  have ha1 := gg_le hG
  have ha1b := bg_w hp0
  refine lv_iload_n hx hb dX12_having_0 rfl (lv_at hl 2 rfl) ?_
  refine lv_iconst (v := 1) hx hb dX12_having_1 (by decide) ?_
  refine lv_icmp_ge (tgt := 11) hx hb dX12_having_2 (by decide) (fun c2 => ?_) (fun c2 => ?_)
  · have c2 := (b_le (show Int32.toInt 1 = 1 from rfl) (rfl : Int32.toInt y = _)).mp c2
    refine lv_aload_n hx hb dX12_having_11 rfl (lv_at hl 0 rfl) ?_
    refine lv_iload_n hx hb dX12_having_12 rfl (lv_at hl 1 rfl) ?_
    refine vp_callSi (va_Run.run (va_runV (As := [.int x]) (rest := []) ⟨hx, hb, hml, hown, noTs⟩ (r_X12_isVertex l dC dI s.heap.size cs b u a hA1 x (by first | assumption | omega | rfl | (congr 1; omega))) ⟨cbE 1 (wd_1560 hE) (wd_126 hE) (wd_1557 hE) rfl rfl (by decide +kernel) ⟨Nat.le_of_ble_eq_true rfl, Nat.le_of_ble_eq_true rfl⟩, (wd_1559 hE), (wd_67 hE)⟩ ⟨PR.blind, r_recv hK hP rfl, (r_pre (av := [.ref (b 0), .int x]) hK hP hJ hE)⟩ rfl rfl hl.1 rfl (lv_room (Nat.le_of_ble_eq_true rfl)) dX12_having_13 ⟨Nat.le_of_ble_eq_true rfl, Nat.le_of_ble_eq_true rfl⟩)) (fun r3 hr3 => ?_)
    rcases hr3 with ⟨rfl, hb3⟩ | ⟨rfl, hb3⟩
    · obtain ⟨n3, hbe3_1, hb3⟩ := hb3
      subst hbe3_1
      have hti4 := nI_toInt (n := n3) (by omega)
      refine lv_if_ne (tgt := 25) hx hb dX12_having_16 (by decide) (fun c5 => ?_) (fun c5 => absurd c5 (by decide))
      refine lv_iconst (v := 0) hx hb dX12_having_25 (by decide) ?_
      refine lv_istore_n (lv' := [(3, .int 0), (0, .ref (b 0)), (1, .int (nI n3)), (2, .int y)]) hx hb dX12_having_26 rfl hl (by decide) rfl (fun ls hl => ?_)
      refine lv_iconst (v := 0) hx hb dX12_having_27 (by decide) ?_
      refine lv_istore (lv' := [(4, .int 0), (3, .int 0), (0, .ref (b 0)), (1, .int (nI n3)), (2, .int y)]) hx hb dX12_having_28 hl (by decide) rfl (fun ls hl => ?_)
      refine r_ind (I := fun n u_ H locs ls => va_P (dC, dI) vwCl (rW cs b u_) H ∧ va_S (AR b s.heap.size) s.heap H locs ∧ FR [3, 4, 5, 6, 7, 8, 9, 10, 11, 12, 13, 14, 17, 18, 19, 20] [1, 5, 21, 22] true u u_ ∧ ∃ (k_6 : Nat) (x1_6 : Int32), n = od a n3 - k_6 ∧ (k_6 ≤ od a n3) ∧ lv_has ls 5 [(0, .ref (b 0)), (1, .int (nI n3)), (2, .int y), (3, .int x1_6), (4, .int (nI k_6))]) (fun n u6 H locs ls hI ih6 => ?_) _ u _ _ _ ⟨hP, hS, hfr, 0, 0, rfl, (by first | assumption | omega | rfl | (congr 1; omega)), lv_sub hl [2, 3, 4, 1, 0] rfl⟩
      obtain ⟨hP, hS, hfr, k_6, x1_6, hmu6, hL6_0, hl⟩ := hI
      have hA7 := (hfr.1 1 (by decide)).trans hA1
      subst hmu6
      refine lv_iload hx hb dX12_having_30 (lv_at hl 4 rfl) ?_
      refine lv_aload_n hx hb dX12_having_32 rfl (lv_at hl 0 rfl) ?_
      refine lv_iload_n hx hb dX12_having_33 rfl (lv_at hl 1 rfl) ?_
      refine vp_callSi (va_Run.run (va_runV (As := [.int (nI n3)]) (rest := [.int (nI k_6)]) ⟨hx, hb, hml, hown, noTs⟩ (r_X12_orderAt l dC dI H.size cs b u6 a hA7 n3 (by first | assumption | omega | rfl | (congr 1; omega)) (by first | assumption | omega | rfl | (congr 1; omega))) ⟨cbE 1 (wd_1564 hE) (wd_126 hE) (wd_1561 hE) rfl rfl (by decide +kernel) ⟨Nat.le_of_ble_eq_true rfl, Nat.le_of_ble_eq_true rfl⟩, (wd_1563 hE), (wd_68 hE)⟩ ⟨PR.blind, r_recv hK hP rfl, (r_pre (av := [.ref (b 0), .int (nI n3)]) hK hP hJ hE)⟩ rfl rfl hl.1 rfl (lv_room (Nat.le_of_ble_eq_true rfl)) dX12_having_34 ⟨Nat.le_of_ble_eq_true rfl, Nat.le_of_ble_eq_true rfl⟩)) (fun r8 hr8 => ?_)
      have hau8 := (gg_od (a := a) (v := n3) (by assumption) (by first | assumption | omega)).2
      subst hr8
      refine lv_icmp_ge (tgt := 65) hx hb dX12_having_37 (by decide) (fun c9 => ?_) (fun c9 => ?_)
      · have c9 := (b_le (nI_toInt (n := od a n3) (by omega)) (nI_toInt (n := k_6) (by omega))).mp c9
        refine lv_aload_n hx hb dX12_having_65 rfl (lv_at hl 0 rfl) ?_
        refine lv_iload_n hx hb dX12_having_66 rfl (lv_at hl 3 rfl) ?_
        refine rc_i hAL hS hA (va_runV (As := [.int x1_6]) (rest := []) ⟨hx, hb, hml, hown, noTs⟩ (r_X12_gives l dC dI H.size cs b u6 a hA7 x1_6) ⟨cbE 1 (wd_1621 hE) (wd_126 hE) (wd_1618 hE) rfl rfl (by decide +kernel) ⟨Nat.le_of_ble_eq_true rfl, Nat.le_of_ble_eq_true rfl⟩, (wd_1620 hE), (wd_80 hE)⟩ ⟨PR.blind, r_recv hK hP rfl, (r_pre (av := [.ref (b 0), .int x1_6]) hK hP hJ hE)⟩ rfl rfl hl.1 rfl (lv_room (Nat.le_of_ble_eq_true rfl)) dX12_having_67 ⟨Nat.le_of_ble_eq_true rfl, Nat.le_of_ble_eq_true rfl⟩) (fun r10 u10 H locs hpo10 hP hS => ?_)
        obtain ⟨hr10, hq10⟩ := hpo10
        have hA11 := (hq10.1 1 List.not_mem_nil).trans hA7
        have hfr := FR.step hfr hq10 (fun _ h => absurd h List.not_mem_nil) (by decide) (fun h => rfl)
        refine W.eq (g2 := F0 m 70 ls [.int x1_6]) (by rw [hr10]) ?_
        exact W.iret (v := x1_6) hx hb hr (fun t ht hW => ⟨⟨x1_6, u10, rfl, ⟨trivial, hfr⟩, (show va_P (dC, dI) vwCl (rW cs b u10) t.heap by rw [ht]; exact hP)⟩, hS.F ht⟩) hS.2.2 dX12_having_70
      · have c9 := mt (b_le (nI_toInt (n := od a n3) (by omega)) (nI_toInt (n := k_6) (by omega))).mpr c9
        refine lv_iload_n hx hb dX12_having_40 rfl (lv_at hl 3 rfl) ?_
        refine lv_aload_n hx hb dX12_having_41 rfl (lv_at hl 0 rfl) ?_
        refine lv_iload_n hx hb dX12_having_42 rfl (lv_at hl 1 rfl) ?_
        refine lv_iload hx hb dX12_having_43 (lv_at hl 4 rfl) ?_
        refine vp_callSi (va_Run.run (va_runV (As := [.int (nI n3), .int (nI k_6)]) (rest := [.int x1_6]) ⟨hx, hb, hml, hown, noTs⟩ (r_X12_orderIn l dC dI H.size cs b u6 a hA7 n3 k_6 (by first | assumption | omega | rfl | (congr 1; omega)) (by first | assumption | omega | rfl | (congr 1; omega)) (by first | assumption | omega | rfl | (congr 1; omega))) ⟨cbE 2 (wd_1789 hE) (wd_126 hE) (wd_1786 hE) rfl rfl (by decide +kernel) ⟨Nat.le_of_ble_eq_true rfl, Nat.le_of_ble_eq_true rfl⟩, (wd_1788 hE), (wd_96 hE)⟩ ⟨PR.blind, r_recv hK hP rfl, (r_pre (av := [.ref (b 0), .int (nI n3), .int (nI k_6)]) hK hP hJ hE)⟩ rfl rfl hl.1 rfl (lv_room (Nat.le_of_ble_eq_true rfl)) dX12_having_45 ⟨Nat.le_of_ble_eq_true rfl, Nat.le_of_ble_eq_true rfl⟩)) (fun r12 hr12 => ?_)
        refine lv_iload_n hx hb dX12_having_48 rfl (lv_at hl 2 rfl) ?_
        refine lv_icmp_ne (tgt := 56) hx hb dX12_having_49 (by decide) (fun c13 => ?_) (fun c13 => ?_)
        · have c13 := mt (b_eq (rfl : Int32.toInt r12 = _) (rfl : Int32.toInt y = _)).mpr c13
          refine lv_iconst (v := 0) hx hb dX12_having_56 (by decide) ?_
          refine lv_iadd hx hb dX12_having_57 ?_
          refine lv_topi (fun x14 ex14 => ?_)
          refine lv_istore_n (lv' := [(3, .int x14), (0, .ref (b 0)), (1, .int (nI n3)), (2, .int y), (4, .int (nI k_6))]) hx hb dX12_having_58 rfl hl (by decide) rfl (fun ls hl => ?_)
          refine lv_iinc (v := nI (k_6 + 1)) (lv' := [(4, .int (nI (k_6 + 1))), (3, .int x14), (0, .ref (b 0)), (1, .int (nI n3)), (2, .int y)]) hx hb dX12_having_59 hl (k := 4) rfl (nI_1 k_6) (by decide) rfl (fun ls hl => ?_)
          refine lv_goto (tgt := 30) hx hb dX12_having_62 (by decide) ?_
          exact ih6 _ u6 _ _ _ (by omega) ⟨hP, hS, hfr, (k_6 + 1), x14, rfl, (by first | assumption | omega | rfl | (congr 1; omega)), lv_sub hl [2, 3, 4, 1, 0] rfl⟩
        · have c13 := (b_eq (rfl : Int32.toInt r12 = _) (rfl : Int32.toInt y = _)).mp c13
          refine lv_iconst (v := 1) hx hb dX12_having_52 (by decide) ?_
          refine lv_goto (tgt := 57) hx hb dX12_having_53 (by decide) ?_
          refine lv_iadd hx hb dX12_having_57 ?_
          refine lv_topi (fun x15 ex15 => ?_)
          refine lv_istore_n (lv' := [(3, .int x15), (0, .ref (b 0)), (1, .int (nI n3)), (2, .int y), (4, .int (nI k_6))]) hx hb dX12_having_58 rfl hl (by decide) rfl (fun ls hl => ?_)
          refine lv_iinc (v := nI (k_6 + 1)) (lv' := [(4, .int (nI (k_6 + 1))), (3, .int x15), (0, .ref (b 0)), (1, .int (nI n3)), (2, .int y)]) hx hb dX12_having_59 hl (k := 4) rfl (nI_1 k_6) (by decide) rfl (fun ls hl => ?_)
          refine lv_goto (tgt := 30) hx hb dX12_having_62 (by decide) ?_
          exact ih6 _ u6 _ _ _ (by omega) ⟨hP, hS, hfr, (k_6 + 1), x15, rfl, (by first | assumption | omega | rfl | (congr 1; omega)), lv_sub hl [2, 3, 4, 1, 0] rfl⟩
    · refine lv_if_ne (tgt := 25) hx hb dX12_having_16 (by decide) (fun c16 => absurd c16 (by decide)) (fun c16 => ?_)
      refine lv_aload_n hx hb dX12_having_19 rfl (lv_at hl 0 rfl) ?_
      refine lv_iconst (v := 2) hx hb dX12_having_20 (by decide) ?_
      refine rc_i hAL hS hA (va_runV (As := [.int 2]) (rest := []) ⟨hx, hb, hml, hown, noTs⟩ (r_X12_refuse l dC dI s.heap.size cs b u a hA1 2) ⟨cbE 1 (wd_1498 hE) (wd_126 hE) (wd_1495 hE) rfl rfl (by decide +kernel) ⟨Nat.le_of_ble_eq_true rfl, Nat.le_of_ble_eq_true rfl⟩, (wd_1497 hE), (wd_54 hE)⟩ ⟨PR.blind, r_recv hK hP rfl, (r_pre (av := [.ref (b 0), .int 2]) hK hP hJ hE)⟩ rfl rfl hl.1 rfl (lv_room (Nat.le_of_ble_eq_true rfl)) dX12_having_21 ⟨Nat.le_of_ble_eq_true rfl, Nat.le_of_ble_eq_true rfl⟩) (fun r17 u17 H locs hpo17 hP hS => ?_)
      obtain ⟨hr17, hq17⟩ := hpo17
      have hA18 := (hq17.1 1 List.not_mem_nil).trans hA1
      have hfr := FR.step hfr hq17 (fun _ h => absurd h List.not_mem_nil) (by decide) (fun h => rfl)
      subst hr17
      exact W.iret (v := -1) hx hb hr (fun t ht hW => ⟨⟨-1, u17, rfl, ⟨trivial, hfr⟩, (show va_P (dC, dI) vwCl (rW cs b u17) t.heap by rw [ht]; exact hP)⟩, hS.F ht⟩) hS.2.2 dX12_having_24
  · have c2 := mt (b_le (show Int32.toInt 1 = 1 from rfl) (rfl : Int32.toInt y = _)).mpr c2
    refine lv_aload_n hx hb dX12_having_5 rfl (lv_at hl 0 rfl) ?_
    refine lv_iconst (v := 1) hx hb dX12_having_6 (by decide) ?_
    refine rc_i hAL hS hA (va_runV (As := [.int 1]) (rest := []) ⟨hx, hb, hml, hown, noTs⟩ (r_X12_refuse l dC dI s.heap.size cs b u a hA1 1) ⟨cbE 1 (wd_1498 hE) (wd_126 hE) (wd_1495 hE) rfl rfl (by decide +kernel) ⟨Nat.le_of_ble_eq_true rfl, Nat.le_of_ble_eq_true rfl⟩, (wd_1497 hE), (wd_54 hE)⟩ ⟨PR.blind, r_recv hK hP rfl, (r_pre (av := [.ref (b 0), .int 1]) hK hP hJ hE)⟩ rfl rfl hl.1 rfl (lv_room (Nat.le_of_ble_eq_true rfl)) dX12_having_7 ⟨Nat.le_of_ble_eq_true rfl, Nat.le_of_ble_eq_true rfl⟩) (fun r19 u19 H locs hpo19 hP hS => ?_)
    obtain ⟨hr19, hq19⟩ := hpo19
    have hA20 := (hq19.1 1 List.not_mem_nil).trans hA1
    have hfr := FR.step hfr hq19 (fun _ h => absurd h List.not_mem_nil) (by decide) (fun h => rfl)
    subst hr19
    exact W.iret (v := -1) hx hb hr (fun t ht hW => ⟨⟨-1, u19, rfl, ⟨trivial, hfr⟩, (show va_P (dC, dI) vwCl (rW cs b u19) t.heap by rw [ht]; exact hP)⟩, hS.F ht⟩) hS.2.2 dX12_having_10
