set_option maxHeartbeats 4000000 in
set_option maxRecDepth 100000 in
theorem r_X12_listed (l : Launch) (dC : Nat → ClassId) (dI : Nat → Nat → Nat) (sz : Nat) (cs : Nat → ClassId) (b : Nat → Nat) (u : RS) (a : Nat → Int32) (hA1 : rA u 1 = a) (x : Int32) (hp0 : BG a) : Met l yX12_listed [.code yX12_listed cX12_listed 12 (some .long)] ({ frames := 22, cells := 0, slots := 0, locals := 880 }) (PR [.ref (b 0), .int x] sz dC dI cs b u) (va_Ql (fun (r : Int64) (u' : RS) => (True) ∧ FR [3, 4, 5, 6, 7, 8, 9, 10, 11, 12, 13, 14, 17, 18, 19, 20] [1, 5, 21, 22] true u u') (BR dC dI cs b) (AR b sz)) 0 0 (AR b sz) := by
  refine Met.ofW (cc := cX12_listed) (maxL := 12) (ret := (some .long)) (by decide) rfl ?_
  intro p e s m args below meth c s₁ B hml hv
  obtain ⟨rfl, hsz, hP, hK, hJ, hE⟩ := hv
  have hx := B.exec
  have hb := B.bytes
  have hr := B.returns
  have hown : s.vm.findClass RX12 = some m.cls := findClass_of_methodNamed B.named
  have hlocks := B.notSynchronized
  subst hsz
  have hAL : ∀ i, i < 108 → AR b s.heap.size (b i) := fun i h => Or.inl ⟨i, h, rfl⟩
  have hA : ∀ q : Nat, s.heap.size ≤ q → AR b s.heap.size q := fun q h => Or.inr h
  have hS : va_S (AR b s.heap.size) s.heap s.heap [] := va_S.rf
  have hfr : FR [3, 4, 5, 6, 7, 8, 9, 10, 11, 12, 13, 14, 17, 18, 19, 20] [1, 5, 21, 22] true u u := FR.refl
  have hl := lv_entry ([.ref (b 0), .int x]) (n := 12) (Nat.le_of_ble_eq_true rfl)
  rw [lg_entry_eq]
  generalize (lg_sl ([.ref (b 0), .int x]) ++ List.replicate (12 - (lg_sl ([.ref (b 0), .int x])).length) Slot.unset).toArray = ls at hl ⊢
  have hl : lv_has ls 12 [(0, .ref (b 0)), (1, .int x)] := hl
  have hB := hp0
  have hG := bg_g hp0
  have ha1 := gg_le hG
  have ha1b := bg_w hp0
  refine lv_aload_n hx hb dX12_listed_0 rfl (lv_at hl 0 rfl) ?_
  refine lv_iload_n hx hb dX12_listed_1 rfl (lv_at hl 1 rfl) ?_
  refine rc_i hAL hS hA (va_runV (As := [.int x]) (rest := []) ⟨hx, hb, hml, hown, noTs⟩ (r_X12_wrongLoop l dC dI s.heap.size cs b u a hA1 x (by first | assumption | omega | rfl | (congr 1; omega))) ⟨cbE 1 (wd_1781 hE) (wd_126 hE) (wd_1778 hE) rfl rfl (by decide +kernel) ⟨Nat.le_of_ble_eq_true rfl, Nat.le_of_ble_eq_true rfl⟩, (wd_1780 hE), (wd_95 hE)⟩ ⟨PR.blind, r_recv hK hP rfl, (r_pre (av := [.ref (b 0), .int x]) hK hP hJ hE)⟩ rfl rfl hl.1 rfl (lv_room (Nat.le_of_ble_eq_true rfl)) dX12_listed_2 ⟨Nat.le_of_ble_eq_true rfl, Nat.le_of_ble_eq_true rfl⟩) (fun r2 u2 H locs hpo2 hP hS => ?_)
  obtain ⟨hr2, hq2⟩ := hpo2
  have hA3 := (hq2.1 1 (by decide)).trans hA1
  have hfr := FR.step hfr hq2 (by decide) (fun _ h => absurd h List.not_mem_nil) (fun h => rfl)
  rcases hr2 with ⟨rfl, hb2⟩ | ⟨rfl, hb2⟩ | ⟨rfl, hb2⟩
  · obtain ⟨n2, hbe2_1, hb2⟩ := hb2
    subst hbe2_1
    have hti4 := nI_toInt (n := n2) (by omega)
    refine lv_istore_n (lv' := [(2, .int 0), (0, .ref (b 0)), (1, .int (nI n2))]) hx hb dX12_listed_5 rfl hl (by decide) rfl (fun ls hl => ?_)
    refine lv_iload_n hx hb dX12_listed_6 rfl (lv_at hl 0 rfl) ?_
    refine lv_if_le (tgt := 17) hx hb dX12_listed_7 (by decide) (fun c5 => ?_) (fun c5 => absurd c5 (by decide))
    refine lv_aload_n hx hb dX12_listed_17 rfl (lv_at hl 1 rfl) ?_
    refine lv_iload_n hx hb dX12_listed_18 rfl (lv_at hl 2 rfl) ?_
    refine lv_aload_n hx hb dX12_listed_19 rfl (lv_at hl 1 rfl) ?_
    refine r_get (v := .ref (b 2)) hx hb (ly_X12 hE) hown hK hP rfl 4 (by decide) (wd_1385 hE) (fun _ h9 => h9) rfl dX12_listed_20 ?_
    refine lv_iconst (v := 0) hx hb dX12_listed_23 (by decide) ?_
    refine r_aald (j := 2) (k := 0) (n := 10) (t0 := 4) (j2 := 3) hx hb hK hP (by decide) rfl rfl (by decide) (by decide) rfl dX12_listed_24 ?_
    obtain ⟨g6, hg6⟩ : ∃ g, rA u2 3 = g := ⟨_, rfl⟩
    refine rc_v hAL hS hA (va_runV (As := [.int (nI n2), .ref (b 3)]) (rest := []) ⟨hx, hb, hml, hown, noTs⟩ (r_X12_takes l dC dI H.size cs b u2 a hA3 n2 3 (by decide) g6 hg6 (by first | assumption | omega | rfl | (congr 1; omega)) (by first | assumption | omega | rfl | (congr 1; omega))) ⟨cbE 2 (wd_1657 hE) (wd_126 hE) (wd_1654 hE) rfl rfl (by decide +kernel) ⟨Nat.le_of_ble_eq_true rfl, Nat.le_of_ble_eq_true rfl⟩, (wd_1656 hE), (wd_84 hE)⟩ ⟨PR.blind, r_recv hK hP rfl, (r_pre (av := [.ref (b 0), .int (nI n2), .ref (b 3)]) hK hP hJ hE)⟩ rfl rfl hl.1 rfl (lv_room (Nat.le_of_ble_eq_true rfl)) dX12_listed_25 ⟨Nat.le_of_ble_eq_true rfl, Nat.le_of_ble_eq_true rfl⟩) (fun u7 H locs hpo7 hP hS => ?_)
    obtain ⟨h7_0, h7_1, h7_2, h7_3, h7_4, h7_5, hq7⟩ := hpo7
    obtain ⟨w8, hA8⟩ : ∃ g, rA u7 3 = g := ⟨_, rfl⟩
    rw [hA8] at h7_0 h7_1 h7_2 h7_3 h7_4 h7_5
    have hA9 := (hq7.1 1 (by decide)).trans hA3
    have hfr := FR.step hfr hq7 (by decide) (fun _ h => absurd h List.not_mem_nil) (fun h => rfl)
    have hl7_0 := pg_le h7_0
    refine lv_aload_n hx hb dX12_listed_28 rfl (lv_at hl 1 rfl) ?_
    refine lv_aload_n hx hb dX12_listed_29 rfl (lv_at hl 1 rfl) ?_
    refine r_get (v := .ref (b 2)) hx hb (ly_X12 hE) hown hK hP rfl 4 (by decide) (wd_1385 hE) (fun _ h9 => h9) rfl dX12_listed_30 ?_
    refine lv_iconst (v := 0) hx hb dX12_listed_33 (by decide) ?_
    refine r_aald (j := 2) (k := 0) (n := 10) (t0 := 4) (j2 := 3) hx hb hK hP (by decide) rfl rfl (by decide) (by decide) rfl dX12_listed_34 ?_
    refine lv_aload_n hx hb dX12_listed_35 rfl (lv_at hl 1 rfl) ?_
    refine r_get (v := .ref (b 2)) hx hb (ly_X12 hE) hown hK hP rfl 4 (by decide) (wd_1385 hE) (fun _ h9 => h9) rfl dX12_listed_36 ?_
    refine lv_iconst (v := 1) hx hb dX12_listed_39 (by decide) ?_
    refine r_aald (j := 2) (k := 1) (n := 10) (t0 := 4) (j2 := 4) hx hb hK hP (by decide) rfl rfl (by decide) (by decide) rfl dX12_listed_40 ?_
    obtain ⟨g10, hg10⟩ : ∃ g, rA u7 4 = g := ⟨_, rfl⟩
    refine rc_v hAL hS hA (va_runV (As := [.ref (b 3), .ref (b 4)]) (rest := []) ⟨hx, hb, hml, hown, noTs⟩ (r_X12_forms l dC dI H.size cs b u7 a hA9 3 (by decide) w8 hA8 4 (by decide) g10 hg10 (by first | assumption | omega | rfl | (congr 1; omega)) (by first | assumption | omega | rfl | (congr 1; omega)) (by first | assumption | omega | rfl | (congr 1; omega)) (by first | assumption | omega | rfl | (congr 1; omega))) ⟨cbE 2 (wd_1661 hE) (wd_126 hE) (wd_1658 hE) rfl rfl (by decide +kernel) ⟨Nat.le_of_ble_eq_true rfl, Nat.le_of_ble_eq_true rfl⟩, (wd_1660 hE), (wd_85 hE)⟩ ⟨PR.blind, r_recv hK hP rfl, (r_pre (av := [.ref (b 0), .ref (b 3), .ref (b 4)]) hK hP hJ hE)⟩ rfl rfl hl.1 rfl (lv_room (Nat.le_of_ble_eq_true rfl)) dX12_listed_41 ⟨Nat.le_of_ble_eq_true rfl, Nat.le_of_ble_eq_true rfl⟩) (fun u11 H locs hpo11 hP hS => ?_)
    obtain ⟨h11_0, h11_1, h11_2, h11_3, h11_4, hq11⟩ := hpo11
    obtain ⟨w12, hA12⟩ : ∃ g, rA u11 4 = g := ⟨_, rfl⟩
    rw [hA12] at h11_0 h11_1 h11_2 h11_3 h11_4
    have hA13 := (hq11.1 1 (by decide)).trans hA9
    have hA14 := (hq11.1 3 (by decide)).trans hA8
    have hfr := FR.step hfr hq11 (by decide) (by decide) (fun h => rfl)
    have hl11_0 := pg_le h11_0
    have PB := h11_0
    refine lv_aload_n hx hb dX12_listed_44 rfl (lv_at hl 1 rfl) ?_
    refine r_get (v := .ref (b 2)) hx hb (ly_X12 hE) hown hK hP rfl 4 (by decide) (wd_1385 hE) (fun _ h9 => h9) rfl dX12_listed_45 ?_
    refine lv_iconst (v := 1) hx hb dX12_listed_48 (by decide) ?_
    refine r_aald (j := 2) (k := 1) (n := 10) (t0 := 4) (j2 := 4) hx hb hK hP (by decide) rfl rfl (by decide) (by decide) rfl dX12_listed_49 ?_
    refine lv_iconst (v := 1) hx hb dX12_listed_50 (by decide) ?_
    refine r_iald (j := 4) (k := 1) (n := 200) (x := nI (rn w12)) hx hb hK hP (by decide) rfl (by decide) (by decide) (by rw [hA12]; exact pg_n h11_0) dX12_listed_51 ?_
    refine lv_istore_n (lv' := [(3, .int (nI (rn w12))), (2, .int 0), (0, .ref (b 0)), (1, .int (nI n2))]) hx hb dX12_listed_52 rfl hl (by decide) rfl (fun ls hl => ?_)
    refine lv_iload_n hx hb dX12_listed_53 rfl (lv_at hl 0 rfl) ?_
    refine lv_bipush (v := 12) hx hb dX12_listed_54 (by decide) ?_
    refine lv_icmp_le (tgt := 66) hx hb dX12_listed_56 (by decide) (fun c16 => ?_) (fun c16 => ?_)
    · have c16 := (b_le (nI_toInt (n := rn w12) (by omega)) (show Int32.toInt 12 = 12 from rfl)).mp c16
      refine lv_aload_n hx hb dX12_listed_66 rfl (lv_at hl 2 rfl) ?_
      refine r_get (v := .ref (b 2)) hx hb (ly_X12 hE) hown hK hP rfl 4 (by decide) (wd_1385 hE) (fun _ h9 => h9) rfl dX12_listed_67 ?_
      refine lv_iconst (v := 1) hx hb dX12_listed_70 (by decide) ?_
      refine r_aald (j := 2) (k := 1) (n := 10) (t0 := 4) (j2 := 4) hx hb hK hP (by decide) rfl rfl (by decide) (by decide) rfl dX12_listed_71 ?_
      refine lv_iconst (v := 0) hx hb dX12_listed_72 (by decide) ?_
      refine r_iald (j := 4) (k := 0) (n := 200) (x := nI (rb w12)) hx hb hK hP (by decide) rfl (by decide) (by decide) (by rw [hA12]; exact pg_b h11_0) dX12_listed_73 ?_
      refine lv_istore (lv' := [(4, .int (nI (rb w12))), (3, .int (nI (rn w12))), (2, .int 0), (0, .ref (b 0)), (1, .int (nI n2))]) hx hb dX12_listed_74 hl (by decide) rfl (fun ls hl => ?_)
      refine lv_lconst (v := 0) hx hb dX12_listed_76 (by decide) ?_
      refine lv_lstore (lv' := [(5, .long 0), (4, .int (nI (rb w12))), (3, .int (nI (rn w12))), (2, .int 0), (0, .ref (b 0)), (1, .int (nI n2))]) hx hb dX12_listed_77 hl (by decide) rfl (fun ls hl => ?_)
      refine lv_iload hx hb dX12_listed_79 (lv_at hl 1 rfl) ?_
      refine lv_istore (lv' := [(7, .int (nI (rb w12))), (5, .long 0), (4, .int (nI (rb w12))), (3, .int (nI (rn w12))), (2, .int 0), (0, .ref (b 0)), (1, .int (nI n2))]) hx hb dX12_listed_81 hl (by decide) rfl (fun ls hl => ?_)
      refine lv_iconst (v := -1) hx hb dX12_listed_83 (by decide) ?_
      refine lv_istore (lv' := [(8, .int (-1)), (7, .int (nI (rb w12))), (5, .long 0), (4, .int (nI (rb w12))), (3, .int (nI (rn w12))), (2, .int 0), (0, .ref (b 0)), (1, .int (nI n2))]) hx hb dX12_listed_84 hl (by decide) rfl (fun ls hl => ?_)
      refine lv_aload_n hx hb dX12_listed_86 rfl (lv_at hl 6 rfl) ?_
      refine rc_v hAL hS hA (va_runV (As := []) (rest := []) ⟨hx, hb, hml, hown, noTs⟩ (r_X12_forgets l dC dI H.size cs b u11) ⟨cbE 0 (wd_1917 hE) (wd_126 hE) (wd_1914 hE) rfl rfl (by decide +kernel) ⟨Nat.le_of_ble_eq_true rfl, Nat.le_of_ble_eq_true rfl⟩, (wd_1916 hE), (wd_110 hE)⟩ ⟨PR.blind, r_recv hK hP rfl, (r_pre (av := [.ref (b 0)]) hK hP hJ hE)⟩ rfl rfl hl.1 rfl (lv_room (Nat.le_of_ble_eq_true rfl)) dX12_listed_87 ⟨Nat.le_of_ble_eq_true rfl, Nat.le_of_ble_eq_true rfl⟩) (fun u18 H locs hpo18 hP hS => ?_)
      obtain ⟨h18_0, hq18⟩ := hpo18
      have hA19 := (hq18.1 1 List.not_mem_nil).trans hA13
      have hA20 := (hq18.1 3 List.not_mem_nil).trans hA14
      have hA21 := (hq18.1 4 List.not_mem_nil).trans hA12
      have hfr := FR.step hfr hq18 (fun _ h => absurd h List.not_mem_nil) (fun _ h => absurd h List.not_mem_nil) (fun h => h)
      have FG := h18_0
      have HM0 : HM a (rb w12) u18 := fun v k q h1 h2 h3 => Or.inl (FG v k q h1 h2 h3)
      refine lv_iconst (v := 0) hx hb dX12_listed_90 (by decide) ?_
      refine lv_istore (lv' := [(9, .int 0), (8, .int (-1)), (7, .int (nI (rb w12))), (5, .long 0), (4, .int (nI (rb w12))), (3, .int (nI (rn w12))), (2, .int 0), (0, .ref (b 0)), (1, .int (nI n2))]) hx hb dX12_listed_91 hl (by decide) rfl (fun ls hl => ?_)
      refine r_ind (I := fun n u_ H locs ls => va_P (dC, dI) vwCl (rW cs b u_) H ∧ va_S (AR b s.heap.size) s.heap H locs ∧ FR [3, 4, 5, 6, 7, 8, 9, 10, 11, 12, 13, 14, 17, 18, 19, 20] [1, 5, 21, 22] true u u_ ∧ ∃ (i_22 : Nat) (n1_22 : Int64) (w_22 : Nat) (cm_22 : Int32) (cz_22 : Nat), n = rn w12 - i_22 ∧ (HM a (rb w12) u_) ∧ (i_22 ≤ rn w12) ∧ (w_22 < vN a) ∧ (cm_22.toInt = (cz_22 : Int) - 1) ∧ (cz_22 ≤ 12) ∧ (rA u_ 4 = w12) ∧ lv_has ls 12 [(0, .ref (b 0)), (1, .int (nI n2)), (2, .int 0), (3, .int (nI (rn w12))), (4, .int (nI (rb w12))), (5, .long n1_22), (7, .int (nI w_22)), (8, .int cm_22), (9, .int (nI i_22))]) (fun n u22 H locs ls hI ih22 => ?_) _ u18 _ _ _ ⟨hP, hS, hfr, 0, 0, (rb w12), (-1), 0, rfl, (by exact HM0), (by first | assumption | omega | rfl | (congr 1; omega)), (by first | assumption | omega | rfl | (congr 1; omega)), (by decide), (by first | assumption | omega | rfl | (congr 1; omega)), hA21, lv_sub hl [7, 8, 6, 5, 4, 3, 2, 1, 0] rfl⟩
      obtain ⟨hP, hS, hfr, i_22, n1_22, w_22, cm_22, cz_22, hmu22, hL22_0, hL22_1, hL22_2, hL22_3, hL22_4, hL22_5, hl⟩ := hI
      have hA23 := (hfr.1 1 (by decide)).trans hA1
      subst hmu22
      refine lv_iload hx hb dX12_listed_93 (lv_at hl 8 rfl) ?_
      refine lv_iload_n hx hb dX12_listed_95 rfl (lv_at hl 3 rfl) ?_
      refine lv_icmp_ge (tgt := 244) hx hb dX12_listed_96 (by decide) (fun c24 => ?_) (fun c24 => ?_)
      · have c24 := (b_le (nI_toInt (n := rn w12) (by omega)) (nI_toInt (n := i_22) (by omega))).mp c24
        refine lv_aload_n hx hb dX12_listed_244 rfl (lv_at hl 0 rfl) ?_
        refine lv_lload hx hb dX12_listed_245 (lv_at hl 5 rfl) ?_
        refine lv_aload_n hx hb dX12_listed_247 rfl (lv_at hl 0 rfl) ?_
        refine r_get (v := .ref (b 2)) hx hb (ly_X12 hE) hown hK hP rfl 4 (by decide) (wd_1385 hE) (fun _ h9 => h9) rfl dX12_listed_248 ?_
        refine lv_iconst (v := 1) hx hb dX12_listed_251 (by decide) ?_
        refine r_aald (j := 2) (k := 1) (n := 10) (t0 := 4) (j2 := 4) hx hb hK hP (by decide) rfl rfl (by decide) (by decide) rfl dX12_listed_252 ?_
        refine vp_callSi (va_Run.run (va_runS (As := [.ref (b 4)]) (rest := [.long n1_22, .ref (b 0)]) ⟨hx, hb, hml, hown, noTs⟩ (r_X12_last l dC dI H.size cs b u22 a hA23 4 (by decide) w12 hL22_5 (by first | assumption | omega | rfl | (congr 1; omega))) ⟨cbE 1 (wd_1709 hE) (wd_126 hE) (wd_1707 hE) rfl rfl (by decide +kernel) ⟨Nat.le_of_ble_eq_true rfl, Nat.le_of_ble_eq_true rfl⟩, (wd_1708 hE)⟩ ⟨PR.blind, (r_pre (av := [.ref (b 4)]) hK hP hJ hE)⟩ rfl rfl hl.1 rfl (lv_room (Nat.le_of_ble_eq_true rfl)) dX12_listed_253 ⟨Nat.le_of_ble_eq_true rfl, Nat.le_of_ble_eq_true rfl⟩)) (fun r25 hr25 => ?_)
        refine lv_i2l hx hb dX12_listed_256 rfl ?_
        refine lv_topl (fun x26 ex26 => ?_)
        refine lv_ladd hx hb dX12_listed_257 ?_
        refine lv_topl (fun x27 ex27 => ?_)
        refine vp_callSl (va_Run.run (va_runS (As := [.long x27]) (rest := [.ref (b 0)]) ⟨hx, hb, hml, hown, noTs⟩ (r_X12_held_any l dC dI H.size cs b u22 x27) ⟨cbE 1 (wd_1900 hE) (wd_126 hE) (wd_1898 hE) rfl rfl (by decide +kernel) ⟨Nat.le_of_ble_eq_true rfl, Nat.le_of_ble_eq_true rfl⟩, (wd_1899 hE)⟩ ⟨PR.blind, (r_pre (av := [.long x27]) hK hP hJ hE)⟩ rfl rfl hl.1 rfl (lv_room (Nat.le_of_ble_eq_true rfl)) dX12_listed_258 ⟨Nat.le_of_ble_eq_true rfl, Nat.le_of_ble_eq_true rfl⟩)) (fun r28 hr28 => ?_)
        refine rc_l hAL hS hA (va_runV (As := [.long r28]) (rest := []) ⟨hx, hb, hml, hown, noTs⟩ (r_X12_gives_ l dC dI H.size cs b u22 a hA23 r28) ⟨cbE 1 (wd_1905 hE) (wd_126 hE) (wd_1902 hE) rfl rfl (by decide +kernel) ⟨Nat.le_of_ble_eq_true rfl, Nat.le_of_ble_eq_true rfl⟩, (wd_1904 hE), (wd_109 hE)⟩ ⟨PR.blind, r_recv hK hP rfl, (r_pre (av := [.ref (b 0), .long r28]) hK hP hJ hE)⟩ rfl rfl hl.1 rfl (lv_room (Nat.le_of_ble_eq_true rfl)) dX12_listed_261 ⟨Nat.le_of_ble_eq_true rfl, Nat.le_of_ble_eq_true rfl⟩) (fun r29 u29 H locs hpo29 hP hS => ?_)
        obtain ⟨hr29, hq29⟩ := hpo29
        have hA30 := (hq29.1 1 List.not_mem_nil).trans hA23
        have hA31 := (hq29.1 4 List.not_mem_nil).trans hL22_5
        have hfr := FR.step hfr hq29 (fun _ h => absurd h List.not_mem_nil) (by decide) (fun h => rfl)
        refine W.eq (g2 := F0 m 264 ls [.long r28]) (by rw [hr29]) ?_
        exact W.lret (v := r28) hx hb hr (fun t ht hW => ⟨⟨r28, u29, rfl, ⟨trivial, hfr⟩, (show va_P (dC, dI) vwCl (rW cs b u29) t.heap by rw [ht]; exact hP)⟩, hS.F ht⟩) hS.2.2 dX12_listed_264
      · have c24 := mt (b_le (nI_toInt (n := rn w12) (by omega)) (nI_toInt (n := i_22) (by omega))).mpr c24
        have hsl := pg_sl PB (i := i_22) (by omega)
        refine lv_aload_n hx hb dX12_listed_99 rfl (lv_at hl 0 rfl) ?_
        refine r_get (v := .ref (b 2)) hx hb (ly_X12 hE) hown hK hP rfl 4 (by decide) (wd_1385 hE) (fun _ h9 => h9) rfl dX12_listed_100 ?_
        refine lv_iconst (v := 1) hx hb dX12_listed_103 (by decide) ?_
        refine r_aald (j := 2) (k := 1) (n := 10) (t0 := 4) (j2 := 4) hx hb hK hP (by decide) rfl rfl (by decide) (by decide) rfl dX12_listed_104 ?_
        refine lv_iload hx hb dX12_listed_105 (lv_at hl 8 rfl) ?_
        refine vp_callSi (va_Run.run (va_runS (As := [.ref (b 4), .int (nI i_22)]) (rest := []) ⟨hx, hb, hml, hown, noTs⟩ (r_X12_step l dC dI H.size cs b u22 a hA23 4 (by decide) w12 hL22_5 i_22 (by first | assumption | omega | rfl | (congr 1; omega)) (by first | assumption | omega | rfl | (congr 1; omega))) ⟨cbE 2 (wd_1602 hE) (wd_126 hE) (wd_1600 hE) rfl rfl (by decide +kernel) ⟨Nat.le_of_ble_eq_true rfl, Nat.le_of_ble_eq_true rfl⟩, (wd_1601 hE)⟩ ⟨PR.blind, (r_pre (av := [.ref (b 4), .int (nI i_22)]) hK hP hJ hE)⟩ rfl rfl hl.1 rfl (lv_room (Nat.le_of_ble_eq_true rfl)) dX12_listed_107 ⟨Nat.le_of_ble_eq_true rfl, Nat.le_of_ble_eq_true rfl⟩)) (fun r32 hr32 => ?_)
        have hau32 := pg_sl (a := a) (w := w12) (i := i_22) (by assumption) (by first | assumption | omega)
        subst hr32
        refine lv_istore (lv' := [(10, .int (nI (rs w12 i_22))), (0, .ref (b 0)), (1, .int (nI n2)), (2, .int 0), (3, .int (nI (rn w12))), (4, .int (nI (rb w12))), (5, .long n1_22), (7, .int (nI w_22)), (8, .int cm_22), (9, .int (nI i_22))]) hx hb dX12_listed_110 hl (by decide) rfl (fun ls hl => ?_)
        refine lv_iconst (v := 0) hx hb dX12_listed_112 (by decide) ?_
        refine lv_istore (lv' := [(11, .int 0), (10, .int (nI (rs w12 i_22))), (0, .ref (b 0)), (1, .int (nI n2)), (2, .int 0), (3, .int (nI (rn w12))), (4, .int (nI (rb w12))), (5, .long n1_22), (7, .int (nI w_22)), (8, .int cm_22), (9, .int (nI i_22))]) hx hb dX12_listed_113 hl (by decide) rfl (fun ls hl => ?_)
        refine r_ind (I := fun n u_ H locs ls => va_P (dC, dI) vwCl (rW cs b u_) H ∧ va_S (AR b s.heap.size) s.heap H locs ∧ FR [3, 4, 5, 6, 7, 8, 9, 10, 11, 12, 13, 14, 17, 18, 19, 20] [1, 5, 21, 22] true u u_ ∧ ∃ (sq_33 : Nat) (n1_33 : Int64), n = rs w12 i_22 - sq_33 ∧ (HM a (rb w12) u_) ∧ (sq_33 ≤ rs w12 i_22) ∧ (rA u_ 4 = w12) ∧ lv_has ls 12 [(0, .ref (b 0)), (1, .int (nI n2)), (2, .int 0), (3, .int (nI (rn w12))), (4, .int (nI (rb w12))), (5, .long n1_33), (7, .int (nI w_22)), (8, .int cm_22), (9, .int (nI i_22)), (10, .int (nI (rs w12 i_22))), (11, .int (nI sq_33))]) (fun n u33 H locs ls hI ih33 => ?_) _ u22 _ _ _ ⟨hP, hS, hfr, 0, n1_22, rfl, (by exact hL22_0), (by first | assumption | omega | rfl | (congr 1; omega)), hL22_5, lv_sub hl [2, 3, 4, 5, 6, 7, 8, 9, 10, 1, 0] rfl⟩
        obtain ⟨hP, hS, hfr, sq_33, n1_33, hmu33, hL33_0, hL33_1, hL33_2, hl⟩ := hI
        have hA34 := (hfr.1 1 (by decide)).trans hA1
        subst hmu33
        refine lv_iload hx hb dX12_listed_115 (lv_at hl 10 rfl) ?_
        refine lv_iload hx hb dX12_listed_117 (lv_at hl 9 rfl) ?_
        refine lv_icmp_ge (tgt := 177) hx hb dX12_listed_119 (by decide) (fun c35 => ?_) (fun c35 => ?_)
        · have c35 := (b_le (nI_toInt (n := rs w12 i_22) (by omega)) (nI_toInt (n := sq_33) (by omega))).mp c35
          refine lv_lload hx hb dX12_listed_177 (lv_at hl 5 rfl) ?_
          refine lv_aload_n hx hb dX12_listed_179 rfl (lv_at hl 0 rfl) ?_
          refine r_get (v := .ref (b 2)) hx hb (ly_X12 hE) hown hK hP rfl 4 (by decide) (wd_1385 hE) (fun _ h9 => h9) rfl dX12_listed_180 ?_
          refine lv_iconst (v := 1) hx hb dX12_listed_183 (by decide) ?_
          refine r_aald (j := 2) (k := 1) (n := 10) (t0 := 4) (j2 := 4) hx hb hK hP (by decide) rfl rfl (by decide) (by decide) rfl dX12_listed_184 ?_
          refine lv_iload hx hb dX12_listed_185 (lv_at hl 8 rfl) ?_
          refine vp_callSi (va_Run.run (va_runS (As := [.ref (b 4), .int (nI i_22)]) (rest := [.long n1_33]) ⟨hx, hb, hml, hown, noTs⟩ (r_X12_number l dC dI H.size cs b u33 a hA34 4 (by decide) w12 hL33_2 i_22 (by first | assumption | omega | rfl | (congr 1; omega))) ⟨cbE 2 (wd_1664 hE) (wd_126 hE) (wd_1662 hE) rfl rfl (by decide +kernel) ⟨Nat.le_of_ble_eq_true rfl, Nat.le_of_ble_eq_true rfl⟩, (wd_1663 hE)⟩ ⟨PR.blind, (r_pre (av := [.ref (b 4), .int (nI i_22)]) hK hP hJ hE)⟩ rfl rfl hl.1 rfl (lv_room (Nat.le_of_ble_eq_true rfl)) dX12_listed_187 ⟨Nat.le_of_ble_eq_true rfl, Nat.le_of_ble_eq_true rfl⟩)) (fun r36 hr36 => ?_)
          refine lv_iload hx hb dX12_listed_190 (lv_at hl 9 rfl) ?_
          refine lv_iload hx hb dX12_listed_192 (lv_at hl 7 rfl) ?_
          refine vp_callSi (va_Run.run (va_runS (As := [.int (nI (rs w12 i_22)), .int cm_22]) (rest := [.int r36, .long n1_33]) ⟨hx, hb, hml, hown, noTs⟩ (r_X12_leastAhead l dC dI H.size cs b u33 (rs w12 i_22) cm_22 cz_22 ((rfl : Int32.toInt cm_22 = _).trans (by omega)) (by first | assumption | omega | rfl | (congr 1; omega)) (by first | assumption | omega | rfl | (congr 1; omega))) ⟨cbE 2 (wd_1928 hE) (wd_126 hE) (wd_1926 hE) rfl rfl (by decide +kernel) ⟨Nat.le_of_ble_eq_true rfl, Nat.le_of_ble_eq_true rfl⟩, (wd_1927 hE)⟩ ⟨PR.blind, (r_pre (av := [.int (nI (rs w12 i_22)), .int cm_22]) hK hP hJ hE)⟩ rfl rfl hl.1 rfl (lv_room (Nat.le_of_ble_eq_true rfl)) dX12_listed_194 ⟨Nat.le_of_ble_eq_true rfl, Nat.le_of_ble_eq_true rfl⟩)) (fun r37 hr37 => ?_)
          obtain ⟨n37, rfl, hn37_0⟩ := hr37
          refine lv_isub hx hb dX12_listed_197 ?_
          refine lv_topi (fun x38 ex38 => ?_)
          refine lv_i2l hx hb dX12_listed_198 rfl ?_
          refine lv_topl (fun x39 ex39 => ?_)
          refine lv_aload_n hx hb dX12_listed_199 rfl (lv_at hl 0 rfl) ?_
          refine lv_aload_n hx hb dX12_listed_200 rfl (lv_at hl 0 rfl) ?_
          refine lv_iload hx hb dX12_listed_201 (lv_at hl 9 rfl) ?_
          refine vp_callSi (va_Run.run (va_runV (As := [.int (nI (rs w12 i_22))]) (rest := [.ref (b 0), .long x39, .long n1_33]) ⟨hx, hb, hml, hown, noTs⟩ (r_X12_to l dC dI H.size cs b u33 a hA34 (rs w12 i_22) (by first | assumption | omega | rfl | (congr 1; omega)) (by first | assumption | omega | rfl | (congr 1; omega))) ⟨cbE 1 (wd_1606 hE) (wd_126 hE) (wd_1603 hE) rfl rfl (by decide +kernel) ⟨Nat.le_of_ble_eq_true rfl, Nat.le_of_ble_eq_true rfl⟩, (wd_1605 hE), (wd_77 hE)⟩ ⟨PR.blind, r_recv hK hP rfl, (r_pre (av := [.ref (b 0), .int (nI (rs w12 i_22))]) hK hP hJ hE)⟩ rfl rfl hl.1 rfl (lv_room (Nat.le_of_ble_eq_true rfl)) dX12_listed_203 ⟨Nat.le_of_ble_eq_true rfl, Nat.le_of_ble_eq_true rfl⟩)) (fun r40 hr40 => ?_)
          have hau40 := gg_dst (a := a) (s := (rs w12 i_22)) (by assumption) (by first | assumption | omega)
          subst hr40
          refine lv_iload_n hx hb dX12_listed_206 rfl (lv_at hl 3 rfl) ?_
          refine lv_iconst (v := 1) hx hb dX12_listed_207 (by decide) ?_
          refine lv_isub hx hb dX12_listed_208 ?_
          refine W.eq (g2 := F0 m 209 ls [.int (nI ((rn w12) - 1)), .int (nI (dst a (rs w12 i_22))), .ref (b 0), .long x39, .long n1_33]) (congrArg (fun z : Int32 => F0 m 209 ls (.int z :: [.int (nI (dst a (rs w12 i_22))), .ref (b 0), .long x39, .long n1_33])) (pk_sub (a := rn w12) (b := 1) (by omega))) ?_
          refine lv_iload hx hb dX12_listed_209 (lv_at hl 8 rfl) ?_
          refine lv_isub hx hb dX12_listed_211 ?_
          refine W.eq (g2 := F0 m 212 ls [.int (nI (((rn w12) - 1) - i_22)), .int (nI (dst a (rs w12 i_22))), .ref (b 0), .long x39, .long n1_33]) (congrArg (fun z : Int32 => F0 m 212 ls (.int z :: [.int (nI (dst a (rs w12 i_22))), .ref (b 0), .long x39, .long n1_33])) (pk_sub (a := (rn w12) - 1) (b := i_22) (by omega))) ?_
          refine lv_iload hx hb dX12_listed_212 (lv_at hl 9 rfl) ?_
          refine lv_iload hx hb dX12_listed_214 (lv_at hl 4 rfl) ?_
          refine rc_l hAL hS hA (va_runV (As := [.int (nI (dst a (rs w12 i_22))), .int (nI (((rn w12) - 1) - i_22)), .int (nI (rs w12 i_22)), .int (nI (rb w12))]) (rest := [.long x39, .long n1_33]) ⟨hx, hb, hml, hown, noTs⟩ (r_X12_homes l dC dI 13 H.size cs b u33 a hA34 (dst a (rs w12 i_22)) (((rn w12) - 1) - i_22) (nI (rs w12 i_22)) (rb w12) ((rs w12 i_22) + 1) (by first | assumption | omega | rfl | (congr 1; omega)) (by first | assumption | omega | rfl | (congr 1; omega)) (by first | assumption | omega | rfl | (congr 1; omega)) ((nI_toInt (n := rs w12 i_22) (by omega)).trans (by omega)) (by first | assumption | omega | rfl | (congr 1; omega)) (by first | assumption | omega | rfl | (congr 1; omega)) (by first | assumption | omega | rfl | (congr 1; omega)) (by omega)) ⟨cbE 4 (wd_1921 hE) (wd_126 hE) (wd_1918 hE) rfl rfl (by decide +kernel) ⟨Nat.le_of_ble_eq_true rfl, Nat.le_of_ble_eq_true rfl⟩, (wd_1920 hE), (wd_111 hE)⟩ ⟨PR.blind, r_recv hK hP rfl, (r_pre (av := [.ref (b 0), .int (nI (dst a (rs w12 i_22))), .int (nI (((rn w12) - 1) - i_22)), .int (nI (rs w12 i_22)), .int (nI (rb w12))]) hK hP hJ hE)⟩ rfl rfl hl.1 rfl (lv_room (Nat.le_of_ble_eq_true rfl)) dX12_listed_216 ⟨Nat.le_of_ble_eq_true rfl, Nat.le_of_ble_eq_true rfl⟩) (fun r41 u41 H locs hpo41 hP hS => ?_)
          obtain ⟨hr41, h41_0, hq41⟩ := hpo41
          have hA42 := (hq41.1 1 List.not_mem_nil).trans hA34
          have hA43 := (hq41.1 4 List.not_mem_nil).trans hL33_2
          have hfr := FR.step hfr hq41 (fun _ h => absurd h List.not_mem_nil) (fun _ h => absurd h List.not_mem_nil) (fun h => h)
          have HM4 := h41_0
          subst hr41
          refine lv_lmul hx hb dX12_listed_219 ?_
          refine lv_topl (fun x44 ex44 => ?_)
          refine lv_ladd hx hb dX12_listed_220 ?_
          refine lv_topl (fun x45 ex45 => ?_)
          refine vp_callSl (va_Run.run (va_runS (As := [.long x45]) (rest := []) ⟨hx, hb, hml, hown, noTs⟩ (r_X12_held_any l dC dI H.size cs b u41 x45) ⟨cbE 1 (wd_1900 hE) (wd_126 hE) (wd_1898 hE) rfl rfl (by decide +kernel) ⟨Nat.le_of_ble_eq_true rfl, Nat.le_of_ble_eq_true rfl⟩, (wd_1899 hE)⟩ ⟨PR.blind, (r_pre (av := [.long x45]) hK hP hJ hE)⟩ rfl rfl hl.1 rfl (lv_room (Nat.le_of_ble_eq_true rfl)) dX12_listed_221 ⟨Nat.le_of_ble_eq_true rfl, Nat.le_of_ble_eq_true rfl⟩)) (fun r46 hr46 => ?_)
          refine lv_lstore (lv' := [(5, .long r46), (0, .ref (b 0)), (1, .int (nI n2)), (2, .int 0), (3, .int (nI (rn w12))), (4, .int (nI (rb w12))), (7, .int (nI w_22)), (8, .int cm_22), (9, .int (nI i_22)), (10, .int (nI (rs w12 i_22))), (11, .int (nI sq_33))]) hx hb dX12_listed_224 hl (by decide) rfl (fun ls hl => ?_)
          refine lv_iload hx hb dX12_listed_226 (lv_at hl 9 rfl) ?_
          refine lv_istore (lv' := [(8, .int (nI (rs w12 i_22))), (5, .long r46), (0, .ref (b 0)), (1, .int (nI n2)), (2, .int 0), (3, .int (nI (rn w12))), (4, .int (nI (rb w12))), (7, .int (nI w_22)), (9, .int (nI i_22)), (10, .int (nI (rs w12 i_22))), (11, .int (nI sq_33))]) hx hb dX12_listed_228 hl (by decide) rfl (fun ls hl => ?_)
          refine lv_aload_n hx hb dX12_listed_230 rfl (lv_at hl 2 rfl) ?_
          refine lv_iload hx hb dX12_listed_231 (lv_at hl 9 rfl) ?_
          refine vp_callSi (va_Run.run (va_runV (As := [.int (nI (rs w12 i_22))]) (rest := []) ⟨hx, hb, hml, hown, noTs⟩ (r_X12_to l dC dI H.size cs b u41 a hA42 (rs w12 i_22) (by first | assumption | omega | rfl | (congr 1; omega)) (by first | assumption | omega | rfl | (congr 1; omega))) ⟨cbE 1 (wd_1606 hE) (wd_126 hE) (wd_1603 hE) rfl rfl (by decide +kernel) ⟨Nat.le_of_ble_eq_true rfl, Nat.le_of_ble_eq_true rfl⟩, (wd_1605 hE), (wd_77 hE)⟩ ⟨PR.blind, r_recv hK hP rfl, (r_pre (av := [.ref (b 0), .int (nI (rs w12 i_22))]) hK hP hJ hE)⟩ rfl rfl hl.1 rfl (lv_room (Nat.le_of_ble_eq_true rfl)) dX12_listed_233 ⟨Nat.le_of_ble_eq_true rfl, Nat.le_of_ble_eq_true rfl⟩)) (fun r47 hr47 => ?_)
          have hau47 := gg_dst (a := a) (s := (rs w12 i_22)) (by assumption) (by first | assumption | omega)
          subst hr47
          refine lv_istore (lv' := [(7, .int (nI (dst a (rs w12 i_22)))), (8, .int (nI (rs w12 i_22))), (5, .long r46), (0, .ref (b 0)), (1, .int (nI n2)), (2, .int 0), (3, .int (nI (rn w12))), (4, .int (nI (rb w12))), (9, .int (nI i_22)), (10, .int (nI (rs w12 i_22))), (11, .int (nI sq_33))]) hx hb dX12_listed_236 hl (by decide) rfl (fun ls hl => ?_)
          refine lv_iinc (v := nI (i_22 + 1)) (lv' := [(9, .int (nI (i_22 + 1))), (7, .int (nI (dst a (rs w12 i_22)))), (8, .int (nI (rs w12 i_22))), (5, .long r46), (0, .ref (b 0)), (1, .int (nI n2)), (2, .int 0), (3, .int (nI (rn w12))), (4, .int (nI (rb w12))), (10, .int (nI (rs w12 i_22))), (11, .int (nI sq_33))]) hx hb dX12_listed_238 hl (k := 8) rfl (nI_1 i_22) (by decide) rfl (fun ls hl => ?_)
          refine lv_goto (tgt := 93) hx hb dX12_listed_241 (by decide) ?_
          exact ih22 _ u41 _ _ _ (by omega) ⟨hP, hS, hfr, (i_22 + 1), r46, (dst a (rs w12 i_22)), (nI (rs w12 i_22)), rs w12 i_22 + 1, rfl, (by exact HM4), (by first | assumption | omega | rfl | (congr 1; omega)), (by first | assumption | omega | rfl | (congr 1; omega)), (by rw [nI_toInt (by omega)]; omega), (by first | assumption | omega | rfl | (congr 1; omega)), hA43, lv_sub hl [4, 5, 6, 7, 8, 3, 1, 2, 0] rfl⟩
        · have c35 := mt (b_le (nI_toInt (n := rs w12 i_22) (by omega)) (nI_toInt (n := sq_33) (by omega))).mpr c35
          refine lv_aload_n hx hb dX12_listed_122 rfl (lv_at hl 0 rfl) ?_
          refine lv_iload hx hb dX12_listed_123 (lv_at hl 10 rfl) ?_
          refine vp_callSi (va_Run.run (va_runV (As := [.int (nI sq_33)]) (rest := []) ⟨hx, hb, hml, hown, noTs⟩ (r_X12_from l dC dI H.size cs b u33 a hA34 sq_33 (by first | assumption | omega | rfl | (congr 1; omega)) (by first | assumption | omega | rfl | (congr 1; omega))) ⟨cbE 1 (wd_1591 hE) (wd_126 hE) (wd_1588 hE) rfl rfl (by decide +kernel) ⟨Nat.le_of_ble_eq_true rfl, Nat.le_of_ble_eq_true rfl⟩, (wd_1590 hE), (wd_74 hE)⟩ ⟨PR.blind, r_recv hK hP rfl, (r_pre (av := [.ref (b 0), .int (nI sq_33)]) hK hP hJ hE)⟩ rfl rfl hl.1 rfl (lv_room (Nat.le_of_ble_eq_true rfl)) dX12_listed_125 ⟨Nat.le_of_ble_eq_true rfl, Nat.le_of_ble_eq_true rfl⟩)) (fun r48 hr48 => ?_)
          have hau48 := gg_src (a := a) (s := sq_33) (by assumption) (by first | assumption | omega)
          subst hr48
          refine lv_iload hx hb dX12_listed_128 (lv_at hl 6 rfl) ?_
          refine lv_icmp_ne (tgt := 171) hx hb dX12_listed_130 (by decide) (fun c49 => ?_) (fun c49 => ?_)
          · have c49 := mt (b_eq (nI_toInt (n := src a sq_33) (by omega)) (nI_toInt (n := w_22) (by omega))).mpr c49
            refine lv_iinc (v := nI (sq_33 + 1)) (lv' := [(11, .int (nI (sq_33 + 1))), (0, .ref (b 0)), (1, .int (nI n2)), (2, .int 0), (3, .int (nI (rn w12))), (4, .int (nI (rb w12))), (5, .long n1_33), (7, .int (nI w_22)), (8, .int cm_22), (9, .int (nI i_22)), (10, .int (nI (rs w12 i_22)))]) hx hb dX12_listed_171 hl (k := 10) rfl (nI_1 sq_33) (by decide) rfl (fun ls hl => ?_)
            refine lv_goto (tgt := 115) hx hb dX12_listed_174 (by decide) ?_
            exact ih33 _ u33 _ _ _ (by omega) ⟨hP, hS, hfr, (sq_33 + 1), n1_33, rfl, (by assumption), (by first | assumption | omega | rfl | (congr 1; omega)), hL33_2, lv_sub hl [1, 2, 3, 4, 5, 6, 7, 8, 9, 10, 0] rfl⟩
          · have c49 := (b_eq (nI_toInt (n := src a sq_33) (by omega)) (nI_toInt (n := w_22) (by omega))).mp c49
            refine lv_lload hx hb dX12_listed_133 (lv_at hl 5 rfl) ?_
            refine lv_aload_n hx hb dX12_listed_135 rfl (lv_at hl 0 rfl) ?_
            refine lv_iload hx hb dX12_listed_136 (lv_at hl 10 rfl) ?_
            refine lv_iload hx hb dX12_listed_138 (lv_at hl 7 rfl) ?_
            refine vp_callSi (va_Run.run (va_runV (As := [.int (nI sq_33), .int cm_22]) (rest := [.long n1_33]) ⟨hx, hb, hml, hown, noTs⟩ (r_X12_choices l dC dI H.size cs b u33 a hA34 sq_33 cm_22 cz_22 (by first | assumption | omega | rfl | (congr 1; omega)) (by first | assumption | omega | rfl | (congr 1; omega)) ((rfl : Int32.toInt cm_22 = _).trans (by omega)) (by first | assumption | omega | rfl | (congr 1; omega))) ⟨cbE 2 (wd_1897 hE) (wd_126 hE) (wd_1894 hE) rfl rfl (by decide +kernel) ⟨Nat.le_of_ble_eq_true rfl, Nat.le_of_ble_eq_true rfl⟩, (wd_1896 hE), (wd_108 hE)⟩ ⟨PR.blind, r_recv hK hP rfl, (r_pre (av := [.ref (b 0), .int (nI sq_33), .int cm_22]) hK hP hJ hE)⟩ rfl rfl hl.1 rfl (lv_room (Nat.le_of_ble_eq_true rfl)) dX12_listed_140 ⟨Nat.le_of_ble_eq_true rfl, Nat.le_of_ble_eq_true rfl⟩)) (fun r50 hr50 => ?_)
            have hau50 := ch_le (a := a) (k := cz_22) (s := sq_33) (by assumption) (by first | assumption | omega)
            subst hr50
            refine lv_i2l hx hb dX12_listed_143 rfl ?_
            refine W.eq (g2 := F0 m 144 ls [.long (lN (ch a sq_33 cz_22)), .long n1_33]) (congrArg (fun z : Int64 => F0 m 144 ls (.long z :: [.long n1_33])) (nI_l (n := ch a sq_33 cz_22) (by omega))) ?_
            refine lv_aload_n hx hb dX12_listed_144 rfl (lv_at hl 0 rfl) ?_
            refine lv_aload_n hx hb dX12_listed_145 rfl (lv_at hl 0 rfl) ?_
            refine lv_iload hx hb dX12_listed_146 (lv_at hl 10 rfl) ?_
            refine vp_callSi (va_Run.run (va_runV (As := [.int (nI sq_33)]) (rest := [.ref (b 0), .long (lN (ch a sq_33 cz_22)), .long n1_33]) ⟨hx, hb, hml, hown, noTs⟩ (r_X12_to l dC dI H.size cs b u33 a hA34 sq_33 (by first | assumption | omega | rfl | (congr 1; omega)) (by first | assumption | omega | rfl | (congr 1; omega))) ⟨cbE 1 (wd_1606 hE) (wd_126 hE) (wd_1603 hE) rfl rfl (by decide +kernel) ⟨Nat.le_of_ble_eq_true rfl, Nat.le_of_ble_eq_true rfl⟩, (wd_1605 hE), (wd_77 hE)⟩ ⟨PR.blind, r_recv hK hP rfl, (r_pre (av := [.ref (b 0), .int (nI sq_33)]) hK hP hJ hE)⟩ rfl rfl hl.1 rfl (lv_room (Nat.le_of_ble_eq_true rfl)) dX12_listed_148 ⟨Nat.le_of_ble_eq_true rfl, Nat.le_of_ble_eq_true rfl⟩)) (fun r51 hr51 => ?_)
            have hau51 := gg_dst (a := a) (s := sq_33) (by assumption) (by first | assumption | omega)
            subst hr51
            refine lv_iload_n hx hb dX12_listed_151 rfl (lv_at hl 3 rfl) ?_
            refine lv_iconst (v := 1) hx hb dX12_listed_152 (by decide) ?_
            refine lv_isub hx hb dX12_listed_153 ?_
            refine W.eq (g2 := F0 m 154 ls [.int (nI ((rn w12) - 1)), .int (nI (dst a sq_33)), .ref (b 0), .long (lN (ch a sq_33 cz_22)), .long n1_33]) (congrArg (fun z : Int32 => F0 m 154 ls (.int z :: [.int (nI (dst a sq_33)), .ref (b 0), .long (lN (ch a sq_33 cz_22)), .long n1_33])) (pk_sub (a := rn w12) (b := 1) (by omega))) ?_
            refine lv_iload hx hb dX12_listed_154 (lv_at hl 8 rfl) ?_
            refine lv_isub hx hb dX12_listed_156 ?_
            refine W.eq (g2 := F0 m 157 ls [.int (nI (((rn w12) - 1) - i_22)), .int (nI (dst a sq_33)), .ref (b 0), .long (lN (ch a sq_33 cz_22)), .long n1_33]) (congrArg (fun z : Int32 => F0 m 157 ls (.int z :: [.int (nI (dst a sq_33)), .ref (b 0), .long (lN (ch a sq_33 cz_22)), .long n1_33])) (pk_sub (a := (rn w12) - 1) (b := i_22) (by omega))) ?_
            refine lv_iload hx hb dX12_listed_157 (lv_at hl 10 rfl) ?_
            refine lv_iload hx hb dX12_listed_159 (lv_at hl 4 rfl) ?_
            refine rc_l hAL hS hA (va_runV (As := [.int (nI (dst a sq_33)), .int (nI (((rn w12) - 1) - i_22)), .int (nI sq_33), .int (nI (rb w12))]) (rest := [.long (lN (ch a sq_33 cz_22)), .long n1_33]) ⟨hx, hb, hml, hown, noTs⟩ (r_X12_homes l dC dI 13 H.size cs b u33 a hA34 (dst a sq_33) (((rn w12) - 1) - i_22) (nI sq_33) (rb w12) (sq_33 + 1) (by first | assumption | omega | rfl | (congr 1; omega)) (by first | assumption | omega | rfl | (congr 1; omega)) (by first | assumption | omega | rfl | (congr 1; omega)) ((nI_toInt (n := sq_33) (by omega)).trans (by omega)) (by first | assumption | omega | rfl | (congr 1; omega)) (by first | assumption | omega | rfl | (congr 1; omega)) (by first | assumption | omega | rfl | (congr 1; omega)) (by omega)) ⟨cbE 4 (wd_1921 hE) (wd_126 hE) (wd_1918 hE) rfl rfl (by decide +kernel) ⟨Nat.le_of_ble_eq_true rfl, Nat.le_of_ble_eq_true rfl⟩, (wd_1920 hE), (wd_111 hE)⟩ ⟨PR.blind, r_recv hK hP rfl, (r_pre (av := [.ref (b 0), .int (nI (dst a sq_33)), .int (nI (((rn w12) - 1) - i_22)), .int (nI sq_33), .int (nI (rb w12))]) hK hP hJ hE)⟩ rfl rfl hl.1 rfl (lv_room (Nat.le_of_ble_eq_true rfl)) dX12_listed_161 ⟨Nat.le_of_ble_eq_true rfl, Nat.le_of_ble_eq_true rfl⟩) (fun r52 u52 H locs hpo52 hP hS => ?_)
            obtain ⟨hr52, h52_0, hq52⟩ := hpo52
            have hA53 := (hq52.1 1 List.not_mem_nil).trans hA34
            have hA54 := (hq52.1 4 List.not_mem_nil).trans hL33_2
            have hfr := FR.step hfr hq52 (fun _ h => absurd h List.not_mem_nil) (fun _ h => absurd h List.not_mem_nil) (fun h => h)
            have HM3 := h52_0
            subst hr52
            refine lv_lmul hx hb dX12_listed_164 ?_
            refine lv_topl (fun x55 ex55 => ?_)
            refine lv_ladd hx hb dX12_listed_165 ?_
            refine lv_topl (fun x56 ex56 => ?_)
            refine vp_callSl (va_Run.run (va_runS (As := [.long x56]) (rest := []) ⟨hx, hb, hml, hown, noTs⟩ (r_X12_held_any l dC dI H.size cs b u52 x56) ⟨cbE 1 (wd_1900 hE) (wd_126 hE) (wd_1898 hE) rfl rfl (by decide +kernel) ⟨Nat.le_of_ble_eq_true rfl, Nat.le_of_ble_eq_true rfl⟩, (wd_1899 hE)⟩ ⟨PR.blind, (r_pre (av := [.long x56]) hK hP hJ hE)⟩ rfl rfl hl.1 rfl (lv_room (Nat.le_of_ble_eq_true rfl)) dX12_listed_166 ⟨Nat.le_of_ble_eq_true rfl, Nat.le_of_ble_eq_true rfl⟩)) (fun r57 hr57 => ?_)
            refine lv_lstore (lv' := [(5, .long r57), (0, .ref (b 0)), (1, .int (nI n2)), (2, .int 0), (3, .int (nI (rn w12))), (4, .int (nI (rb w12))), (7, .int (nI w_22)), (8, .int cm_22), (9, .int (nI i_22)), (10, .int (nI (rs w12 i_22))), (11, .int (nI sq_33))]) hx hb dX12_listed_169 hl (by decide) rfl (fun ls hl => ?_)
            refine lv_iinc (v := nI (sq_33 + 1)) (lv' := [(11, .int (nI (sq_33 + 1))), (5, .long r57), (0, .ref (b 0)), (1, .int (nI n2)), (2, .int 0), (3, .int (nI (rn w12))), (4, .int (nI (rb w12))), (7, .int (nI w_22)), (8, .int cm_22), (9, .int (nI i_22)), (10, .int (nI (rs w12 i_22)))]) hx hb dX12_listed_171 hl (k := 10) rfl (nI_1 sq_33) (by decide) rfl (fun ls hl => ?_)
            refine lv_goto (tgt := 115) hx hb dX12_listed_174 (by decide) ?_
            exact ih33 _ u52 _ _ _ (by omega) ⟨hP, hS, hfr, (sq_33 + 1), r57, rfl, (by assumption), (by first | assumption | omega | rfl | (congr 1; omega)), hA54, lv_sub hl [2, 3, 4, 5, 6, 1, 7, 8, 9, 10, 0] rfl⟩
    · have c16 := mt (b_le (nI_toInt (n := rn w12) (by omega)) (show Int32.toInt 12 = 12 from rfl)).mpr c16
      refine lv_aload_n hx hb dX12_listed_59 rfl (lv_at hl 2 rfl) ?_
      refine lv_iconst (v := 5) hx hb dX12_listed_60 (by decide) ?_
      refine rc_i hAL hS hA (va_runV (As := [.int 5]) (rest := []) ⟨hx, hb, hml, hown, noTs⟩ (r_X12_refuse l dC dI H.size cs b u11 a hA13 5) ⟨cbE 1 (wd_1498 hE) (wd_126 hE) (wd_1495 hE) rfl rfl (by decide +kernel) ⟨Nat.le_of_ble_eq_true rfl, Nat.le_of_ble_eq_true rfl⟩, (wd_1497 hE), (wd_54 hE)⟩ ⟨PR.blind, r_recv hK hP rfl, (r_pre (av := [.ref (b 0), .int 5]) hK hP hJ hE)⟩ rfl rfl hl.1 rfl (lv_room (Nat.le_of_ble_eq_true rfl)) dX12_listed_61 ⟨Nat.le_of_ble_eq_true rfl, Nat.le_of_ble_eq_true rfl⟩) (fun r58 u58 H locs hpo58 hP hS => ?_)
      obtain ⟨hr58, hq58⟩ := hpo58
      have hA59 := (hq58.1 1 List.not_mem_nil).trans hA13
      have hA60 := (hq58.1 3 List.not_mem_nil).trans hA14
      have hA61 := (hq58.1 4 List.not_mem_nil).trans hA12
      have hfr := FR.step hfr hq58 (fun _ h => absurd h List.not_mem_nil) (by decide) (fun h => rfl)
      subst hr58
      refine lv_i2l hx hb dX12_listed_64 rfl ?_
      refine lv_topl (fun x62 ex62 => ?_)
      exact W.lret (v := x62) hx hb hr (fun t ht hW => ⟨⟨x62, u58, rfl, ⟨trivial, hfr⟩, (show va_P (dC, dI) vwCl (rW cs b u58) t.heap by rw [ht]; exact hP)⟩, hS.F ht⟩) hS.2.2 dX12_listed_65
  · refine lv_istore_n (lv' := [(2, .int 2), (0, .ref (b 0)), (1, .int x)]) hx hb dX12_listed_5 rfl hl (by decide) rfl (fun ls hl => ?_)
    refine lv_iload_n hx hb dX12_listed_6 rfl (lv_at hl 0 rfl) ?_
    refine lv_if_le (tgt := 17) hx hb dX12_listed_7 (by decide) (fun c63 => absurd c63 (by decide)) (fun c63 => ?_)
    refine lv_aload_n hx hb dX12_listed_10 rfl (lv_at hl 1 rfl) ?_
    refine lv_iload_n hx hb dX12_listed_11 rfl (lv_at hl 0 rfl) ?_
    refine rc_i hAL hS hA (va_runV (As := [.int 2]) (rest := []) ⟨hx, hb, hml, hown, noTs⟩ (r_X12_refuse l dC dI H.size cs b u2 a hA3 2) ⟨cbE 1 (wd_1498 hE) (wd_126 hE) (wd_1495 hE) rfl rfl (by decide +kernel) ⟨Nat.le_of_ble_eq_true rfl, Nat.le_of_ble_eq_true rfl⟩, (wd_1497 hE), (wd_54 hE)⟩ ⟨PR.blind, r_recv hK hP rfl, (r_pre (av := [.ref (b 0), .int 2]) hK hP hJ hE)⟩ rfl rfl hl.1 rfl (lv_room (Nat.le_of_ble_eq_true rfl)) dX12_listed_12 ⟨Nat.le_of_ble_eq_true rfl, Nat.le_of_ble_eq_true rfl⟩) (fun r64 u64 H locs hpo64 hP hS => ?_)
    obtain ⟨hr64, hq64⟩ := hpo64
    have hA65 := (hq64.1 1 List.not_mem_nil).trans hA3
    have hfr := FR.step hfr hq64 (fun _ h => absurd h List.not_mem_nil) (by decide) (fun h => rfl)
    subst hr64
    refine lv_i2l hx hb dX12_listed_15 rfl ?_
    refine lv_topl (fun x66 ex66 => ?_)
    exact W.lret (v := x66) hx hb hr (fun t ht hW => ⟨⟨x66, u64, rfl, ⟨trivial, hfr⟩, (show va_P (dC, dI) vwCl (rW cs b u64) t.heap by rw [ht]; exact hP)⟩, hS.F ht⟩) hS.2.2 dX12_listed_16
  · refine lv_istore_n (lv' := [(2, .int 4), (0, .ref (b 0)), (1, .int x)]) hx hb dX12_listed_5 rfl hl (by decide) rfl (fun ls hl => ?_)
    refine lv_iload_n hx hb dX12_listed_6 rfl (lv_at hl 0 rfl) ?_
    refine lv_if_le (tgt := 17) hx hb dX12_listed_7 (by decide) (fun c67 => absurd c67 (by decide)) (fun c67 => ?_)
    refine lv_aload_n hx hb dX12_listed_10 rfl (lv_at hl 1 rfl) ?_
    refine lv_iload_n hx hb dX12_listed_11 rfl (lv_at hl 0 rfl) ?_
    refine rc_i hAL hS hA (va_runV (As := [.int 4]) (rest := []) ⟨hx, hb, hml, hown, noTs⟩ (r_X12_refuse l dC dI H.size cs b u2 a hA3 4) ⟨cbE 1 (wd_1498 hE) (wd_126 hE) (wd_1495 hE) rfl rfl (by decide +kernel) ⟨Nat.le_of_ble_eq_true rfl, Nat.le_of_ble_eq_true rfl⟩, (wd_1497 hE), (wd_54 hE)⟩ ⟨PR.blind, r_recv hK hP rfl, (r_pre (av := [.ref (b 0), .int 4]) hK hP hJ hE)⟩ rfl rfl hl.1 rfl (lv_room (Nat.le_of_ble_eq_true rfl)) dX12_listed_12 ⟨Nat.le_of_ble_eq_true rfl, Nat.le_of_ble_eq_true rfl⟩) (fun r68 u68 H locs hpo68 hP hS => ?_)
    obtain ⟨hr68, hq68⟩ := hpo68
    have hA69 := (hq68.1 1 List.not_mem_nil).trans hA3
    have hfr := FR.step hfr hq68 (fun _ h => absurd h List.not_mem_nil) (by decide) (fun h => rfl)
    subst hr68
    refine lv_i2l hx hb dX12_listed_15 rfl ?_
    refine lv_topl (fun x70 ex70 => ?_)
    exact W.lret (v := x70) hx hb hr (fun t ht hW => ⟨⟨x70, u68, rfl, ⟨trivial, hfr⟩, (show va_P (dC, dI) vwCl (rW cs b u68) t.heap by rw [ht]; exact hP)⟩, hS.F ht⟩) hS.2.2 dX12_listed_16

set_option maxHeartbeats 4000000 in
set_option maxRecDepth 100000 in
theorem r_X12_axis (l : Launch) (dC : Nat → ClassId) (dI : Nat → Nat → Nat) (sz : Nat) (cs : Nat → ClassId) (b : Nat → Nat) (u : RS) (a : Nat → Int32) (hA1 : rA u 1 = a) (x : Int32) (y : Int32) (hp0 : BG a) : Met l yX12_axis [.code yX12_axis cX12_axis 4 (some .int)] ({ frames := 7, cells := 0, slots := 0, locals := 280 }) (PR [.ref (b 0), .int x, .int y] sz dC dI cs b u) (va_Qi (fun (r : Int32) (u' : RS) => (True) ∧ FR [3, 4, 5, 6, 7, 8, 9, 10, 11, 12, 13, 14, 17, 18, 19, 20] [1, 5, 21, 22] true u u') (BR dC dI cs b) (AR b sz)) 0 0 (AR b sz) := by
  refine Met.ofW (cc := cX12_axis) (maxL := 4) (ret := (some .int)) (by decide) rfl ?_
  intro p e s m args below meth c s₁ B hml hv
  obtain ⟨rfl, hsz, hP, hK, hJ, hE⟩ := hv
  have hx := B.exec
  have hb := B.bytes
  have hr := B.returns
  have hown : s.vm.findClass RX12 = some m.cls := findClass_of_methodNamed B.named
  have hlocks := B.notSynchronized
  subst hsz
  have hAL : ∀ i, i < 108 → AR b s.heap.size (b i) := fun i h => Or.inl ⟨i, h, rfl⟩
  have hA : ∀ q : Nat, s.heap.size ≤ q → AR b s.heap.size q := fun q h => Or.inr h
  have hS : va_S (AR b s.heap.size) s.heap s.heap [] := va_S.rf
  have hfr : FR [3, 4, 5, 6, 7, 8, 9, 10, 11, 12, 13, 14, 17, 18, 19, 20] [1, 5, 21, 22] true u u := FR.refl
  have hl := lv_entry ([.ref (b 0), .int x, .int y]) (n := 4) (Nat.le_of_ble_eq_true rfl)
  rw [lg_entry_eq]
  generalize (lg_sl ([.ref (b 0), .int x, .int y]) ++ List.replicate (4 - (lg_sl ([.ref (b 0), .int x, .int y])).length) Slot.unset).toArray = ls at hl ⊢
  have hl : lv_has ls 4 [(0, .ref (b 0)), (1, .int x), (2, .int y)] := hl
  have hB := hp0
  have hG := bg_g hp0
  have ha1 := gg_le hG
  have ha1b := bg_w hp0
  have hrg := z_rng y
  refine lv_iload_n hx hb dX12_axis_0 rfl (lv_at hl 2 rfl) ?_
  refine lv_if_ge (tgt := 10) hx hb dX12_axis_1 (by decide) (fun c2 => ?_) (fun c2 => ?_)
  · have c2 := (b_le (show Int32.toInt 0 = 0 from rfl) (rfl : Int32.toInt y = _)).mp c2
    obtain ⟨nx3, hi3, hj3⟩ := z_ex (x := y) (n := 2147483648) (by omega) (by omega)
    subst hi3
    have hti4 := nI_toInt (n := nx3) (by omega)
    refine lv_aload_n hx hb dX12_axis_10 rfl (lv_at hl 0 rfl) ?_
    refine lv_iload_n hx hb dX12_axis_11 rfl (lv_at hl 1 rfl) ?_
    refine rc_i hAL hS hA (va_runV (As := [.int x]) (rest := []) ⟨hx, hb, hml, hown, noTs⟩ (r_X12_wrongLoop l dC dI s.heap.size cs b u a hA1 x (by first | assumption | omega | rfl | (congr 1; omega))) ⟨cbE 1 (wd_1781 hE) (wd_126 hE) (wd_1778 hE) rfl rfl (by decide +kernel) ⟨Nat.le_of_ble_eq_true rfl, Nat.le_of_ble_eq_true rfl⟩, (wd_1780 hE), (wd_95 hE)⟩ ⟨PR.blind, r_recv hK hP rfl, (r_pre (av := [.ref (b 0), .int x]) hK hP hJ hE)⟩ rfl rfl hl.1 rfl (lv_room (Nat.le_of_ble_eq_true rfl)) dX12_axis_12 ⟨Nat.le_of_ble_eq_true rfl, Nat.le_of_ble_eq_true rfl⟩) (fun r5 u5 H locs hpo5 hP hS => ?_)
    obtain ⟨hr5, hq5⟩ := hpo5
    have hA6 := (hq5.1 1 (by decide)).trans hA1
    have hfr := FR.step hfr hq5 (by decide) (fun _ h => absurd h List.not_mem_nil) (fun h => rfl)
    rcases hr5 with ⟨rfl, hb5⟩ | ⟨rfl, hb5⟩ | ⟨rfl, hb5⟩
    · obtain ⟨n5, hbe5_1, hb5⟩ := hb5
      subst hbe5_1
      have hti7 := nI_toInt (n := n5) (by omega)
      refine lv_istore_n (lv' := [(3, .int 0), (0, .ref (b 0)), (1, .int (nI n5)), (2, .int (nI nx3))]) hx hb dX12_axis_15 rfl hl (by decide) rfl (fun ls hl => ?_)
      refine lv_iload_n hx hb dX12_axis_16 rfl (lv_at hl 0 rfl) ?_
      refine lv_if_le (tgt := 26) hx hb dX12_axis_17 (by decide) (fun c8 => ?_) (fun c8 => absurd c8 (by decide))
      refine lv_aload_n hx hb dX12_axis_26 rfl (lv_at hl 1 rfl) ?_
      refine lv_iload_n hx hb dX12_axis_27 rfl (lv_at hl 2 rfl) ?_
      refine lv_aload_n hx hb dX12_axis_28 rfl (lv_at hl 1 rfl) ?_
      refine r_get (v := .ref (b 2)) hx hb (ly_X12 hE) hown hK hP rfl 4 (by decide) (wd_1385 hE) (fun _ h9 => h9) rfl dX12_axis_29 ?_
      refine lv_iconst (v := 0) hx hb dX12_axis_32 (by decide) ?_
      refine r_aald (j := 2) (k := 0) (n := 10) (t0 := 4) (j2 := 3) hx hb hK hP (by decide) rfl rfl (by decide) (by decide) rfl dX12_axis_33 ?_
      obtain ⟨g9, hg9⟩ : ∃ g, rA u5 3 = g := ⟨_, rfl⟩
      refine rc_v hAL hS hA (va_runV (As := [.int (nI n5), .ref (b 3)]) (rest := []) ⟨hx, hb, hml, hown, noTs⟩ (r_X12_coreOf l dC dI H.size cs b u5 a hA6 n5 3 (by decide) g9 hg9 (by first | assumption | omega | rfl | (congr 1; omega)) (by first | assumption | omega | rfl | (congr 1; omega)) (by first | assumption | omega | rfl | (congr 1; omega)) (by first | assumption | omega | rfl | (congr 1; omega))) ⟨cbE 2 (wd_1733 hE) (wd_126 hE) (wd_1730 hE) rfl rfl (by decide +kernel) ⟨Nat.le_of_ble_eq_true rfl, Nat.le_of_ble_eq_true rfl⟩, (wd_1732 hE), (wd_92 hE)⟩ ⟨PR.blind, r_recv hK hP rfl, (r_pre (av := [.ref (b 0), .int (nI n5), .ref (b 3)]) hK hP hJ hE)⟩ rfl rfl hl.1 rfl (lv_room (Nat.le_of_ble_eq_true rfl)) dX12_axis_34 ⟨Nat.le_of_ble_eq_true rfl, Nat.le_of_ble_eq_true rfl⟩) (fun u10 H locs hpo10 hP hS => ?_)
      obtain ⟨h10_0, h10_1, h10_2, h10_3, hq10⟩ := hpo10
      obtain ⟨w11, hA11⟩ : ∃ g, rA u10 3 = g := ⟨_, rfl⟩
      rw [hA11] at h10_0 h10_1 h10_2 h10_3
      have hA12 := (hq10.1 1 (by decide)).trans hA6
      have hfr := FR.step hfr hq10 (by decide) (by decide) (fun h => rfl)
      have hl10_0 := pg_le h10_0
      refine lv_aload_n hx hb dX12_axis_37 rfl (lv_at hl 1 rfl) ?_
      refine r_get (v := .ref (b 2)) hx hb (ly_X12 hE) hown hK hP rfl 4 (by decide) (wd_1385 hE) (fun _ h9 => h9) rfl dX12_axis_38 ?_
      refine lv_iconst (v := 0) hx hb dX12_axis_41 (by decide) ?_
      refine r_aald (j := 2) (k := 0) (n := 10) (t0 := 4) (j2 := 3) hx hb hK hP (by decide) rfl rfl (by decide) (by decide) rfl dX12_axis_42 ?_
      refine lv_iconst (v := 1) hx hb dX12_axis_43 (by decide) ?_
      refine r_iald (j := 3) (k := 1) (n := 200) (x := nI (rn w11)) hx hb hK hP (by decide) rfl (by decide) (by decide) (by rw [hA11]; exact pg_n h10_0) dX12_axis_44 ?_
      refine lv_if_ne (tgt := 56) hx hb dX12_axis_45 (by decide) (fun c14 => ?_) (fun c14 => ?_)
      · have c14 := mt (b_eq (nI_toInt (n := rn w11) (by omega)) (show Int32.toInt 0 = 0 from rfl)).mpr c14
        refine lv_aload_n hx hb dX12_axis_56 rfl (lv_at hl 1 rfl) ?_
        refine lv_aload_n hx hb dX12_axis_57 rfl (lv_at hl 1 rfl) ?_
        refine lv_aload_n hx hb dX12_axis_58 rfl (lv_at hl 1 rfl) ?_
        refine r_get (v := .ref (b 2)) hx hb (ly_X12 hE) hown hK hP rfl 4 (by decide) (wd_1385 hE) (fun _ h9 => h9) rfl dX12_axis_59 ?_
        refine lv_iconst (v := 0) hx hb dX12_axis_62 (by decide) ?_
        refine r_aald (j := 2) (k := 0) (n := 10) (t0 := 4) (j2 := 3) hx hb hK hP (by decide) rfl rfl (by decide) (by decide) rfl dX12_axis_63 ?_
        refine lv_iload_n hx hb dX12_axis_64 rfl (lv_at hl 3 rfl) ?_
        refine lv_aload_n hx hb dX12_axis_65 rfl (lv_at hl 1 rfl) ?_
        refine r_get (v := .ref (b 2)) hx hb (ly_X12 hE) hown hK hP rfl 4 (by decide) (wd_1385 hE) (fun _ h9 => h9) rfl dX12_axis_66 ?_
        refine lv_iconst (v := 0) hx hb dX12_axis_69 (by decide) ?_
        refine r_aald (j := 2) (k := 0) (n := 10) (t0 := 4) (j2 := 3) hx hb hK hP (by decide) rfl rfl (by decide) (by decide) rfl dX12_axis_70 ?_
        refine lv_iconst (v := 1) hx hb dX12_axis_71 (by decide) ?_
        refine r_iald (j := 3) (k := 1) (n := 200) (x := nI (rn w11)) hx hb hK hP (by decide) rfl (by decide) (by decide) (by rw [hA11]; exact pg_n h10_0) dX12_axis_72 ?_
        refine lv_irem hx hb dX12_axis_73 (nI_ne0 (n := rn w11) (by omega) (by omega)) ?_
        refine W.eq (g2 := F0 m 74 ls [.int (nI (nx3 % (rn w11))), .ref (b 3), .ref (b 0), .ref (b 0)]) (congrArg (fun z : Int32 => F0 m 74 ls (.int z :: [.ref (b 3), .ref (b 0), .ref (b 0)])) (pk_rem (a := nx3) (d := rn w11) (by omega) (by omega) (by omega))) ?_
        have hmd16 := Nat.mod_lt nx3 (show 0 < rn w11 by omega)
        refine vp_callSi (va_Run.run (va_runS (As := [.ref (b 3), .int (nI (nx3 % (rn w11)))]) (rest := [.ref (b 0), .ref (b 0)]) ⟨hx, hb, hml, hown, noTs⟩ (r_X12_step l dC dI H.size cs b u10 a hA12 3 (by decide) w11 hA11 (nx3 % (rn w11)) (by first | assumption | omega | rfl | (congr 1; omega)) (by first | assumption | omega | rfl | (congr 1; omega))) ⟨cbE 2 (wd_1602 hE) (wd_126 hE) (wd_1600 hE) rfl rfl (by decide +kernel) ⟨Nat.le_of_ble_eq_true rfl, Nat.le_of_ble_eq_true rfl⟩, (wd_1601 hE)⟩ ⟨PR.blind, (r_pre (av := [.ref (b 3), .int (nI (nx3 % (rn w11)))]) hK hP hJ hE)⟩ rfl rfl hl.1 rfl (lv_room (Nat.le_of_ble_eq_true rfl)) dX12_axis_74 ⟨Nat.le_of_ble_eq_true rfl, Nat.le_of_ble_eq_true rfl⟩)) (fun r17 hr17 => ?_)
        have hau17 := pg_sl (a := a) (w := w11) (i := (nx3 % (rn w11))) (by assumption) (by first | assumption | omega)
        subst hr17
        refine vp_callSi (va_Run.run (va_runV (As := [.int (nI (rs w11 (nx3 % (rn w11))))]) (rest := [.ref (b 0)]) ⟨hx, hb, hml, hown, noTs⟩ (r_X12_from l dC dI H.size cs b u10 a hA12 (rs w11 (nx3 % (rn w11))) (by first | assumption | omega | rfl | (congr 1; omega)) (by first | assumption | omega | rfl | (congr 1; omega))) ⟨cbE 1 (wd_1591 hE) (wd_126 hE) (wd_1588 hE) rfl rfl (by decide +kernel) ⟨Nat.le_of_ble_eq_true rfl, Nat.le_of_ble_eq_true rfl⟩, (wd_1590 hE), (wd_74 hE)⟩ ⟨PR.blind, r_recv hK hP rfl, (r_pre (av := [.ref (b 0), .int (nI (rs w11 (nx3 % (rn w11))))]) hK hP hJ hE)⟩ rfl rfl hl.1 rfl (lv_room (Nat.le_of_ble_eq_true rfl)) dX12_axis_77 ⟨Nat.le_of_ble_eq_true rfl, Nat.le_of_ble_eq_true rfl⟩)) (fun r18 hr18 => ?_)
        have hau18 := gg_src (a := a) (s := (rs w11 (nx3 % (rn w11)))) (by assumption) (by first | assumption | omega)
        subst hr18
        refine rc_i hAL hS hA (va_runV (As := [.int (nI (src a (rs w11 (nx3 % (rn w11)))))]) (rest := []) ⟨hx, hb, hml, hown, noTs⟩ (r_X12_gives l dC dI H.size cs b u10 a hA12 (nI (src a (rs w11 (nx3 % (rn w11)))))) ⟨cbE 1 (wd_1621 hE) (wd_126 hE) (wd_1618 hE) rfl rfl (by decide +kernel) ⟨Nat.le_of_ble_eq_true rfl, Nat.le_of_ble_eq_true rfl⟩, (wd_1620 hE), (wd_80 hE)⟩ ⟨PR.blind, r_recv hK hP rfl, (r_pre (av := [.ref (b 0), .int (nI (src a (rs w11 (nx3 % (rn w11)))))]) hK hP hJ hE)⟩ rfl rfl hl.1 rfl (lv_room (Nat.le_of_ble_eq_true rfl)) dX12_axis_80 ⟨Nat.le_of_ble_eq_true rfl, Nat.le_of_ble_eq_true rfl⟩) (fun r19 u19 H locs hpo19 hP hS => ?_)
        obtain ⟨hr19, hq19⟩ := hpo19
        have hA20 := (hq19.1 1 List.not_mem_nil).trans hA12
        have hA21 := (hq19.1 3 List.not_mem_nil).trans hA11
        have hfr := FR.step hfr hq19 (fun _ h => absurd h List.not_mem_nil) (by decide) (fun h => rfl)
        refine W.eq (g2 := F0 m 83 ls [.int (nI (src a (rs w11 (nx3 % (rn w11)))))]) (by rw [hr19]) ?_
        exact W.iret (v := nI (src a (rs w11 (nx3 % (rn w11))))) hx hb hr (fun t ht hW => ⟨⟨nI (src a (rs w11 (nx3 % (rn w11)))), u19, rfl, ⟨trivial, hfr⟩, (show va_P (dC, dI) vwCl (rW cs b u19) t.heap by rw [ht]; exact hP)⟩, hS.F ht⟩) hS.2.2 dX12_axis_83
      · have c14 := (b_eq (nI_toInt (n := rn w11) (by omega)) (show Int32.toInt 0 = 0 from rfl)).mp c14
        refine lv_aload_n hx hb dX12_axis_48 rfl (lv_at hl 1 rfl) ?_
        refine lv_iconst (v := 5) hx hb dX12_axis_49 (by decide) ?_
        refine rc_i hAL hS hA (va_runV (As := [.int 5]) (rest := []) ⟨hx, hb, hml, hown, noTs⟩ (r_X12_refuse l dC dI H.size cs b u10 a hA12 5) ⟨cbE 1 (wd_1498 hE) (wd_126 hE) (wd_1495 hE) rfl rfl (by decide +kernel) ⟨Nat.le_of_ble_eq_true rfl, Nat.le_of_ble_eq_true rfl⟩, (wd_1497 hE), (wd_54 hE)⟩ ⟨PR.blind, r_recv hK hP rfl, (r_pre (av := [.ref (b 0), .int 5]) hK hP hJ hE)⟩ rfl rfl hl.1 rfl (lv_room (Nat.le_of_ble_eq_true rfl)) dX12_axis_50 ⟨Nat.le_of_ble_eq_true rfl, Nat.le_of_ble_eq_true rfl⟩) (fun r22 u22 H locs hpo22 hP hS => ?_)
        obtain ⟨hr22, hq22⟩ := hpo22
        have hA23 := (hq22.1 1 List.not_mem_nil).trans hA12
        have hA24 := (hq22.1 3 List.not_mem_nil).trans hA11
        have hfr := FR.step hfr hq22 (fun _ h => absurd h List.not_mem_nil) (by decide) (fun h => rfl)
        subst hr22
        refine lv_goto (tgt := 83) hx hb dX12_axis_53 (by decide) ?_
        exact W.iret (v := -1) hx hb hr (fun t ht hW => ⟨⟨-1, u22, rfl, ⟨trivial, hfr⟩, (show va_P (dC, dI) vwCl (rW cs b u22) t.heap by rw [ht]; exact hP)⟩, hS.F ht⟩) hS.2.2 dX12_axis_83
    · refine lv_istore_n (lv' := [(3, .int 2), (0, .ref (b 0)), (1, .int x), (2, .int (nI nx3))]) hx hb dX12_axis_15 rfl hl (by decide) rfl (fun ls hl => ?_)
      refine lv_iload_n hx hb dX12_axis_16 rfl (lv_at hl 0 rfl) ?_
      refine lv_if_le (tgt := 26) hx hb dX12_axis_17 (by decide) (fun c25 => absurd c25 (by decide)) (fun c25 => ?_)
      refine lv_aload_n hx hb dX12_axis_20 rfl (lv_at hl 1 rfl) ?_
      refine lv_iload_n hx hb dX12_axis_21 rfl (lv_at hl 0 rfl) ?_
      refine rc_i hAL hS hA (va_runV (As := [.int 2]) (rest := []) ⟨hx, hb, hml, hown, noTs⟩ (r_X12_refuse l dC dI H.size cs b u5 a hA6 2) ⟨cbE 1 (wd_1498 hE) (wd_126 hE) (wd_1495 hE) rfl rfl (by decide +kernel) ⟨Nat.le_of_ble_eq_true rfl, Nat.le_of_ble_eq_true rfl⟩, (wd_1497 hE), (wd_54 hE)⟩ ⟨PR.blind, r_recv hK hP rfl, (r_pre (av := [.ref (b 0), .int 2]) hK hP hJ hE)⟩ rfl rfl hl.1 rfl (lv_room (Nat.le_of_ble_eq_true rfl)) dX12_axis_22 ⟨Nat.le_of_ble_eq_true rfl, Nat.le_of_ble_eq_true rfl⟩) (fun r26 u26 H locs hpo26 hP hS => ?_)
      obtain ⟨hr26, hq26⟩ := hpo26
      have hA27 := (hq26.1 1 List.not_mem_nil).trans hA6
      have hfr := FR.step hfr hq26 (fun _ h => absurd h List.not_mem_nil) (by decide) (fun h => rfl)
      subst hr26
      exact W.iret (v := -1) hx hb hr (fun t ht hW => ⟨⟨-1, u26, rfl, ⟨trivial, hfr⟩, (show va_P (dC, dI) vwCl (rW cs b u26) t.heap by rw [ht]; exact hP)⟩, hS.F ht⟩) hS.2.2 dX12_axis_25
    · refine lv_istore_n (lv' := [(3, .int 4), (0, .ref (b 0)), (1, .int x), (2, .int (nI nx3))]) hx hb dX12_axis_15 rfl hl (by decide) rfl (fun ls hl => ?_)
      refine lv_iload_n hx hb dX12_axis_16 rfl (lv_at hl 0 rfl) ?_
      refine lv_if_le (tgt := 26) hx hb dX12_axis_17 (by decide) (fun c28 => absurd c28 (by decide)) (fun c28 => ?_)
      refine lv_aload_n hx hb dX12_axis_20 rfl (lv_at hl 1 rfl) ?_
      refine lv_iload_n hx hb dX12_axis_21 rfl (lv_at hl 0 rfl) ?_
      refine rc_i hAL hS hA (va_runV (As := [.int 4]) (rest := []) ⟨hx, hb, hml, hown, noTs⟩ (r_X12_refuse l dC dI H.size cs b u5 a hA6 4) ⟨cbE 1 (wd_1498 hE) (wd_126 hE) (wd_1495 hE) rfl rfl (by decide +kernel) ⟨Nat.le_of_ble_eq_true rfl, Nat.le_of_ble_eq_true rfl⟩, (wd_1497 hE), (wd_54 hE)⟩ ⟨PR.blind, r_recv hK hP rfl, (r_pre (av := [.ref (b 0), .int 4]) hK hP hJ hE)⟩ rfl rfl hl.1 rfl (lv_room (Nat.le_of_ble_eq_true rfl)) dX12_axis_22 ⟨Nat.le_of_ble_eq_true rfl, Nat.le_of_ble_eq_true rfl⟩) (fun r29 u29 H locs hpo29 hP hS => ?_)
      obtain ⟨hr29, hq29⟩ := hpo29
      have hA30 := (hq29.1 1 List.not_mem_nil).trans hA6
      have hfr := FR.step hfr hq29 (fun _ h => absurd h List.not_mem_nil) (by decide) (fun h => rfl)
      subst hr29
      exact W.iret (v := -1) hx hb hr (fun t ht hW => ⟨⟨-1, u29, rfl, ⟨trivial, hfr⟩, (show va_P (dC, dI) vwCl (rW cs b u29) t.heap by rw [ht]; exact hP)⟩, hS.F ht⟩) hS.2.2 dX12_axis_25
  · have c2 := mt (b_le (show Int32.toInt 0 = 0 from rfl) (rfl : Int32.toInt y = _)).mpr c2
    refine lv_aload_n hx hb dX12_axis_4 rfl (lv_at hl 0 rfl) ?_
    refine lv_iconst (v := 1) hx hb dX12_axis_5 (by decide) ?_
    refine rc_i hAL hS hA (va_runV (As := [.int 1]) (rest := []) ⟨hx, hb, hml, hown, noTs⟩ (r_X12_refuse l dC dI s.heap.size cs b u a hA1 1) ⟨cbE 1 (wd_1498 hE) (wd_126 hE) (wd_1495 hE) rfl rfl (by decide +kernel) ⟨Nat.le_of_ble_eq_true rfl, Nat.le_of_ble_eq_true rfl⟩, (wd_1497 hE), (wd_54 hE)⟩ ⟨PR.blind, r_recv hK hP rfl, (r_pre (av := [.ref (b 0), .int 1]) hK hP hJ hE)⟩ rfl rfl hl.1 rfl (lv_room (Nat.le_of_ble_eq_true rfl)) dX12_axis_6 ⟨Nat.le_of_ble_eq_true rfl, Nat.le_of_ble_eq_true rfl⟩) (fun r31 u31 H locs hpo31 hP hS => ?_)
    obtain ⟨hr31, hq31⟩ := hpo31
    have hA32 := (hq31.1 1 List.not_mem_nil).trans hA1
    have hfr := FR.step hfr hq31 (fun _ h => absurd h List.not_mem_nil) (by decide) (fun h => rfl)
    subst hr31
    exact W.iret (v := -1) hx hb hr (fun t ht hW => ⟨⟨-1, u31, rfl, ⟨trivial, hfr⟩, (show va_P (dC, dI) vwCl (rW cs b u31) t.heap by rw [ht]; exact hP)⟩, hS.F ht⟩) hS.2.2 dX12_axis_9

set_option maxHeartbeats 4000000 in
set_option maxRecDepth 100000 in
theorem r_X12_meet (l : Launch) (dC : Nat → ClassId) (dI : Nat → Nat → Nat) (sz : Nat) (cs : Nat → ClassId) (b : Nat → Nat) (u : RS) (a : Nat → Int32) (hA1 : rA u 1 = a) (x : Int32) (hp0 : BG a) : Met l yX12_meet [.code yX12_meet cX12_meet 4 (some .int)] ({ frames := 3, cells := 0, slots := 0, locals := 120 }) (PR [.ref (b 0), .int x] sz dC dI cs b u) (va_Qi (fun (r : Int32) (u' : RS) => (True) ∧ FR [3, 4, 5, 6, 7, 8, 9, 10, 11, 12, 13, 14, 17, 18, 19, 20] [1, 5, 21, 22] true u u') (BR dC dI cs b) (AR b sz)) 0 0 (AR b sz) := by
  refine Met.ofW (cc := cX12_meet) (maxL := 4) (ret := (some .int)) (by decide) rfl ?_
  intro p e s m args below meth c s₁ B hml hv
  obtain ⟨rfl, hsz, hP, hK, hJ, hE⟩ := hv
  have hx := B.exec
  have hb := B.bytes
  have hr := B.returns
  have hown : s.vm.findClass RX12 = some m.cls := findClass_of_methodNamed B.named
  have hlocks := B.notSynchronized
  subst hsz
  have hAL : ∀ i, i < 108 → AR b s.heap.size (b i) := fun i h => Or.inl ⟨i, h, rfl⟩
  have hA : ∀ q : Nat, s.heap.size ≤ q → AR b s.heap.size q := fun q h => Or.inr h
  have hS : va_S (AR b s.heap.size) s.heap s.heap [] := va_S.rf
  have hfr : FR [3, 4, 5, 6, 7, 8, 9, 10, 11, 12, 13, 14, 17, 18, 19, 20] [1, 5, 21, 22] true u u := FR.refl
  have hl := lv_entry ([.ref (b 0), .int x]) (n := 4) (Nat.le_of_ble_eq_true rfl)
  rw [lg_entry_eq]
  generalize (lg_sl ([.ref (b 0), .int x]) ++ List.replicate (4 - (lg_sl ([.ref (b 0), .int x])).length) Slot.unset).toArray = ls at hl ⊢
  have hl : lv_has ls 4 [(0, .ref (b 0)), (1, .int x)] := hl
  have hB := hp0
  have hG := bg_g hp0
  have ha1 := gg_le hG
  have ha1b := bg_w hp0
  refine lv_aload_n hx hb dX12_meet_0 rfl (lv_at hl 0 rfl) ?_
  refine lv_iload_n hx hb dX12_meet_1 rfl (lv_at hl 1 rfl) ?_
  refine vp_callSi (va_Run.run (va_runV (As := [.int x]) (rest := []) ⟨hx, hb, hml, hown, noTs⟩ (r_X12_isVertex l dC dI s.heap.size cs b u a hA1 x (by first | assumption | omega | rfl | (congr 1; omega))) ⟨cbE 1 (wd_1560 hE) (wd_126 hE) (wd_1557 hE) rfl rfl (by decide +kernel) ⟨Nat.le_of_ble_eq_true rfl, Nat.le_of_ble_eq_true rfl⟩, (wd_1559 hE), (wd_67 hE)⟩ ⟨PR.blind, r_recv hK hP rfl, (r_pre (av := [.ref (b 0), .int x]) hK hP hJ hE)⟩ rfl rfl hl.1 rfl (lv_room (Nat.le_of_ble_eq_true rfl)) dX12_meet_2 ⟨Nat.le_of_ble_eq_true rfl, Nat.le_of_ble_eq_true rfl⟩)) (fun r2 hr2 => ?_)
  rcases hr2 with ⟨rfl, hb2⟩ | ⟨rfl, hb2⟩
  · obtain ⟨n2, hbe2_1, hb2⟩ := hb2
    subst hbe2_1
    have hti3 := nI_toInt (n := n2) (by omega)
    refine lv_if_ne (tgt := 14) hx hb dX12_meet_5 (by decide) (fun c4 => ?_) (fun c4 => absurd c4 (by decide))
    refine lv_iconst (v := 0) hx hb dX12_meet_14 (by decide) ?_
    refine lv_istore_n (lv' := [(2, .int 0), (0, .ref (b 0)), (1, .int (nI n2))]) hx hb dX12_meet_15 rfl hl (by decide) rfl (fun ls hl => ?_)
    refine lv_iconst (v := 0) hx hb dX12_meet_16 (by decide) ?_
    refine lv_istore_n (lv' := [(3, .int 0), (2, .int 0), (0, .ref (b 0)), (1, .int (nI n2))]) hx hb dX12_meet_17 rfl hl (by decide) rfl (fun ls hl => ?_)
    refine r_ind (I := fun n u_ H locs ls => va_P (dC, dI) vwCl (rW cs b u_) H ∧ va_S (AR b s.heap.size) s.heap H locs ∧ FR [3, 4, 5, 6, 7, 8, 9, 10, 11, 12, 13, 14, 17, 18, 19, 20] [1, 5, 21, 22] true u u_ ∧ ∃ (k_5 : Nat) (x1_5 : Int32), n = 2 * eN a - k_5 ∧ (k_5 ≤ 2 * eN a) ∧ lv_has ls 4 [(0, .ref (b 0)), (1, .int (nI n2)), (2, .int x1_5), (3, .int (nI k_5))]) (fun n u5 H locs ls hI ih5 => ?_) _ u _ _ _ ⟨hP, hS, hfr, 0, 0, rfl, (by first | assumption | omega | rfl | (congr 1; omega)), lv_sub hl [2, 3, 1, 0] rfl⟩
    obtain ⟨hP, hS, hfr, k_5, x1_5, hmu5, hL5_0, hl⟩ := hI
    have hA6 := (hfr.1 1 (by decide)).trans hA1
    subst hmu5
    refine lv_iload_n hx hb dX12_meet_18 rfl (lv_at hl 3 rfl) ?_
    refine lv_iconst (v := 2) hx hb dX12_meet_19 (by decide) ?_
    refine lv_aload_n hx hb dX12_meet_20 rfl (lv_at hl 0 rfl) ?_
    refine lv_iconst (v := 1) hx hb dX12_meet_21 (by decide) ?_
    refine vp_callSi (va_Run.run (va_runV (As := [.int (nI 1)]) (rest := [.int 2, .int (nI k_5)]) ⟨hx, hb, hml, hown, noTs⟩ (r_X12_of l dC dI H.size cs b u5 a hA6 1 (by first | assumption | omega | rfl | (congr 1; omega))) ⟨cbE 1 (wd_1536 hE) (wd_126 hE) (wd_1533 hE) rfl rfl (by decide +kernel) ⟨Nat.le_of_ble_eq_true rfl, Nat.le_of_ble_eq_true rfl⟩, (wd_1535 hE), (wd_61 hE)⟩ ⟨PR.blind, r_recv hK hP rfl, (r_pre (av := [.ref (b 0), .int (nI 1)]) hK hP hJ hE)⟩ rfl rfl hl.1 rfl (lv_room (Nat.le_of_ble_eq_true rfl)) dX12_meet_22 ⟨Nat.le_of_ble_eq_true rfl, Nat.le_of_ble_eq_true rfl⟩)) (fun r7 hr7 => ?_)
    have hr7 := hr7.trans (gg_e hG)
    subst hr7
    refine lv_imul hx hb dX12_meet_25 ?_
    refine W.eq (g2 := F0 m 26 ls [.int (nI (2 * (eN a))), .int (nI k_5)]) (congrArg (fun z : Int32 => F0 m 26 ls (.int z :: [.int (nI k_5)])) (pk_mul 2 (eN a))) ?_
    refine lv_icmp_ge (tgt := 56) hx hb dX12_meet_26 (by decide) (fun c8 => ?_) (fun c8 => ?_)
    · have c8 := (b_le (nI_toInt (n := 2 * (eN a)) (by omega)) (nI_toInt (n := k_5) (by omega))).mp c8
      refine lv_aload_n hx hb dX12_meet_56 rfl (lv_at hl 0 rfl) ?_
      refine lv_iload_n hx hb dX12_meet_57 rfl (lv_at hl 2 rfl) ?_
      refine rc_i hAL hS hA (va_runV (As := [.int x1_5]) (rest := []) ⟨hx, hb, hml, hown, noTs⟩ (r_X12_gives l dC dI H.size cs b u5 a hA6 x1_5) ⟨cbE 1 (wd_1621 hE) (wd_126 hE) (wd_1618 hE) rfl rfl (by decide +kernel) ⟨Nat.le_of_ble_eq_true rfl, Nat.le_of_ble_eq_true rfl⟩, (wd_1620 hE), (wd_80 hE)⟩ ⟨PR.blind, r_recv hK hP rfl, (r_pre (av := [.ref (b 0), .int x1_5]) hK hP hJ hE)⟩ rfl rfl hl.1 rfl (lv_room (Nat.le_of_ble_eq_true rfl)) dX12_meet_58 ⟨Nat.le_of_ble_eq_true rfl, Nat.le_of_ble_eq_true rfl⟩) (fun r9 u9 H locs hpo9 hP hS => ?_)
      obtain ⟨hr9, hq9⟩ := hpo9
      have hA10 := (hq9.1 1 List.not_mem_nil).trans hA6
      have hfr := FR.step hfr hq9 (fun _ h => absurd h List.not_mem_nil) (by decide) (fun h => rfl)
      refine W.eq (g2 := F0 m 61 ls [.int x1_5]) (by rw [hr9]) ?_
      exact W.iret (v := x1_5) hx hb hr (fun t ht hW => ⟨⟨x1_5, u9, rfl, ⟨trivial, hfr⟩, (show va_P (dC, dI) vwCl (rW cs b u9) t.heap by rw [ht]; exact hP)⟩, hS.F ht⟩) hS.2.2 dX12_meet_61
    · have c8 := mt (b_le (nI_toInt (n := 2 * (eN a)) (by omega)) (nI_toInt (n := k_5) (by omega))).mpr c8
      refine lv_iload_n hx hb dX12_meet_29 rfl (lv_at hl 2 rfl) ?_
      refine lv_aload_n hx hb dX12_meet_30 rfl (lv_at hl 0 rfl) ?_
      refine lv_iload_n hx hb dX12_meet_31 rfl (lv_at hl 3 rfl) ?_
      refine vp_callSi (va_Run.run (va_runV (As := [.int (nI k_5)]) (rest := [.int x1_5]) ⟨hx, hb, hml, hown, noTs⟩ (r_X12_from l dC dI H.size cs b u5 a hA6 k_5 (by first | assumption | omega | rfl | (congr 1; omega)) (by first | assumption | omega | rfl | (congr 1; omega))) ⟨cbE 1 (wd_1591 hE) (wd_126 hE) (wd_1588 hE) rfl rfl (by decide +kernel) ⟨Nat.le_of_ble_eq_true rfl, Nat.le_of_ble_eq_true rfl⟩, (wd_1590 hE), (wd_74 hE)⟩ ⟨PR.blind, r_recv hK hP rfl, (r_pre (av := [.ref (b 0), .int (nI k_5)]) hK hP hJ hE)⟩ rfl rfl hl.1 rfl (lv_room (Nat.le_of_ble_eq_true rfl)) dX12_meet_32 ⟨Nat.le_of_ble_eq_true rfl, Nat.le_of_ble_eq_true rfl⟩)) (fun r11 hr11 => ?_)
      have hau11 := gg_src (a := a) (s := k_5) (by assumption) (by first | assumption | omega)
      subst hr11
      refine lv_iload_n hx hb dX12_meet_35 rfl (lv_at hl 1 rfl) ?_
      refine lv_icmp_ne (tgt := 47) hx hb dX12_meet_36 (by decide) (fun c12 => ?_) (fun c12 => ?_)
      · have c12 := mt (b_eq (nI_toInt (n := src a k_5) (by omega)) (nI_toInt (n := n2) (by omega))).mpr c12
        refine lv_iconst (v := 0) hx hb dX12_meet_47 (by decide) ?_
        refine lv_iadd hx hb dX12_meet_48 ?_
        refine lv_topi (fun x13 ex13 => ?_)
        refine lv_istore_n (lv' := [(2, .int x13), (0, .ref (b 0)), (1, .int (nI n2)), (3, .int (nI k_5))]) hx hb dX12_meet_49 rfl hl (by decide) rfl (fun ls hl => ?_)
        refine lv_iinc (v := nI (k_5 + 1)) (lv' := [(3, .int (nI (k_5 + 1))), (2, .int x13), (0, .ref (b 0)), (1, .int (nI n2))]) hx hb dX12_meet_50 hl (k := 3) rfl (nI_1 k_5) (by decide) rfl (fun ls hl => ?_)
        refine lv_goto (tgt := 18) hx hb dX12_meet_53 (by decide) ?_
        exact ih5 _ u5 _ _ _ (by omega) ⟨hP, hS, hfr, (k_5 + 1), x13, rfl, (by first | assumption | omega | rfl | (congr 1; omega)), lv_sub hl [2, 3, 1, 0] rfl⟩
      · have c12 := (b_eq (nI_toInt (n := src a k_5) (by omega)) (nI_toInt (n := n2) (by omega))).mp c12
        refine lv_aload_n hx hb dX12_meet_39 rfl (lv_at hl 0 rfl) ?_
        refine lv_iload_n hx hb dX12_meet_40 rfl (lv_at hl 3 rfl) ?_
        refine vp_callSi (va_Run.run (va_runV (As := [.int (nI k_5)]) (rest := [.int x1_5]) ⟨hx, hb, hml, hown, noTs⟩ (r_X12_by l dC dI H.size cs b u5 a hA6 k_5 (by first | assumption | omega | rfl | (congr 1; omega)) (by first | assumption | omega | rfl | (congr 1; omega))) ⟨cbE 1 (wd_1668 hE) (wd_126 hE) (wd_1665 hE) rfl rfl (by decide +kernel) ⟨Nat.le_of_ble_eq_true rfl, Nat.le_of_ble_eq_true rfl⟩, (wd_1667 hE), (wd_86 hE)⟩ ⟨PR.blind, r_recv hK hP rfl, (r_pre (av := [.ref (b 0), .int (nI k_5)]) hK hP hJ hE)⟩ rfl rfl hl.1 rfl (lv_room (Nat.le_of_ble_eq_true rfl)) dX12_meet_41 ⟨Nat.le_of_ble_eq_true rfl, Nat.le_of_ble_eq_true rfl⟩)) (fun r14 hr14 => ?_)
        have hau14 := gg_idx (a := a) (s := k_5) (by assumption) (by first | assumption | omega)
        subst hr14
        refine lv_goto (tgt := 48) hx hb dX12_meet_44 (by decide) ?_
        refine lv_iadd hx hb dX12_meet_48 ?_
        refine lv_topi (fun x15 ex15 => ?_)
        refine lv_istore_n (lv' := [(2, .int x15), (0, .ref (b 0)), (1, .int (nI n2)), (3, .int (nI k_5))]) hx hb dX12_meet_49 rfl hl (by decide) rfl (fun ls hl => ?_)
        refine lv_iinc (v := nI (k_5 + 1)) (lv' := [(3, .int (nI (k_5 + 1))), (2, .int x15), (0, .ref (b 0)), (1, .int (nI n2))]) hx hb dX12_meet_50 hl (k := 3) rfl (nI_1 k_5) (by decide) rfl (fun ls hl => ?_)
        refine lv_goto (tgt := 18) hx hb dX12_meet_53 (by decide) ?_
        exact ih5 _ u5 _ _ _ (by omega) ⟨hP, hS, hfr, (k_5 + 1), x15, rfl, (by first | assumption | omega | rfl | (congr 1; omega)), lv_sub hl [2, 3, 1, 0] rfl⟩
  · refine lv_if_ne (tgt := 14) hx hb dX12_meet_5 (by decide) (fun c16 => absurd c16 (by decide)) (fun c16 => ?_)
    refine lv_aload_n hx hb dX12_meet_8 rfl (lv_at hl 0 rfl) ?_
    refine lv_iconst (v := 2) hx hb dX12_meet_9 (by decide) ?_
    refine rc_i hAL hS hA (va_runV (As := [.int 2]) (rest := []) ⟨hx, hb, hml, hown, noTs⟩ (r_X12_refuse l dC dI s.heap.size cs b u a hA1 2) ⟨cbE 1 (wd_1498 hE) (wd_126 hE) (wd_1495 hE) rfl rfl (by decide +kernel) ⟨Nat.le_of_ble_eq_true rfl, Nat.le_of_ble_eq_true rfl⟩, (wd_1497 hE), (wd_54 hE)⟩ ⟨PR.blind, r_recv hK hP rfl, (r_pre (av := [.ref (b 0), .int 2]) hK hP hJ hE)⟩ rfl rfl hl.1 rfl (lv_room (Nat.le_of_ble_eq_true rfl)) dX12_meet_10 ⟨Nat.le_of_ble_eq_true rfl, Nat.le_of_ble_eq_true rfl⟩) (fun r17 u17 H locs hpo17 hP hS => ?_)
    obtain ⟨hr17, hq17⟩ := hpo17
    have hA18 := (hq17.1 1 List.not_mem_nil).trans hA1
    have hfr := FR.step hfr hq17 (fun _ h => absurd h List.not_mem_nil) (by decide) (fun h => rfl)
    subst hr17
    exact W.iret (v := -1) hx hb hr (fun t ht hW => ⟨⟨-1, u17, rfl, ⟨trivial, hfr⟩, (show va_P (dC, dI) vwCl (rW cs b u17) t.heap by rw [ht]; exact hP)⟩, hS.F ht⟩) hS.2.2 dX12_meet_13

set_option maxHeartbeats 4000000 in
set_option maxRecDepth 100000 in
theorem r_X12_writes (l : Launch) (dC : Nat → ClassId) (dI : Nat → Nat → Nat) (sz : Nat) (cs : Nat → ClassId) (b : Nat → Nat) (u : RS) (x : Int32) (oo : Nat) (hF30 : rF u 30 = nI oo) (hp0 : oo < 400) : Met l yX12_writes [.code yX12_writes cX12_writes 2 none] ({ frames := 0, cells := 0, slots := 0, locals := 0 }) (PR [.ref (b 0), .int x] sz dC dI cs b u) (va_Qv (fun (u' : RS) => (rF u' 30 = nI (oo + 1)) ∧ FR [107] [30] false u u') (BR dC dI cs b) (AR b sz)) 0 0 (AR b sz) := by
  refine Met.ofW (cc := cX12_writes) (maxL := 2) (ret := none) (by decide) rfl ?_
  intro p e s m args below meth c s₁ B hml hv
  obtain ⟨rfl, hsz, hP, hK, hJ, hE⟩ := hv
  have hx := B.exec
  have hb := B.bytes
  have hr := B.returns
  have hown : s.vm.findClass RX12 = some m.cls := findClass_of_methodNamed B.named
  have hlocks := B.notSynchronized
  subst hsz
  have hAL : ∀ i, i < 108 → AR b s.heap.size (b i) := fun i h => Or.inl ⟨i, h, rfl⟩
  have hA : ∀ q : Nat, s.heap.size ≤ q → AR b s.heap.size q := fun q h => Or.inr h
  have hS : va_S (AR b s.heap.size) s.heap s.heap [] := va_S.rf
  have hfr : FR [107] [30] false u u := FR.refl
  have hl := lv_entry ([.ref (b 0), .int x]) (n := 2) (Nat.le_of_ble_eq_true rfl)
  rw [lg_entry_eq]
  generalize (lg_sl ([.ref (b 0), .int x]) ++ List.replicate (2 - (lg_sl ([.ref (b 0), .int x])).length) Slot.unset).toArray = ls at hl ⊢
  have hl : lv_has ls 2 [(0, .ref (b 0)), (1, .int x)] := hl
  refine lv_aload_n hx hb dX12_writes_0 rfl (lv_at hl 0 rfl) ?_
  refine r_get (v := .ref (b 107)) hx hb (ly_X12 hE) hown hK hP rfl 29 (by decide) (wd_1410 hE) (fun _ h9 => h9) rfl dX12_writes_1 ?_
  refine lv_aload_n hx hb dX12_writes_4 rfl (lv_at hl 0 rfl) ?_
  refine r_get (v := .int (nI oo)) hx hb (ly_X12 hE) hown hK hP rfl 30 (by decide) (wd_1411 hE) (fun _ h9 => h9) (congrArg (fun z : Int32 => some (Value.int z)) hF30) dX12_writes_5 ?_
  refine lv_iload_n hx hb dX12_writes_8 rfl (lv_at hl 1 rfl) ?_
  refine lv_i2b hx hb dX12_writes_9 rfl ?_
  refine lv_topi (fun x2 ex2 => ?_)
  obtain ⟨g4, hg4⟩ : ∃ g, rA u 107 = g := ⟨_, rfl⟩
  refine r_bast (j := 107) (k := oo) (n := 400) (x := x2) hx hb hK hP hJ hAL hS (by decide) (fun _ => rfl) hg4 (by omega) (by decide) dX12_writes_10 (fun u3 H locs hs3 hq3 hP hS => ?_)
  obtain ⟨w3, hw3⟩ : ∃ g, g = upd g4 oo (vp_nar .byte x2) := ⟨_, rfl⟩
  rw [← hw3] at hs3
  have hF5x := (hq3.2.1 30 List.not_mem_nil).trans hF30
  have hfr := FR.step hfr hq3 (by decide) (fun _ h => absurd h List.not_mem_nil) (fun h => rfl)
  refine lv_aload_n hx hb dX12_writes_11 rfl (lv_at hl 0 rfl) ?_
  refine lv_dup hx hb dX12_writes_12 rfl ?_
  refine r_get (v := .int (nI oo)) hx hb (ly_X12 hE) hown hK hP rfl 30 (by decide) (wd_1411 hE) (fun _ h9 => h9) (congrArg (fun z : Int32 => some (Value.int z)) hF5x) dX12_writes_13 ?_
  refine lv_iconst (v := 1) hx hb dX12_writes_16 (by decide) ?_
  refine lv_iadd hx hb dX12_writes_17 ?_
  refine W.eq (g2 := F0 m 18 ls [.int (nI (oo + 1)), .ref (b 0)]) (congrArg (fun z : Int32 => F0 m 18 ls (.int z :: [.ref (b 0)])) (nI_add oo 1)) ?_
  refine r_put (v := nI (oo + 1)) hx hb (ly_X12 hE) tyX12 tyX12_ok nmX12 hown hK hP hJ hAL hS rfl 30 (by decide) (wd_1411 hE) (fun _ h9 => h9) rfl (by decide +kernel) rfl (by decide) dX12_writes_18 (fun u6 H locs hf6 hq6 hP hS => ?_)
  have hA7 := (hq6.1 107 List.not_mem_nil).trans hs3
  have hfr := FR.step hfr hq6 (fun _ h => absurd h List.not_mem_nil) (by decide) (fun h => rfl)
  exact W.vret hx hb hr (fun t ht hW => ⟨⟨u6, rfl, ⟨(by first | (rw [hf6]; done) | (rw [hf6]; first | assumption | omega | rfl | (congr 1; omega))), hfr⟩, (show va_P (dC, dI) vwCl (rW cs b u6) t.heap by rw [ht]; exact hP)⟩, hS.F ht⟩) hS.2.2 dX12_writes_21

set_option maxHeartbeats 4000000 in
set_option maxRecDepth 100000 in
theorem r_X12_writesNumber (l : Launch) (dC : Nat → ClassId) (dI : Nat → Nat → Nat) (sz : Nat) (cs : Nat → ClassId) (b : Nat → Nat) (u : RS) (x : Int32) (oo : Nat) (hF30 : rF u 30 = nI oo) (hp0 : oo + 3 ≤ 400) : Met l yX12_writesNumber [.code yX12_writesNumber cX12_writesNumber 2 none] ({ frames := 1, cells := 0, slots := 0, locals := 40 }) (PR [.ref (b 0), .int x] sz dC dI cs b u) (va_Qv (fun (u' : RS) => (∃ k : Nat, k ≤ oo + 3 ∧ rF u' 30 = nI k) ∧ FR [107] [30] false u u') (BR dC dI cs b) (AR b sz)) 0 0 (AR b sz) := by
  refine Met.ofW (cc := cX12_writesNumber) (maxL := 2) (ret := none) (by decide) rfl ?_
  intro p e s m args below meth c s₁ B hml hv
  obtain ⟨rfl, hsz, hP, hK, hJ, hE⟩ := hv
  have hx := B.exec
  have hb := B.bytes
  have hr := B.returns
  have hown : s.vm.findClass RX12 = some m.cls := findClass_of_methodNamed B.named
  have hlocks := B.notSynchronized
  subst hsz
  have hAL : ∀ i, i < 108 → AR b s.heap.size (b i) := fun i h => Or.inl ⟨i, h, rfl⟩
  have hA : ∀ q : Nat, s.heap.size ≤ q → AR b s.heap.size q := fun q h => Or.inr h
  have hS : va_S (AR b s.heap.size) s.heap s.heap [] := va_S.rf
  have hfr : FR [107] [30] false u u := FR.refl
  have hl := lv_entry ([.ref (b 0), .int x]) (n := 2) (Nat.le_of_ble_eq_true rfl)
  rw [lg_entry_eq]
  generalize (lg_sl ([.ref (b 0), .int x]) ++ List.replicate (2 - (lg_sl ([.ref (b 0), .int x])).length) Slot.unset).toArray = ls at hl ⊢
  have hl : lv_has ls 2 [(0, .ref (b 0)), (1, .int x)] := hl
  refine lv_aload_n hx hb dX12_writesNumber_0 rfl (lv_at hl 0 rfl) ?_
  refine lv_bipush (v := 32) hx hb dX12_writesNumber_1 (by decide) ?_
  refine rc_v hAL hS hA (va_runV (As := [.int 32]) (rest := []) ⟨hx, hb, hml, hown, noTs⟩ (r_X12_writes l dC dI s.heap.size cs b u 32 oo hF30 (by first | assumption | omega | rfl | (congr 1; omega))) ⟨cbE 1 (wd_1948 hE) (wd_126 hE) (wd_1945 hE) rfl rfl (by decide +kernel) ⟨Nat.le_of_ble_eq_true rfl, Nat.le_of_ble_eq_true rfl⟩, (wd_1947 hE), (wd_112 hE)⟩ ⟨PR.blind, r_recv hK hP rfl, (r_pre (av := [.ref (b 0), .int 32]) hK hP hJ hE)⟩ rfl rfl hl.1 rfl (lv_room (Nat.le_of_ble_eq_true rfl)) dX12_writesNumber_3 ⟨Nat.le_of_ble_eq_true rfl, Nat.le_of_ble_eq_true rfl⟩) (fun u2 H locs hpo2 hP hS => ?_)
  obtain ⟨h2_0, hq2⟩ := hpo2
  have hfr := FR.step hfr hq2 (by decide) (by decide) (fun h => rfl)
  refine lv_iload_n hx hb dX12_writesNumber_6 rfl (lv_at hl 1 rfl) ?_
  refine lv_bipush (v := 9) hx hb dX12_writesNumber_7 (by decide) ?_
  refine lv_icmp_le (tgt := 23) hx hb dX12_writesNumber_9 (by decide) (fun c3 => ?_) (fun c3 => ?_)
  · have c3 := (b_le (rfl : Int32.toInt x = _) (show Int32.toInt 9 = 9 from rfl)).mp c3
    refine lv_aload_n hx hb dX12_writesNumber_23 rfl (lv_at hl 0 rfl) ?_
    refine lv_bipush (v := 48) hx hb dX12_writesNumber_24 (by decide) ?_
    refine lv_iload_n hx hb dX12_writesNumber_26 rfl (lv_at hl 1 rfl) ?_
    refine lv_bipush (v := 10) hx hb dX12_writesNumber_27 (by decide) ?_
    refine lv_irem hx hb dX12_writesNumber_29 (by decide) ?_
    refine lv_topi (fun x4 ex4 => ?_)
    refine lv_iadd hx hb dX12_writesNumber_30 ?_
    refine lv_topi (fun x5 ex5 => ?_)
    refine rc_v hAL hS hA (va_runV (As := [.int x5]) (rest := []) ⟨hx, hb, hml, hown, noTs⟩ (r_X12_writes l dC dI H.size cs b u2 x5 (oo + 1) h2_0 (by first | assumption | omega | rfl | (congr 1; omega))) ⟨cbE 1 (wd_1948 hE) (wd_126 hE) (wd_1945 hE) rfl rfl (by decide +kernel) ⟨Nat.le_of_ble_eq_true rfl, Nat.le_of_ble_eq_true rfl⟩, (wd_1947 hE), (wd_112 hE)⟩ ⟨PR.blind, r_recv hK hP rfl, (r_pre (av := [.ref (b 0), .int x5]) hK hP hJ hE)⟩ rfl rfl hl.1 rfl (lv_room (Nat.le_of_ble_eq_true rfl)) dX12_writesNumber_31 ⟨Nat.le_of_ble_eq_true rfl, Nat.le_of_ble_eq_true rfl⟩) (fun u6 H locs hpo6 hP hS => ?_)
    obtain ⟨h6_0, hq6⟩ := hpo6
    have hfr := FR.step hfr hq6 (by decide) (by decide) (fun h => rfl)
    exact W.vret hx hb hr (fun t ht hW => ⟨⟨u6, rfl, ⟨(by first | (rw [h6_0]; done) | (rw [h6_0]; refine ⟨_, ?_, rfl⟩; omega)), hfr⟩, (show va_P (dC, dI) vwCl (rW cs b u6) t.heap by rw [ht]; exact hP)⟩, hS.F ht⟩) hS.2.2 dX12_writesNumber_34
  · have c3 := mt (b_le (rfl : Int32.toInt x = _) (show Int32.toInt 9 = 9 from rfl)).mpr c3
    refine lv_aload_n hx hb dX12_writesNumber_12 rfl (lv_at hl 0 rfl) ?_
    refine lv_bipush (v := 48) hx hb dX12_writesNumber_13 (by decide) ?_
    refine lv_iload_n hx hb dX12_writesNumber_15 rfl (lv_at hl 1 rfl) ?_
    refine lv_bipush (v := 10) hx hb dX12_writesNumber_16 (by decide) ?_
    refine lv_idiv hx hb dX12_writesNumber_18 (by decide) ?_
    refine lv_topi (fun x7 ex7 => ?_)
    refine lv_iadd hx hb dX12_writesNumber_19 ?_
    refine lv_topi (fun x8 ex8 => ?_)
    refine rc_v hAL hS hA (va_runV (As := [.int x8]) (rest := []) ⟨hx, hb, hml, hown, noTs⟩ (r_X12_writes l dC dI H.size cs b u2 x8 (oo + 1) h2_0 (by first | assumption | omega | rfl | (congr 1; omega))) ⟨cbE 1 (wd_1948 hE) (wd_126 hE) (wd_1945 hE) rfl rfl (by decide +kernel) ⟨Nat.le_of_ble_eq_true rfl, Nat.le_of_ble_eq_true rfl⟩, (wd_1947 hE), (wd_112 hE)⟩ ⟨PR.blind, r_recv hK hP rfl, (r_pre (av := [.ref (b 0), .int x8]) hK hP hJ hE)⟩ rfl rfl hl.1 rfl (lv_room (Nat.le_of_ble_eq_true rfl)) dX12_writesNumber_20 ⟨Nat.le_of_ble_eq_true rfl, Nat.le_of_ble_eq_true rfl⟩) (fun u9 H locs hpo9 hP hS => ?_)
    obtain ⟨h9_0, hq9⟩ := hpo9
    have hfr := FR.step hfr hq9 (by decide) (by decide) (fun h => rfl)
    refine lv_aload_n hx hb dX12_writesNumber_23 rfl (lv_at hl 0 rfl) ?_
    refine lv_bipush (v := 48) hx hb dX12_writesNumber_24 (by decide) ?_
    refine lv_iload_n hx hb dX12_writesNumber_26 rfl (lv_at hl 1 rfl) ?_
    refine lv_bipush (v := 10) hx hb dX12_writesNumber_27 (by decide) ?_
    refine lv_irem hx hb dX12_writesNumber_29 (by decide) ?_
    refine lv_topi (fun x10 ex10 => ?_)
    refine lv_iadd hx hb dX12_writesNumber_30 ?_
    refine lv_topi (fun x11 ex11 => ?_)
    refine rc_v hAL hS hA (va_runV (As := [.int x11]) (rest := []) ⟨hx, hb, hml, hown, noTs⟩ (r_X12_writes l dC dI H.size cs b u9 x11 ((oo + 1) + 1) h9_0 (by first | assumption | omega | rfl | (congr 1; omega))) ⟨cbE 1 (wd_1948 hE) (wd_126 hE) (wd_1945 hE) rfl rfl (by decide +kernel) ⟨Nat.le_of_ble_eq_true rfl, Nat.le_of_ble_eq_true rfl⟩, (wd_1947 hE), (wd_112 hE)⟩ ⟨PR.blind, r_recv hK hP rfl, (r_pre (av := [.ref (b 0), .int x11]) hK hP hJ hE)⟩ rfl rfl hl.1 rfl (lv_room (Nat.le_of_ble_eq_true rfl)) dX12_writesNumber_31 ⟨Nat.le_of_ble_eq_true rfl, Nat.le_of_ble_eq_true rfl⟩) (fun u12 H locs hpo12 hP hS => ?_)
    obtain ⟨h12_0, hq12⟩ := hpo12
    have hfr := FR.step hfr hq12 (by decide) (by decide) (fun h => rfl)
    exact W.vret hx hb hr (fun t ht hW => ⟨⟨u12, rfl, ⟨(by first | (rw [h12_0]; done) | (rw [h12_0]; refine ⟨_, ?_, rfl⟩; omega)), hfr⟩, (show va_P (dC, dI) vwCl (rW cs b u12) t.heap by rw [ht]; exact hP)⟩, hS.F ht⟩) hS.2.2 dX12_writesNumber_34

set_option maxHeartbeats 4000000 in
set_option maxRecDepth 100000 in
theorem r_X12_tell (l : Launch) (dC : Nat → ClassId) (dI : Nat → Nat → Nat) (sz : Nat) (cs : Nat → ClassId) (b : Nat → Nat) (u : RS) (a : Nat → Int32) (hA1 : rA u 1 = a) (x : Int32) (oo : Nat) (hF30 : rF u 30 = nI oo) (hp0 : BG a) (hp1 : oo ≤ 400) : Met l yX12_tell [.code yX12_tell cX12_tell 3 (some .int)] ({ frames := 2, cells := 0, slots := 0, locals := 80 }) (PR [.ref (b 0), .int x] sz dC dI cs b u) (va_Qi (fun (r : Int32) (u' : RS) => (True) ∧ (∃ k : Nat, k ≤ 400 ∧ rF u' 30 = nI k) ∧ FR [3, 107] [1, 30] false u u') (BR dC dI cs b) (AR b sz)) 0 0 (AR b sz) := by
  refine Met.ofW (cc := cX12_tell) (maxL := 3) (ret := (some .int)) (by decide) rfl ?_
  intro p e s m args below meth c s₁ B hml hv
  obtain ⟨rfl, hsz, hP, hK, hJ, hE⟩ := hv
  have hx := B.exec
  have hb := B.bytes
  have hr := B.returns
  have hown : s.vm.findClass RX12 = some m.cls := findClass_of_methodNamed B.named
  have hlocks := B.notSynchronized
  subst hsz
  have hAL : ∀ i, i < 108 → AR b s.heap.size (b i) := fun i h => Or.inl ⟨i, h, rfl⟩
  have hA : ∀ q : Nat, s.heap.size ≤ q → AR b s.heap.size q := fun q h => Or.inr h
  have hS : va_S (AR b s.heap.size) s.heap s.heap [] := va_S.rf
  have hfr : FR [3, 107] [1, 30] false u u := FR.refl
  have hl := lv_entry ([.ref (b 0), .int x]) (n := 3) (Nat.le_of_ble_eq_true rfl)
  rw [lg_entry_eq]
  generalize (lg_sl ([.ref (b 0), .int x]) ++ List.replicate (3 - (lg_sl ([.ref (b 0), .int x])).length) Slot.unset).toArray = ls at hl ⊢
  have hl : lv_has ls 3 [(0, .ref (b 0)), (1, .int x)] := hl
  have hB := hp0
  have hG := bg_g hp0
  have ha1 := gg_le hG
  have ha1b := bg_w hp0
  refine lv_aload_n hx hb dX12_tell_0 rfl (lv_at hl 0 rfl) ?_
  refine lv_iload_n hx hb dX12_tell_1 rfl (lv_at hl 1 rfl) ?_
  refine vp_callSi (va_Run.run (va_runV (As := [.int x]) (rest := []) ⟨hx, hb, hml, hown, noTs⟩ (r_X12_isWord l dC dI s.heap.size cs b u a hA1 x (by first | assumption | omega | rfl | (congr 1; omega))) ⟨cbE 1 (wd_1653 hE) (wd_126 hE) (wd_1650 hE) rfl rfl (by decide +kernel) ⟨Nat.le_of_ble_eq_true rfl, Nat.le_of_ble_eq_true rfl⟩, (wd_1652 hE), (wd_83 hE)⟩ ⟨PR.blind, r_recv hK hP rfl, (r_pre (av := [.ref (b 0), .int x]) hK hP hJ hE)⟩ rfl rfl hl.1 rfl (lv_room (Nat.le_of_ble_eq_true rfl)) dX12_tell_2 ⟨Nat.le_of_ble_eq_true rfl, Nat.le_of_ble_eq_true rfl⟩)) (fun r3 hr3 => ?_)
  rcases hr3 with ⟨rfl, hb3⟩ | ⟨rfl, hb3⟩
  · obtain ⟨n3, hbe3_1, hb3⟩ := hb3
    subst hbe3_1
    have hti4 := nI_toInt (n := n3) (by omega)
    refine lv_if_ne (tgt := 14) hx hb dX12_tell_5 (by decide) (fun c5 => ?_) (fun c5 => absurd c5 (by decide))
    refine lv_aload_n hx hb dX12_tell_14 rfl (lv_at hl 0 rfl) ?_
    refine lv_iload_n hx hb dX12_tell_15 rfl (lv_at hl 1 rfl) ?_
    refine lv_aload_n hx hb dX12_tell_16 rfl (lv_at hl 0 rfl) ?_
    refine r_get (v := .ref (b 2)) hx hb (ly_X12 hE) hown hK hP rfl 4 (by decide) (wd_1385 hE) (fun _ h9 => h9) rfl dX12_tell_17 ?_
    refine lv_iconst (v := 0) hx hb dX12_tell_20 (by decide) ?_
    refine r_aald (j := 2) (k := 0) (n := 10) (t0 := 4) (j2 := 3) hx hb hK hP (by decide) rfl rfl (by decide) (by decide) rfl dX12_tell_21 ?_
    obtain ⟨g6, hg6⟩ : ∃ g, rA u 3 = g := ⟨_, rfl⟩
    refine rc_v hAL hS hA (va_runV (As := [.int (nI n3), .ref (b 3)]) (rest := []) ⟨hx, hb, hml, hown, noTs⟩ (r_X12_takes l dC dI s.heap.size cs b u a hA1 n3 3 (by decide) g6 hg6 (by first | assumption | omega | rfl | (congr 1; omega)) (by first | assumption | omega | rfl | (congr 1; omega))) ⟨cbE 2 (wd_1657 hE) (wd_126 hE) (wd_1654 hE) rfl rfl (by decide +kernel) ⟨Nat.le_of_ble_eq_true rfl, Nat.le_of_ble_eq_true rfl⟩, (wd_1656 hE), (wd_84 hE)⟩ ⟨PR.blind, r_recv hK hP rfl, (r_pre (av := [.ref (b 0), .int (nI n3), .ref (b 3)]) hK hP hJ hE)⟩ rfl rfl hl.1 rfl (lv_room (Nat.le_of_ble_eq_true rfl)) dX12_tell_22 ⟨Nat.le_of_ble_eq_true rfl, Nat.le_of_ble_eq_true rfl⟩) (fun u7 H locs hpo7 hP hS => ?_)
    obtain ⟨h7_0, h7_1, h7_2, h7_3, h7_4, h7_5, hq7⟩ := hpo7
    obtain ⟨w8, hA8⟩ : ∃ g, rA u7 3 = g := ⟨_, rfl⟩
    rw [hA8] at h7_0 h7_1 h7_2 h7_3 h7_4 h7_5
    have hA9 := (hq7.1 1 (by decide)).trans hA1
    have hF10x := (hq7.2.1 30 List.not_mem_nil).trans hF30
    have hfr := FR.step hfr hq7 (by decide) (fun _ h => absurd h List.not_mem_nil) (fun h => rfl)
    have hl7_0 := pg_le h7_0
    refine lv_aload_n hx hb dX12_tell_25 rfl (lv_at hl 0 rfl) ?_
    refine lv_iconst (v := 0) hx hb dX12_tell_26 (by decide) ?_
    refine r_put (v := 0) hx hb (ly_X12 hE) tyX12 tyX12_ok nmX12 hown hK hP hJ hAL hS rfl 30 (by decide) (wd_1411 hE) (fun _ h9 => h9) rfl (by decide +kernel) rfl (by decide) dX12_tell_27 (fun u11 H locs hf11 hq11 hP hS => ?_)
    have hA12 := (hq11.1 1 List.not_mem_nil).trans hA9
    have hA13 := (hq11.1 3 List.not_mem_nil).trans hA8
    have hfr := FR.step hfr hq11 (fun _ h => absurd h List.not_mem_nil) (by decide) (fun h => rfl)
    refine lv_aload_n hx hb dX12_tell_30 rfl (lv_at hl 0 rfl) ?_
    refine lv_bipush (v := 119) hx hb dX12_tell_31 (by decide) ?_
    refine rc_v hAL hS hA (va_runV (As := [.int 119]) (rest := []) ⟨hx, hb, hml, hown, noTs⟩ (r_X12_writes l dC dI H.size cs b u11 119 0 hf11 (by first | assumption | omega | rfl | (congr 1; omega))) ⟨cbE 1 (wd_1948 hE) (wd_126 hE) (wd_1945 hE) rfl rfl (by decide +kernel) ⟨Nat.le_of_ble_eq_true rfl, Nat.le_of_ble_eq_true rfl⟩, (wd_1947 hE), (wd_112 hE)⟩ ⟨PR.blind, r_recv hK hP rfl, (r_pre (av := [.ref (b 0), .int 119]) hK hP hJ hE)⟩ rfl rfl hl.1 rfl (lv_room (Nat.le_of_ble_eq_true rfl)) dX12_tell_33 ⟨Nat.le_of_ble_eq_true rfl, Nat.le_of_ble_eq_true rfl⟩) (fun u14 H locs hpo14 hP hS => ?_)
    obtain ⟨h14_0, hq14⟩ := hpo14
    have hA15 := (hq14.1 1 (by decide)).trans hA12
    have hA16 := (hq14.1 3 (by decide)).trans hA13
    have hfr := FR.step hfr hq14 (by decide) (by decide) (fun h => rfl)
    refine lv_aload_n hx hb dX12_tell_36 rfl (lv_at hl 0 rfl) ?_
    refine lv_bipush (v := 111) hx hb dX12_tell_37 (by decide) ?_
    refine rc_v hAL hS hA (va_runV (As := [.int 111]) (rest := []) ⟨hx, hb, hml, hown, noTs⟩ (r_X12_writes l dC dI H.size cs b u14 111 (0 + 1) h14_0 (by first | assumption | omega | rfl | (congr 1; omega))) ⟨cbE 1 (wd_1948 hE) (wd_126 hE) (wd_1945 hE) rfl rfl (by decide +kernel) ⟨Nat.le_of_ble_eq_true rfl, Nat.le_of_ble_eq_true rfl⟩, (wd_1947 hE), (wd_112 hE)⟩ ⟨PR.blind, r_recv hK hP rfl, (r_pre (av := [.ref (b 0), .int 111]) hK hP hJ hE)⟩ rfl rfl hl.1 rfl (lv_room (Nat.le_of_ble_eq_true rfl)) dX12_tell_39 ⟨Nat.le_of_ble_eq_true rfl, Nat.le_of_ble_eq_true rfl⟩) (fun u17 H locs hpo17 hP hS => ?_)
    obtain ⟨h17_0, hq17⟩ := hpo17
    have hA18 := (hq17.1 1 (by decide)).trans hA15
    have hA19 := (hq17.1 3 (by decide)).trans hA16
    have hfr := FR.step hfr hq17 (by decide) (by decide) (fun h => rfl)
    refine lv_aload_n hx hb dX12_tell_42 rfl (lv_at hl 0 rfl) ?_
    refine lv_bipush (v := 114) hx hb dX12_tell_43 (by decide) ?_
    refine rc_v hAL hS hA (va_runV (As := [.int 114]) (rest := []) ⟨hx, hb, hml, hown, noTs⟩ (r_X12_writes l dC dI H.size cs b u17 114 ((0 + 1) + 1) h17_0 (by first | assumption | omega | rfl | (congr 1; omega))) ⟨cbE 1 (wd_1948 hE) (wd_126 hE) (wd_1945 hE) rfl rfl (by decide +kernel) ⟨Nat.le_of_ble_eq_true rfl, Nat.le_of_ble_eq_true rfl⟩, (wd_1947 hE), (wd_112 hE)⟩ ⟨PR.blind, r_recv hK hP rfl, (r_pre (av := [.ref (b 0), .int 114]) hK hP hJ hE)⟩ rfl rfl hl.1 rfl (lv_room (Nat.le_of_ble_eq_true rfl)) dX12_tell_45 ⟨Nat.le_of_ble_eq_true rfl, Nat.le_of_ble_eq_true rfl⟩) (fun u20 H locs hpo20 hP hS => ?_)
    obtain ⟨h20_0, hq20⟩ := hpo20
    have hA21 := (hq20.1 1 (by decide)).trans hA18
    have hA22 := (hq20.1 3 (by decide)).trans hA19
    have hfr := FR.step hfr hq20 (by decide) (by decide) (fun h => rfl)
    refine lv_aload_n hx hb dX12_tell_48 rfl (lv_at hl 0 rfl) ?_
    refine lv_bipush (v := 100) hx hb dX12_tell_49 (by decide) ?_
    refine rc_v hAL hS hA (va_runV (As := [.int 100]) (rest := []) ⟨hx, hb, hml, hown, noTs⟩ (r_X12_writes l dC dI H.size cs b u20 100 (((0 + 1) + 1) + 1) h20_0 (by first | assumption | omega | rfl | (congr 1; omega))) ⟨cbE 1 (wd_1948 hE) (wd_126 hE) (wd_1945 hE) rfl rfl (by decide +kernel) ⟨Nat.le_of_ble_eq_true rfl, Nat.le_of_ble_eq_true rfl⟩, (wd_1947 hE), (wd_112 hE)⟩ ⟨PR.blind, r_recv hK hP rfl, (r_pre (av := [.ref (b 0), .int 100]) hK hP hJ hE)⟩ rfl rfl hl.1 rfl (lv_room (Nat.le_of_ble_eq_true rfl)) dX12_tell_51 ⟨Nat.le_of_ble_eq_true rfl, Nat.le_of_ble_eq_true rfl⟩) (fun u23 H locs hpo23 hP hS => ?_)
    obtain ⟨h23_0, hq23⟩ := hpo23
    have hA24 := (hq23.1 1 (by decide)).trans hA21
    have hA25 := (hq23.1 3 (by decide)).trans hA22
    have hfr := FR.step hfr hq23 (by decide) (by decide) (fun h => rfl)
    refine lv_aload_n hx hb dX12_tell_54 rfl (lv_at hl 0 rfl) ?_
    refine lv_aload_n hx hb dX12_tell_55 rfl (lv_at hl 0 rfl) ?_
    refine r_get (v := .ref (b 2)) hx hb (ly_X12 hE) hown hK hP rfl 4 (by decide) (wd_1385 hE) (fun _ h9 => h9) rfl dX12_tell_56 ?_
    refine lv_iconst (v := 0) hx hb dX12_tell_59 (by decide) ?_
    refine r_aald (j := 2) (k := 0) (n := 10) (t0 := 4) (j2 := 3) hx hb hK hP (by decide) rfl rfl (by decide) (by decide) rfl dX12_tell_60 ?_
    refine lv_iconst (v := 0) hx hb dX12_tell_61 (by decide) ?_
    refine r_iald (j := 3) (k := 0) (n := 200) (x := nI (rb w8)) hx hb hK hP (by decide) rfl (by decide) (by decide) (by rw [hA25]; exact pg_b h7_0) dX12_tell_62 ?_
    refine rc_v hAL hS hA (va_runV (As := [.int (nI (rb w8))]) (rest := []) ⟨hx, hb, hml, hown, noTs⟩ (r_X12_writesNumber l dC dI H.size cs b u23 (nI (rb w8)) ((((0 + 1) + 1) + 1) + 1) h23_0 (by first | assumption | omega | rfl | (congr 1; omega))) ⟨cbE 1 (wd_1952 hE) (wd_126 hE) (wd_1949 hE) rfl rfl (by decide +kernel) ⟨Nat.le_of_ble_eq_true rfl, Nat.le_of_ble_eq_true rfl⟩, (wd_1951 hE), (wd_113 hE)⟩ ⟨PR.blind, r_recv hK hP rfl, (r_pre (av := [.ref (b 0), .int (nI (rb w8))]) hK hP hJ hE)⟩ rfl rfl hl.1 rfl (lv_room (Nat.le_of_ble_eq_true rfl)) dX12_tell_63 ⟨Nat.le_of_ble_eq_true rfl, Nat.le_of_ble_eq_true rfl⟩) (fun u27 H locs hpo27 hP hS => ?_)
    obtain ⟨h27_0, hq27⟩ := hpo27
    obtain ⟨n27_0, hn27_0, hfe27_0⟩ := h27_0
    have hA28 := (hq27.1 1 (by decide)).trans hA24
    have hA29 := (hq27.1 3 (by decide)).trans hA25
    have hfr := FR.step hfr hq27 (by decide) (by decide) (fun h => rfl)
    refine lv_aload_n hx hb dX12_tell_66 rfl (lv_at hl 0 rfl) ?_
    refine lv_aload_n hx hb dX12_tell_67 rfl (lv_at hl 0 rfl) ?_
    refine r_get (v := .ref (b 2)) hx hb (ly_X12 hE) hown hK hP rfl 4 (by decide) (wd_1385 hE) (fun _ h9 => h9) rfl dX12_tell_68 ?_
    refine lv_iconst (v := 0) hx hb dX12_tell_71 (by decide) ?_
    refine r_aald (j := 2) (k := 0) (n := 10) (t0 := 4) (j2 := 3) hx hb hK hP (by decide) rfl rfl (by decide) (by decide) rfl dX12_tell_72 ?_
    refine lv_iconst (v := 0) hx hb dX12_tell_73 (by decide) ?_
    refine vp_callSi (va_Run.run (va_runS (As := [.ref (b 3), .int (nI 0)]) (rest := [.ref (b 0)]) ⟨hx, hb, hml, hown, noTs⟩ (r_X12_number l dC dI H.size cs b u27 a hA28 3 (by decide) w8 hA29 0 (by first | assumption | omega | rfl | (congr 1; omega))) ⟨cbE 2 (wd_1664 hE) (wd_126 hE) (wd_1662 hE) rfl rfl (by decide +kernel) ⟨Nat.le_of_ble_eq_true rfl, Nat.le_of_ble_eq_true rfl⟩, (wd_1663 hE)⟩ ⟨PR.blind, (r_pre (av := [.ref (b 3), .int (nI 0)]) hK hP hJ hE)⟩ rfl rfl hl.1 rfl (lv_room (Nat.le_of_ble_eq_true rfl)) dX12_tell_74 ⟨Nat.le_of_ble_eq_true rfl, Nat.le_of_ble_eq_true rfl⟩)) (fun r30 hr30 => ?_)
    refine rc_v hAL hS hA (va_runV (As := [.int r30]) (rest := []) ⟨hx, hb, hml, hown, noTs⟩ (r_X12_writesNumber l dC dI H.size cs b u27 r30 n27_0 hfe27_0 (by first | assumption | omega | rfl | (congr 1; omega))) ⟨cbE 1 (wd_1952 hE) (wd_126 hE) (wd_1949 hE) rfl rfl (by decide +kernel) ⟨Nat.le_of_ble_eq_true rfl, Nat.le_of_ble_eq_true rfl⟩, (wd_1951 hE), (wd_113 hE)⟩ ⟨PR.blind, r_recv hK hP rfl, (r_pre (av := [.ref (b 0), .int r30]) hK hP hJ hE)⟩ rfl rfl hl.1 rfl (lv_room (Nat.le_of_ble_eq_true rfl)) dX12_tell_77 ⟨Nat.le_of_ble_eq_true rfl, Nat.le_of_ble_eq_true rfl⟩) (fun u31 H locs hpo31 hP hS => ?_)
    obtain ⟨h31_0, hq31⟩ := hpo31
    obtain ⟨n31_0, hn31_0, hfe31_0⟩ := h31_0
    have hA32 := (hq31.1 1 (by decide)).trans hA28
    have hA33 := (hq31.1 3 (by decide)).trans hA29
    have hfr := FR.step hfr hq31 (by decide) (by decide) (fun h => rfl)
    refine lv_iconst (v := 0) hx hb dX12_tell_80 (by decide) ?_
    refine lv_istore_n (lv' := [(2, .int 0), (0, .ref (b 0)), (1, .int (nI n3))]) hx hb dX12_tell_81 rfl hl (by decide) rfl (fun ls hl => ?_)
    refine r_ind (I := fun n u_ H locs ls => va_P (dC, dI) vwCl (rW cs b u_) H ∧ va_S (AR b s.heap.size) s.heap H locs ∧ FR [3, 107] [1, 30] false u u_ ∧ ∃ (i_34 : Nat) (o1_34 : Nat), n = rn w8 - i_34 ∧ (i_34 ≤ rn w8) ∧ (o1_34 ≤ 10 + 8 * i_34) ∧ (rA u_ 3 = w8) ∧ (rF u_ 30 = nI o1_34) ∧ lv_has ls 3 [(0, .ref (b 0)), (1, .int (nI n3)), (2, .int (nI i_34))]) (fun n u34 H locs ls hI ih34 => ?_) _ u31 _ _ _ ⟨hP, hS, hfr, 0, n31_0, rfl, (by first | assumption | omega | rfl | (congr 1; omega)), (by first | assumption | omega | rfl | (congr 1; omega)), hA33, hfe31_0, lv_sub hl [1, 2, 0] rfl⟩
    obtain ⟨hP, hS, hfr, i_34, o1_34, hmu34, hL34_0, hL34_1, hL34_2, hL34_3, hl⟩ := hI
    have hA35 := (hfr.1 1 (by decide)).trans hA1
    subst hmu34
    refine lv_iload_n hx hb dX12_tell_82 rfl (lv_at hl 2 rfl) ?_
    refine lv_aload_n hx hb dX12_tell_83 rfl (lv_at hl 0 rfl) ?_
    refine r_get (v := .ref (b 2)) hx hb (ly_X12 hE) hown hK hP rfl 4 (by decide) (wd_1385 hE) (fun _ h9 => h9) rfl dX12_tell_84 ?_
    refine lv_iconst (v := 0) hx hb dX12_tell_87 (by decide) ?_
    refine r_aald (j := 2) (k := 0) (n := 10) (t0 := 4) (j2 := 3) hx hb hK hP (by decide) rfl rfl (by decide) (by decide) rfl dX12_tell_88 ?_
    refine lv_iconst (v := 1) hx hb dX12_tell_89 (by decide) ?_
    refine r_iald (j := 3) (k := 1) (n := 200) (x := nI (rn w8)) hx hb hK hP (by decide) rfl (by decide) (by decide) (by rw [hL34_2]; exact pg_n h7_0) dX12_tell_90 ?_
    refine lv_icmp_ge (tgt := 164) hx hb dX12_tell_91 (by decide) (fun c37 => ?_) (fun c37 => ?_)
    · have c37 := (b_le (nI_toInt (n := rn w8) (by omega)) (nI_toInt (n := i_34) (by omega))).mp c37
      refine lv_aload_n hx hb dX12_tell_164 rfl (lv_at hl 0 rfl) ?_
      refine lv_bipush (v := 59) hx hb dX12_tell_165 (by decide) ?_
      refine rc_v hAL hS hA (va_runV (As := [.int 59]) (rest := []) ⟨hx, hb, hml, hown, noTs⟩ (r_X12_writes l dC dI H.size cs b u34 59 o1_34 hL34_3 (by first | assumption | omega | rfl | (congr 1; omega))) ⟨cbE 1 (wd_1948 hE) (wd_126 hE) (wd_1945 hE) rfl rfl (by decide +kernel) ⟨Nat.le_of_ble_eq_true rfl, Nat.le_of_ble_eq_true rfl⟩, (wd_1947 hE), (wd_112 hE)⟩ ⟨PR.blind, r_recv hK hP rfl, (r_pre (av := [.ref (b 0), .int 59]) hK hP hJ hE)⟩ rfl rfl hl.1 rfl (lv_room (Nat.le_of_ble_eq_true rfl)) dX12_tell_167 ⟨Nat.le_of_ble_eq_true rfl, Nat.le_of_ble_eq_true rfl⟩) (fun u38 H locs hpo38 hP hS => ?_)
      obtain ⟨h38_0, hq38⟩ := hpo38
      have hA39 := (hq38.1 1 (by decide)).trans hA35
      have hA40 := (hq38.1 3 (by decide)).trans hL34_2
      have hfr := FR.step hfr hq38 (by decide) (by decide) (fun h => rfl)
      refine lv_aload_n hx hb dX12_tell_170 rfl (lv_at hl 0 rfl) ?_
      refine lv_aload_n hx hb dX12_tell_171 rfl (lv_at hl 0 rfl) ?_
      refine r_get (v := .int (nI (o1_34 + 1))) hx hb (ly_X12 hE) hown hK hP rfl 30 (by decide) (wd_1411 hE) (fun _ h9 => h9) (congrArg (fun z : Int32 => some (Value.int z)) h38_0) dX12_tell_172 ?_
      refine rc_i hAL hS hA (va_runV (As := [.int (nI (o1_34 + 1))]) (rest := []) ⟨hx, hb, hml, hown, noTs⟩ (r_X12_gives l dC dI H.size cs b u38 a hA39 (nI (o1_34 + 1))) ⟨cbE 1 (wd_1621 hE) (wd_126 hE) (wd_1618 hE) rfl rfl (by decide +kernel) ⟨Nat.le_of_ble_eq_true rfl, Nat.le_of_ble_eq_true rfl⟩, (wd_1620 hE), (wd_80 hE)⟩ ⟨PR.blind, r_recv hK hP rfl, (r_pre (av := [.ref (b 0), .int (nI (o1_34 + 1))]) hK hP hJ hE)⟩ rfl rfl hl.1 rfl (lv_room (Nat.le_of_ble_eq_true rfl)) dX12_tell_175 ⟨Nat.le_of_ble_eq_true rfl, Nat.le_of_ble_eq_true rfl⟩) (fun r41 u41 H locs hpo41 hP hS => ?_)
      obtain ⟨hr41, hq41⟩ := hpo41
      have hA42 := (hq41.1 1 List.not_mem_nil).trans hA39
      have hA43 := (hq41.1 3 List.not_mem_nil).trans hA40
      have hF44x := (hq41.2.1 30 (by decide)).trans h38_0
      have hfr := FR.step hfr hq41 (fun _ h => absurd h List.not_mem_nil) (by decide) (fun h => rfl)
      refine W.eq (g2 := F0 m 178 ls [.int (nI (o1_34 + 1))]) (by rw [hr41]) ?_
      exact W.iret (v := nI (o1_34 + 1)) hx hb hr (fun t ht hW => ⟨⟨nI (o1_34 + 1), u41, rfl, ⟨trivial, (by first | (rw [hF44x]; done) | (rw [hF44x]; refine ⟨_, ?_, rfl⟩; omega)), hfr⟩, (show va_P (dC, dI) vwCl (rW cs b u41) t.heap by rw [ht]; exact hP)⟩, hS.F ht⟩) hS.2.2 dX12_tell_178
    · have c37 := mt (b_le (nI_toInt (n := rn w8) (by omega)) (nI_toInt (n := i_34) (by omega))).mpr c37
      refine lv_aload_n hx hb dX12_tell_94 rfl (lv_at hl 0 rfl) ?_
      refine lv_bipush (v := 32) hx hb dX12_tell_95 (by decide) ?_
      refine rc_v hAL hS hA (va_runV (As := [.int 32]) (rest := []) ⟨hx, hb, hml, hown, noTs⟩ (r_X12_writes l dC dI H.size cs b u34 32 o1_34 hL34_3 (by first | assumption | omega | rfl | (congr 1; omega))) ⟨cbE 1 (wd_1948 hE) (wd_126 hE) (wd_1945 hE) rfl rfl (by decide +kernel) ⟨Nat.le_of_ble_eq_true rfl, Nat.le_of_ble_eq_true rfl⟩, (wd_1947 hE), (wd_112 hE)⟩ ⟨PR.blind, r_recv hK hP rfl, (r_pre (av := [.ref (b 0), .int 32]) hK hP hJ hE)⟩ rfl rfl hl.1 rfl (lv_room (Nat.le_of_ble_eq_true rfl)) dX12_tell_97 ⟨Nat.le_of_ble_eq_true rfl, Nat.le_of_ble_eq_true rfl⟩) (fun u45 H locs hpo45 hP hS => ?_)
      obtain ⟨h45_0, hq45⟩ := hpo45
      have hA46 := (hq45.1 1 (by decide)).trans hA35
      have hA47 := (hq45.1 3 (by decide)).trans hL34_2
      have hfr := FR.step hfr hq45 (by decide) (by decide) (fun h => rfl)
      refine lv_aload_n hx hb dX12_tell_100 rfl (lv_at hl 0 rfl) ?_
      refine lv_aload_n hx hb dX12_tell_101 rfl (lv_at hl 0 rfl) ?_
      refine r_get (v := .ref (b 2)) hx hb (ly_X12 hE) hown hK hP rfl 4 (by decide) (wd_1385 hE) (fun _ h9 => h9) rfl dX12_tell_102 ?_
      refine lv_iconst (v := 0) hx hb dX12_tell_105 (by decide) ?_
      refine r_aald (j := 2) (k := 0) (n := 10) (t0 := 4) (j2 := 3) hx hb hK hP (by decide) rfl rfl (by decide) (by decide) rfl dX12_tell_106 ?_
      refine lv_iload_n hx hb dX12_tell_107 rfl (lv_at hl 2 rfl) ?_
      refine vp_callSi (va_Run.run (va_runS (As := [.ref (b 3), .int (nI i_34)]) (rest := [.ref (b 0)]) ⟨hx, hb, hml, hown, noTs⟩ (r_X12_step l dC dI H.size cs b u45 a hA46 3 (by decide) w8 hA47 i_34 (by first | assumption | omega | rfl | (congr 1; omega)) (by first | assumption | omega | rfl | (congr 1; omega))) ⟨cbE 2 (wd_1602 hE) (wd_126 hE) (wd_1600 hE) rfl rfl (by decide +kernel) ⟨Nat.le_of_ble_eq_true rfl, Nat.le_of_ble_eq_true rfl⟩, (wd_1601 hE)⟩ ⟨PR.blind, (r_pre (av := [.ref (b 3), .int (nI i_34)]) hK hP hJ hE)⟩ rfl rfl hl.1 rfl (lv_room (Nat.le_of_ble_eq_true rfl)) dX12_tell_108 ⟨Nat.le_of_ble_eq_true rfl, Nat.le_of_ble_eq_true rfl⟩)) (fun r48 hr48 => ?_)
      have hau48 := pg_sl (a := a) (w := w8) (i := i_34) (by assumption) (by first | assumption | omega)
      subst hr48
      refine lv_iconst (v := 2) hx hb dX12_tell_111 (by decide) ?_
      refine lv_irem hx hb dX12_tell_112 (by decide) ?_
      refine W.eq (g2 := F0 m 113 ls [.int (nI ((rs w8 i_34) % 2)), .ref (b 0)]) (congrArg (fun z : Int32 => F0 m 113 ls (.int z :: [.ref (b 0)])) (pk_rem (a := rs w8 i_34) (d := 2) (by omega) (by omega) (by omega))) ?_
      refine lv_if_ne (tgt := 121) hx hb dX12_tell_113 (by decide) (fun c49 => ?_) (fun c49 => ?_)
      · have c49 := mt (b_eq (nI_toInt (n := (rs w8 i_34) % 2) (by omega)) (show Int32.toInt 0 = 0 from rfl)).mpr c49
        refine lv_bipush (v := 60) hx hb dX12_tell_121 (by decide) ?_
        refine rc_v hAL hS hA (va_runV (As := [.int 60]) (rest := []) ⟨hx, hb, hml, hown, noTs⟩ (r_X12_writes l dC dI H.size cs b u45 60 (o1_34 + 1) h45_0 (by first | assumption | omega | rfl | (congr 1; omega))) ⟨cbE 1 (wd_1948 hE) (wd_126 hE) (wd_1945 hE) rfl rfl (by decide +kernel) ⟨Nat.le_of_ble_eq_true rfl, Nat.le_of_ble_eq_true rfl⟩, (wd_1947 hE), (wd_112 hE)⟩ ⟨PR.blind, r_recv hK hP rfl, (r_pre (av := [.ref (b 0), .int 60]) hK hP hJ hE)⟩ rfl rfl hl.1 rfl (lv_room (Nat.le_of_ble_eq_true rfl)) dX12_tell_123 ⟨Nat.le_of_ble_eq_true rfl, Nat.le_of_ble_eq_true rfl⟩) (fun u50 H locs hpo50 hP hS => ?_)
        obtain ⟨h50_0, hq50⟩ := hpo50
        have hA51 := (hq50.1 1 (by decide)).trans hA46
        have hA52 := (hq50.1 3 (by decide)).trans hA47
        have hfr := FR.step hfr hq50 (by decide) (by decide) (fun h => rfl)
        refine lv_aload_n hx hb dX12_tell_126 rfl (lv_at hl 0 rfl) ?_
        refine lv_aload_n hx hb dX12_tell_127 rfl (lv_at hl 0 rfl) ?_
        refine r_get (v := .ref (b 2)) hx hb (ly_X12 hE) hown hK hP rfl 4 (by decide) (wd_1385 hE) (fun _ h9 => h9) rfl dX12_tell_128 ?_
        refine lv_iconst (v := 0) hx hb dX12_tell_131 (by decide) ?_
        refine r_aald (j := 2) (k := 0) (n := 10) (t0 := 4) (j2 := 3) hx hb hK hP (by decide) rfl rfl (by decide) (by decide) rfl dX12_tell_132 ?_
        refine lv_iload_n hx hb dX12_tell_133 rfl (lv_at hl 2 rfl) ?_
        refine vp_callSi (va_Run.run (va_runS (As := [.ref (b 3), .int (nI i_34)]) (rest := [.ref (b 0)]) ⟨hx, hb, hml, hown, noTs⟩ (r_X12_step l dC dI H.size cs b u50 a hA51 3 (by decide) w8 hA52 i_34 (by first | assumption | omega | rfl | (congr 1; omega)) (by first | assumption | omega | rfl | (congr 1; omega))) ⟨cbE 2 (wd_1602 hE) (wd_126 hE) (wd_1600 hE) rfl rfl (by decide +kernel) ⟨Nat.le_of_ble_eq_true rfl, Nat.le_of_ble_eq_true rfl⟩, (wd_1601 hE)⟩ ⟨PR.blind, (r_pre (av := [.ref (b 3), .int (nI i_34)]) hK hP hJ hE)⟩ rfl rfl hl.1 rfl (lv_room (Nat.le_of_ble_eq_true rfl)) dX12_tell_134 ⟨Nat.le_of_ble_eq_true rfl, Nat.le_of_ble_eq_true rfl⟩)) (fun r53 hr53 => ?_)
        have hau53 := pg_sl (a := a) (w := w8) (i := i_34) (by assumption) (by first | assumption | omega)
        subst hr53
        refine lv_iconst (v := 2) hx hb dX12_tell_137 (by decide) ?_
        refine lv_idiv hx hb dX12_tell_138 (by decide) ?_
        refine W.eq (g2 := F0 m 139 ls [.int (nI ((rs w8 i_34) / 2)), .ref (b 0)]) (congrArg (fun z : Int32 => F0 m 139 ls (.int z :: [.ref (b 0)])) (pk_div (a := rs w8 i_34) (d := 2) (by omega) (by omega) (by omega))) ?_
        refine rc_v hAL hS hA (va_runV (As := [.int (nI ((rs w8 i_34) / 2))]) (rest := []) ⟨hx, hb, hml, hown, noTs⟩ (r_X12_writesNumber l dC dI H.size cs b u50 (nI ((rs w8 i_34) / 2)) ((o1_34 + 1) + 1) h50_0 (by first | assumption | omega | rfl | (congr 1; omega))) ⟨cbE 1 (wd_1952 hE) (wd_126 hE) (wd_1949 hE) rfl rfl (by decide +kernel) ⟨Nat.le_of_ble_eq_true rfl, Nat.le_of_ble_eq_true rfl⟩, (wd_1951 hE), (wd_113 hE)⟩ ⟨PR.blind, r_recv hK hP rfl, (r_pre (av := [.ref (b 0), .int (nI ((rs w8 i_34) / 2))]) hK hP hJ hE)⟩ rfl rfl hl.1 rfl (lv_room (Nat.le_of_ble_eq_true rfl)) dX12_tell_139 ⟨Nat.le_of_ble_eq_true rfl, Nat.le_of_ble_eq_true rfl⟩) (fun u54 H locs hpo54 hP hS => ?_)
        obtain ⟨h54_0, hq54⟩ := hpo54
        obtain ⟨n54_0, hn54_0, hfe54_0⟩ := h54_0
        have hA55 := (hq54.1 1 (by decide)).trans hA51
        have hA56 := (hq54.1 3 (by decide)).trans hA52
        have hfr := FR.step hfr hq54 (by decide) (by decide) (fun h => rfl)
        refine lv_aload_n hx hb dX12_tell_142 rfl (lv_at hl 0 rfl) ?_
        refine lv_aload_n hx hb dX12_tell_143 rfl (lv_at hl 0 rfl) ?_
        refine r_get (v := .ref (b 2)) hx hb (ly_X12 hE) hown hK hP rfl 4 (by decide) (wd_1385 hE) (fun _ h9 => h9) rfl dX12_tell_144 ?_
        refine lv_iconst (v := 0) hx hb dX12_tell_147 (by decide) ?_
        refine r_aald (j := 2) (k := 0) (n := 10) (t0 := 4) (j2 := 3) hx hb hK hP (by decide) rfl rfl (by decide) (by decide) rfl dX12_tell_148 ?_
        refine lv_iload_n hx hb dX12_tell_149 rfl (lv_at hl 2 rfl) ?_
        refine lv_iconst (v := 1) hx hb dX12_tell_150 (by decide) ?_
        refine lv_iadd hx hb dX12_tell_151 ?_
        refine W.eq (g2 := F0 m 152 ls [.int (nI (i_34 + 1)), .ref (b 3), .ref (b 0)]) (congrArg (fun z : Int32 => F0 m 152 ls (.int z :: [.ref (b 3), .ref (b 0)])) (nI_add i_34 1)) ?_
        refine vp_callSi (va_Run.run (va_runS (As := [.ref (b 3), .int (nI (i_34 + 1))]) (rest := [.ref (b 0)]) ⟨hx, hb, hml, hown, noTs⟩ (r_X12_number l dC dI H.size cs b u54 a hA55 3 (by decide) w8 hA56 (i_34 + 1) (by first | assumption | omega | rfl | (congr 1; omega))) ⟨cbE 2 (wd_1664 hE) (wd_126 hE) (wd_1662 hE) rfl rfl (by decide +kernel) ⟨Nat.le_of_ble_eq_true rfl, Nat.le_of_ble_eq_true rfl⟩, (wd_1663 hE)⟩ ⟨PR.blind, (r_pre (av := [.ref (b 3), .int (nI (i_34 + 1))]) hK hP hJ hE)⟩ rfl rfl hl.1 rfl (lv_room (Nat.le_of_ble_eq_true rfl)) dX12_tell_152 ⟨Nat.le_of_ble_eq_true rfl, Nat.le_of_ble_eq_true rfl⟩)) (fun r57 hr57 => ?_)
        refine rc_v hAL hS hA (va_runV (As := [.int r57]) (rest := []) ⟨hx, hb, hml, hown, noTs⟩ (r_X12_writesNumber l dC dI H.size cs b u54 r57 n54_0 hfe54_0 (by first | assumption | omega | rfl | (congr 1; omega))) ⟨cbE 1 (wd_1952 hE) (wd_126 hE) (wd_1949 hE) rfl rfl (by decide +kernel) ⟨Nat.le_of_ble_eq_true rfl, Nat.le_of_ble_eq_true rfl⟩, (wd_1951 hE), (wd_113 hE)⟩ ⟨PR.blind, r_recv hK hP rfl, (r_pre (av := [.ref (b 0), .int r57]) hK hP hJ hE)⟩ rfl rfl hl.1 rfl (lv_room (Nat.le_of_ble_eq_true rfl)) dX12_tell_155 ⟨Nat.le_of_ble_eq_true rfl, Nat.le_of_ble_eq_true rfl⟩) (fun u58 H locs hpo58 hP hS => ?_)
        obtain ⟨h58_0, hq58⟩ := hpo58
        obtain ⟨n58_0, hn58_0, hfe58_0⟩ := h58_0
        have hA59 := (hq58.1 1 (by decide)).trans hA55
        have hA60 := (hq58.1 3 (by decide)).trans hA56
        have hfr := FR.step hfr hq58 (by decide) (by decide) (fun h => rfl)
        refine lv_iinc (v := nI (i_34 + 1)) (lv' := [(2, .int (nI (i_34 + 1))), (0, .ref (b 0)), (1, .int (nI n3))]) hx hb dX12_tell_158 hl (k := 2) rfl (nI_1 i_34) (by decide) rfl (fun ls hl => ?_)
        refine lv_goto (tgt := 82) hx hb dX12_tell_161 (by decide) ?_
        exact ih34 _ u58 _ _ _ (by omega) ⟨hP, hS, hfr, (i_34 + 1), n58_0, rfl, (by first | assumption | omega | rfl | (congr 1; omega)), (by first | assumption | omega | rfl | (congr 1; omega)), hA60, hfe58_0, lv_sub hl [1, 2, 0] rfl⟩
      · have c49 := (b_eq (nI_toInt (n := (rs w8 i_34) % 2) (by omega)) (show Int32.toInt 0 = 0 from rfl)).mp c49
        refine lv_bipush (v := 62) hx hb dX12_tell_116 (by decide) ?_
        refine lv_goto (tgt := 123) hx hb dX12_tell_118 (by decide) ?_
        refine rc_v hAL hS hA (va_runV (As := [.int 62]) (rest := []) ⟨hx, hb, hml, hown, noTs⟩ (r_X12_writes l dC dI H.size cs b u45 62 (o1_34 + 1) h45_0 (by first | assumption | omega | rfl | (congr 1; omega))) ⟨cbE 1 (wd_1948 hE) (wd_126 hE) (wd_1945 hE) rfl rfl (by decide +kernel) ⟨Nat.le_of_ble_eq_true rfl, Nat.le_of_ble_eq_true rfl⟩, (wd_1947 hE), (wd_112 hE)⟩ ⟨PR.blind, r_recv hK hP rfl, (r_pre (av := [.ref (b 0), .int 62]) hK hP hJ hE)⟩ rfl rfl hl.1 rfl (lv_room (Nat.le_of_ble_eq_true rfl)) dX12_tell_123 ⟨Nat.le_of_ble_eq_true rfl, Nat.le_of_ble_eq_true rfl⟩) (fun u61 H locs hpo61 hP hS => ?_)
        obtain ⟨h61_0, hq61⟩ := hpo61
        have hA62 := (hq61.1 1 (by decide)).trans hA46
        have hA63 := (hq61.1 3 (by decide)).trans hA47
        have hfr := FR.step hfr hq61 (by decide) (by decide) (fun h => rfl)
        refine lv_aload_n hx hb dX12_tell_126 rfl (lv_at hl 0 rfl) ?_
        refine lv_aload_n hx hb dX12_tell_127 rfl (lv_at hl 0 rfl) ?_
        refine r_get (v := .ref (b 2)) hx hb (ly_X12 hE) hown hK hP rfl 4 (by decide) (wd_1385 hE) (fun _ h9 => h9) rfl dX12_tell_128 ?_
        refine lv_iconst (v := 0) hx hb dX12_tell_131 (by decide) ?_
        refine r_aald (j := 2) (k := 0) (n := 10) (t0 := 4) (j2 := 3) hx hb hK hP (by decide) rfl rfl (by decide) (by decide) rfl dX12_tell_132 ?_
        refine lv_iload_n hx hb dX12_tell_133 rfl (lv_at hl 2 rfl) ?_
        refine vp_callSi (va_Run.run (va_runS (As := [.ref (b 3), .int (nI i_34)]) (rest := [.ref (b 0)]) ⟨hx, hb, hml, hown, noTs⟩ (r_X12_step l dC dI H.size cs b u61 a hA62 3 (by decide) w8 hA63 i_34 (by first | assumption | omega | rfl | (congr 1; omega)) (by first | assumption | omega | rfl | (congr 1; omega))) ⟨cbE 2 (wd_1602 hE) (wd_126 hE) (wd_1600 hE) rfl rfl (by decide +kernel) ⟨Nat.le_of_ble_eq_true rfl, Nat.le_of_ble_eq_true rfl⟩, (wd_1601 hE)⟩ ⟨PR.blind, (r_pre (av := [.ref (b 3), .int (nI i_34)]) hK hP hJ hE)⟩ rfl rfl hl.1 rfl (lv_room (Nat.le_of_ble_eq_true rfl)) dX12_tell_134 ⟨Nat.le_of_ble_eq_true rfl, Nat.le_of_ble_eq_true rfl⟩)) (fun r64 hr64 => ?_)
        have hau64 := pg_sl (a := a) (w := w8) (i := i_34) (by assumption) (by first | assumption | omega)
        subst hr64
        refine lv_iconst (v := 2) hx hb dX12_tell_137 (by decide) ?_
        refine lv_idiv hx hb dX12_tell_138 (by decide) ?_
        refine W.eq (g2 := F0 m 139 ls [.int (nI ((rs w8 i_34) / 2)), .ref (b 0)]) (congrArg (fun z : Int32 => F0 m 139 ls (.int z :: [.ref (b 0)])) (pk_div (a := rs w8 i_34) (d := 2) (by omega) (by omega) (by omega))) ?_
        refine rc_v hAL hS hA (va_runV (As := [.int (nI ((rs w8 i_34) / 2))]) (rest := []) ⟨hx, hb, hml, hown, noTs⟩ (r_X12_writesNumber l dC dI H.size cs b u61 (nI ((rs w8 i_34) / 2)) ((o1_34 + 1) + 1) h61_0 (by first | assumption | omega | rfl | (congr 1; omega))) ⟨cbE 1 (wd_1952 hE) (wd_126 hE) (wd_1949 hE) rfl rfl (by decide +kernel) ⟨Nat.le_of_ble_eq_true rfl, Nat.le_of_ble_eq_true rfl⟩, (wd_1951 hE), (wd_113 hE)⟩ ⟨PR.blind, r_recv hK hP rfl, (r_pre (av := [.ref (b 0), .int (nI ((rs w8 i_34) / 2))]) hK hP hJ hE)⟩ rfl rfl hl.1 rfl (lv_room (Nat.le_of_ble_eq_true rfl)) dX12_tell_139 ⟨Nat.le_of_ble_eq_true rfl, Nat.le_of_ble_eq_true rfl⟩) (fun u65 H locs hpo65 hP hS => ?_)
        obtain ⟨h65_0, hq65⟩ := hpo65
        obtain ⟨n65_0, hn65_0, hfe65_0⟩ := h65_0
        have hA66 := (hq65.1 1 (by decide)).trans hA62
        have hA67 := (hq65.1 3 (by decide)).trans hA63
        have hfr := FR.step hfr hq65 (by decide) (by decide) (fun h => rfl)
        refine lv_aload_n hx hb dX12_tell_142 rfl (lv_at hl 0 rfl) ?_
        refine lv_aload_n hx hb dX12_tell_143 rfl (lv_at hl 0 rfl) ?_
        refine r_get (v := .ref (b 2)) hx hb (ly_X12 hE) hown hK hP rfl 4 (by decide) (wd_1385 hE) (fun _ h9 => h9) rfl dX12_tell_144 ?_
        refine lv_iconst (v := 0) hx hb dX12_tell_147 (by decide) ?_
        refine r_aald (j := 2) (k := 0) (n := 10) (t0 := 4) (j2 := 3) hx hb hK hP (by decide) rfl rfl (by decide) (by decide) rfl dX12_tell_148 ?_
        refine lv_iload_n hx hb dX12_tell_149 rfl (lv_at hl 2 rfl) ?_
        refine lv_iconst (v := 1) hx hb dX12_tell_150 (by decide) ?_
        refine lv_iadd hx hb dX12_tell_151 ?_
        refine W.eq (g2 := F0 m 152 ls [.int (nI (i_34 + 1)), .ref (b 3), .ref (b 0)]) (congrArg (fun z : Int32 => F0 m 152 ls (.int z :: [.ref (b 3), .ref (b 0)])) (nI_add i_34 1)) ?_
        refine vp_callSi (va_Run.run (va_runS (As := [.ref (b 3), .int (nI (i_34 + 1))]) (rest := [.ref (b 0)]) ⟨hx, hb, hml, hown, noTs⟩ (r_X12_number l dC dI H.size cs b u65 a hA66 3 (by decide) w8 hA67 (i_34 + 1) (by first | assumption | omega | rfl | (congr 1; omega))) ⟨cbE 2 (wd_1664 hE) (wd_126 hE) (wd_1662 hE) rfl rfl (by decide +kernel) ⟨Nat.le_of_ble_eq_true rfl, Nat.le_of_ble_eq_true rfl⟩, (wd_1663 hE)⟩ ⟨PR.blind, (r_pre (av := [.ref (b 3), .int (nI (i_34 + 1))]) hK hP hJ hE)⟩ rfl rfl hl.1 rfl (lv_room (Nat.le_of_ble_eq_true rfl)) dX12_tell_152 ⟨Nat.le_of_ble_eq_true rfl, Nat.le_of_ble_eq_true rfl⟩)) (fun r68 hr68 => ?_)
        refine rc_v hAL hS hA (va_runV (As := [.int r68]) (rest := []) ⟨hx, hb, hml, hown, noTs⟩ (r_X12_writesNumber l dC dI H.size cs b u65 r68 n65_0 hfe65_0 (by first | assumption | omega | rfl | (congr 1; omega))) ⟨cbE 1 (wd_1952 hE) (wd_126 hE) (wd_1949 hE) rfl rfl (by decide +kernel) ⟨Nat.le_of_ble_eq_true rfl, Nat.le_of_ble_eq_true rfl⟩, (wd_1951 hE), (wd_113 hE)⟩ ⟨PR.blind, r_recv hK hP rfl, (r_pre (av := [.ref (b 0), .int r68]) hK hP hJ hE)⟩ rfl rfl hl.1 rfl (lv_room (Nat.le_of_ble_eq_true rfl)) dX12_tell_155 ⟨Nat.le_of_ble_eq_true rfl, Nat.le_of_ble_eq_true rfl⟩) (fun u69 H locs hpo69 hP hS => ?_)
        obtain ⟨h69_0, hq69⟩ := hpo69
        obtain ⟨n69_0, hn69_0, hfe69_0⟩ := h69_0
        have hA70 := (hq69.1 1 (by decide)).trans hA66
        have hA71 := (hq69.1 3 (by decide)).trans hA67
        have hfr := FR.step hfr hq69 (by decide) (by decide) (fun h => rfl)
        refine lv_iinc (v := nI (i_34 + 1)) (lv' := [(2, .int (nI (i_34 + 1))), (0, .ref (b 0)), (1, .int (nI n3))]) hx hb dX12_tell_158 hl (k := 2) rfl (nI_1 i_34) (by decide) rfl (fun ls hl => ?_)
        refine lv_goto (tgt := 82) hx hb dX12_tell_161 (by decide) ?_
        exact ih34 _ u69 _ _ _ (by omega) ⟨hP, hS, hfr, (i_34 + 1), n69_0, rfl, (by first | assumption | omega | rfl | (congr 1; omega)), (by first | assumption | omega | rfl | (congr 1; omega)), hA71, hfe69_0, lv_sub hl [1, 2, 0] rfl⟩
  · refine lv_if_ne (tgt := 14) hx hb dX12_tell_5 (by decide) (fun c72 => absurd c72 (by decide)) (fun c72 => ?_)
    refine lv_aload_n hx hb dX12_tell_8 rfl (lv_at hl 0 rfl) ?_
    refine lv_iconst (v := 2) hx hb dX12_tell_9 (by decide) ?_
    refine rc_i hAL hS hA (va_runV (As := [.int 2]) (rest := []) ⟨hx, hb, hml, hown, noTs⟩ (r_X12_refuse l dC dI s.heap.size cs b u a hA1 2) ⟨cbE 1 (wd_1498 hE) (wd_126 hE) (wd_1495 hE) rfl rfl (by decide +kernel) ⟨Nat.le_of_ble_eq_true rfl, Nat.le_of_ble_eq_true rfl⟩, (wd_1497 hE), (wd_54 hE)⟩ ⟨PR.blind, r_recv hK hP rfl, (r_pre (av := [.ref (b 0), .int 2]) hK hP hJ hE)⟩ rfl rfl hl.1 rfl (lv_room (Nat.le_of_ble_eq_true rfl)) dX12_tell_10 ⟨Nat.le_of_ble_eq_true rfl, Nat.le_of_ble_eq_true rfl⟩) (fun r73 u73 H locs hpo73 hP hS => ?_)
    obtain ⟨hr73, hq73⟩ := hpo73
    have hA74 := (hq73.1 1 List.not_mem_nil).trans hA1
    have hF75x := (hq73.2.1 30 (by decide)).trans hF30
    have hfr := FR.step hfr hq73 (fun _ h => absurd h List.not_mem_nil) (by decide) (fun h => rfl)
    subst hr73
    exact W.iret (v := -1) hx hb hr (fun t ht hW => ⟨⟨-1, u73, rfl, ⟨trivial, (by first | (rw [hF75x]; done) | (rw [hF75x]; refine ⟨_, ?_, rfl⟩; omega)), hfr⟩, (show va_P (dC, dI) vwCl (rW cs b u73) t.heap by rw [ht]; exact hP)⟩, hS.F ht⟩) hS.2.2 dX12_tell_13
