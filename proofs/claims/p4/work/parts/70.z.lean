set_option maxHeartbeats 4000000 in
set_option maxRecDepth 100000 in
theorem z_X11_load (l : Launch) (dC : Nat → ClassId) (dI : Nat → Nat → Nat) (sz : Nat) (cs : Nat → ClassId) (b : Nat → Nat) (u : RS) (adK adV : Nat → Nat) (G : GT) (ct : Nat → ClassId) (t0 m0 : Nat) (hT7 : Ty G (b 20) 7) (hT3 : Ty G (b 21) 3) (tx : Nat → Int32) (hAc5 : rA u 5 = tx) (k2 : Nat → Int32) (hAc2 : rA u 2 = k2) (k3 : Nat → Int32) (hAc3 : rA u 3 = k3) (k4 : Nat → Int32) (hAc4 : rA u 4 = k4) (dg : Nat → Int32) (hAc7 : rA u 7 = dg) (xn : Nat) (tt : Nat) (hF37 : rF u 37 = nI tt) (hp0 : BY tx) (hp1 : xn ≤ tt) (hp2 : tt ≤ 700) : Met l yX11_load [.code yX11_load cX11_load 2 (some .int)] ({ frames := 9, cells := 0, slots := 0, locals := 360 }) (PZ [.ref (b 11), .int (nI xn)] sz dC dI cs b u adK adV G ct t0 m0) (va_Qi (fun (r : Int32) (u' : RS) => (((pLoad tx xn).1 ≠ 0 ∧ r = -1 ∧ FQ u' (pLoad tx xn).1 (pLoad tx xn).2.1 (pLoad tx xn).2.2.1) ∨ ((pLoad tx xn).1 = 0 ∧ r = nI (pW (pLoad tx xn).2.2.2) ∧ rF u' 7 = 0 ∧ rF u' 8 = -1 ∧ rF u' 9 = -1)) ∧ (rF u' 3 = 1) ∧ (rF u' 37 = 0) ∧ FR [2, 3, 4, 7, 9, 10] [3, 4, 5, 6, 7, 8, 9, 13, 14, 15, 22, 23, 35, 37] false u u') (BZ dC dI cs b G ct t0 m0) (AZ G b sz)) 0 0 (AZ G b sz) := by
  refine Met.ofW (cc := cX11_load) (maxL := 2) (ret := (some .int)) (by decide) rfl ?_
  intro p e s m args below meth c s₁ B hml hv
  obtain ⟨rfl, hsz, hP, hK, hJ, hE, hX, hZ0, hZ1, hZ2, ⟨f0, hok, hP1⟩, hK1, hnd, hWT, hDJ⟩ := hv
  have hx := B.exec
  have hb := B.bytes
  have hr := B.returns
  have hown : s.vm.findClass RX11 = some m.cls := findClass_of_methodNamed B.named
  have hlocks := B.notSynchronized
  subst hsz
  have hAL : ∀ i, i < 12 → AZ G b s.heap.size (b i) := fun i h => Or.inr (Or.inl ⟨i, h, rfl⟩)
  have hA : ∀ q : Nat, s.heap.size ≤ q → AZ G b s.heap.size q := fun q h => Or.inr (Or.inr h)
  have hS : va_S (AZ G b s.heap.size) s.heap s.heap [] := va_S.rf
  have hfr : FR [2, 3, 4, 7, 9, 10] [3, 4, 5, 6, 7, 8, 9, 13, 14, 15, 22, 23, 35, 37] false u u := FR.refl
  have hl := lv_entry ([.ref (b 11), .int (nI xn)]) (n := 2) (Nat.le_of_ble_eq_true rfl)
  rw [lg_entry_eq]
  generalize (lg_sl ([.ref (b 11), .int (nI xn)]) ++ List.replicate (2 - (lg_sl ([.ref (b 11), .int (nI xn)])).length) Slot.unset).toArray = ls at hl ⊢
  have hl : lv_has ls 2 [(0, .ref (b 11)), (1, .int (nI xn))] := hl
  have hAT : ∀ a, a ∈ gL G → AZ G b s.heap.size a := fun a h => Or.inl h
  refine lv_iload_n hx hb dX11_load_0 rfl (lv_at hl 1 rfl) ?_
  refine lv_if_lt (tgt := 12) hx hb dX11_load_1 (by decide) (fun c4 => False.elim (by have c4 := (b_lt (nI_toInt (n := xn) (by omega)) (show Int32.toInt 0 = 0 from rfl)).mp c4; omega)) (fun c4 => ?_)
  have c4 := mt (b_lt (nI_toInt (n := xn) (by omega)) (show Int32.toInt 0 = 0 from rfl)).mpr c4
  refine lv_iload_n hx hb dX11_load_4 rfl (lv_at hl 1 rfl) ?_
  refine lv_aload_n hx hb dX11_load_5 rfl (lv_at hl 0 rfl) ?_
  refine q_get (v := .int (nI tt)) hx hb 11 (by decide) rfl (ly_X11 hE) hown hK hP rfl 7 (by decide) (wd_366 hE) (fun _ h9 => h9) (congrArg (fun z : Int32 => some (Value.int z)) hF37) dX11_load_6 ?_
  refine lv_icmp_le (tgt := 18) hx hb dX11_load_9 (by decide) (fun c5 => ?_) (fun c5 => False.elim (by have c5 := mt (b_le (nI_toInt (n := xn) (by omega)) (nI_toInt (n := tt) (by omega))).mpr c5; omega))
  have c5 := (b_le (nI_toInt (n := xn) (by omega)) (nI_toInt (n := tt) (by omega))).mp c5
  refine lv_aload_n hx hb dX11_load_18 rfl (lv_at hl 0 rfl) ?_
  refine lv_iconst (v := 0) hx hb dX11_load_19 (by decide) ?_
  refine zq_put (v := 0) (ty := .int) hP1 hnd hDJ hAT hx hb 11 37 (by decide) (ly_X11 hE) tyX11 tyX11_ok nmX11 hown hK hP hJ hAL hS rfl 7 (by decide) (wd_366 hE) (fun _ h9 => h9) rfl (by decide +kernel) rfl rfl rfl rfl (qE_put11 (by decide)) (Nat.le_of_ble_eq_true rfl) dX11_load_20 (fun u6 H locs hf6 hq6 hP hP1 hS => ?_)
  have hA7 := (hq6.1 5 List.not_mem_nil).trans hAc5
  have hA8 := (hq6.1 2 List.not_mem_nil).trans hAc2
  have hA9 := (hq6.1 3 List.not_mem_nil).trans hAc3
  have hA10 := (hq6.1 4 List.not_mem_nil).trans hAc4
  have hA11 := (hq6.1 7 List.not_mem_nil).trans hAc7
  have hfr := FR.step hfr hq6 (fun _ h => absurd h List.not_mem_nil) (by decide) (fun h => rfl)
  refine lv_aload_n hx hb dX11_load_23 rfl (lv_at hl 0 rfl) ?_
  refine q_get (v := .ref (b 0)) hx hb 11 (by decide) rfl (ly_X11 hE) hown hK hP rfl 8 (by decide) (wd_367 hE) (fun _ h9 => h9) rfl dX11_load_24 ?_
  refine lv_aload_n hx hb dX11_load_27 rfl (lv_at hl 0 rfl) ?_
  refine q_get (v := .ref (b 5)) hx hb 11 (by decide) rfl (ly_X11 hE) hown hK hP rfl 6 (by decide) (wd_365 hE) (fun _ h9 => h9) rfl dX11_load_28 ?_
  refine lv_iload_n hx hb dX11_load_31 rfl (lv_at hl 1 rfl) ?_
  refine zc_i hDJ hP1 hAL hS hA (va_runV (As := [.ref (b 5), .int (nI xn)]) (rest := []) ⟨hx, hb, hml, hown, noTs⟩ (q_X5_read l dC dI H.size cs b u6 adK adV tx hA7 k2 hA8 k3 hA9 k4 hA10 dg hA11 xn (by first | assumption | omega | rfl | (congr 1; omega)) (by first | assumption | omega | rfl | (congr 1; omega))) ⟨cbE 2 (wd_440 hE) (wd_118 hE) (wd_437 hE) rfl rfl (by decide +kernel) ⟨Nat.le_of_ble_eq_true rfl, Nat.le_of_ble_eq_true rfl⟩, (wd_438 hE), (wd_439 hE)⟩ ⟨PQX.blind, q_recv 0 (by decide) rfl hK hP rfl, (zx_pre (av := [.ref (b 0), .ref (b 5), .int (nI xn)]) hK hP hJ hE hX hZ0 hZ1 hZ2 hS)⟩ rfl rfl hl.1 rfl (lv_room (Nat.le_of_ble_eq_true rfl)) dX11_load_32 ⟨Nat.le_of_ble_eq_true rfl, Nat.le_of_ble_eq_true rfl⟩) (fun r12 u12 H locs hpo12 hP hP1 hS => ?_)
  obtain ⟨hr12, h12_0, hq12⟩ := hpo12
  obtain ⟨w13, hA13⟩ : ∃ g, rA u12 7 = g := ⟨_, rfl⟩
  rw [hA13] at hr12
  have hA14 := (hq12.1 5 (by decide)).trans hA7
  have hF15x := (hq12.2.1 37 (by decide)).trans hf6
  have hfr := FR.step hfr hq12 (by decide) (by decide) (fun h => rfl)
  rcases hr12 with ⟨rfl, hb12⟩ | ⟨rfl, hb12⟩
  · have P0 := hb12.1
    have DGr := hb12.2.2.2.2
    refine lv_if_ne (tgt := 45) hx hb dX11_load_35 (by decide) (fun c16 => ?_) (fun c16 => absurd c16 (by decide))
    refine lv_aload_n hx hb dX11_load_45 rfl (lv_at hl 0 rfl) ?_
    refine q_get (v := .ref (b 21)) hx hb 11 (by decide) rfl (ly_X11 hE) hown hK hP rfl 1 (by decide) (wd_360 hE) (fun _ h9 => h9) rfl dX11_load_46 ?_
    refine lv_aload_n hx hb dX11_load_49 rfl (lv_at hl 0 rfl) ?_
    refine q_get (v := .ref (b 20)) hx hb 11 (by decide) rfl (ly_X11 hE) hown hK hP rfl 0 (by decide) (wd_359 hE) (fun _ h9 => h9) rfl dX11_load_50 ?_
    obtain ⟨ya17, yb17, he17⟩ := ok_X3 hok hT3
    refine zt_v hDJ hP hAT hS hA (va_runV (As := [.ref (b 20)]) (rest := []) ⟨hx, hb, hml, hown, noTs⟩ (t_X3_push l dC dI H.size G ct t0 m0 (b 21) hT3 (b 20) hT7) ⟨cbE 1 (wd_725 hE) (wd_117 hE) (wd_722 hE) rfl rfl (by decide +kernel) ⟨Nat.le_of_ble_eq_true rfl, Nat.le_of_ble_eq_true rfl⟩, (wd_723 hE), (wd_724 hE)⟩ ⟨PT.blind, th_recv hK1 hP1 hT3.1 he17 rfl, th_pre (av := [.ref (b 21), .ref (b 20)]) trivial hK1 hP1 hok hnd hWT hE⟩ rfl rfl hl.1 rfl (lv_room (Nat.le_of_ble_eq_true rfl)) dX11_load_53 ⟨Nat.le_of_ble_eq_true rfl, Nat.le_of_ble_eq_true rfl⟩) (fun f17 H locs _ hok hP1 hP hS => ?_)
    refine lv_aload_n hx hb dX11_load_56 rfl (lv_at hl 0 rfl) ?_
    refine q_get (v := .ref (b 20)) hx hb 11 (by decide) rfl (ly_X11 hE) hown hK hP rfl 0 (by decide) (wd_359 hE) (fun _ h9 => h9) rfl dX11_load_57 ?_
    refine lv_aload_n hx hb dX11_load_60 rfl (lv_at hl 0 rfl) ?_
    refine q_get (v := .ref (b 0)) hx hb 11 (by decide) rfl (ly_X11 hE) hown hK hP rfl 8 (by decide) (wd_367 hE) (fun _ h9 => h9) rfl dX11_load_61 ?_
    refine va_csq (va_Run.run (va_runV (As := []) (rest := [.ref (b 20)]) ⟨hx, hb, hml, hown, noTs⟩ (q_X5_result l dC dI H.size cs b u12) ⟨cbE 0 (wd_742 hE) (wd_118 hE) (wd_739 hE) rfl rfl (by decide +kernel) ⟨Nat.le_of_ble_eq_true rfl, Nat.le_of_ble_eq_true rfl⟩, (wd_740 hE), (wd_741 hE)⟩ ⟨PQ.blind, q_recv 0 (by decide) rfl hK hP rfl, q_pre (av := [.ref (b 0)]) hK hP hJ hE⟩ rfl rfl hl.1 rfl (lv_room (Nat.le_of_ble_eq_true rfl)) dX11_load_64 ⟨Nat.le_of_ble_eq_true rfl, Nat.le_of_ble_eq_true rfl⟩)) (fun r18 hr18 => ?_)
    subst hr18
    have he19 := ok_X7 hok hT7
    obtain ⟨gN19, hg19⟩ := ok_21 hok (wt_X7_0 hWT hT7)
    rw [wl_X7_0 hWT hT7] at hg19
    have hne19 : gR G (b 20) 0 ≠ b 7 := fun h => hDJ 7 (by decide) (h ▸ (wt_X7_0 hWT hT7).1)
    refine z_copy (h := w13) hJ hDJ hP hP1 hok (wt_X7_0 hWT hT7) (wl_X7_0 hWT hT7) hA13 hAL hAT hS hA (va_runV (As := [.ref (b 6)]) (rest := []) ⟨hx, hb, hml, hown, noTs⟩ (e_X7_copyFrom l dC dI H.size (ct 0) (cs 0) (b 20) (gR G (b 20) 0) (b 6) (b 7) gN19 w13 hne19) ⟨cbE 1 (wd_734 hE) (wd_116 hE) (wd_743 hE) rfl rfl (by decide +kernel) ⟨Nat.le_of_ble_eq_true rfl, Nat.le_of_ble_eq_true rfl⟩, (wd_732 hE), (wd_733 hE)⟩ ⟨PW.blind, th_recv hK1 hP1 hT7.1 he19 rfl, pw_pre (av := [.ref (b 20), .ref (b 6)]) ((hK1.sub [0] rfl).app (hK.sub [0] rfl)) (pw_c (z_at hP1 hT7.1 he19) (pw_c (z_aq hP (show 6 < 12 by decide) rfl) (pw_c (z_at hP1 (wt_X7_0 hWT hT7).1 hg19) (pw_1 (z_aq hP (show 7 < 12 by decide) (by show _ = Sum.inl (cs 0, 543, Sum.inl w13); rw [← hA13]; rfl)))))) hE⟩ rfl rfl hl.1 rfl (lv_room (Nat.le_of_ble_eq_true rfl)) dX11_load_67 ⟨Nat.le_of_ble_eq_true rfl, Nat.le_of_ble_eq_true rfl⟩) (fun f19 H locs hfd hfo hok hP1 hP hS => ?_)
    refine lv_aload_n hx hb dX11_load_70 rfl (lv_at hl 0 rfl) ?_
    refine lv_aload_n hx hb dX11_load_71 rfl (lv_at hl 0 rfl) ?_
    refine q_get (v := .ref (b 20)) hx hb 11 (by decide) rfl (ly_X11 hE) hown hK hP rfl 0 (by decide) (wd_359 hE) (fun _ h9 => h9) rfl dX11_load_72 ?_
    have he20 := ok_X7 hok hT7
    refine vp_callSi (va_Run.run (va_runV (As := []) (rest := [.ref (b 11)]) ⟨hx, hb, hml, hown, noTs⟩ (e_X7_words l dC dI H.size (ct 0) (b 20) (gR G (b 20) 0) _) ⟨cbE 0 (wd_700 hE) (wd_116 hE) (wd_744 hE) rfl rfl (by decide +kernel) ⟨Nat.le_of_ble_eq_true rfl, Nat.le_of_ble_eq_true rfl⟩, (wd_698 hE), (wd_699 hE)⟩ ⟨PW.blind, th_recv hK1 hP1 hT7.1 he20 rfl, pw_pre (av := [.ref (b 20)]) (hK1.sub [0] rfl) (pw_c (z_at hP1 hT7.1 he20) (pw_1 (z_at hP1 (wt_X7_0 hWT hT7).1 hfd))) hE⟩ rfl rfl hl.1 rfl (lv_room (Nat.le_of_ble_eq_true rfl)) dX11_load_75 ⟨Nat.le_of_ble_eq_true rfl, Nat.le_of_ble_eq_true rfl⟩)) (fun r20 hr20 => ?_)
    have ANS : r20 = nI (pW (pLoad tx xn).2.2.2) := hr20.trans (show w13 2 = _ from DGr.2.2.2.2.1)
    refine zc_i hDJ hP1 hAL hS hA (va_runV (As := [.int r20]) (rest := []) ⟨hx, hb, hml, hown, noTs⟩ (q_X11_answer l dC dI H.size cs b u12 r20) ⟨cbE 1 (wd_748 hE) (wd_115 hE) (wd_745 hE) rfl rfl (by decide +kernel) ⟨Nat.le_of_ble_eq_true rfl, Nat.le_of_ble_eq_true rfl⟩, (wd_747 hE), (wd_23 hE)⟩ ⟨PQ.blind, q_recv 11 (by decide) rfl hK hP rfl, (q_pre (av := [.ref (b 11), .int r20]) hK hP hJ hE)⟩ rfl rfl hl.1 rfl (lv_room (Nat.le_of_ble_eq_true rfl)) dX11_load_78 ⟨Nat.le_of_ble_eq_true rfl, Nat.le_of_ble_eq_true rfl⟩) (fun r21 u21 H locs hpo21 hP hP1 hS => ?_)
    obtain ⟨hr21, hq21⟩ := hpo21
    have hA22 := (hq21.1 5 List.not_mem_nil).trans hA14
    have hA23 := (hq21.1 7 List.not_mem_nil).trans hA13
    have hF24x := (hq21.2.1 37 (by decide)).trans hF15x
    have hF25x := (hq21.2.1 3 (by decide)).trans h12_0
    have hF26x := (hq21.2.1 7 (by decide)).trans hb12.2.1
    have hF27x := (hq21.2.1 8 (by decide)).trans hb12.2.2.1
    have hF28x := (hq21.2.1 9 (by decide)).trans hb12.2.2.2.1
    have hfr := FR.step hfr hq21 (fun _ h => absurd h List.not_mem_nil) (by decide) (fun h => rfl)
    refine W.eq (g2 := F0 m 81 ls [.int r20]) (by rw [hr21]) ?_
    exact W.iret (v := r20) hx hb hr (fun t ht hW => ⟨⟨r20, u21, rfl, ⟨(by exact Or.inr ⟨P0, ANS, hF26x, hF27x, hF28x⟩), (by first | (rw [hF25x]; done) | (rw [hF25x]; first | assumption | omega | rfl | (congr 1; omega))), (by first | (rw [hF24x]; done) | (rw [hF24x]; first | assumption | omega | rfl | (congr 1; omega))), hfr⟩, ⟨by rw [ht]; exact hP, _, hok, by rw [ht]; exact hP1⟩⟩, hS.F ht⟩) hS.2.2 dX11_load_81
  · have NN := id hb12
    refine lv_if_ne (tgt := 45) hx hb dX11_load_35 (by decide) (fun c29 => absurd c29 (by decide)) (fun c29 => ?_)
    refine lv_aload_n hx hb dX11_load_38 rfl (lv_at hl 0 rfl) ?_
    refine lv_bipush (v := 9) hx hb dX11_load_39 (by decide) ?_
    refine zc_i hDJ hP1 hAL hS hA (va_runV (As := [.int 9]) (rest := []) ⟨hx, hb, hml, hown, noTs⟩ (q_X11_fail l dC dI H.size cs b u12 9) ⟨cbE 1 (wd_436 hE) (wd_115 hE) (wd_433 hE) rfl rfl (by decide +kernel) ⟨Nat.le_of_ble_eq_true rfl, Nat.le_of_ble_eq_true rfl⟩, (wd_435 hE), (wd_1 hE)⟩ ⟨PQ.blind, q_recv 11 (by decide) rfl hK hP rfl, (q_pre (av := [.ref (b 11), .int 9]) hK hP hJ hE)⟩ rfl rfl hl.1 rfl (lv_room (Nat.le_of_ble_eq_true rfl)) dX11_load_41 ⟨Nat.le_of_ble_eq_true rfl, Nat.le_of_ble_eq_true rfl⟩) (fun r30 u30 H locs hpo30 hP hP1 hS => ?_)
    obtain ⟨hr30, hq30⟩ := hpo30
    have hA31 := (hq30.1 5 List.not_mem_nil).trans hA14
    have hA32 := (hq30.1 7 List.not_mem_nil).trans hA13
    have hF33x := (hq30.2.1 37 (by decide)).trans hF15x
    have hF34x := (hq30.2.1 3 (by decide)).trans h12_0
    have hF35x := (hq30.2.1 7 (by decide)).trans hb12.2.1
    have hF36x := (hq30.2.1 8 (by decide)).trans hb12.2.2.1
    have hF37x := (hq30.2.1 9 (by decide)).trans hb12.2.2.2
    have hfr := FR.step hfr hq30 (fun _ h => absurd h List.not_mem_nil) (by decide) (fun h => rfl)
    subst hr30
    exact W.iret (v := -1) hx hb hr (fun t ht hW => ⟨⟨-1, u30, rfl, ⟨(by exact Or.inl ⟨NN.1, rfl, hF35x, hF36x, hF37x⟩), (by first | (rw [hF34x]; done) | (rw [hF34x]; first | assumption | omega | rfl | (congr 1; omega))), (by first | (rw [hF33x]; done) | (rw [hF33x]; first | assumption | omega | rfl | (congr 1; omega))), hfr⟩, ⟨by rw [ht]; exact hP, _, hok, by rw [ht]; exact hP1⟩⟩, hS.F ht⟩) hS.2.2 dX11_load_44
