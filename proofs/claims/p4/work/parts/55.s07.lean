set_option maxHeartbeats 4000000 in
set_option maxRecDepth 100000 in
theorem x_X12_feed (l : Launch) (dC : Nat → ClassId) (dI : Nat → Nat → Nat) (sz : Nat) (cs : Nat → ClassId) (b : Nat → Nat) (u : RS) (tp : Nat → Int32) (hAc15 : rA u 15 = tp) (x1 : Int32) (x2 : Int32) (x3 : Int32) (x4 : Int32) (x5 : Int32) (tt : Nat) (hF10 : rF u 10 = nI tt) (hp0 : tt + 20 ≤ 700) (hp1 : BY tp) : Met l yX12_feed [.code yX12_feed cX12_feed 6 (some .int)] ({ frames := 1, cells := 0, slots := 0, locals := 40 }) (PR [.ref (b 0), .int x1, .int x2, .int x3, .int x4, .int x5] sz dC dI cs b u) (va_Qi (fun (r : Int32) (u' : RS) => (r = nI (tt + 20)) ∧ (rF u' 10 = nI (tt + 20)) ∧ (FD tp tt x1 x2 x3 x4 x5 (rA u' 15)) ∧ FR [15] [10] false u u') (BR dC dI cs b) (AR b sz)) 0 0 (AR b sz) := by
  refine Met.ofW (cc := cX12_feed) (maxL := 6) (ret := (some .int)) (by decide) rfl ?_
  intro p e s m args below meth c s₁ B hml hv
  obtain ⟨rfl, hsz, hP, hK, hJ, hE⟩ := hv
  have hx := B.exec
  have hb := B.bytes
  have hr := B.returns
  have hown : s.vm.findClass RX12 = some m.cls := findClass_of_methodNamed B.named
  have hlocks := B.notSynchronized
  subst hsz
  have hAL : ∀ i, i < 108 → AR b s.heap.size (b i) := fun i h => Or.inl ⟨i, h, rfl⟩
  have hA : ∀ q : Nat, s.heap.size ≤ q → AR b s.heap.size q := fun q h => Or.inr h
  have hS : va_S (AR b s.heap.size) s.heap s.heap [] := va_S.rf
  have hfr : FR [15] [10] false u u := FR.refl
  have hl := lv_entry ([.ref (b 0), .int x1, .int x2, .int x3, .int x4, .int x5]) (n := 6) (Nat.le_of_ble_eq_true rfl)
  rw [lg_entry_eq]
  generalize (lg_sl ([.ref (b 0), .int x1, .int x2, .int x3, .int x4, .int x5]) ++ List.replicate (6 - (lg_sl ([.ref (b 0), .int x1, .int x2, .int x3, .int x4, .int x5])).length) Slot.unset).toArray = ls at hl ⊢
  have hl : lv_has ls 6 [(0, .ref (b 0)), (1, .int x1), (2, .int x2), (3, .int x3), (4, .int x4), (5, .int x5)] := hl
  refine lv_aload_n hx hb dX12_feed_0 rfl (lv_at hl 0 rfl) ?_
  refine r_get (v := .int (nI tt)) hx hb (ly_X12 hE) hown hK hP rfl 10 (by decide) (wd_1391 hE) (fun _ h9 => h9) (congrArg (fun z : Int32 => some (Value.int z)) hF10) dX12_feed_1 ?_
  refine lv_sipush (v := 680) hx hb dX12_feed_4 (by decide) ?_
  refine lv_icmp_le (tgt := 12) hx hb dX12_feed_7 (by decide) (fun c3 => ?_) (fun c3 => False.elim (by have c3 := mt (b_le (nI_toInt (n := tt) (by omega)) (show Int32.toInt 680 = 680 from rfl)).mpr c3; omega))
  have c3 := (b_le (nI_toInt (n := tt) (by omega)) (show Int32.toInt 680 = 680 from rfl)).mp c3
  refine lv_aload_n hx hb dX12_feed_12 rfl (lv_at hl 0 rfl) ?_
  refine lv_iload_n hx hb dX12_feed_13 rfl (lv_at hl 1 rfl) ?_
  refine rc_v hAL hS hA (va_runV (As := [.int x1]) (rest := []) ⟨hx, hb, hml, hown, noTs⟩ (x_X12_four l dC dI s.heap.size cs b u tp hAc15 x1 tt hF10 (by first | assumption | omega | rfl | (congr 1; omega)) (by first | assumption | omega | rfl | (congr 1; omega))) ⟨cbE 1 (wd_1487 hE) (wd_126 hE) (wd_1484 hE) rfl rfl (by decide +kernel) ⟨Nat.le_of_ble_eq_true rfl, Nat.le_of_ble_eq_true rfl⟩, (wd_1486 hE), (wd_53 hE)⟩ ⟨PR.blind, r_recv hK hP rfl, (r_pre (av := [.ref (b 0), .int x1]) hK hP hJ hE)⟩ rfl rfl hl.1 rfl (lv_room (Nat.le_of_ble_eq_true rfl)) dX12_feed_14 ⟨Nat.le_of_ble_eq_true rfl, Nat.le_of_ble_eq_true rfl⟩) (fun u4 H locs hpo4 hP hS => ?_)
  obtain ⟨h4_0, h4_1, hq4⟩ := hpo4
  obtain ⟨w5, hA5⟩ : ∃ g, rA u4 15 = g := ⟨_, rfl⟩
  rw [hA5] at h4_1
  have hfr := FR.step hfr hq4 (by decide) (by decide) (fun h => rfl)
  have A1 := h4_1
  have B1 := h4_1.1
  refine lv_aload_n hx hb dX12_feed_17 rfl (lv_at hl 0 rfl) ?_
  refine lv_iload_n hx hb dX12_feed_18 rfl (lv_at hl 2 rfl) ?_
  refine rc_v hAL hS hA (va_runV (As := [.int x2]) (rest := []) ⟨hx, hb, hml, hown, noTs⟩ (x_X12_four l dC dI H.size cs b u4 w5 hA5 x2 (tt + 4) h4_0 (by first | assumption | omega | rfl | (congr 1; omega)) (by first | assumption | omega | rfl | (congr 1; omega))) ⟨cbE 1 (wd_1487 hE) (wd_126 hE) (wd_1484 hE) rfl rfl (by decide +kernel) ⟨Nat.le_of_ble_eq_true rfl, Nat.le_of_ble_eq_true rfl⟩, (wd_1486 hE), (wd_53 hE)⟩ ⟨PR.blind, r_recv hK hP rfl, (r_pre (av := [.ref (b 0), .int x2]) hK hP hJ hE)⟩ rfl rfl hl.1 rfl (lv_room (Nat.le_of_ble_eq_true rfl)) dX12_feed_19 ⟨Nat.le_of_ble_eq_true rfl, Nat.le_of_ble_eq_true rfl⟩) (fun u6 H locs hpo6 hP hS => ?_)
  obtain ⟨h6_0, h6_1, hq6⟩ := hpo6
  obtain ⟨w7, hA7⟩ : ∃ g, rA u6 15 = g := ⟨_, rfl⟩
  rw [hA7] at h6_1
  have hfr := FR.step hfr hq6 (by decide) (by decide) (fun h => rfl)
  have A2 := h6_1
  have B2 := h6_1.1
  refine lv_aload_n hx hb dX12_feed_22 rfl (lv_at hl 0 rfl) ?_
  refine lv_iload_n hx hb dX12_feed_23 rfl (lv_at hl 3 rfl) ?_
  refine rc_v hAL hS hA (va_runV (As := [.int x3]) (rest := []) ⟨hx, hb, hml, hown, noTs⟩ (x_X12_four l dC dI H.size cs b u6 w7 hA7 x3 ((tt + 4) + 4) h6_0 (by first | assumption | omega | rfl | (congr 1; omega)) (by first | assumption | omega | rfl | (congr 1; omega))) ⟨cbE 1 (wd_1487 hE) (wd_126 hE) (wd_1484 hE) rfl rfl (by decide +kernel) ⟨Nat.le_of_ble_eq_true rfl, Nat.le_of_ble_eq_true rfl⟩, (wd_1486 hE), (wd_53 hE)⟩ ⟨PR.blind, r_recv hK hP rfl, (r_pre (av := [.ref (b 0), .int x3]) hK hP hJ hE)⟩ rfl rfl hl.1 rfl (lv_room (Nat.le_of_ble_eq_true rfl)) dX12_feed_24 ⟨Nat.le_of_ble_eq_true rfl, Nat.le_of_ble_eq_true rfl⟩) (fun u8 H locs hpo8 hP hS => ?_)
  obtain ⟨h8_0, h8_1, hq8⟩ := hpo8
  obtain ⟨w9, hA9⟩ : ∃ g, rA u8 15 = g := ⟨_, rfl⟩
  rw [hA9] at h8_1
  have hfr := FR.step hfr hq8 (by decide) (by decide) (fun h => rfl)
  have A3 := h8_1
  have B3 := h8_1.1
  refine lv_aload_n hx hb dX12_feed_27 rfl (lv_at hl 0 rfl) ?_
  refine lv_iload hx hb dX12_feed_28 (lv_at hl 4 rfl) ?_
  refine rc_v hAL hS hA (va_runV (As := [.int x4]) (rest := []) ⟨hx, hb, hml, hown, noTs⟩ (x_X12_four l dC dI H.size cs b u8 w9 hA9 x4 (((tt + 4) + 4) + 4) h8_0 (by first | assumption | omega | rfl | (congr 1; omega)) (by first | assumption | omega | rfl | (congr 1; omega))) ⟨cbE 1 (wd_1487 hE) (wd_126 hE) (wd_1484 hE) rfl rfl (by decide +kernel) ⟨Nat.le_of_ble_eq_true rfl, Nat.le_of_ble_eq_true rfl⟩, (wd_1486 hE), (wd_53 hE)⟩ ⟨PR.blind, r_recv hK hP rfl, (r_pre (av := [.ref (b 0), .int x4]) hK hP hJ hE)⟩ rfl rfl hl.1 rfl (lv_room (Nat.le_of_ble_eq_true rfl)) dX12_feed_30 ⟨Nat.le_of_ble_eq_true rfl, Nat.le_of_ble_eq_true rfl⟩) (fun u10 H locs hpo10 hP hS => ?_)
  obtain ⟨h10_0, h10_1, hq10⟩ := hpo10
  obtain ⟨w11, hA11⟩ : ∃ g, rA u10 15 = g := ⟨_, rfl⟩
  rw [hA11] at h10_1
  have hfr := FR.step hfr hq10 (by decide) (by decide) (fun h => rfl)
  have A4 := h10_1
  have B4 := h10_1.1
  refine lv_aload_n hx hb dX12_feed_33 rfl (lv_at hl 0 rfl) ?_
  refine lv_iload hx hb dX12_feed_34 (lv_at hl 5 rfl) ?_
  refine rc_v hAL hS hA (va_runV (As := [.int x5]) (rest := []) ⟨hx, hb, hml, hown, noTs⟩ (x_X12_four l dC dI H.size cs b u10 w11 hA11 x5 ((((tt + 4) + 4) + 4) + 4) h10_0 (by first | assumption | omega | rfl | (congr 1; omega)) (by first | assumption | omega | rfl | (congr 1; omega))) ⟨cbE 1 (wd_1487 hE) (wd_126 hE) (wd_1484 hE) rfl rfl (by decide +kernel) ⟨Nat.le_of_ble_eq_true rfl, Nat.le_of_ble_eq_true rfl⟩, (wd_1486 hE), (wd_53 hE)⟩ ⟨PR.blind, r_recv hK hP rfl, (r_pre (av := [.ref (b 0), .int x5]) hK hP hJ hE)⟩ rfl rfl hl.1 rfl (lv_room (Nat.le_of_ble_eq_true rfl)) dX12_feed_36 ⟨Nat.le_of_ble_eq_true rfl, Nat.le_of_ble_eq_true rfl⟩) (fun u12 H locs hpo12 hP hS => ?_)
  obtain ⟨h12_0, h12_1, hq12⟩ := hpo12
  obtain ⟨w13, hA13⟩ : ∃ g, rA u12 15 = g := ⟨_, rfl⟩
  rw [hA13] at h12_1
  have hfr := FR.step hfr hq12 (by decide) (by decide) (fun h => rfl)
  have A5 := h12_1
  refine lv_aload_n hx hb dX12_feed_39 rfl (lv_at hl 0 rfl) ?_
  refine r_get (v := .int (nI (((((tt + 4) + 4) + 4) + 4) + 4))) hx hb (ly_X12 hE) hown hK hP rfl 10 (by decide) (wd_1391 hE) (fun _ h9 => h9) (congrArg (fun z : Int32 => some (Value.int z)) h12_0) dX12_feed_40 ?_
  exact W.iret (v := nI (((((tt + 4) + 4) + 4) + 4) + 4)) hx hb hr (fun t ht hW => ⟨⟨nI (((((tt + 4) + 4) + 4) + 4) + 4), u12, rfl, ⟨(by first | rfl | omega | (congr 1; omega) | assumption), (by first | (rw [h12_0]; done) | (rw [h12_0]; first | assumption | omega | rfl | (congr 1; omega))), (by first | (rw [hA13]; done) | (rw [hA13]; exact fd_of A1 A2 A3 A4 A5 (by omega) (by omega) (by omega) (by omega))), hfr⟩, (show va_P (dC, dI) vwCl (rW cs b u12) t.heap by rw [ht]; exact hP)⟩, hS.F ht⟩) hS.2.2 dX12_feed_43
