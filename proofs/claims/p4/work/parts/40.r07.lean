set_option maxHeartbeats 4000000 in
set_option maxRecDepth 100000 in
theorem r_X12_alike (l : Launch) (dC : Nat → ClassId) (dI : Nat → Nat → Nat) (sz : Nat) (cs : Nat → ClassId) (b : Nat → Nat) (u : RS) (a : Nat → Int32) (hA1 : rA u 1 = a) (x : Int32) (y : Int32) (hp0 : BG a) : Met l yX12_alike [.code yX12_alike cX12_alike 3 (some .int)] ({ frames := 6, cells := 0, slots := 0, locals := 240 }) (PR [.ref (b 0), .int x, .int y] sz dC dI cs b u) (va_Qi (fun (r : Int32) (u' : RS) => (True) ∧ FR [3, 4, 5, 6, 7, 8, 9, 10, 11, 12, 13, 14, 17, 18, 19, 20] [1, 5, 21, 22] true u u') (BR dC dI cs b) (AR b sz)) 0 0 (AR b sz) := by
  refine Met.ofW (cc := cX12_alike) (maxL := 3) (ret := (some .int)) (by decide) rfl ?_
  intro p e s m args below meth c s₁ B hml hv
  obtain ⟨rfl, hsz, hP, hK, hJ, hE⟩ := hv
  have hx := B.exec
  have hb := B.bytes
  have hr := B.returns
  have hown : s.vm.findClass RX12 = some m.cls := findClass_of_methodNamed B.named
  have hlocks := B.notSynchronized
  subst hsz
  have hAL : ∀ i, i < 108 → AR b s.heap.size (b i) := fun i h => Or.inl ⟨i, h, rfl⟩
  have hA : ∀ q : Nat, s.heap.size ≤ q → AR b s.heap.size q := fun q h => Or.inr h
  have hS : va_S (AR b s.heap.size) s.heap s.heap [] := va_S.rf
  have hfr : FR [3, 4, 5, 6, 7, 8, 9, 10, 11, 12, 13, 14, 17, 18, 19, 20] [1, 5, 21, 22] true u u := FR.refl
  have hl := lv_entry ([.ref (b 0), .int x, .int y]) (n := 3) (Nat.le_of_ble_eq_true rfl)
  rw [lg_entry_eq]
  generalize (lg_sl ([.ref (b 0), .int x, .int y]) ++ List.replicate (3 - (lg_sl ([.ref (b 0), .int x, .int y])).length) Slot.unset).toArray = ls at hl ⊢
  have hl : lv_has ls 3 [(0, .ref (b 0)), (1, .int x), (2, .int y)] := hl
  have hB := hp0
  have hG := bg_g hp0
  have ha1 := gg_le hG
  have ha1b := bg_w hp0
  refine lv_aload_n hx hb dX12_alike_0 rfl (lv_at hl 0 rfl) ?_
  refine lv_iload_n hx hb dX12_alike_1 rfl (lv_at hl 1 rfl) ?_
  refine vp_callSi (va_Run.run (va_runV (As := [.int x]) (rest := []) ⟨hx, hb, hml, hown, noTs⟩ (r_X12_isWord l dC dI s.heap.size cs b u a hA1 x (by first | assumption | omega | rfl | (congr 1; omega))) ⟨cbE 1 (wd_1653 hE) (wd_126 hE) (wd_1650 hE) rfl rfl (by decide +kernel) ⟨Nat.le_of_ble_eq_true rfl, Nat.le_of_ble_eq_true rfl⟩, (wd_1652 hE), (wd_83 hE)⟩ ⟨PR.blind, r_recv hK hP rfl, (r_pre (av := [.ref (b 0), .int x]) hK hP hJ hE)⟩ rfl rfl hl.1 rfl (lv_room (Nat.le_of_ble_eq_true rfl)) dX12_alike_2 ⟨Nat.le_of_ble_eq_true rfl, Nat.le_of_ble_eq_true rfl⟩)) (fun r2 hr2 => ?_)
  rcases hr2 with ⟨rfl, hb2⟩ | ⟨rfl, hb2⟩
  · obtain ⟨n2, hbe2_1, hb2⟩ := hb2
    subst hbe2_1
    have hti3 := nI_toInt (n := n2) (by omega)
    refine lv_if_eq (tgt := 37) hx hb dX12_alike_5 (by decide) (fun c4 => absurd c4 (by decide)) (fun c4 => ?_)
    refine lv_aload_n hx hb dX12_alike_8 rfl (lv_at hl 0 rfl) ?_
    refine lv_iload_n hx hb dX12_alike_9 rfl (lv_at hl 2 rfl) ?_
    refine vp_callSi (va_Run.run (va_runV (As := [.int y]) (rest := []) ⟨hx, hb, hml, hown, noTs⟩ (r_X12_isWord l dC dI s.heap.size cs b u a hA1 y (by first | assumption | omega | rfl | (congr 1; omega))) ⟨cbE 1 (wd_1653 hE) (wd_126 hE) (wd_1650 hE) rfl rfl (by decide +kernel) ⟨Nat.le_of_ble_eq_true rfl, Nat.le_of_ble_eq_true rfl⟩, (wd_1652 hE), (wd_83 hE)⟩ ⟨PR.blind, r_recv hK hP rfl, (r_pre (av := [.ref (b 0), .int y]) hK hP hJ hE)⟩ rfl rfl hl.1 rfl (lv_room (Nat.le_of_ble_eq_true rfl)) dX12_alike_10 ⟨Nat.le_of_ble_eq_true rfl, Nat.le_of_ble_eq_true rfl⟩)) (fun r5 hr5 => ?_)
    rcases hr5 with ⟨rfl, hb5⟩ | ⟨rfl, hb5⟩
    · obtain ⟨n5, hbe5_1, hb5⟩ := hb5
      subst hbe5_1
      have hti6 := nI_toInt (n := n5) (by omega)
      refine lv_if_eq (tgt := 37) hx hb dX12_alike_13 (by decide) (fun c7 => absurd c7 (by decide)) (fun c7 => ?_)
      refine lv_aload_n hx hb dX12_alike_16 rfl (lv_at hl 0 rfl) ?_
      refine lv_aload_n hx hb dX12_alike_17 rfl (lv_at hl 0 rfl) ?_
      refine lv_iload_n hx hb dX12_alike_18 rfl (lv_at hl 1 rfl) ?_
      refine lv_iload_n hx hb dX12_alike_19 rfl (lv_at hl 2 rfl) ?_
      refine rc_i hAL hS hA (va_runV (As := [.int (nI n2), .int (nI n5)]) (rest := [.ref (b 0)]) ⟨hx, hb, hml, hown, noTs⟩ (r_X12_areAlike l dC dI s.heap.size cs b u a hA1 n2 n5 (by first | assumption | omega | rfl | (congr 1; omega)) (by first | assumption | omega | rfl | (congr 1; omega)) (by first | assumption | omega | rfl | (congr 1; omega))) ⟨cbE 2 (wd_1761 hE) (wd_126 hE) (wd_1758 hE) rfl rfl (by decide +kernel) ⟨Nat.le_of_ble_eq_true rfl, Nat.le_of_ble_eq_true rfl⟩, (wd_1760 hE), (wd_94 hE)⟩ ⟨PR.blind, r_recv hK hP rfl, (r_pre (av := [.ref (b 0), .int (nI n2), .int (nI n5)]) hK hP hJ hE)⟩ rfl rfl hl.1 rfl (lv_room (Nat.le_of_ble_eq_true rfl)) dX12_alike_20 ⟨Nat.le_of_ble_eq_true rfl, Nat.le_of_ble_eq_true rfl⟩) (fun r8 u8 H locs hpo8 hP hS => ?_)
      obtain ⟨hr8, hq8⟩ := hpo8
      have hA9 := (hq8.1 1 (by decide)).trans hA1
      have hfr := FR.step hfr hq8 (by decide) (by decide) (fun h => rfl)
      rcases hr8 with ⟨rfl, hb8⟩ | ⟨rfl, hb8⟩
      · refine lv_if_eq (tgt := 30) hx hb dX12_alike_23 (by decide) (fun c10 => absurd c10 (by decide)) (fun c10 => ?_)
        refine lv_iconst (v := 1) hx hb dX12_alike_26 (by decide) ?_
        refine lv_goto (tgt := 31) hx hb dX12_alike_27 (by decide) ?_
        refine rc_i hAL hS hA (va_runV (As := [.int 1]) (rest := []) ⟨hx, hb, hml, hown, noTs⟩ (r_X12_gives l dC dI H.size cs b u8 a hA9 1) ⟨cbE 1 (wd_1621 hE) (wd_126 hE) (wd_1618 hE) rfl rfl (by decide +kernel) ⟨Nat.le_of_ble_eq_true rfl, Nat.le_of_ble_eq_true rfl⟩, (wd_1620 hE), (wd_80 hE)⟩ ⟨PR.blind, r_recv hK hP rfl, (r_pre (av := [.ref (b 0), .int 1]) hK hP hJ hE)⟩ rfl rfl hl.1 rfl (lv_room (Nat.le_of_ble_eq_true rfl)) dX12_alike_31 ⟨Nat.le_of_ble_eq_true rfl, Nat.le_of_ble_eq_true rfl⟩) (fun r11 u11 H locs hpo11 hP hS => ?_)
        obtain ⟨hr11, hq11⟩ := hpo11
        have hA12 := (hq11.1 1 List.not_mem_nil).trans hA9
        have hfr := FR.step hfr hq11 (fun _ h => absurd h List.not_mem_nil) (by decide) (fun h => rfl)
        subst hr11
        refine lv_goto (tgt := 42) hx hb dX12_alike_34 (by decide) ?_
        exact W.iret (v := 1) hx hb hr (fun t ht hW => ⟨⟨1, u11, rfl, ⟨trivial, hfr⟩, (show va_P (dC, dI) vwCl (rW cs b u11) t.heap by rw [ht]; exact hP)⟩, hS.F ht⟩) hS.2.2 dX12_alike_42
      · refine lv_if_eq (tgt := 30) hx hb dX12_alike_23 (by decide) (fun c13 => ?_) (fun c13 => absurd c13 (by decide))
        refine lv_iconst (v := 0) hx hb dX12_alike_30 (by decide) ?_
        refine rc_i hAL hS hA (va_runV (As := [.int 0]) (rest := []) ⟨hx, hb, hml, hown, noTs⟩ (r_X12_gives l dC dI H.size cs b u8 a hA9 0) ⟨cbE 1 (wd_1621 hE) (wd_126 hE) (wd_1618 hE) rfl rfl (by decide +kernel) ⟨Nat.le_of_ble_eq_true rfl, Nat.le_of_ble_eq_true rfl⟩, (wd_1620 hE), (wd_80 hE)⟩ ⟨PR.blind, r_recv hK hP rfl, (r_pre (av := [.ref (b 0), .int 0]) hK hP hJ hE)⟩ rfl rfl hl.1 rfl (lv_room (Nat.le_of_ble_eq_true rfl)) dX12_alike_31 ⟨Nat.le_of_ble_eq_true rfl, Nat.le_of_ble_eq_true rfl⟩) (fun r14 u14 H locs hpo14 hP hS => ?_)
        obtain ⟨hr14, hq14⟩ := hpo14
        have hA15 := (hq14.1 1 List.not_mem_nil).trans hA9
        have hfr := FR.step hfr hq14 (fun _ h => absurd h List.not_mem_nil) (by decide) (fun h => rfl)
        subst hr14
        refine lv_goto (tgt := 42) hx hb dX12_alike_34 (by decide) ?_
        exact W.iret (v := 0) hx hb hr (fun t ht hW => ⟨⟨0, u14, rfl, ⟨trivial, hfr⟩, (show va_P (dC, dI) vwCl (rW cs b u14) t.heap by rw [ht]; exact hP)⟩, hS.F ht⟩) hS.2.2 dX12_alike_42
    · refine lv_if_eq (tgt := 37) hx hb dX12_alike_13 (by decide) (fun c16 => ?_) (fun c16 => absurd c16 (by decide))
      refine lv_aload_n hx hb dX12_alike_37 rfl (lv_at hl 0 rfl) ?_
      refine lv_iconst (v := 2) hx hb dX12_alike_38 (by decide) ?_
      refine rc_i hAL hS hA (va_runV (As := [.int 2]) (rest := []) ⟨hx, hb, hml, hown, noTs⟩ (r_X12_refuse l dC dI s.heap.size cs b u a hA1 2) ⟨cbE 1 (wd_1498 hE) (wd_126 hE) (wd_1495 hE) rfl rfl (by decide +kernel) ⟨Nat.le_of_ble_eq_true rfl, Nat.le_of_ble_eq_true rfl⟩, (wd_1497 hE), (wd_54 hE)⟩ ⟨PR.blind, r_recv hK hP rfl, (r_pre (av := [.ref (b 0), .int 2]) hK hP hJ hE)⟩ rfl rfl hl.1 rfl (lv_room (Nat.le_of_ble_eq_true rfl)) dX12_alike_39 ⟨Nat.le_of_ble_eq_true rfl, Nat.le_of_ble_eq_true rfl⟩) (fun r17 u17 H locs hpo17 hP hS => ?_)
      obtain ⟨hr17, hq17⟩ := hpo17
      have hA18 := (hq17.1 1 List.not_mem_nil).trans hA1
      have hfr := FR.step hfr hq17 (fun _ h => absurd h List.not_mem_nil) (by decide) (fun h => rfl)
      subst hr17
      exact W.iret (v := -1) hx hb hr (fun t ht hW => ⟨⟨-1, u17, rfl, ⟨trivial, hfr⟩, (show va_P (dC, dI) vwCl (rW cs b u17) t.heap by rw [ht]; exact hP)⟩, hS.F ht⟩) hS.2.2 dX12_alike_42
  · refine lv_if_eq (tgt := 37) hx hb dX12_alike_5 (by decide) (fun c19 => ?_) (fun c19 => absurd c19 (by decide))
    refine lv_aload_n hx hb dX12_alike_37 rfl (lv_at hl 0 rfl) ?_
    refine lv_iconst (v := 2) hx hb dX12_alike_38 (by decide) ?_
    refine rc_i hAL hS hA (va_runV (As := [.int 2]) (rest := []) ⟨hx, hb, hml, hown, noTs⟩ (r_X12_refuse l dC dI s.heap.size cs b u a hA1 2) ⟨cbE 1 (wd_1498 hE) (wd_126 hE) (wd_1495 hE) rfl rfl (by decide +kernel) ⟨Nat.le_of_ble_eq_true rfl, Nat.le_of_ble_eq_true rfl⟩, (wd_1497 hE), (wd_54 hE)⟩ ⟨PR.blind, r_recv hK hP rfl, (r_pre (av := [.ref (b 0), .int 2]) hK hP hJ hE)⟩ rfl rfl hl.1 rfl (lv_room (Nat.le_of_ble_eq_true rfl)) dX12_alike_39 ⟨Nat.le_of_ble_eq_true rfl, Nat.le_of_ble_eq_true rfl⟩) (fun r20 u20 H locs hpo20 hP hS => ?_)
    obtain ⟨hr20, hq20⟩ := hpo20
    have hA21 := (hq20.1 1 List.not_mem_nil).trans hA1
    have hfr := FR.step hfr hq20 (fun _ h => absurd h List.not_mem_nil) (by decide) (fun h => rfl)
    subst hr20
    exact W.iret (v := -1) hx hb hr (fun t ht hW => ⟨⟨-1, u20, rfl, ⟨trivial, hfr⟩, (show va_P (dC, dI) vwCl (rW cs b u20) t.heap by rw [ht]; exact hP)⟩, hS.F ht⟩) hS.2.2 dX12_alike_42

set_option maxHeartbeats 4000000 in
set_option maxRecDepth 100000 in
theorem r_X12_alikes (l : Launch) (dC : Nat → ClassId) (dI : Nat → Nat → Nat) (sz : Nat) (cs : Nat → ClassId) (b : Nat → Nat) (u : RS) (a : Nat → Int32) (hA1 : rA u 1 = a) (x : Int32) (hp0 : BG a) : Met l yX12_alikes [.code yX12_alikes cX12_alikes 4 (some .int)] ({ frames := 6, cells := 0, slots := 0, locals := 240 }) (PR [.ref (b 0), .int x] sz dC dI cs b u) (va_Qi (fun (r : Int32) (u' : RS) => (True) ∧ FR [3, 4, 5, 6, 7, 8, 9, 10, 11, 12, 13, 14, 17, 18, 19, 20] [1, 5, 21, 22] true u u') (BR dC dI cs b) (AR b sz)) 0 0 (AR b sz) := by
  refine Met.ofW (cc := cX12_alikes) (maxL := 4) (ret := (some .int)) (by decide) rfl ?_
  intro p e s m args below meth c s₁ B hml hv
  obtain ⟨rfl, hsz, hP, hK, hJ, hE⟩ := hv
  have hx := B.exec
  have hb := B.bytes
  have hr := B.returns
  have hown : s.vm.findClass RX12 = some m.cls := findClass_of_methodNamed B.named
  have hlocks := B.notSynchronized
  subst hsz
  have hAL : ∀ i, i < 108 → AR b s.heap.size (b i) := fun i h => Or.inl ⟨i, h, rfl⟩
  have hA : ∀ q : Nat, s.heap.size ≤ q → AR b s.heap.size q := fun q h => Or.inr h
  have hS : va_S (AR b s.heap.size) s.heap s.heap [] := va_S.rf
  have hfr : FR [3, 4, 5, 6, 7, 8, 9, 10, 11, 12, 13, 14, 17, 18, 19, 20] [1, 5, 21, 22] true u u := FR.refl
  have hl := lv_entry ([.ref (b 0), .int x]) (n := 4) (Nat.le_of_ble_eq_true rfl)
  rw [lg_entry_eq]
  generalize (lg_sl ([.ref (b 0), .int x]) ++ List.replicate (4 - (lg_sl ([.ref (b 0), .int x])).length) Slot.unset).toArray = ls at hl ⊢
  have hl : lv_has ls 4 [(0, .ref (b 0)), (1, .int x)] := hl
  have hB := hp0
  have hG := bg_g hp0
  have ha1 := gg_le hG
  have ha1b := bg_w hp0
  refine lv_aload_n hx hb dX12_alikes_0 rfl (lv_at hl 0 rfl) ?_
  refine lv_iload_n hx hb dX12_alikes_1 rfl (lv_at hl 1 rfl) ?_
  refine vp_callSi (va_Run.run (va_runV (As := [.int x]) (rest := []) ⟨hx, hb, hml, hown, noTs⟩ (r_X12_isWord l dC dI s.heap.size cs b u a hA1 x (by first | assumption | omega | rfl | (congr 1; omega))) ⟨cbE 1 (wd_1653 hE) (wd_126 hE) (wd_1650 hE) rfl rfl (by decide +kernel) ⟨Nat.le_of_ble_eq_true rfl, Nat.le_of_ble_eq_true rfl⟩, (wd_1652 hE), (wd_83 hE)⟩ ⟨PR.blind, r_recv hK hP rfl, (r_pre (av := [.ref (b 0), .int x]) hK hP hJ hE)⟩ rfl rfl hl.1 rfl (lv_room (Nat.le_of_ble_eq_true rfl)) dX12_alikes_2 ⟨Nat.le_of_ble_eq_true rfl, Nat.le_of_ble_eq_true rfl⟩)) (fun r2 hr2 => ?_)
  rcases hr2 with ⟨rfl, hb2⟩ | ⟨rfl, hb2⟩
  · obtain ⟨n2, hbe2_1, hb2⟩ := hb2
    subst hbe2_1
    have hti3 := nI_toInt (n := n2) (by omega)
    refine lv_if_ne (tgt := 14) hx hb dX12_alikes_5 (by decide) (fun c4 => ?_) (fun c4 => absurd c4 (by decide))
    refine lv_iconst (v := 0) hx hb dX12_alikes_14 (by decide) ?_
    refine lv_istore_n (lv' := [(2, .int 0), (0, .ref (b 0)), (1, .int (nI n2))]) hx hb dX12_alikes_15 rfl hl (by decide) rfl (fun ls hl => ?_)
    refine lv_iconst (v := 0) hx hb dX12_alikes_16 (by decide) ?_
    refine lv_istore_n (lv' := [(3, .int 0), (2, .int 0), (0, .ref (b 0)), (1, .int (nI n2))]) hx hb dX12_alikes_17 rfl hl (by decide) rfl (fun ls hl => ?_)
    refine r_ind (I := fun n u_ H locs ls => va_P (dC, dI) vwCl (rW cs b u_) H ∧ va_S (AR b s.heap.size) s.heap H locs ∧ FR [3, 4, 5, 6, 7, 8, 9, 10, 11, 12, 13, 14, 17, 18, 19, 20] [1, 5, 21, 22] true u u_ ∧ ∃ (k_5 : Nat) (x1_5 : Int32), n = wN a - k_5 ∧ (k_5 ≤ wN a) ∧ lv_has ls 4 [(0, .ref (b 0)), (1, .int (nI n2)), (2, .int x1_5), (3, .int (nI k_5))]) (fun n u5 H locs ls hI ih5 => ?_) _ u _ _ _ ⟨hP, hS, hfr, 0, 0, rfl, (by first | assumption | omega | rfl | (congr 1; omega)), lv_sub hl [2, 3, 1, 0] rfl⟩
    obtain ⟨hP, hS, hfr, k_5, x1_5, hmu5, hL5_0, hl⟩ := hI
    have hA6 := (hfr.1 1 (by decide)).trans hA1
    subst hmu5
    refine lv_iload_n hx hb dX12_alikes_18 rfl (lv_at hl 3 rfl) ?_
    refine lv_aload_n hx hb dX12_alikes_19 rfl (lv_at hl 0 rfl) ?_
    refine lv_iconst (v := 2) hx hb dX12_alikes_20 (by decide) ?_
    refine vp_callSi (va_Run.run (va_runV (As := [.int (nI 2)]) (rest := [.int (nI k_5)]) ⟨hx, hb, hml, hown, noTs⟩ (r_X12_of l dC dI H.size cs b u5 a hA6 2 (by first | assumption | omega | rfl | (congr 1; omega))) ⟨cbE 1 (wd_1536 hE) (wd_126 hE) (wd_1533 hE) rfl rfl (by decide +kernel) ⟨Nat.le_of_ble_eq_true rfl, Nat.le_of_ble_eq_true rfl⟩, (wd_1535 hE), (wd_61 hE)⟩ ⟨PR.blind, r_recv hK hP rfl, (r_pre (av := [.ref (b 0), .int (nI 2)]) hK hP hJ hE)⟩ rfl rfl hl.1 rfl (lv_room (Nat.le_of_ble_eq_true rfl)) dX12_alikes_21 ⟨Nat.le_of_ble_eq_true rfl, Nat.le_of_ble_eq_true rfl⟩)) (fun r7 hr7 => ?_)
    have hr7 := hr7.trans ((bg_w hB).1)
    subst hr7
    refine lv_icmp_ge (tgt := 52) hx hb dX12_alikes_24 (by decide) (fun c8 => ?_) (fun c8 => ?_)
    · have c8 := (b_le (nI_toInt (n := wN a) (by omega)) (nI_toInt (n := k_5) (by omega))).mp c8
      refine lv_aload_n hx hb dX12_alikes_52 rfl (lv_at hl 0 rfl) ?_
      refine lv_iload_n hx hb dX12_alikes_53 rfl (lv_at hl 2 rfl) ?_
      refine rc_i hAL hS hA (va_runV (As := [.int x1_5]) (rest := []) ⟨hx, hb, hml, hown, noTs⟩ (r_X12_gives l dC dI H.size cs b u5 a hA6 x1_5) ⟨cbE 1 (wd_1621 hE) (wd_126 hE) (wd_1618 hE) rfl rfl (by decide +kernel) ⟨Nat.le_of_ble_eq_true rfl, Nat.le_of_ble_eq_true rfl⟩, (wd_1620 hE), (wd_80 hE)⟩ ⟨PR.blind, r_recv hK hP rfl, (r_pre (av := [.ref (b 0), .int x1_5]) hK hP hJ hE)⟩ rfl rfl hl.1 rfl (lv_room (Nat.le_of_ble_eq_true rfl)) dX12_alikes_54 ⟨Nat.le_of_ble_eq_true rfl, Nat.le_of_ble_eq_true rfl⟩) (fun r9 u9 H locs hpo9 hP hS => ?_)
      obtain ⟨hr9, hq9⟩ := hpo9
      have hA10 := (hq9.1 1 List.not_mem_nil).trans hA6
      have hfr := FR.step hfr hq9 (fun _ h => absurd h List.not_mem_nil) (by decide) (fun h => rfl)
      refine W.eq (g2 := F0 m 57 ls [.int x1_5]) (by rw [hr9]) ?_
      exact W.iret (v := x1_5) hx hb hr (fun t ht hW => ⟨⟨x1_5, u9, rfl, ⟨trivial, hfr⟩, (show va_P (dC, dI) vwCl (rW cs b u9) t.heap by rw [ht]; exact hP)⟩, hS.F ht⟩) hS.2.2 dX12_alikes_57
    · have c8 := mt (b_le (nI_toInt (n := wN a) (by omega)) (nI_toInt (n := k_5) (by omega))).mpr c8
      refine lv_iload_n hx hb dX12_alikes_27 rfl (lv_at hl 2 rfl) ?_
      refine lv_aload_n hx hb dX12_alikes_28 rfl (lv_at hl 0 rfl) ?_
      refine lv_iload_n hx hb dX12_alikes_29 rfl (lv_at hl 1 rfl) ?_
      refine lv_iload_n hx hb dX12_alikes_30 rfl (lv_at hl 3 rfl) ?_
      refine rc_i hAL hS hA (va_runV (As := [.int (nI n2), .int (nI k_5)]) (rest := [.int x1_5]) ⟨hx, hb, hml, hown, noTs⟩ (r_X12_areAlike l dC dI H.size cs b u5 a hA6 n2 k_5 (by first | assumption | omega | rfl | (congr 1; omega)) (by first | assumption | omega | rfl | (congr 1; omega)) (by first | assumption | omega | rfl | (congr 1; omega))) ⟨cbE 2 (wd_1761 hE) (wd_126 hE) (wd_1758 hE) rfl rfl (by decide +kernel) ⟨Nat.le_of_ble_eq_true rfl, Nat.le_of_ble_eq_true rfl⟩, (wd_1760 hE), (wd_94 hE)⟩ ⟨PR.blind, r_recv hK hP rfl, (r_pre (av := [.ref (b 0), .int (nI n2), .int (nI k_5)]) hK hP hJ hE)⟩ rfl rfl hl.1 rfl (lv_room (Nat.le_of_ble_eq_true rfl)) dX12_alikes_31 ⟨Nat.le_of_ble_eq_true rfl, Nat.le_of_ble_eq_true rfl⟩) (fun r11 u11 H locs hpo11 hP hS => ?_)
      obtain ⟨hr11, hq11⟩ := hpo11
      have hA12 := (hq11.1 1 (by decide)).trans hA6
      have hfr := FR.step hfr hq11 (by decide) (by decide) (fun h => rfl)
      rcases hr11 with ⟨rfl, hb11⟩ | ⟨rfl, hb11⟩
      · refine lv_if_eq (tgt := 43) hx hb dX12_alikes_34 (by decide) (fun c13 => absurd c13 (by decide)) (fun c13 => ?_)
        refine lv_iconst (v := 1) hx hb dX12_alikes_37 (by decide) ?_
        refine lv_iload_n hx hb dX12_alikes_38 rfl (lv_at hl 3 rfl) ?_
        refine lv_ishl hx hb dX12_alikes_39 ?_
        refine lv_topi (fun x14 ex14 => ?_)
        refine lv_goto (tgt := 44) hx hb dX12_alikes_40 (by decide) ?_
        refine lv_ior hx hb dX12_alikes_44 ?_
        refine lv_topi (fun x15 ex15 => ?_)
        refine lv_istore_n (lv' := [(2, .int x15), (0, .ref (b 0)), (1, .int (nI n2)), (3, .int (nI k_5))]) hx hb dX12_alikes_45 rfl hl (by decide) rfl (fun ls hl => ?_)
        refine lv_iinc (v := nI (k_5 + 1)) (lv' := [(3, .int (nI (k_5 + 1))), (2, .int x15), (0, .ref (b 0)), (1, .int (nI n2))]) hx hb dX12_alikes_46 hl (k := 3) rfl (nI_1 k_5) (by decide) rfl (fun ls hl => ?_)
        refine lv_goto (tgt := 18) hx hb dX12_alikes_49 (by decide) ?_
        exact ih5 _ u11 _ _ _ (by omega) ⟨hP, hS, hfr, (k_5 + 1), x15, rfl, (by first | assumption | omega | rfl | (congr 1; omega)), lv_sub hl [2, 3, 1, 0] rfl⟩
      · refine lv_if_eq (tgt := 43) hx hb dX12_alikes_34 (by decide) (fun c16 => ?_) (fun c16 => absurd c16 (by decide))
        refine lv_iconst (v := 0) hx hb dX12_alikes_43 (by decide) ?_
        refine lv_ior hx hb dX12_alikes_44 ?_
        refine lv_topi (fun x17 ex17 => ?_)
        refine lv_istore_n (lv' := [(2, .int x17), (0, .ref (b 0)), (1, .int (nI n2)), (3, .int (nI k_5))]) hx hb dX12_alikes_45 rfl hl (by decide) rfl (fun ls hl => ?_)
        refine lv_iinc (v := nI (k_5 + 1)) (lv' := [(3, .int (nI (k_5 + 1))), (2, .int x17), (0, .ref (b 0)), (1, .int (nI n2))]) hx hb dX12_alikes_46 hl (k := 3) rfl (nI_1 k_5) (by decide) rfl (fun ls hl => ?_)
        refine lv_goto (tgt := 18) hx hb dX12_alikes_49 (by decide) ?_
        exact ih5 _ u11 _ _ _ (by omega) ⟨hP, hS, hfr, (k_5 + 1), x17, rfl, (by first | assumption | omega | rfl | (congr 1; omega)), lv_sub hl [2, 3, 1, 0] rfl⟩
  · refine lv_if_ne (tgt := 14) hx hb dX12_alikes_5 (by decide) (fun c18 => absurd c18 (by decide)) (fun c18 => ?_)
    refine lv_aload_n hx hb dX12_alikes_8 rfl (lv_at hl 0 rfl) ?_
    refine lv_iconst (v := 2) hx hb dX12_alikes_9 (by decide) ?_
    refine rc_i hAL hS hA (va_runV (As := [.int 2]) (rest := []) ⟨hx, hb, hml, hown, noTs⟩ (r_X12_refuse l dC dI s.heap.size cs b u a hA1 2) ⟨cbE 1 (wd_1498 hE) (wd_126 hE) (wd_1495 hE) rfl rfl (by decide +kernel) ⟨Nat.le_of_ble_eq_true rfl, Nat.le_of_ble_eq_true rfl⟩, (wd_1497 hE), (wd_54 hE)⟩ ⟨PR.blind, r_recv hK hP rfl, (r_pre (av := [.ref (b 0), .int 2]) hK hP hJ hE)⟩ rfl rfl hl.1 rfl (lv_room (Nat.le_of_ble_eq_true rfl)) dX12_alikes_10 ⟨Nat.le_of_ble_eq_true rfl, Nat.le_of_ble_eq_true rfl⟩) (fun r19 u19 H locs hpo19 hP hS => ?_)
    obtain ⟨hr19, hq19⟩ := hpo19
    have hA20 := (hq19.1 1 List.not_mem_nil).trans hA1
    have hfr := FR.step hfr hq19 (fun _ h => absurd h List.not_mem_nil) (by decide) (fun h => rfl)
    subst hr19
    exact W.iret (v := -1) hx hb hr (fun t ht hW => ⟨⟨-1, u19, rfl, ⟨trivial, hfr⟩, (show va_P (dC, dI) vwCl (rW cs b u19) t.heap by rw [ht]; exact hP)⟩, hS.F ht⟩) hS.2.2 dX12_alikes_13

set_option maxHeartbeats 4000000 in
set_option maxRecDepth 100000 in
theorem r_X12_twin (l : Launch) (dC : Nat → ClassId) (dI : Nat → Nat → Nat) (sz : Nat) (cs : Nat → ClassId) (b : Nat → Nat) (u : RS) (a : Nat → Int32) (hA1 : rA u 1 = a) (x : Int32) (hp0 : BG a) : Met l yX12_twin [.code yX12_twin cX12_twin 3 (some .int)] ({ frames := 6, cells := 0, slots := 0, locals := 240 }) (PR [.ref (b 0), .int x] sz dC dI cs b u) (va_Qi (fun (r : Int32) (u' : RS) => (True) ∧ FR [3, 4, 5, 6, 7, 8, 9, 10, 11, 12, 13, 14, 17, 18, 19, 20] [1, 5, 21, 22] true u u') (BR dC dI cs b) (AR b sz)) 0 0 (AR b sz) := by
  refine Met.ofW (cc := cX12_twin) (maxL := 3) (ret := (some .int)) (by decide) rfl ?_
  intro p e s m args below meth c s₁ B hml hv
  obtain ⟨rfl, hsz, hP, hK, hJ, hE⟩ := hv
  have hx := B.exec
  have hb := B.bytes
  have hr := B.returns
  have hown : s.vm.findClass RX12 = some m.cls := findClass_of_methodNamed B.named
  have hlocks := B.notSynchronized
  subst hsz
  have hAL : ∀ i, i < 108 → AR b s.heap.size (b i) := fun i h => Or.inl ⟨i, h, rfl⟩
  have hA : ∀ q : Nat, s.heap.size ≤ q → AR b s.heap.size q := fun q h => Or.inr h
  have hS : va_S (AR b s.heap.size) s.heap s.heap [] := va_S.rf
  have hfr : FR [3, 4, 5, 6, 7, 8, 9, 10, 11, 12, 13, 14, 17, 18, 19, 20] [1, 5, 21, 22] true u u := FR.refl
  have hl := lv_entry ([.ref (b 0), .int x]) (n := 3) (Nat.le_of_ble_eq_true rfl)
  rw [lg_entry_eq]
  generalize (lg_sl ([.ref (b 0), .int x]) ++ List.replicate (3 - (lg_sl ([.ref (b 0), .int x])).length) Slot.unset).toArray = ls at hl ⊢
  have hl : lv_has ls 3 [(0, .ref (b 0)), (1, .int x)] := hl
  have hB := hp0
  have hG := bg_g hp0
  have ha1 := gg_le hG
  have ha1b := bg_w hp0
  refine lv_aload_n hx hb dX12_twin_0 rfl (lv_at hl 0 rfl) ?_
  refine lv_iload_n hx hb dX12_twin_1 rfl (lv_at hl 1 rfl) ?_
  refine vp_callSi (va_Run.run (va_runV (As := [.int x]) (rest := []) ⟨hx, hb, hml, hown, noTs⟩ (r_X12_isWord l dC dI s.heap.size cs b u a hA1 x (by first | assumption | omega | rfl | (congr 1; omega))) ⟨cbE 1 (wd_1653 hE) (wd_126 hE) (wd_1650 hE) rfl rfl (by decide +kernel) ⟨Nat.le_of_ble_eq_true rfl, Nat.le_of_ble_eq_true rfl⟩, (wd_1652 hE), (wd_83 hE)⟩ ⟨PR.blind, r_recv hK hP rfl, (r_pre (av := [.ref (b 0), .int x]) hK hP hJ hE)⟩ rfl rfl hl.1 rfl (lv_room (Nat.le_of_ble_eq_true rfl)) dX12_twin_2 ⟨Nat.le_of_ble_eq_true rfl, Nat.le_of_ble_eq_true rfl⟩)) (fun r2 hr2 => ?_)
  rcases hr2 with ⟨rfl, hb2⟩ | ⟨rfl, hb2⟩
  · obtain ⟨n2, hbe2_1, hb2⟩ := hb2
    subst hbe2_1
    have hti3 := nI_toInt (n := n2) (by omega)
    refine lv_if_ne (tgt := 14) hx hb dX12_twin_5 (by decide) (fun c4 => ?_) (fun c4 => absurd c4 (by decide))
    refine lv_iconst (v := 0) hx hb dX12_twin_14 (by decide) ?_
    refine lv_istore_n (lv' := [(2, .int 0), (0, .ref (b 0)), (1, .int (nI n2))]) hx hb dX12_twin_15 rfl hl (by decide) rfl (fun ls hl => ?_)
    refine r_ind (I := fun n u_ H locs ls => va_P (dC, dI) vwCl (rW cs b u_) H ∧ va_S (AR b s.heap.size) s.heap H locs ∧ FR [3, 4, 5, 6, 7, 8, 9, 10, 11, 12, 13, 14, 17, 18, 19, 20] [1, 5, 21, 22] true u u_ ∧ ∃ (k_5 : Nat), n = wN a - k_5 ∧ (k_5 ≤ wN a) ∧ lv_has ls 3 [(0, .ref (b 0)), (1, .int (nI n2)), (2, .int (nI k_5))]) (fun n u5 H locs ls hI ih5 => ?_) _ u _ _ _ ⟨hP, hS, hfr, 0, rfl, (by first | assumption | omega | rfl | (congr 1; omega)), lv_sub hl [1, 2, 0] rfl⟩
    obtain ⟨hP, hS, hfr, k_5, hmu5, hL5_0, hl⟩ := hI
    have hA6 := (hfr.1 1 (by decide)).trans hA1
    subst hmu5
    refine lv_iload_n hx hb dX12_twin_16 rfl (lv_at hl 2 rfl) ?_
    refine lv_aload_n hx hb dX12_twin_17 rfl (lv_at hl 0 rfl) ?_
    refine lv_iconst (v := 2) hx hb dX12_twin_18 (by decide) ?_
    refine vp_callSi (va_Run.run (va_runV (As := [.int (nI 2)]) (rest := [.int (nI k_5)]) ⟨hx, hb, hml, hown, noTs⟩ (r_X12_of l dC dI H.size cs b u5 a hA6 2 (by first | assumption | omega | rfl | (congr 1; omega))) ⟨cbE 1 (wd_1536 hE) (wd_126 hE) (wd_1533 hE) rfl rfl (by decide +kernel) ⟨Nat.le_of_ble_eq_true rfl, Nat.le_of_ble_eq_true rfl⟩, (wd_1535 hE), (wd_61 hE)⟩ ⟨PR.blind, r_recv hK hP rfl, (r_pre (av := [.ref (b 0), .int (nI 2)]) hK hP hJ hE)⟩ rfl rfl hl.1 rfl (lv_room (Nat.le_of_ble_eq_true rfl)) dX12_twin_19 ⟨Nat.le_of_ble_eq_true rfl, Nat.le_of_ble_eq_true rfl⟩)) (fun r7 hr7 => ?_)
    have hr7 := hr7.trans ((bg_w hB).1)
    subst hr7
    refine lv_icmp_ge (tgt := 51) hx hb dX12_twin_22 (by decide) (fun c8 => ?_) (fun c8 => ?_)
    · have c8 := (b_le (nI_toInt (n := wN a) (by omega)) (nI_toInt (n := k_5) (by omega))).mp c8
      refine lv_aload_n hx hb dX12_twin_51 rfl (lv_at hl 0 rfl) ?_
      refine lv_iconst (v := 5) hx hb dX12_twin_52 (by decide) ?_
      refine rc_i hAL hS hA (va_runV (As := [.int 5]) (rest := []) ⟨hx, hb, hml, hown, noTs⟩ (r_X12_refuse l dC dI H.size cs b u5 a hA6 5) ⟨cbE 1 (wd_1498 hE) (wd_126 hE) (wd_1495 hE) rfl rfl (by decide +kernel) ⟨Nat.le_of_ble_eq_true rfl, Nat.le_of_ble_eq_true rfl⟩, (wd_1497 hE), (wd_54 hE)⟩ ⟨PR.blind, r_recv hK hP rfl, (r_pre (av := [.ref (b 0), .int 5]) hK hP hJ hE)⟩ rfl rfl hl.1 rfl (lv_room (Nat.le_of_ble_eq_true rfl)) dX12_twin_53 ⟨Nat.le_of_ble_eq_true rfl, Nat.le_of_ble_eq_true rfl⟩) (fun r9 u9 H locs hpo9 hP hS => ?_)
      obtain ⟨hr9, hq9⟩ := hpo9
      have hA10 := (hq9.1 1 List.not_mem_nil).trans hA6
      have hfr := FR.step hfr hq9 (fun _ h => absurd h List.not_mem_nil) (by decide) (fun h => rfl)
      subst hr9
      exact W.iret (v := -1) hx hb hr (fun t ht hW => ⟨⟨-1, u9, rfl, ⟨trivial, hfr⟩, (show va_P (dC, dI) vwCl (rW cs b u9) t.heap by rw [ht]; exact hP)⟩, hS.F ht⟩) hS.2.2 dX12_twin_56
    · have c8 := mt (b_le (nI_toInt (n := wN a) (by omega)) (nI_toInt (n := k_5) (by omega))).mpr c8
      refine lv_iload_n hx hb dX12_twin_25 rfl (lv_at hl 2 rfl) ?_
      refine lv_iload_n hx hb dX12_twin_26 rfl (lv_at hl 1 rfl) ?_
      refine lv_icmp_eq (tgt := 45) hx hb dX12_twin_27 (by decide) (fun c11 => ?_) (fun c11 => ?_)
      · have c11 := (b_eq (nI_toInt (n := k_5) (by omega)) (nI_toInt (n := n2) (by omega))).mp c11
        refine lv_iinc (v := nI (k_5 + 1)) (lv' := [(2, .int (nI (k_5 + 1))), (0, .ref (b 0)), (1, .int (nI n2))]) hx hb dX12_twin_45 hl (k := 2) rfl (nI_1 k_5) (by decide) rfl (fun ls hl => ?_)
        refine lv_goto (tgt := 16) hx hb dX12_twin_48 (by decide) ?_
        exact ih5 _ u5 _ _ _ (by omega) ⟨hP, hS, hfr, (k_5 + 1), rfl, (by first | assumption | omega | rfl | (congr 1; omega)), lv_sub hl [1, 2, 0] rfl⟩
      · have c11 := mt (b_eq (nI_toInt (n := k_5) (by omega)) (nI_toInt (n := n2) (by omega))).mpr c11
        refine lv_aload_n hx hb dX12_twin_30 rfl (lv_at hl 0 rfl) ?_
        refine lv_iload_n hx hb dX12_twin_31 rfl (lv_at hl 1 rfl) ?_
        refine lv_iload_n hx hb dX12_twin_32 rfl (lv_at hl 2 rfl) ?_
        refine rc_i hAL hS hA (va_runV (As := [.int (nI n2), .int (nI k_5)]) (rest := []) ⟨hx, hb, hml, hown, noTs⟩ (r_X12_areAlike l dC dI H.size cs b u5 a hA6 n2 k_5 (by first | assumption | omega | rfl | (congr 1; omega)) (by first | assumption | omega | rfl | (congr 1; omega)) (by first | assumption | omega | rfl | (congr 1; omega))) ⟨cbE 2 (wd_1761 hE) (wd_126 hE) (wd_1758 hE) rfl rfl (by decide +kernel) ⟨Nat.le_of_ble_eq_true rfl, Nat.le_of_ble_eq_true rfl⟩, (wd_1760 hE), (wd_94 hE)⟩ ⟨PR.blind, r_recv hK hP rfl, (r_pre (av := [.ref (b 0), .int (nI n2), .int (nI k_5)]) hK hP hJ hE)⟩ rfl rfl hl.1 rfl (lv_room (Nat.le_of_ble_eq_true rfl)) dX12_twin_33 ⟨Nat.le_of_ble_eq_true rfl, Nat.le_of_ble_eq_true rfl⟩) (fun r12 u12 H locs hpo12 hP hS => ?_)
        obtain ⟨hr12, hq12⟩ := hpo12
        have hA13 := (hq12.1 1 (by decide)).trans hA6
        have hfr := FR.step hfr hq12 (by decide) (by decide) (fun h => rfl)
        rcases hr12 with ⟨rfl, hb12⟩ | ⟨rfl, hb12⟩
        · refine lv_if_eq (tgt := 45) hx hb dX12_twin_36 (by decide) (fun c14 => absurd c14 (by decide)) (fun c14 => ?_)
          refine lv_aload_n hx hb dX12_twin_39 rfl (lv_at hl 0 rfl) ?_
          refine lv_iload_n hx hb dX12_twin_40 rfl (lv_at hl 2 rfl) ?_
          refine rc_i hAL hS hA (va_runV (As := [.int (nI k_5)]) (rest := []) ⟨hx, hb, hml, hown, noTs⟩ (r_X12_gives l dC dI H.size cs b u12 a hA13 (nI k_5)) ⟨cbE 1 (wd_1621 hE) (wd_126 hE) (wd_1618 hE) rfl rfl (by decide +kernel) ⟨Nat.le_of_ble_eq_true rfl, Nat.le_of_ble_eq_true rfl⟩, (wd_1620 hE), (wd_80 hE)⟩ ⟨PR.blind, r_recv hK hP rfl, (r_pre (av := [.ref (b 0), .int (nI k_5)]) hK hP hJ hE)⟩ rfl rfl hl.1 rfl (lv_room (Nat.le_of_ble_eq_true rfl)) dX12_twin_41 ⟨Nat.le_of_ble_eq_true rfl, Nat.le_of_ble_eq_true rfl⟩) (fun r15 u15 H locs hpo15 hP hS => ?_)
          obtain ⟨hr15, hq15⟩ := hpo15
          have hA16 := (hq15.1 1 List.not_mem_nil).trans hA13
          have hfr := FR.step hfr hq15 (fun _ h => absurd h List.not_mem_nil) (by decide) (fun h => rfl)
          refine W.eq (g2 := F0 m 44 ls [.int (nI k_5)]) (by rw [hr15]) ?_
          exact W.iret (v := nI k_5) hx hb hr (fun t ht hW => ⟨⟨nI k_5, u15, rfl, ⟨trivial, hfr⟩, (show va_P (dC, dI) vwCl (rW cs b u15) t.heap by rw [ht]; exact hP)⟩, hS.F ht⟩) hS.2.2 dX12_twin_44
        · refine lv_if_eq (tgt := 45) hx hb dX12_twin_36 (by decide) (fun c17 => ?_) (fun c17 => absurd c17 (by decide))
          refine lv_iinc (v := nI (k_5 + 1)) (lv' := [(2, .int (nI (k_5 + 1))), (0, .ref (b 0)), (1, .int (nI n2))]) hx hb dX12_twin_45 hl (k := 2) rfl (nI_1 k_5) (by decide) rfl (fun ls hl => ?_)
          refine lv_goto (tgt := 16) hx hb dX12_twin_48 (by decide) ?_
          exact ih5 _ u12 _ _ _ (by omega) ⟨hP, hS, hfr, (k_5 + 1), rfl, (by first | assumption | omega | rfl | (congr 1; omega)), lv_sub hl [1, 2, 0] rfl⟩
  · refine lv_if_ne (tgt := 14) hx hb dX12_twin_5 (by decide) (fun c18 => absurd c18 (by decide)) (fun c18 => ?_)
    refine lv_aload_n hx hb dX12_twin_8 rfl (lv_at hl 0 rfl) ?_
    refine lv_iconst (v := 2) hx hb dX12_twin_9 (by decide) ?_
    refine rc_i hAL hS hA (va_runV (As := [.int 2]) (rest := []) ⟨hx, hb, hml, hown, noTs⟩ (r_X12_refuse l dC dI s.heap.size cs b u a hA1 2) ⟨cbE 1 (wd_1498 hE) (wd_126 hE) (wd_1495 hE) rfl rfl (by decide +kernel) ⟨Nat.le_of_ble_eq_true rfl, Nat.le_of_ble_eq_true rfl⟩, (wd_1497 hE), (wd_54 hE)⟩ ⟨PR.blind, r_recv hK hP rfl, (r_pre (av := [.ref (b 0), .int 2]) hK hP hJ hE)⟩ rfl rfl hl.1 rfl (lv_room (Nat.le_of_ble_eq_true rfl)) dX12_twin_10 ⟨Nat.le_of_ble_eq_true rfl, Nat.le_of_ble_eq_true rfl⟩) (fun r19 u19 H locs hpo19 hP hS => ?_)
    obtain ⟨hr19, hq19⟩ := hpo19
    have hA20 := (hq19.1 1 List.not_mem_nil).trans hA1
    have hfr := FR.step hfr hq19 (fun _ h => absurd h List.not_mem_nil) (by decide) (fun h => rfl)
    subst hr19
    exact W.iret (v := -1) hx hb hr (fun t ht hW => ⟨⟨-1, u19, rfl, ⟨trivial, hfr⟩, (show va_P (dC, dI) vwCl (rW cs b u19) t.heap by rw [ht]; exact hP)⟩, hS.F ht⟩) hS.2.2 dX12_twin_13

set_option maxHeartbeats 4000000 in
set_option maxRecDepth 100000 in
theorem r_X12_steps (l : Launch) (dC : Nat → ClassId) (dI : Nat → Nat → Nat) (sz : Nat) (cs : Nat → ClassId) (b : Nat → Nat) (u : RS) (a : Nat → Int32) (hA1 : rA u 1 = a) (x : Int32) (hp0 : BG a) : Met l yX12_steps [.code yX12_steps cX12_steps 2 (some .int)] ({ frames := 5, cells := 0, slots := 0, locals := 200 }) (PR [.ref (b 0), .int x] sz dC dI cs b u) (va_Qi (fun (r : Int32) (u' : RS) => (True) ∧ FR [3, 4, 5, 6, 7, 8, 9, 10, 11, 12, 13, 14, 17, 18, 19, 20] [1, 5, 21, 22] true u u') (BR dC dI cs b) (AR b sz)) 0 0 (AR b sz) := by
  refine Met.ofW (cc := cX12_steps) (maxL := 2) (ret := (some .int)) (by decide) rfl ?_
  intro p e s m args below meth c s₁ B hml hv
  obtain ⟨rfl, hsz, hP, hK, hJ, hE⟩ := hv
  have hx := B.exec
  have hb := B.bytes
  have hr := B.returns
  have hown : s.vm.findClass RX12 = some m.cls := findClass_of_methodNamed B.named
  have hlocks := B.notSynchronized
  subst hsz
  have hAL : ∀ i, i < 108 → AR b s.heap.size (b i) := fun i h => Or.inl ⟨i, h, rfl⟩
  have hA : ∀ q : Nat, s.heap.size ≤ q → AR b s.heap.size q := fun q h => Or.inr h
  have hS : va_S (AR b s.heap.size) s.heap s.heap [] := va_S.rf
  have hfr : FR [3, 4, 5, 6, 7, 8, 9, 10, 11, 12, 13, 14, 17, 18, 19, 20] [1, 5, 21, 22] true u u := FR.refl
  have hl := lv_entry ([.ref (b 0), .int x]) (n := 2) (Nat.le_of_ble_eq_true rfl)
  rw [lg_entry_eq]
  generalize (lg_sl ([.ref (b 0), .int x]) ++ List.replicate (2 - (lg_sl ([.ref (b 0), .int x])).length) Slot.unset).toArray = ls at hl ⊢
  have hl : lv_has ls 2 [(0, .ref (b 0)), (1, .int x)] := hl
  have hB := hp0
  have hG := bg_g hp0
  have ha1 := gg_le hG
  have ha1b := bg_w hp0
  refine lv_aload_n hx hb dX12_steps_0 rfl (lv_at hl 0 rfl) ?_
  refine lv_iload_n hx hb dX12_steps_1 rfl (lv_at hl 1 rfl) ?_
  refine vp_callSi (va_Run.run (va_runV (As := [.int x]) (rest := []) ⟨hx, hb, hml, hown, noTs⟩ (r_X12_isWord l dC dI s.heap.size cs b u a hA1 x (by first | assumption | omega | rfl | (congr 1; omega))) ⟨cbE 1 (wd_1653 hE) (wd_126 hE) (wd_1650 hE) rfl rfl (by decide +kernel) ⟨Nat.le_of_ble_eq_true rfl, Nat.le_of_ble_eq_true rfl⟩, (wd_1652 hE), (wd_83 hE)⟩ ⟨PR.blind, r_recv hK hP rfl, (r_pre (av := [.ref (b 0), .int x]) hK hP hJ hE)⟩ rfl rfl hl.1 rfl (lv_room (Nat.le_of_ble_eq_true rfl)) dX12_steps_2 ⟨Nat.le_of_ble_eq_true rfl, Nat.le_of_ble_eq_true rfl⟩)) (fun r2 hr2 => ?_)
  rcases hr2 with ⟨rfl, hb2⟩ | ⟨rfl, hb2⟩
  · obtain ⟨n2, hbe2_1, hb2⟩ := hb2
    subst hbe2_1
    have hti3 := nI_toInt (n := n2) (by omega)
    refine lv_if_ne (tgt := 14) hx hb dX12_steps_5 (by decide) (fun c4 => ?_) (fun c4 => absurd c4 (by decide))
    refine lv_aload_n hx hb dX12_steps_14 rfl (lv_at hl 0 rfl) ?_
    refine lv_iload_n hx hb dX12_steps_15 rfl (lv_at hl 1 rfl) ?_
    refine lv_aload_n hx hb dX12_steps_16 rfl (lv_at hl 0 rfl) ?_
    refine r_get (v := .ref (b 2)) hx hb (ly_X12 hE) hown hK hP rfl 4 (by decide) (wd_1385 hE) (fun _ h9 => h9) rfl dX12_steps_17 ?_
    refine lv_iconst (v := 0) hx hb dX12_steps_20 (by decide) ?_
    refine r_aald (j := 2) (k := 0) (n := 10) (t0 := 4) (j2 := 3) hx hb hK hP (by decide) rfl rfl (by decide) (by decide) rfl dX12_steps_21 ?_
    obtain ⟨g5, hg5⟩ : ∃ g, rA u 3 = g := ⟨_, rfl⟩
    refine rc_v hAL hS hA (va_runV (As := [.int (nI n2), .ref (b 3)]) (rest := []) ⟨hx, hb, hml, hown, noTs⟩ (r_X12_takes l dC dI s.heap.size cs b u a hA1 n2 3 (by decide) g5 hg5 (by first | assumption | omega | rfl | (congr 1; omega)) (by first | assumption | omega | rfl | (congr 1; omega))) ⟨cbE 2 (wd_1657 hE) (wd_126 hE) (wd_1654 hE) rfl rfl (by decide +kernel) ⟨Nat.le_of_ble_eq_true rfl, Nat.le_of_ble_eq_true rfl⟩, (wd_1656 hE), (wd_84 hE)⟩ ⟨PR.blind, r_recv hK hP rfl, (r_pre (av := [.ref (b 0), .int (nI n2), .ref (b 3)]) hK hP hJ hE)⟩ rfl rfl hl.1 rfl (lv_room (Nat.le_of_ble_eq_true rfl)) dX12_steps_22 ⟨Nat.le_of_ble_eq_true rfl, Nat.le_of_ble_eq_true rfl⟩) (fun u6 H locs hpo6 hP hS => ?_)
    obtain ⟨h6_0, h6_1, h6_2, h6_3, h6_4, h6_5, hq6⟩ := hpo6
    obtain ⟨w7, hA7⟩ : ∃ g, rA u6 3 = g := ⟨_, rfl⟩
    rw [hA7] at h6_0 h6_1 h6_2 h6_3 h6_4 h6_5
    have hA8 := (hq6.1 1 (by decide)).trans hA1
    have hfr := FR.step hfr hq6 (by decide) (fun _ h => absurd h List.not_mem_nil) (fun h => rfl)
    have hl6_0 := pg_le h6_0
    refine lv_aload_n hx hb dX12_steps_25 rfl (lv_at hl 0 rfl) ?_
    refine lv_aload_n hx hb dX12_steps_26 rfl (lv_at hl 0 rfl) ?_
    refine r_get (v := .ref (b 2)) hx hb (ly_X12 hE) hown hK hP rfl 4 (by decide) (wd_1385 hE) (fun _ h9 => h9) rfl dX12_steps_27 ?_
    refine lv_iconst (v := 0) hx hb dX12_steps_30 (by decide) ?_
    refine r_aald (j := 2) (k := 0) (n := 10) (t0 := 4) (j2 := 3) hx hb hK hP (by decide) rfl rfl (by decide) (by decide) rfl dX12_steps_31 ?_
    refine lv_aload_n hx hb dX12_steps_32 rfl (lv_at hl 0 rfl) ?_
    refine r_get (v := .ref (b 2)) hx hb (ly_X12 hE) hown hK hP rfl 4 (by decide) (wd_1385 hE) (fun _ h9 => h9) rfl dX12_steps_33 ?_
    refine lv_iconst (v := 1) hx hb dX12_steps_36 (by decide) ?_
    refine r_aald (j := 2) (k := 1) (n := 10) (t0 := 4) (j2 := 4) hx hb hK hP (by decide) rfl rfl (by decide) (by decide) rfl dX12_steps_37 ?_
    obtain ⟨g9, hg9⟩ : ∃ g, rA u6 4 = g := ⟨_, rfl⟩
    refine rc_v hAL hS hA (va_runV (As := [.ref (b 3), .ref (b 4)]) (rest := []) ⟨hx, hb, hml, hown, noTs⟩ (r_X12_forms l dC dI H.size cs b u6 a hA8 3 (by decide) w7 hA7 4 (by decide) g9 hg9 (by first | assumption | omega | rfl | (congr 1; omega)) (by first | assumption | omega | rfl | (congr 1; omega)) (by first | assumption | omega | rfl | (congr 1; omega)) (by first | assumption | omega | rfl | (congr 1; omega))) ⟨cbE 2 (wd_1661 hE) (wd_126 hE) (wd_1658 hE) rfl rfl (by decide +kernel) ⟨Nat.le_of_ble_eq_true rfl, Nat.le_of_ble_eq_true rfl⟩, (wd_1660 hE), (wd_85 hE)⟩ ⟨PR.blind, r_recv hK hP rfl, (r_pre (av := [.ref (b 0), .ref (b 3), .ref (b 4)]) hK hP hJ hE)⟩ rfl rfl hl.1 rfl (lv_room (Nat.le_of_ble_eq_true rfl)) dX12_steps_38 ⟨Nat.le_of_ble_eq_true rfl, Nat.le_of_ble_eq_true rfl⟩) (fun u10 H locs hpo10 hP hS => ?_)
    obtain ⟨h10_0, h10_1, h10_2, h10_3, h10_4, hq10⟩ := hpo10
    obtain ⟨w11, hA11⟩ : ∃ g, rA u10 4 = g := ⟨_, rfl⟩
    rw [hA11] at h10_0 h10_1 h10_2 h10_3 h10_4
    have hA12 := (hq10.1 1 (by decide)).trans hA8
    have hA13 := (hq10.1 3 (by decide)).trans hA7
    have hfr := FR.step hfr hq10 (by decide) (by decide) (fun h => rfl)
    have hl10_0 := pg_le h10_0
    refine lv_aload_n hx hb dX12_steps_41 rfl (lv_at hl 0 rfl) ?_
    refine lv_aload_n hx hb dX12_steps_42 rfl (lv_at hl 0 rfl) ?_
    refine r_get (v := .ref (b 2)) hx hb (ly_X12 hE) hown hK hP rfl 4 (by decide) (wd_1385 hE) (fun _ h9 => h9) rfl dX12_steps_43 ?_
    refine lv_iconst (v := 1) hx hb dX12_steps_46 (by decide) ?_
    refine r_aald (j := 2) (k := 1) (n := 10) (t0 := 4) (j2 := 4) hx hb hK hP (by decide) rfl rfl (by decide) (by decide) rfl dX12_steps_47 ?_
    refine lv_iconst (v := 1) hx hb dX12_steps_48 (by decide) ?_
    refine r_iald (j := 4) (k := 1) (n := 200) (x := nI (rn w11)) hx hb hK hP (by decide) rfl (by decide) (by decide) (by rw [hA11]; exact pg_n h10_0) dX12_steps_49 ?_
    refine rc_i hAL hS hA (va_runV (As := [.int (nI (rn w11))]) (rest := []) ⟨hx, hb, hml, hown, noTs⟩ (r_X12_gives l dC dI H.size cs b u10 a hA12 (nI (rn w11))) ⟨cbE 1 (wd_1621 hE) (wd_126 hE) (wd_1618 hE) rfl rfl (by decide +kernel) ⟨Nat.le_of_ble_eq_true rfl, Nat.le_of_ble_eq_true rfl⟩, (wd_1620 hE), (wd_80 hE)⟩ ⟨PR.blind, r_recv hK hP rfl, (r_pre (av := [.ref (b 0), .int (nI (rn w11))]) hK hP hJ hE)⟩ rfl rfl hl.1 rfl (lv_room (Nat.le_of_ble_eq_true rfl)) dX12_steps_50 ⟨Nat.le_of_ble_eq_true rfl, Nat.le_of_ble_eq_true rfl⟩) (fun r15 u15 H locs hpo15 hP hS => ?_)
    obtain ⟨hr15, hq15⟩ := hpo15
    have hA16 := (hq15.1 1 List.not_mem_nil).trans hA12
    have hA17 := (hq15.1 3 List.not_mem_nil).trans hA13
    have hA18 := (hq15.1 4 List.not_mem_nil).trans hA11
    have hfr := FR.step hfr hq15 (fun _ h => absurd h List.not_mem_nil) (by decide) (fun h => rfl)
    refine W.eq (g2 := F0 m 53 ls [.int (nI (rn w11))]) (by rw [hr15]) ?_
    exact W.iret (v := nI (rn w11)) hx hb hr (fun t ht hW => ⟨⟨nI (rn w11), u15, rfl, ⟨trivial, hfr⟩, (show va_P (dC, dI) vwCl (rW cs b u15) t.heap by rw [ht]; exact hP)⟩, hS.F ht⟩) hS.2.2 dX12_steps_53
  · refine lv_if_ne (tgt := 14) hx hb dX12_steps_5 (by decide) (fun c19 => absurd c19 (by decide)) (fun c19 => ?_)
    refine lv_aload_n hx hb dX12_steps_8 rfl (lv_at hl 0 rfl) ?_
    refine lv_iconst (v := 2) hx hb dX12_steps_9 (by decide) ?_
    refine rc_i hAL hS hA (va_runV (As := [.int 2]) (rest := []) ⟨hx, hb, hml, hown, noTs⟩ (r_X12_refuse l dC dI s.heap.size cs b u a hA1 2) ⟨cbE 1 (wd_1498 hE) (wd_126 hE) (wd_1495 hE) rfl rfl (by decide +kernel) ⟨Nat.le_of_ble_eq_true rfl, Nat.le_of_ble_eq_true rfl⟩, (wd_1497 hE), (wd_54 hE)⟩ ⟨PR.blind, r_recv hK hP rfl, (r_pre (av := [.ref (b 0), .int 2]) hK hP hJ hE)⟩ rfl rfl hl.1 rfl (lv_room (Nat.le_of_ble_eq_true rfl)) dX12_steps_10 ⟨Nat.le_of_ble_eq_true rfl, Nat.le_of_ble_eq_true rfl⟩) (fun r20 u20 H locs hpo20 hP hS => ?_)
    obtain ⟨hr20, hq20⟩ := hpo20
    have hA21 := (hq20.1 1 List.not_mem_nil).trans hA1
    have hfr := FR.step hfr hq20 (fun _ h => absurd h List.not_mem_nil) (by decide) (fun h => rfl)
    subst hr20
    exact W.iret (v := -1) hx hb hr (fun t ht hW => ⟨⟨-1, u20, rfl, ⟨trivial, hfr⟩, (show va_P (dC, dI) vwCl (rW cs b u20) t.heap by rw [ht]; exact hP)⟩, hS.F ht⟩) hS.2.2 dX12_steps_13

set_option maxHeartbeats 4000000 in
set_option maxRecDepth 100000 in
theorem r_X12_length (l : Launch) (dC : Nat → ClassId) (dI : Nat → Nat → Nat) (sz : Nat) (cs : Nat → ClassId) (b : Nat → Nat) (u : RS) (a : Nat → Int32) (hA1 : rA u 1 = a) (x : Int32) (hp0 : BG a) : Met l yX12_length [.code yX12_length cX12_length 3 (some .int)] ({ frames := 7, cells := 0, slots := 0, locals := 280 }) (PR [.ref (b 0), .int x] sz dC dI cs b u) (va_Qi (fun (r : Int32) (u' : RS) => (True) ∧ FR [3, 4, 5, 6, 7, 8, 9, 10, 11, 12, 13, 14, 17, 18, 19, 20] [1, 5, 21, 22] true u u') (BR dC dI cs b) (AR b sz)) 0 0 (AR b sz) := by
  refine Met.ofW (cc := cX12_length) (maxL := 3) (ret := (some .int)) (by decide) rfl ?_
  intro p e s m args below meth c s₁ B hml hv
  obtain ⟨rfl, hsz, hP, hK, hJ, hE⟩ := hv
  have hx := B.exec
  have hb := B.bytes
  have hr := B.returns
  have hown : s.vm.findClass RX12 = some m.cls := findClass_of_methodNamed B.named
  have hlocks := B.notSynchronized
  subst hsz
  have hAL : ∀ i, i < 108 → AR b s.heap.size (b i) := fun i h => Or.inl ⟨i, h, rfl⟩
  have hA : ∀ q : Nat, s.heap.size ≤ q → AR b s.heap.size q := fun q h => Or.inr h
  have hS : va_S (AR b s.heap.size) s.heap s.heap [] := va_S.rf
  have hfr : FR [3, 4, 5, 6, 7, 8, 9, 10, 11, 12, 13, 14, 17, 18, 19, 20] [1, 5, 21, 22] true u u := FR.refl
  have hl := lv_entry ([.ref (b 0), .int x]) (n := 3) (Nat.le_of_ble_eq_true rfl)
  rw [lg_entry_eq]
  generalize (lg_sl ([.ref (b 0), .int x]) ++ List.replicate (3 - (lg_sl ([.ref (b 0), .int x])).length) Slot.unset).toArray = ls at hl ⊢
  have hl : lv_has ls 3 [(0, .ref (b 0)), (1, .int x)] := hl
  have hB := hp0
  have hG := bg_g hp0
  have ha1 := gg_le hG
  have ha1b := bg_w hp0
  refine lv_aload_n hx hb dX12_length_0 rfl (lv_at hl 0 rfl) ?_
  refine lv_iload_n hx hb dX12_length_1 rfl (lv_at hl 1 rfl) ?_
  refine rc_i hAL hS hA (va_runV (As := [.int x]) (rest := []) ⟨hx, hb, hml, hown, noTs⟩ (r_X12_wrongLoop l dC dI s.heap.size cs b u a hA1 x (by first | assumption | omega | rfl | (congr 1; omega))) ⟨cbE 1 (wd_1781 hE) (wd_126 hE) (wd_1778 hE) rfl rfl (by decide +kernel) ⟨Nat.le_of_ble_eq_true rfl, Nat.le_of_ble_eq_true rfl⟩, (wd_1780 hE), (wd_95 hE)⟩ ⟨PR.blind, r_recv hK hP rfl, (r_pre (av := [.ref (b 0), .int x]) hK hP hJ hE)⟩ rfl rfl hl.1 rfl (lv_room (Nat.le_of_ble_eq_true rfl)) dX12_length_2 ⟨Nat.le_of_ble_eq_true rfl, Nat.le_of_ble_eq_true rfl⟩) (fun r2 u2 H locs hpo2 hP hS => ?_)
  obtain ⟨hr2, hq2⟩ := hpo2
  have hA3 := (hq2.1 1 (by decide)).trans hA1
  have hfr := FR.step hfr hq2 (by decide) (fun _ h => absurd h List.not_mem_nil) (fun h => rfl)
  rcases hr2 with ⟨rfl, hb2⟩ | ⟨rfl, hb2⟩ | ⟨rfl, hb2⟩
  · obtain ⟨n2, hbe2_1, hb2⟩ := hb2
    subst hbe2_1
    have hti4 := nI_toInt (n := n2) (by omega)
    refine lv_istore_n (lv' := [(2, .int 0), (0, .ref (b 0)), (1, .int (nI n2))]) hx hb dX12_length_5 rfl hl (by decide) rfl (fun ls hl => ?_)
    refine lv_iload_n hx hb dX12_length_6 rfl (lv_at hl 0 rfl) ?_
    refine lv_if_le (tgt := 16) hx hb dX12_length_7 (by decide) (fun c5 => ?_) (fun c5 => absurd c5 (by decide))
    refine lv_aload_n hx hb dX12_length_16 rfl (lv_at hl 1 rfl) ?_
    refine lv_iload_n hx hb dX12_length_17 rfl (lv_at hl 2 rfl) ?_
    refine lv_aload_n hx hb dX12_length_18 rfl (lv_at hl 1 rfl) ?_
    refine r_get (v := .ref (b 2)) hx hb (ly_X12 hE) hown hK hP rfl 4 (by decide) (wd_1385 hE) (fun _ h9 => h9) rfl dX12_length_19 ?_
    refine lv_iconst (v := 0) hx hb dX12_length_22 (by decide) ?_
    refine r_aald (j := 2) (k := 0) (n := 10) (t0 := 4) (j2 := 3) hx hb hK hP (by decide) rfl rfl (by decide) (by decide) rfl dX12_length_23 ?_
    obtain ⟨g6, hg6⟩ : ∃ g, rA u2 3 = g := ⟨_, rfl⟩
    refine rc_v hAL hS hA (va_runV (As := [.int (nI n2), .ref (b 3)]) (rest := []) ⟨hx, hb, hml, hown, noTs⟩ (r_X12_coreOf l dC dI H.size cs b u2 a hA3 n2 3 (by decide) g6 hg6 (by first | assumption | omega | rfl | (congr 1; omega)) (by first | assumption | omega | rfl | (congr 1; omega)) (by first | assumption | omega | rfl | (congr 1; omega)) (by first | assumption | omega | rfl | (congr 1; omega))) ⟨cbE 2 (wd_1733 hE) (wd_126 hE) (wd_1730 hE) rfl rfl (by decide +kernel) ⟨Nat.le_of_ble_eq_true rfl, Nat.le_of_ble_eq_true rfl⟩, (wd_1732 hE), (wd_92 hE)⟩ ⟨PR.blind, r_recv hK hP rfl, (r_pre (av := [.ref (b 0), .int (nI n2), .ref (b 3)]) hK hP hJ hE)⟩ rfl rfl hl.1 rfl (lv_room (Nat.le_of_ble_eq_true rfl)) dX12_length_24 ⟨Nat.le_of_ble_eq_true rfl, Nat.le_of_ble_eq_true rfl⟩) (fun u7 H locs hpo7 hP hS => ?_)
    obtain ⟨h7_0, h7_1, h7_2, h7_3, hq7⟩ := hpo7
    obtain ⟨w8, hA8⟩ : ∃ g, rA u7 3 = g := ⟨_, rfl⟩
    rw [hA8] at h7_0 h7_1 h7_2 h7_3
    have hA9 := (hq7.1 1 (by decide)).trans hA3
    have hfr := FR.step hfr hq7 (by decide) (by decide) (fun h => rfl)
    have hl7_0 := pg_le h7_0
    refine lv_aload_n hx hb dX12_length_27 rfl (lv_at hl 1 rfl) ?_
    refine lv_aload_n hx hb dX12_length_28 rfl (lv_at hl 1 rfl) ?_
    refine r_get (v := .ref (b 2)) hx hb (ly_X12 hE) hown hK hP rfl 4 (by decide) (wd_1385 hE) (fun _ h9 => h9) rfl dX12_length_29 ?_
    refine lv_iconst (v := 0) hx hb dX12_length_32 (by decide) ?_
    refine r_aald (j := 2) (k := 0) (n := 10) (t0 := 4) (j2 := 3) hx hb hK hP (by decide) rfl rfl (by decide) (by decide) rfl dX12_length_33 ?_
    refine lv_iconst (v := 1) hx hb dX12_length_34 (by decide) ?_
    refine r_iald (j := 3) (k := 1) (n := 200) (x := nI (rn w8)) hx hb hK hP (by decide) rfl (by decide) (by decide) (by rw [hA8]; exact pg_n h7_0) dX12_length_35 ?_
    refine rc_i hAL hS hA (va_runV (As := [.int (nI (rn w8))]) (rest := []) ⟨hx, hb, hml, hown, noTs⟩ (r_X12_gives l dC dI H.size cs b u7 a hA9 (nI (rn w8))) ⟨cbE 1 (wd_1621 hE) (wd_126 hE) (wd_1618 hE) rfl rfl (by decide +kernel) ⟨Nat.le_of_ble_eq_true rfl, Nat.le_of_ble_eq_true rfl⟩, (wd_1620 hE), (wd_80 hE)⟩ ⟨PR.blind, r_recv hK hP rfl, (r_pre (av := [.ref (b 0), .int (nI (rn w8))]) hK hP hJ hE)⟩ rfl rfl hl.1 rfl (lv_room (Nat.le_of_ble_eq_true rfl)) dX12_length_36 ⟨Nat.le_of_ble_eq_true rfl, Nat.le_of_ble_eq_true rfl⟩) (fun r11 u11 H locs hpo11 hP hS => ?_)
    obtain ⟨hr11, hq11⟩ := hpo11
    have hA12 := (hq11.1 1 List.not_mem_nil).trans hA9
    have hA13 := (hq11.1 3 List.not_mem_nil).trans hA8
    have hfr := FR.step hfr hq11 (fun _ h => absurd h List.not_mem_nil) (by decide) (fun h => rfl)
    refine W.eq (g2 := F0 m 39 ls [.int (nI (rn w8))]) (by rw [hr11]) ?_
    exact W.iret (v := nI (rn w8)) hx hb hr (fun t ht hW => ⟨⟨nI (rn w8), u11, rfl, ⟨trivial, hfr⟩, (show va_P (dC, dI) vwCl (rW cs b u11) t.heap by rw [ht]; exact hP)⟩, hS.F ht⟩) hS.2.2 dX12_length_39
  · refine lv_istore_n (lv' := [(2, .int 2), (0, .ref (b 0)), (1, .int x)]) hx hb dX12_length_5 rfl hl (by decide) rfl (fun ls hl => ?_)
    refine lv_iload_n hx hb dX12_length_6 rfl (lv_at hl 0 rfl) ?_
    refine lv_if_le (tgt := 16) hx hb dX12_length_7 (by decide) (fun c14 => absurd c14 (by decide)) (fun c14 => ?_)
    refine lv_aload_n hx hb dX12_length_10 rfl (lv_at hl 1 rfl) ?_
    refine lv_iload_n hx hb dX12_length_11 rfl (lv_at hl 0 rfl) ?_
    refine rc_i hAL hS hA (va_runV (As := [.int 2]) (rest := []) ⟨hx, hb, hml, hown, noTs⟩ (r_X12_refuse l dC dI H.size cs b u2 a hA3 2) ⟨cbE 1 (wd_1498 hE) (wd_126 hE) (wd_1495 hE) rfl rfl (by decide +kernel) ⟨Nat.le_of_ble_eq_true rfl, Nat.le_of_ble_eq_true rfl⟩, (wd_1497 hE), (wd_54 hE)⟩ ⟨PR.blind, r_recv hK hP rfl, (r_pre (av := [.ref (b 0), .int 2]) hK hP hJ hE)⟩ rfl rfl hl.1 rfl (lv_room (Nat.le_of_ble_eq_true rfl)) dX12_length_12 ⟨Nat.le_of_ble_eq_true rfl, Nat.le_of_ble_eq_true rfl⟩) (fun r15 u15 H locs hpo15 hP hS => ?_)
    obtain ⟨hr15, hq15⟩ := hpo15
    have hA16 := (hq15.1 1 List.not_mem_nil).trans hA3
    have hfr := FR.step hfr hq15 (fun _ h => absurd h List.not_mem_nil) (by decide) (fun h => rfl)
    subst hr15
    exact W.iret (v := -1) hx hb hr (fun t ht hW => ⟨⟨-1, u15, rfl, ⟨trivial, hfr⟩, (show va_P (dC, dI) vwCl (rW cs b u15) t.heap by rw [ht]; exact hP)⟩, hS.F ht⟩) hS.2.2 dX12_length_15
  · refine lv_istore_n (lv' := [(2, .int 4), (0, .ref (b 0)), (1, .int x)]) hx hb dX12_length_5 rfl hl (by decide) rfl (fun ls hl => ?_)
    refine lv_iload_n hx hb dX12_length_6 rfl (lv_at hl 0 rfl) ?_
    refine lv_if_le (tgt := 16) hx hb dX12_length_7 (by decide) (fun c17 => absurd c17 (by decide)) (fun c17 => ?_)
    refine lv_aload_n hx hb dX12_length_10 rfl (lv_at hl 1 rfl) ?_
    refine lv_iload_n hx hb dX12_length_11 rfl (lv_at hl 0 rfl) ?_
    refine rc_i hAL hS hA (va_runV (As := [.int 4]) (rest := []) ⟨hx, hb, hml, hown, noTs⟩ (r_X12_refuse l dC dI H.size cs b u2 a hA3 4) ⟨cbE 1 (wd_1498 hE) (wd_126 hE) (wd_1495 hE) rfl rfl (by decide +kernel) ⟨Nat.le_of_ble_eq_true rfl, Nat.le_of_ble_eq_true rfl⟩, (wd_1497 hE), (wd_54 hE)⟩ ⟨PR.blind, r_recv hK hP rfl, (r_pre (av := [.ref (b 0), .int 4]) hK hP hJ hE)⟩ rfl rfl hl.1 rfl (lv_room (Nat.le_of_ble_eq_true rfl)) dX12_length_12 ⟨Nat.le_of_ble_eq_true rfl, Nat.le_of_ble_eq_true rfl⟩) (fun r18 u18 H locs hpo18 hP hS => ?_)
    obtain ⟨hr18, hq18⟩ := hpo18
    have hA19 := (hq18.1 1 List.not_mem_nil).trans hA3
    have hfr := FR.step hfr hq18 (fun _ h => absurd h List.not_mem_nil) (by decide) (fun h => rfl)
    subst hr18
    exact W.iret (v := -1) hx hb hr (fun t ht hW => ⟨⟨-1, u18, rfl, ⟨trivial, hfr⟩, (show va_P (dC, dI) vwCl (rW cs b u18) t.heap by rw [ht]; exact hP)⟩, hS.F ht⟩) hS.2.2 dX12_length_15

set_option maxHeartbeats 4000000 in
set_option maxRecDepth 100000 in
theorem r_X12_common (l : Launch) (dC : Nat → ClassId) (dI : Nat → Nat → Nat) : ∀ (nn : Nat) (sz : Nat) (cs : Nat → ClassId) (b : Nat → Nat) (u : RS) (pp : Nat) (qq : Nat) (hp0 : 1 ≤ pp + qq) (hp1 : pp ≤ 60) (hp2 : qq ≤ 60) (hnn : qq < nn), Met l yX12_common [.code yX12_common cX12_common 2 (some .int)] ({ frames := nn + 0, cells := 0, slots := 0, locals := 40 * (nn + 0) }) (PR [.int (nI pp), .int (nI qq)] sz dC dI cs b u) (vp_Si (fun (r : Int32) => ∃ k : Nat, r = nI k ∧ 1 ≤ k ∧ k ≤ 60)) 0 0 (fun _ => False) := by
  intro nn
  induction nn with
  | zero => intro sz cs b u pp qq hp0 hp1 hp2 hnn; exact absurd hnn (Nat.not_lt_zero _)
  | succ nn ih =>
  intro sz cs b u pp qq hp0 hp1 hp2 hnn
  refine Met.ofW (cc := cX12_common) (maxL := 2) (ret := (some .int)) (by decide) rfl ?_
  intro p e s m args below meth c s₁ B hml hv
  obtain ⟨rfl, hsz, hP, hK, hJ, hE⟩ := hv
  have hx := B.exec
  have hb := B.bytes
  have hr := B.returns
  have hown : s.vm.findClass RX12 = some m.cls := findClass_of_methodNamed B.named
  have hlocks := B.notSynchronized
  subst hsz
  have hl := lv_entry ([.int (nI pp), .int (nI qq)]) (n := 2) (Nat.le_of_ble_eq_true rfl)
  rw [lg_entry_eq]
  generalize (lg_sl ([.int (nI pp), .int (nI qq)]) ++ List.replicate (2 - (lg_sl ([.int (nI pp), .int (nI qq)])).length) Slot.unset).toArray = ls at hl ⊢
  have hl : lv_has ls 2 [(0, .int (nI pp)), (1, .int (nI qq))] := hl
  refine lv_iload_n hx hb dX12_common_0 rfl (lv_at hl 1 rfl) ?_
  refine lv_if_ne (tgt := 8) hx hb dX12_common_1 (by decide) (fun c4 => ?_) (fun c4 => ?_)
  · have c4 := mt (b_eq (nI_toInt (n := qq) (by omega)) (show Int32.toInt 0 = 0 from rfl)).mpr c4
    refine lv_iload_n hx hb dX12_common_8 rfl (lv_at hl 1 rfl) ?_
    refine lv_iload_n hx hb dX12_common_9 rfl (lv_at hl 0 rfl) ?_
    refine lv_iload_n hx hb dX12_common_10 rfl (lv_at hl 1 rfl) ?_
    refine lv_irem hx hb dX12_common_11 (nI_ne0 (n := qq) (by omega) (by omega)) ?_
    refine W.eq (g2 := F0 m 12 ls [.int (nI (pp % qq)), .int (nI qq)]) (congrArg (fun z : Int32 => F0 m 12 ls (.int z :: [.int (nI qq)])) (pk_rem (a := pp) (d := qq) (by omega) (by omega) (by omega))) ?_
    have hmd5 := Nat.mod_lt pp (show 0 < qq by omega)
    refine vp_callSi (va_Run.run (va_runS (As := [.int (nI qq), .int (nI (pp % qq))]) (rest := []) ⟨hx, hb, hml, hown, noTs⟩ (ih s.heap.size cs b u qq (pp % qq) (by omega) (by first | assumption | omega | rfl | (congr 1; omega)) (by first | assumption | omega | rfl | (congr 1; omega)) (by omega)) ⟨cbE 2 (wd_1792 hE) (wd_126 hE) (wd_1790 hE) rfl rfl (by decide +kernel) ⟨by show nn + 0 + 1 ≤ nn + 1 + 0; omega, by show 8 + (2 + 11) + 40 * (nn + 0) ≤ 40 * (nn + 1 + 0); omega⟩, (wd_1791 hE)⟩ ⟨PR.blind, (r_pre (av := [.int (nI qq), .int (nI (pp % qq))]) hK hP hJ hE)⟩ rfl rfl hl.1 rfl (lv_room (Nat.le_of_ble_eq_true rfl)) dX12_common_12 ⟨Nat.le_of_ble_eq_true rfl, Nat.le_of_ble_eq_true rfl⟩)) (fun r6 hr6 => ?_)
    obtain ⟨n6, rfl, hn6_0, hn6_1⟩ := hr6
    exact W.iret (v := nI n6) hx hb hr (fun t ht hW => ⟨nI n6, rfl, ⟨n6, rfl, by first | assumption | omega | rfl | (congr 1; omega), by first | assumption | omega | rfl | (congr 1; omega)⟩, ht⟩) (fun _ h => absurd h List.not_mem_nil) dX12_common_15
  · have c4 := (b_eq (nI_toInt (n := qq) (by omega)) (show Int32.toInt 0 = 0 from rfl)).mp c4
    refine lv_iload_n hx hb dX12_common_4 rfl (lv_at hl 0 rfl) ?_
    refine lv_goto (tgt := 15) hx hb dX12_common_5 (by decide) ?_
    exact W.iret (v := nI pp) hx hb hr (fun t ht hW => ⟨nI pp, rfl, ⟨pp, rfl, by first | assumption | omega | rfl | (congr 1; omega), by first | assumption | omega | rfl | (congr 1; omega)⟩, ht⟩) (fun _ h => absurd h List.not_mem_nil) dX12_common_15

set_option maxHeartbeats 4000000 in
set_option maxRecDepth 100000 in
theorem r_X12_orderIn (l : Launch) (dC : Nat → ClassId) (dI : Nat → Nat → Nat) (sz : Nat) (cs : Nat → ClassId) (b : Nat → Nat) (u : RS) (a : Nat → Int32) (hA1 : rA u 1 = a) (v : Nat) (k : Nat) (hp0 : GG a) (hp1 : v < vN a) (hp2 : k < od a v) : Met l yX12_orderIn [.code yX12_orderIn cX12_orderIn 3 (some .int)] ({ frames := 62, cells := 0, slots := 0, locals := 2480 }) (PR [.ref (b 0), .int (nI v), .int (nI k)] sz dC dI cs b u) (vp_Si (fun (r : Int32) => True)) 0 0 (fun _ => False) := by
  refine Met.ofW (cc := cX12_orderIn) (maxL := 3) (ret := (some .int)) (by decide) rfl ?_
  intro p e s m args below meth c s₁ B hml hv
  obtain ⟨rfl, hsz, hP, hK, hJ, hE⟩ := hv
  have hx := B.exec
  have hb := B.bytes
  have hr := B.returns
  have hown : s.vm.findClass RX12 = some m.cls := findClass_of_methodNamed B.named
  have hlocks := B.notSynchronized
  subst hsz
  have hl := lv_entry ([.ref (b 0), .int (nI v), .int (nI k)]) (n := 3) (Nat.le_of_ble_eq_true rfl)
  rw [lg_entry_eq]
  generalize (lg_sl ([.ref (b 0), .int (nI v), .int (nI k)]) ++ List.replicate (3 - (lg_sl ([.ref (b 0), .int (nI v), .int (nI k)])).length) Slot.unset).toArray = ls at hl ⊢
  have hl : lv_has ls 3 [(0, .ref (b 0)), (1, .int (nI v)), (2, .int (nI k))] := hl
  have hG := hp0
  have ha1 := gg_le hp0
  refine lv_aload_n hx hb dX12_orderIn_0 rfl (lv_at hl 0 rfl) ?_
  refine lv_iload_n hx hb dX12_orderIn_1 rfl (lv_at hl 1 rfl) ?_
  refine vp_callSi (va_Run.run (va_runV (As := [.int (nI v)]) (rest := []) ⟨hx, hb, hml, hown, noTs⟩ (r_X12_orderAt l dC dI s.heap.size cs b u a hA1 v (by first | assumption | omega | rfl | (congr 1; omega)) (by first | assumption | omega | rfl | (congr 1; omega))) ⟨cbE 1 (wd_1564 hE) (wd_126 hE) (wd_1561 hE) rfl rfl (by decide +kernel) ⟨Nat.le_of_ble_eq_true rfl, Nat.le_of_ble_eq_true rfl⟩, (wd_1563 hE), (wd_68 hE)⟩ ⟨PR.blind, r_recv hK hP rfl, (r_pre (av := [.ref (b 0), .int (nI v)]) hK hP hJ hE)⟩ rfl rfl hl.1 rfl (lv_room (Nat.le_of_ble_eq_true rfl)) dX12_orderIn_2 ⟨Nat.le_of_ble_eq_true rfl, Nat.le_of_ble_eq_true rfl⟩)) (fun r4 hr4 => ?_)
  have hau4 := (gg_od (a := a) (v := v) (by assumption) (by first | assumption | omega)).2
  subst hr4
  refine lv_aload_n hx hb dX12_orderIn_5 rfl (lv_at hl 0 rfl) ?_
  refine lv_iload_n hx hb dX12_orderIn_6 rfl (lv_at hl 1 rfl) ?_
  refine vp_callSi (va_Run.run (va_runV (As := [.int (nI v)]) (rest := [.int (nI (od a v))]) ⟨hx, hb, hml, hown, noTs⟩ (r_X12_orderAt l dC dI s.heap.size cs b u a hA1 v (by first | assumption | omega | rfl | (congr 1; omega)) (by first | assumption | omega | rfl | (congr 1; omega))) ⟨cbE 1 (wd_1564 hE) (wd_126 hE) (wd_1561 hE) rfl rfl (by decide +kernel) ⟨Nat.le_of_ble_eq_true rfl, Nat.le_of_ble_eq_true rfl⟩, (wd_1563 hE), (wd_68 hE)⟩ ⟨PR.blind, r_recv hK hP rfl, (r_pre (av := [.ref (b 0), .int (nI v)]) hK hP hJ hE)⟩ rfl rfl hl.1 rfl (lv_room (Nat.le_of_ble_eq_true rfl)) dX12_orderIn_7 ⟨Nat.le_of_ble_eq_true rfl, Nat.le_of_ble_eq_true rfl⟩)) (fun r5 hr5 => ?_)
  have hau5 := (gg_od (a := a) (v := v) (by assumption) (by first | assumption | omega)).2
  subst hr5
  refine lv_iload_n hx hb dX12_orderIn_10 rfl (lv_at hl 2 rfl) ?_
  refine vp_callSi (va_Run.run (va_runS (As := [.int (nI (od a v)), .int (nI k)]) (rest := [.int (nI (od a v))]) ⟨hx, hb, hml, hown, noTs⟩ (r_X12_common l dC dI 61 s.heap.size cs b u (od a v) k (by first | assumption | omega | rfl | (congr 1; omega)) (by first | assumption | omega | rfl | (congr 1; omega)) (by first | assumption | omega | rfl | (congr 1; omega)) (by omega)) ⟨cbE 2 (wd_1792 hE) (wd_126 hE) (wd_1790 hE) rfl rfl (by decide +kernel) ⟨Nat.le_of_ble_eq_true rfl, Nat.le_of_ble_eq_true rfl⟩, (wd_1791 hE)⟩ ⟨PR.blind, (r_pre (av := [.int (nI (od a v)), .int (nI k)]) hK hP hJ hE)⟩ rfl rfl hl.1 rfl (lv_room (Nat.le_of_ble_eq_true rfl)) dX12_orderIn_11 ⟨Nat.le_of_ble_eq_true rfl, Nat.le_of_ble_eq_true rfl⟩)) (fun r6 hr6 => ?_)
  obtain ⟨n6, rfl, hn6_0, hn6_1⟩ := hr6
  refine lv_idiv hx hb dX12_orderIn_14 (nI_ne0 (n := n6) (by omega) (by omega)) ?_
  refine W.eq (g2 := F0 m 15 ls [.int (nI ((od a v) / n6))]) (congrArg (fun z : Int32 => F0 m 15 ls (.int z :: [])) (pk_div (a := od a v) (d := n6) (by omega) (by omega) (by omega))) ?_
  have hmd7 := Nat.div_le_self (od a v) n6
  exact W.iret (v := nI ((od a v) / n6)) hx hb hr (fun t ht hW => ⟨nI ((od a v) / n6), rfl, trivial, ht⟩) (fun _ h => absurd h List.not_mem_nil) dX12_orderIn_15

set_option maxHeartbeats 4000000 in
set_option maxRecDepth 100000 in
theorem r_X12_orderOf (l : Launch) (dC : Nat → ClassId) (dI : Nat → Nat → Nat) (sz : Nat) (cs : Nat → ClassId) (b : Nat → Nat) (u : RS) (a : Nat → Int32) (hA1 : rA u 1 = a) (x : Int32) (hp0 : BG a) : Met l yX12_orderOf [.code yX12_orderOf cX12_orderOf 3 (some .int)] ({ frames := 63, cells := 0, slots := 0, locals := 2520 }) (PR [.ref (b 0), .int x] sz dC dI cs b u) (va_Qi (fun (r : Int32) (u' : RS) => (True) ∧ FR [3, 4, 5, 6, 7, 8, 9, 10, 11, 12, 13, 14, 17, 18, 19, 20] [1, 5, 21, 22] true u u') (BR dC dI cs b) (AR b sz)) 0 0 (AR b sz) := by
  refine Met.ofW (cc := cX12_orderOf) (maxL := 3) (ret := (some .int)) (by decide) rfl ?_
  intro p e s m args below meth c s₁ B hml hv
  obtain ⟨rfl, hsz, hP, hK, hJ, hE⟩ := hv
  have hx := B.exec
  have hb := B.bytes
  have hr := B.returns
  have hown : s.vm.findClass RX12 = some m.cls := findClass_of_methodNamed B.named
  have hlocks := B.notSynchronized
  subst hsz
  have hAL : ∀ i, i < 108 → AR b s.heap.size (b i) := fun i h => Or.inl ⟨i, h, rfl⟩
  have hA : ∀ q : Nat, s.heap.size ≤ q → AR b s.heap.size q := fun q h => Or.inr h
  have hS : va_S (AR b s.heap.size) s.heap s.heap [] := va_S.rf
  have hfr : FR [3, 4, 5, 6, 7, 8, 9, 10, 11, 12, 13, 14, 17, 18, 19, 20] [1, 5, 21, 22] true u u := FR.refl
  have hl := lv_entry ([.ref (b 0), .int x]) (n := 3) (Nat.le_of_ble_eq_true rfl)
  rw [lg_entry_eq]
  generalize (lg_sl ([.ref (b 0), .int x]) ++ List.replicate (3 - (lg_sl ([.ref (b 0), .int x])).length) Slot.unset).toArray = ls at hl ⊢
  have hl : lv_has ls 3 [(0, .ref (b 0)), (1, .int x)] := hl
  have hB := hp0
  have hG := bg_g hp0
  have ha1 := gg_le hG
  have ha1b := bg_w hp0
  refine lv_aload_n hx hb dX12_orderOf_0 rfl (lv_at hl 0 rfl) ?_
  refine lv_iload_n hx hb dX12_orderOf_1 rfl (lv_at hl 1 rfl) ?_
  refine rc_i hAL hS hA (va_runV (As := [.int x]) (rest := []) ⟨hx, hb, hml, hown, noTs⟩ (r_X12_wrongLoop l dC dI s.heap.size cs b u a hA1 x (by first | assumption | omega | rfl | (congr 1; omega))) ⟨cbE 1 (wd_1781 hE) (wd_126 hE) (wd_1778 hE) rfl rfl (by decide +kernel) ⟨Nat.le_of_ble_eq_true rfl, Nat.le_of_ble_eq_true rfl⟩, (wd_1780 hE), (wd_95 hE)⟩ ⟨PR.blind, r_recv hK hP rfl, (r_pre (av := [.ref (b 0), .int x]) hK hP hJ hE)⟩ rfl rfl hl.1 rfl (lv_room (Nat.le_of_ble_eq_true rfl)) dX12_orderOf_2 ⟨Nat.le_of_ble_eq_true rfl, Nat.le_of_ble_eq_true rfl⟩) (fun r2 u2 H locs hpo2 hP hS => ?_)
  obtain ⟨hr2, hq2⟩ := hpo2
  have hA3 := (hq2.1 1 (by decide)).trans hA1
  have hfr := FR.step hfr hq2 (by decide) (fun _ h => absurd h List.not_mem_nil) (fun h => rfl)
  rcases hr2 with ⟨rfl, hb2⟩ | ⟨rfl, hb2⟩ | ⟨rfl, hb2⟩
  · obtain ⟨n2, hbe2_1, hb2⟩ := hb2
    subst hbe2_1
    have hti4 := nI_toInt (n := n2) (by omega)
    refine lv_istore_n (lv' := [(2, .int 0), (0, .ref (b 0)), (1, .int (nI n2))]) hx hb dX12_orderOf_5 rfl hl (by decide) rfl (fun ls hl => ?_)
    refine lv_iload_n hx hb dX12_orderOf_6 rfl (lv_at hl 0 rfl) ?_
    refine lv_if_le (tgt := 16) hx hb dX12_orderOf_7 (by decide) (fun c5 => ?_) (fun c5 => absurd c5 (by decide))
    refine lv_aload_n hx hb dX12_orderOf_16 rfl (lv_at hl 1 rfl) ?_
    refine lv_iload_n hx hb dX12_orderOf_17 rfl (lv_at hl 2 rfl) ?_
    refine lv_aload_n hx hb dX12_orderOf_18 rfl (lv_at hl 1 rfl) ?_
    refine r_get (v := .ref (b 2)) hx hb (ly_X12 hE) hown hK hP rfl 4 (by decide) (wd_1385 hE) (fun _ h9 => h9) rfl dX12_orderOf_19 ?_
    refine lv_iconst (v := 0) hx hb dX12_orderOf_22 (by decide) ?_
    refine r_aald (j := 2) (k := 0) (n := 10) (t0 := 4) (j2 := 3) hx hb hK hP (by decide) rfl rfl (by decide) (by decide) rfl dX12_orderOf_23 ?_
    obtain ⟨g6, hg6⟩ : ∃ g, rA u2 3 = g := ⟨_, rfl⟩
    refine rc_v hAL hS hA (va_runV (As := [.int (nI n2), .ref (b 3)]) (rest := []) ⟨hx, hb, hml, hown, noTs⟩ (r_X12_coreOf l dC dI H.size cs b u2 a hA3 n2 3 (by decide) g6 hg6 (by first | assumption | omega | rfl | (congr 1; omega)) (by first | assumption | omega | rfl | (congr 1; omega)) (by first | assumption | omega | rfl | (congr 1; omega)) (by first | assumption | omega | rfl | (congr 1; omega))) ⟨cbE 2 (wd_1733 hE) (wd_126 hE) (wd_1730 hE) rfl rfl (by decide +kernel) ⟨Nat.le_of_ble_eq_true rfl, Nat.le_of_ble_eq_true rfl⟩, (wd_1732 hE), (wd_92 hE)⟩ ⟨PR.blind, r_recv hK hP rfl, (r_pre (av := [.ref (b 0), .int (nI n2), .ref (b 3)]) hK hP hJ hE)⟩ rfl rfl hl.1 rfl (lv_room (Nat.le_of_ble_eq_true rfl)) dX12_orderOf_24 ⟨Nat.le_of_ble_eq_true rfl, Nat.le_of_ble_eq_true rfl⟩) (fun u7 H locs hpo7 hP hS => ?_)
    obtain ⟨h7_0, h7_1, h7_2, h7_3, hq7⟩ := hpo7
    obtain ⟨w8, hA8⟩ : ∃ g, rA u7 3 = g := ⟨_, rfl⟩
    rw [hA8] at h7_0 h7_1 h7_2 h7_3
    have hA9 := (hq7.1 1 (by decide)).trans hA3
    have hfr := FR.step hfr hq7 (by decide) (by decide) (fun h => rfl)
    have hl7_0 := pg_le h7_0
    have LGA := h7_1
    have hbo := gg_od hG (pg_le h7_0).1
    refine lv_aload_n hx hb dX12_orderOf_27 rfl (lv_at hl 1 rfl) ?_
    refine lv_aload_n hx hb dX12_orderOf_28 rfl (lv_at hl 1 rfl) ?_
    refine r_get (v := .ref (b 2)) hx hb (ly_X12 hE) hown hK hP rfl 4 (by decide) (wd_1385 hE) (fun _ h9 => h9) rfl dX12_orderOf_29 ?_
    refine lv_iconst (v := 0) hx hb dX12_orderOf_32 (by decide) ?_
    refine r_aald (j := 2) (k := 0) (n := 10) (t0 := 4) (j2 := 3) hx hb hK hP (by decide) rfl rfl (by decide) (by decide) rfl dX12_orderOf_33 ?_
    refine lv_iconst (v := 1) hx hb dX12_orderOf_34 (by decide) ?_
    refine r_iald (j := 3) (k := 1) (n := 200) (x := nI (rn w8)) hx hb hK hP (by decide) rfl (by decide) (by decide) (by rw [hA8]; exact pg_n h7_0) dX12_orderOf_35 ?_
    refine lv_if_le (tgt := 43) hx hb dX12_orderOf_36 (by decide) (fun c11 => ?_) (fun c11 => ?_)
    · have c11 := (b_le (nI_toInt (n := rn w8) (by omega)) (show Int32.toInt 0 = 0 from rfl)).mp c11
      refine lv_aload_n hx hb dX12_orderOf_43 rfl (lv_at hl 1 rfl) ?_
      refine lv_aload_n hx hb dX12_orderOf_44 rfl (lv_at hl 1 rfl) ?_
      refine r_get (v := .ref (b 2)) hx hb (ly_X12 hE) hown hK hP rfl 4 (by decide) (wd_1385 hE) (fun _ h9 => h9) rfl dX12_orderOf_45 ?_
      refine lv_iconst (v := 0) hx hb dX12_orderOf_48 (by decide) ?_
      refine r_aald (j := 2) (k := 0) (n := 10) (t0 := 4) (j2 := 3) hx hb hK hP (by decide) rfl rfl (by decide) (by decide) rfl dX12_orderOf_49 ?_
      refine lv_iconst (v := 0) hx hb dX12_orderOf_50 (by decide) ?_
      refine r_iald (j := 3) (k := 0) (n := 200) (x := nI (rb w8)) hx hb hK hP (by decide) rfl (by decide) (by decide) (by rw [hA8]; exact pg_b h7_0) dX12_orderOf_51 ?_
      refine lv_aload_n hx hb dX12_orderOf_52 rfl (lv_at hl 1 rfl) ?_
      refine r_get (v := .ref (b 2)) hx hb (ly_X12 hE) hown hK hP rfl 4 (by decide) (wd_1385 hE) (fun _ h9 => h9) rfl dX12_orderOf_53 ?_
      refine lv_iconst (v := 0) hx hb dX12_orderOf_56 (by decide) ?_
      refine r_aald (j := 2) (k := 0) (n := 10) (t0 := 4) (j2 := 3) hx hb hK hP (by decide) rfl rfl (by decide) (by decide) rfl dX12_orderOf_57 ?_
      refine lv_iconst (v := 0) hx hb dX12_orderOf_58 (by decide) ?_
      refine vp_callSi (va_Run.run (va_runS (As := [.ref (b 3), .int (nI 0)]) (rest := [.int (nI (rb w8)), .ref (b 0), .ref (b 0)]) ⟨hx, hb, hml, hown, noTs⟩ (r_X12_number l dC dI H.size cs b u7 a hA9 3 (by decide) w8 hA8 0 (by first | assumption | omega | rfl | (congr 1; omega))) ⟨cbE 2 (wd_1664 hE) (wd_126 hE) (wd_1662 hE) rfl rfl (by decide +kernel) ⟨Nat.le_of_ble_eq_true rfl, Nat.le_of_ble_eq_true rfl⟩, (wd_1663 hE)⟩ ⟨PR.blind, (r_pre (av := [.ref (b 3), .int (nI 0)]) hK hP hJ hE)⟩ rfl rfl hl.1 rfl (lv_room (Nat.le_of_ble_eq_true rfl)) dX12_orderOf_59 ⟨Nat.le_of_ble_eq_true rfl, Nat.le_of_ble_eq_true rfl⟩)) (fun r13 hr13 => ?_)
      have hln := lg_num LGA (by omega)
      rw [← (show r13 = w8 2 from hr13)] at hln
      obtain ⟨nx14, hi14, hj14⟩ := z_ex (x := r13) (n := od a (rb w8)) (by omega) (by omega)
      subst hi14
      have hti15 := nI_toInt (n := nx14) (by omega)
      refine vp_callSi (va_Run.run (va_runV (As := [.int (nI (rb w8)), .int (nI nx14)]) (rest := [.ref (b 0)]) ⟨hx, hb, hml, hown, noTs⟩ (r_X12_orderIn l dC dI H.size cs b u7 a hA9 (rb w8) nx14 (by first | assumption | omega | rfl | (congr 1; omega)) (by first | assumption | omega | rfl | (congr 1; omega)) (by first | assumption | omega | rfl | (congr 1; omega))) ⟨cbE 2 (wd_1789 hE) (wd_126 hE) (wd_1786 hE) rfl rfl (by decide +kernel) ⟨Nat.le_of_ble_eq_true rfl, Nat.le_of_ble_eq_true rfl⟩, (wd_1788 hE), (wd_96 hE)⟩ ⟨PR.blind, r_recv hK hP rfl, (r_pre (av := [.ref (b 0), .int (nI (rb w8)), .int (nI nx14)]) hK hP hJ hE)⟩ rfl rfl hl.1 rfl (lv_room (Nat.le_of_ble_eq_true rfl)) dX12_orderOf_62 ⟨Nat.le_of_ble_eq_true rfl, Nat.le_of_ble_eq_true rfl⟩)) (fun r16 hr16 => ?_)
      refine rc_i hAL hS hA (va_runV (As := [.int r16]) (rest := []) ⟨hx, hb, hml, hown, noTs⟩ (r_X12_gives l dC dI H.size cs b u7 a hA9 r16) ⟨cbE 1 (wd_1621 hE) (wd_126 hE) (wd_1618 hE) rfl rfl (by decide +kernel) ⟨Nat.le_of_ble_eq_true rfl, Nat.le_of_ble_eq_true rfl⟩, (wd_1620 hE), (wd_80 hE)⟩ ⟨PR.blind, r_recv hK hP rfl, (r_pre (av := [.ref (b 0), .int r16]) hK hP hJ hE)⟩ rfl rfl hl.1 rfl (lv_room (Nat.le_of_ble_eq_true rfl)) dX12_orderOf_65 ⟨Nat.le_of_ble_eq_true rfl, Nat.le_of_ble_eq_true rfl⟩) (fun r17 u17 H locs hpo17 hP hS => ?_)
      obtain ⟨hr17, hq17⟩ := hpo17
      have hA18 := (hq17.1 1 List.not_mem_nil).trans hA9
      have hA19 := (hq17.1 3 List.not_mem_nil).trans hA8
      have hfr := FR.step hfr hq17 (fun _ h => absurd h List.not_mem_nil) (by decide) (fun h => rfl)
      refine W.eq (g2 := F0 m 68 ls [.int r16]) (by rw [hr17]) ?_
      exact W.iret (v := r16) hx hb hr (fun t ht hW => ⟨⟨r16, u17, rfl, ⟨trivial, hfr⟩, (show va_P (dC, dI) vwCl (rW cs b u17) t.heap by rw [ht]; exact hP)⟩, hS.F ht⟩) hS.2.2 dX12_orderOf_68
    · have c11 := mt (b_le (nI_toInt (n := rn w8) (by omega)) (show Int32.toInt 0 = 0 from rfl)).mpr c11
      refine lv_iconst (v := 0) hx hb dX12_orderOf_39 (by decide) ?_
      refine lv_goto (tgt := 65) hx hb dX12_orderOf_40 (by decide) ?_
      refine rc_i hAL hS hA (va_runV (As := [.int 0]) (rest := []) ⟨hx, hb, hml, hown, noTs⟩ (r_X12_gives l dC dI H.size cs b u7 a hA9 0) ⟨cbE 1 (wd_1621 hE) (wd_126 hE) (wd_1618 hE) rfl rfl (by decide +kernel) ⟨Nat.le_of_ble_eq_true rfl, Nat.le_of_ble_eq_true rfl⟩, (wd_1620 hE), (wd_80 hE)⟩ ⟨PR.blind, r_recv hK hP rfl, (r_pre (av := [.ref (b 0), .int 0]) hK hP hJ hE)⟩ rfl rfl hl.1 rfl (lv_room (Nat.le_of_ble_eq_true rfl)) dX12_orderOf_65 ⟨Nat.le_of_ble_eq_true rfl, Nat.le_of_ble_eq_true rfl⟩) (fun r20 u20 H locs hpo20 hP hS => ?_)
      obtain ⟨hr20, hq20⟩ := hpo20
      have hA21 := (hq20.1 1 List.not_mem_nil).trans hA9
      have hA22 := (hq20.1 3 List.not_mem_nil).trans hA8
      have hfr := FR.step hfr hq20 (fun _ h => absurd h List.not_mem_nil) (by decide) (fun h => rfl)
      subst hr20
      exact W.iret (v := 0) hx hb hr (fun t ht hW => ⟨⟨0, u20, rfl, ⟨trivial, hfr⟩, (show va_P (dC, dI) vwCl (rW cs b u20) t.heap by rw [ht]; exact hP)⟩, hS.F ht⟩) hS.2.2 dX12_orderOf_68
  · refine lv_istore_n (lv' := [(2, .int 2), (0, .ref (b 0)), (1, .int x)]) hx hb dX12_orderOf_5 rfl hl (by decide) rfl (fun ls hl => ?_)
    refine lv_iload_n hx hb dX12_orderOf_6 rfl (lv_at hl 0 rfl) ?_
    refine lv_if_le (tgt := 16) hx hb dX12_orderOf_7 (by decide) (fun c23 => absurd c23 (by decide)) (fun c23 => ?_)
    refine lv_aload_n hx hb dX12_orderOf_10 rfl (lv_at hl 1 rfl) ?_
    refine lv_iload_n hx hb dX12_orderOf_11 rfl (lv_at hl 0 rfl) ?_
    refine rc_i hAL hS hA (va_runV (As := [.int 2]) (rest := []) ⟨hx, hb, hml, hown, noTs⟩ (r_X12_refuse l dC dI H.size cs b u2 a hA3 2) ⟨cbE 1 (wd_1498 hE) (wd_126 hE) (wd_1495 hE) rfl rfl (by decide +kernel) ⟨Nat.le_of_ble_eq_true rfl, Nat.le_of_ble_eq_true rfl⟩, (wd_1497 hE), (wd_54 hE)⟩ ⟨PR.blind, r_recv hK hP rfl, (r_pre (av := [.ref (b 0), .int 2]) hK hP hJ hE)⟩ rfl rfl hl.1 rfl (lv_room (Nat.le_of_ble_eq_true rfl)) dX12_orderOf_12 ⟨Nat.le_of_ble_eq_true rfl, Nat.le_of_ble_eq_true rfl⟩) (fun r24 u24 H locs hpo24 hP hS => ?_)
    obtain ⟨hr24, hq24⟩ := hpo24
    have hA25 := (hq24.1 1 List.not_mem_nil).trans hA3
    have hfr := FR.step hfr hq24 (fun _ h => absurd h List.not_mem_nil) (by decide) (fun h => rfl)
    subst hr24
    exact W.iret (v := -1) hx hb hr (fun t ht hW => ⟨⟨-1, u24, rfl, ⟨trivial, hfr⟩, (show va_P (dC, dI) vwCl (rW cs b u24) t.heap by rw [ht]; exact hP)⟩, hS.F ht⟩) hS.2.2 dX12_orderOf_15
  · refine lv_istore_n (lv' := [(2, .int 4), (0, .ref (b 0)), (1, .int x)]) hx hb dX12_orderOf_5 rfl hl (by decide) rfl (fun ls hl => ?_)
    refine lv_iload_n hx hb dX12_orderOf_6 rfl (lv_at hl 0 rfl) ?_
    refine lv_if_le (tgt := 16) hx hb dX12_orderOf_7 (by decide) (fun c26 => absurd c26 (by decide)) (fun c26 => ?_)
    refine lv_aload_n hx hb dX12_orderOf_10 rfl (lv_at hl 1 rfl) ?_
    refine lv_iload_n hx hb dX12_orderOf_11 rfl (lv_at hl 0 rfl) ?_
    refine rc_i hAL hS hA (va_runV (As := [.int 4]) (rest := []) ⟨hx, hb, hml, hown, noTs⟩ (r_X12_refuse l dC dI H.size cs b u2 a hA3 4) ⟨cbE 1 (wd_1498 hE) (wd_126 hE) (wd_1495 hE) rfl rfl (by decide +kernel) ⟨Nat.le_of_ble_eq_true rfl, Nat.le_of_ble_eq_true rfl⟩, (wd_1497 hE), (wd_54 hE)⟩ ⟨PR.blind, r_recv hK hP rfl, (r_pre (av := [.ref (b 0), .int 4]) hK hP hJ hE)⟩ rfl rfl hl.1 rfl (lv_room (Nat.le_of_ble_eq_true rfl)) dX12_orderOf_12 ⟨Nat.le_of_ble_eq_true rfl, Nat.le_of_ble_eq_true rfl⟩) (fun r27 u27 H locs hpo27 hP hS => ?_)
    obtain ⟨hr27, hq27⟩ := hpo27
    have hA28 := (hq27.1 1 List.not_mem_nil).trans hA3
    have hfr := FR.step hfr hq27 (fun _ h => absurd h List.not_mem_nil) (by decide) (fun h => rfl)
    subst hr27
    exact W.iret (v := -1) hx hb hr (fun t ht hW => ⟨⟨-1, u27, rfl, ⟨trivial, hfr⟩, (show va_P (dC, dI) vwCl (rW cs b u27) t.heap by rw [ht]; exact hP)⟩, hS.F ht⟩) hS.2.2 dX12_orderOf_15
