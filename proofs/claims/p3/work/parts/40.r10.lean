set_option maxHeartbeats 4000000 in
set_option maxRecDepth 100000 in
theorem r_X12_areKin (l : Launch) (dC : Nat → ClassId) (dI : Nat → Nat → Nat) (sz : Nat) (cs : Nat → ClassId) (b : Nat → Nat) (u : RS) (a : Nat → Int32) (hA1 : rA u 1 = a) (wd : Nat) (we : Nat) (hp0 : BG a) (hp1 : wd < wN a) (hp2 : we < wN a) (hp3 : vend a (row a wd) = rb (row a wd)) (hp4 : vend a (row a we) = rb (row a we)) : Met l yX12_areKin [.code yX12_areKin cX12_areKin 5 (some .boolean)] ({ frames := 7, cells := 0, slots := 0, locals := 280 }) (PR [.ref (b 0), .int (nI wd), .int (nI we)] sz dC dI cs b u) (va_Qi (fun (r : Int32) (u' : RS) => ((r = 1 ∧ (True)) ∨ (r = 0 ∧ (True))) ∧ FR [3, 4, 5, 6, 7, 8, 9, 10, 11, 12, 13, 14, 17, 18, 19, 20] [5, 21, 22] false u u') (BR dC dI cs b) (AR b sz)) 0 0 (AR b sz) := sorry

set_option maxHeartbeats 4000000 in
set_option maxRecDepth 100000 in
theorem r_X12_wrongLoops (l : Launch) (dC : Nat → ClassId) (dI : Nat → Nat → Nat) (sz : Nat) (cs : Nat → ClassId) (b : Nat → Nat) (u : RS) (a : Nat → Int32) (hA1 : rA u 1 = a) (x : Int32) (y : Int32) (hp0 : BG a) : Met l yX12_wrongLoops [.code yX12_wrongLoops cX12_wrongLoops 4 (some .int)] ({ frames := 7, cells := 0, slots := 0, locals := 280 }) (PR [.ref (b 0), .int x, .int y] sz dC dI cs b u) (va_Qi (fun (r : Int32) (u' : RS) => ((r = 0 ∧ (∃ n : Nat, x = nI n ∧ ∃ k : Nat, y = nI k ∧ n < wN a ∧ k < wN a ∧ vend a (row a n) = rb (row a n) ∧ vend a (row a k) = rb (row a k))) ∨ (r = 2 ∧ (True)) ∨ (r = 4 ∧ (True))) ∧ FR [12] [] false u u') (BR dC dI cs b) (AR b sz)) 0 0 (AR b sz) := by
  refine Met.ofW (cc := cX12_wrongLoops) (maxL := 4) (ret := (some .int)) (by decide) rfl ?_
  intro p e s m args below meth c s₁ B hml hv
  obtain ⟨rfl, hsz, hP, hK, hJ, hE⟩ := hv
  have hx := B.exec
  have hb := B.bytes
  have hr := B.returns
  have hown : s.vm.findClass RX12 = some m.cls := findClass_of_methodNamed B.named
  have hlocks := B.notSynchronized
  subst hsz
  have hAL : ∀ i, i < 108 → AR b s.heap.size (b i) := fun i h => Or.inl ⟨i, h, rfl⟩
  have hA : ∀ q : Nat, s.heap.size ≤ q → AR b s.heap.size q := fun q h => Or.inr h
  have hS : va_S (AR b s.heap.size) s.heap s.heap [] := va_S.rf
  have hfr : FR [12] [] false u u := FR.refl
  have hl := lv_entry ([.ref (b 0), .int x, .int y]) (n := 4) (Nat.le_of_ble_eq_true rfl)
  rw [lg_entry_eq]
  generalize (lg_sl ([.ref (b 0), .int x, .int y]) ++ List.replicate (4 - (lg_sl ([.ref (b 0), .int x, .int y])).length) Slot.unset).toArray = ls at hl ⊢
  have hl : lv_has ls 4 [(0, .ref (b 0)), (1, .int x), (2, .int y)] := hl
  have hB := hp0
  have hG := bg_g hp0
  have ha1 := gg_le hG
  have ha1b := bg_w hp0
  refine lv_aload_n hx hb dX12_wrongLoops_0 rfl (lv_at hl 0 rfl) ?_
  refine lv_iload_n hx hb dX12_wrongLoops_1 rfl (lv_at hl 1 rfl) ?_
  refine vp_callSi (va_Run.run (va_runV (As := [.int x]) (rest := []) ⟨hx, hb, hml, hown, noTs⟩ (r_X12_isWord l dC dI s.heap.size cs b u a hA1 x (by first | assumption | omega | rfl | (congr 1; omega))) ⟨cbE 1 (wd_1653 hE) (wd_126 hE) (wd_1650 hE) rfl rfl (by decide +kernel) ⟨Nat.le_of_ble_eq_true rfl, Nat.le_of_ble_eq_true rfl⟩, (wd_1652 hE), (wd_83 hE)⟩ ⟨PR.blind, r_recv hK hP rfl, (r_pre (av := [.ref (b 0), .int x]) hK hP hJ hE)⟩ rfl rfl hl.1 rfl (lv_room (Nat.le_of_ble_eq_true rfl)) dX12_wrongLoops_2 ⟨Nat.le_of_ble_eq_true rfl, Nat.le_of_ble_eq_true rfl⟩)) (fun r2 hr2 => ?_)
  rcases hr2 with ⟨rfl, hb2⟩ | ⟨rfl, hb2⟩
  · obtain ⟨n2, hbe2_1, hb2⟩ := hb2
    subst hbe2_1
    have hti3 := nI_toInt (n := n2) (by omega)
    refine lv_if_eq (tgt := 16) hx hb dX12_wrongLoops_5 (by decide) (fun c4 => absurd c4 (by decide)) (fun c4 => ?_)
    refine lv_aload_n hx hb dX12_wrongLoops_8 rfl (lv_at hl 0 rfl) ?_
    refine lv_iload_n hx hb dX12_wrongLoops_9 rfl (lv_at hl 2 rfl) ?_
    refine vp_callSi (va_Run.run (va_runV (As := [.int y]) (rest := []) ⟨hx, hb, hml, hown, noTs⟩ (r_X12_isWord l dC dI s.heap.size cs b u a hA1 y (by first | assumption | omega | rfl | (congr 1; omega))) ⟨cbE 1 (wd_1653 hE) (wd_126 hE) (wd_1650 hE) rfl rfl (by decide +kernel) ⟨Nat.le_of_ble_eq_true rfl, Nat.le_of_ble_eq_true rfl⟩, (wd_1652 hE), (wd_83 hE)⟩ ⟨PR.blind, r_recv hK hP rfl, (r_pre (av := [.ref (b 0), .int y]) hK hP hJ hE)⟩ rfl rfl hl.1 rfl (lv_room (Nat.le_of_ble_eq_true rfl)) dX12_wrongLoops_10 ⟨Nat.le_of_ble_eq_true rfl, Nat.le_of_ble_eq_true rfl⟩)) (fun r5 hr5 => ?_)
    rcases hr5 with ⟨rfl, hb5⟩ | ⟨rfl, hb5⟩
    · obtain ⟨n5, hbe5_1, hb5⟩ := hb5
      subst hbe5_1
      have hti6 := nI_toInt (n := n5) (by omega)
      refine lv_if_ne (tgt := 20) hx hb dX12_wrongLoops_13 (by decide) (fun c7 => ?_) (fun c7 => absurd c7 (by decide))
      refine lv_aload_n hx hb dX12_wrongLoops_20 rfl (lv_at hl 0 rfl) ?_
      refine lv_iload_n hx hb dX12_wrongLoops_21 rfl (lv_at hl 1 rfl) ?_
      refine rc_i hAL hS hA (va_runV (As := [.int (nI n2)]) (rest := []) ⟨hx, hb, hml, hown, noTs⟩ (r_X12_wrongLoop l dC dI s.heap.size cs b u a hA1 (nI n2) (by first | assumption | omega | rfl | (congr 1; omega))) ⟨cbE 1 (wd_1781 hE) (wd_126 hE) (wd_1778 hE) rfl rfl (by decide +kernel) ⟨Nat.le_of_ble_eq_true rfl, Nat.le_of_ble_eq_true rfl⟩, (wd_1780 hE), (wd_95 hE)⟩ ⟨PR.blind, r_recv hK hP rfl, (r_pre (av := [.ref (b 0), .int (nI n2)]) hK hP hJ hE)⟩ rfl rfl hl.1 rfl (lv_room (Nat.le_of_ble_eq_true rfl)) dX12_wrongLoops_22 ⟨Nat.le_of_ble_eq_true rfl, Nat.le_of_ble_eq_true rfl⟩) (fun r8 u8 H locs hpo8 hP hS => ?_)
      obtain ⟨hr8, hq8⟩ := hpo8
      have hA9 := (hq8.1 1 (by decide)).trans hA1
      have hfr := FR.step hfr hq8 (by decide) (fun _ h => absurd h List.not_mem_nil) (fun h => rfl)
      rcases hr8 with ⟨rfl, hb8⟩ | ⟨rfl, hb8⟩ | ⟨rfl, hb8⟩
      · obtain ⟨n8, hbe8_1, hb8⟩ := hb8
        have hbe8_1 := (nI_eq (by omega) (by omega)).mp hbe8_1
        subst hbe8_1
        refine lv_istore_n (lv' := [(3, .int 0), (0, .ref (b 0)), (1, .int (nI n2)), (2, .int (nI n5))]) hx hb dX12_wrongLoops_25 rfl hl (by decide) rfl (fun ls hl => ?_)
        refine lv_iload_n hx hb dX12_wrongLoops_26 rfl (lv_at hl 0 rfl) ?_
        refine lv_if_le (tgt := 34) hx hb dX12_wrongLoops_27 (by decide) (fun c10 => ?_) (fun c10 => absurd c10 (by decide))
        refine lv_aload_n hx hb dX12_wrongLoops_34 rfl (lv_at hl 1 rfl) ?_
        refine lv_iload_n hx hb dX12_wrongLoops_35 rfl (lv_at hl 3 rfl) ?_
        refine rc_i hAL hS hA (va_runV (As := [.int (nI n5)]) (rest := []) ⟨hx, hb, hml, hown, noTs⟩ (r_X12_wrongLoop l dC dI H.size cs b u8 a hA9 (nI n5) (by first | assumption | omega | rfl | (congr 1; omega))) ⟨cbE 1 (wd_1781 hE) (wd_126 hE) (wd_1778 hE) rfl rfl (by decide +kernel) ⟨Nat.le_of_ble_eq_true rfl, Nat.le_of_ble_eq_true rfl⟩, (wd_1780 hE), (wd_95 hE)⟩ ⟨PR.blind, r_recv hK hP rfl, (r_pre (av := [.ref (b 0), .int (nI n5)]) hK hP hJ hE)⟩ rfl rfl hl.1 rfl (lv_room (Nat.le_of_ble_eq_true rfl)) dX12_wrongLoops_36 ⟨Nat.le_of_ble_eq_true rfl, Nat.le_of_ble_eq_true rfl⟩) (fun r11 u11 H locs hpo11 hP hS => ?_)
        obtain ⟨hr11, hq11⟩ := hpo11
        have hA12 := (hq11.1 1 (by decide)).trans hA9
        have hfr := FR.step hfr hq11 (by decide) (fun _ h => absurd h List.not_mem_nil) (fun h => rfl)
        rcases hr11 with ⟨rfl, hb11⟩ | ⟨rfl, hb11⟩ | ⟨rfl, hb11⟩
        · obtain ⟨n11, hbe11_1, hb11⟩ := hb11
          have hbe11_1 := (nI_eq (by omega) (by omega)).mp hbe11_1
          subst hbe11_1
          exact W.iret (v := 0) hx hb hr (fun t ht hW => ⟨⟨0, u11, rfl, ⟨Or.inl ⟨rfl, by refine ⟨_, rfl, _, rfl, ?_, ?_, ?_, ?_⟩ <;> omega⟩, hfr⟩, (show va_P (dC, dI) vwCl (rW cs b u11) t.heap by rw [ht]; exact hP)⟩, hS.F ht⟩) hS.2.2 dX12_wrongLoops_39
        · exact W.iret (v := 2) hx hb hr (fun t ht hW => ⟨⟨2, u11, rfl, ⟨Or.inr (Or.inl ⟨rfl, by trivial⟩), hfr⟩, (show va_P (dC, dI) vwCl (rW cs b u11) t.heap by rw [ht]; exact hP)⟩, hS.F ht⟩) hS.2.2 dX12_wrongLoops_39
        · exact W.iret (v := 4) hx hb hr (fun t ht hW => ⟨⟨4, u11, rfl, ⟨Or.inr (Or.inr (⟨rfl, by trivial⟩)), hfr⟩, (show va_P (dC, dI) vwCl (rW cs b u11) t.heap by rw [ht]; exact hP)⟩, hS.F ht⟩) hS.2.2 dX12_wrongLoops_39
      · refine lv_istore_n (lv' := [(3, .int 2), (0, .ref (b 0)), (1, .int (nI n2)), (2, .int (nI n5))]) hx hb dX12_wrongLoops_25 rfl hl (by decide) rfl (fun ls hl => ?_)
        refine lv_iload_n hx hb dX12_wrongLoops_26 rfl (lv_at hl 0 rfl) ?_
        refine lv_if_le (tgt := 34) hx hb dX12_wrongLoops_27 (by decide) (fun c13 => absurd c13 (by decide)) (fun c13 => ?_)
        refine lv_iload_n hx hb dX12_wrongLoops_30 rfl (lv_at hl 0 rfl) ?_
        refine lv_goto (tgt := 39) hx hb dX12_wrongLoops_31 (by decide) ?_
        exact W.iret (v := 2) hx hb hr (fun t ht hW => ⟨⟨2, u8, rfl, ⟨Or.inr (Or.inl ⟨rfl, by trivial⟩), hfr⟩, (show va_P (dC, dI) vwCl (rW cs b u8) t.heap by rw [ht]; exact hP)⟩, hS.F ht⟩) hS.2.2 dX12_wrongLoops_39
      · refine lv_istore_n (lv' := [(3, .int 4), (0, .ref (b 0)), (1, .int (nI n2)), (2, .int (nI n5))]) hx hb dX12_wrongLoops_25 rfl hl (by decide) rfl (fun ls hl => ?_)
        refine lv_iload_n hx hb dX12_wrongLoops_26 rfl (lv_at hl 0 rfl) ?_
        refine lv_if_le (tgt := 34) hx hb dX12_wrongLoops_27 (by decide) (fun c14 => absurd c14 (by decide)) (fun c14 => ?_)
        refine lv_iload_n hx hb dX12_wrongLoops_30 rfl (lv_at hl 0 rfl) ?_
        refine lv_goto (tgt := 39) hx hb dX12_wrongLoops_31 (by decide) ?_
        exact W.iret (v := 4) hx hb hr (fun t ht hW => ⟨⟨4, u8, rfl, ⟨Or.inr (Or.inr (⟨rfl, by trivial⟩)), hfr⟩, (show va_P (dC, dI) vwCl (rW cs b u8) t.heap by rw [ht]; exact hP)⟩, hS.F ht⟩) hS.2.2 dX12_wrongLoops_39
    · refine lv_if_ne (tgt := 20) hx hb dX12_wrongLoops_13 (by decide) (fun c15 => absurd c15 (by decide)) (fun c15 => ?_)
      refine lv_iconst (v := 2) hx hb dX12_wrongLoops_16 (by decide) ?_
      refine lv_goto (tgt := 25) hx hb dX12_wrongLoops_17 (by decide) ?_
      refine lv_istore_n (lv' := [(3, .int 2), (0, .ref (b 0)), (1, .int (nI n2)), (2, .int y)]) hx hb dX12_wrongLoops_25 rfl hl (by decide) rfl (fun ls hl => ?_)
      refine lv_iload_n hx hb dX12_wrongLoops_26 rfl (lv_at hl 0 rfl) ?_
      refine lv_if_le (tgt := 34) hx hb dX12_wrongLoops_27 (by decide) (fun c16 => absurd c16 (by decide)) (fun c16 => ?_)
      refine lv_iload_n hx hb dX12_wrongLoops_30 rfl (lv_at hl 0 rfl) ?_
      refine lv_goto (tgt := 39) hx hb dX12_wrongLoops_31 (by decide) ?_
      exact W.iret (v := 2) hx hb hr (fun t ht hW => ⟨⟨2, u, rfl, ⟨Or.inr (Or.inl ⟨rfl, by trivial⟩), hfr⟩, (show va_P (dC, dI) vwCl (rW cs b u) t.heap by rw [ht]; exact hP)⟩, hS.F ht⟩) hS.2.2 dX12_wrongLoops_39
  · refine lv_if_eq (tgt := 16) hx hb dX12_wrongLoops_5 (by decide) (fun c17 => ?_) (fun c17 => absurd c17 (by decide))
    refine lv_iconst (v := 2) hx hb dX12_wrongLoops_16 (by decide) ?_
    refine lv_goto (tgt := 25) hx hb dX12_wrongLoops_17 (by decide) ?_
    refine lv_istore_n (lv' := [(3, .int 2), (0, .ref (b 0)), (1, .int x), (2, .int y)]) hx hb dX12_wrongLoops_25 rfl hl (by decide) rfl (fun ls hl => ?_)
    refine lv_iload_n hx hb dX12_wrongLoops_26 rfl (lv_at hl 0 rfl) ?_
    refine lv_if_le (tgt := 34) hx hb dX12_wrongLoops_27 (by decide) (fun c18 => absurd c18 (by decide)) (fun c18 => ?_)
    refine lv_iload_n hx hb dX12_wrongLoops_30 rfl (lv_at hl 0 rfl) ?_
    refine lv_goto (tgt := 39) hx hb dX12_wrongLoops_31 (by decide) ?_
    exact W.iret (v := 2) hx hb hr (fun t ht hW => ⟨⟨2, u, rfl, ⟨Or.inr (Or.inl ⟨rfl, by trivial⟩), hfr⟩, (show va_P (dC, dI) vwCl (rW cs b u) t.heap by rw [ht]; exact hP)⟩, hS.F ht⟩) hS.2.2 dX12_wrongLoops_39

set_option maxHeartbeats 4000000 in
set_option maxRecDepth 100000 in
theorem r_X12_kin (l : Launch) (dC : Nat → ClassId) (dI : Nat → Nat → Nat) (sz : Nat) (cs : Nat → ClassId) (b : Nat → Nat) (u : RS) (a : Nat → Int32) (hA1 : rA u 1 = a) (x : Int32) (y : Int32) (hp0 : BG a) : Met l yX12_kin [.code yX12_kin cX12_kin 4 (some .int)] ({ frames := 8, cells := 0, slots := 0, locals := 320 }) (PR [.ref (b 0), .int x, .int y] sz dC dI cs b u) (va_Qi (fun (r : Int32) (u' : RS) => (True) ∧ FR [3, 4, 5, 6, 7, 8, 9, 10, 11, 12, 13, 14, 17, 18, 19, 20] [1, 5, 21, 22] true u u') (BR dC dI cs b) (AR b sz)) 0 0 (AR b sz) := by
  refine Met.ofW (cc := cX12_kin) (maxL := 4) (ret := (some .int)) (by decide) rfl ?_
  intro p e s m args below meth c s₁ B hml hv
  obtain ⟨rfl, hsz, hP, hK, hJ, hE⟩ := hv
  have hx := B.exec
  have hb := B.bytes
  have hr := B.returns
  have hown : s.vm.findClass RX12 = some m.cls := findClass_of_methodNamed B.named
  have hlocks := B.notSynchronized
  subst hsz
  have hAL : ∀ i, i < 108 → AR b s.heap.size (b i) := fun i h => Or.inl ⟨i, h, rfl⟩
  have hA : ∀ q : Nat, s.heap.size ≤ q → AR b s.heap.size q := fun q h => Or.inr h
  have hS : va_S (AR b s.heap.size) s.heap s.heap [] := va_S.rf
  have hfr : FR [3, 4, 5, 6, 7, 8, 9, 10, 11, 12, 13, 14, 17, 18, 19, 20] [1, 5, 21, 22] true u u := FR.refl
  have hl := lv_entry ([.ref (b 0), .int x, .int y]) (n := 4) (Nat.le_of_ble_eq_true rfl)
  rw [lg_entry_eq]
  generalize (lg_sl ([.ref (b 0), .int x, .int y]) ++ List.replicate (4 - (lg_sl ([.ref (b 0), .int x, .int y])).length) Slot.unset).toArray = ls at hl ⊢
  have hl : lv_has ls 4 [(0, .ref (b 0)), (1, .int x), (2, .int y)] := hl
  have hB := hp0
  have hG := bg_g hp0
  have ha1 := gg_le hG
  have ha1b := bg_w hp0
  refine lv_aload_n hx hb dX12_kin_0 rfl (lv_at hl 0 rfl) ?_
  refine lv_iload_n hx hb dX12_kin_1 rfl (lv_at hl 1 rfl) ?_
  refine lv_iload_n hx hb dX12_kin_2 rfl (lv_at hl 2 rfl) ?_
  refine rc_i hAL hS hA (va_runV (As := [.int x, .int y]) (rest := []) ⟨hx, hb, hml, hown, noTs⟩ (r_X12_wrongLoops l dC dI s.heap.size cs b u a hA1 x y (by first | assumption | omega | rfl | (congr 1; omega))) ⟨cbE 2 (wd_1800 hE) (wd_126 hE) (wd_1797 hE) rfl rfl (by decide +kernel) ⟨Nat.le_of_ble_eq_true rfl, Nat.le_of_ble_eq_true rfl⟩, (wd_1799 hE), (wd_97 hE)⟩ ⟨PR.blind, r_recv hK hP rfl, (r_pre (av := [.ref (b 0), .int x, .int y]) hK hP hJ hE)⟩ rfl rfl hl.1 rfl (lv_room (Nat.le_of_ble_eq_true rfl)) dX12_kin_3 ⟨Nat.le_of_ble_eq_true rfl, Nat.le_of_ble_eq_true rfl⟩) (fun r2 u2 H locs hpo2 hP hS => ?_)
  obtain ⟨hr2, hq2⟩ := hpo2
  have hA3 := (hq2.1 1 (by decide)).trans hA1
  have hfr := FR.step hfr hq2 (by decide) (fun _ h => absurd h List.not_mem_nil) (fun h => rfl)
  rcases hr2 with ⟨rfl, hb2⟩ | ⟨rfl, hb2⟩ | ⟨rfl, hb2⟩
  · obtain ⟨n2, hbe2_1, hb2⟩ := hb2
    subst hbe2_1
    have hti4 := nI_toInt (n := n2) (by omega)
    obtain ⟨n2_2, hbe2_2, hb2⟩ := hb2
    subst hbe2_2
    have hti5 := nI_toInt (n := n2_2) (by omega)
    refine lv_istore_n (lv' := [(3, .int 0), (0, .ref (b 0)), (1, .int (nI n2)), (2, .int (nI n2_2))]) hx hb dX12_kin_6 rfl hl (by decide) rfl (fun ls hl => ?_)
    refine lv_iload_n hx hb dX12_kin_7 rfl (lv_at hl 0 rfl) ?_
    refine lv_if_le (tgt := 19) hx hb dX12_kin_8 (by decide) (fun c6 => ?_) (fun c6 => absurd c6 (by decide))
    refine lv_aload_n hx hb dX12_kin_19 rfl (lv_at hl 1 rfl) ?_
    refine lv_aload_n hx hb dX12_kin_20 rfl (lv_at hl 1 rfl) ?_
    refine lv_iload_n hx hb dX12_kin_21 rfl (lv_at hl 2 rfl) ?_
    refine lv_iload_n hx hb dX12_kin_22 rfl (lv_at hl 3 rfl) ?_
    refine rc_i hAL hS hA (va_runV (As := [.int (nI n2), .int (nI n2_2)]) (rest := [.ref (b 0)]) ⟨hx, hb, hml, hown, noTs⟩ (r_X12_areKin l dC dI H.size cs b u2 a hA3 n2 n2_2 (by first | assumption | omega | rfl | (congr 1; omega)) (by first | assumption | omega | rfl | (congr 1; omega)) (by first | assumption | omega | rfl | (congr 1; omega)) (by first | assumption | omega | rfl | (congr 1; omega)) (by first | assumption | omega | rfl | (congr 1; omega))) ⟨cbE 2 (wd_1804 hE) (wd_126 hE) (wd_1801 hE) rfl rfl (by decide +kernel) ⟨Nat.le_of_ble_eq_true rfl, Nat.le_of_ble_eq_true rfl⟩, (wd_1803 hE), (wd_98 hE)⟩ ⟨PR.blind, r_recv hK hP rfl, (r_pre (av := [.ref (b 0), .int (nI n2), .int (nI n2_2)]) hK hP hJ hE)⟩ rfl rfl hl.1 rfl (lv_room (Nat.le_of_ble_eq_true rfl)) dX12_kin_23 ⟨Nat.le_of_ble_eq_true rfl, Nat.le_of_ble_eq_true rfl⟩) (fun r7 u7 H locs hpo7 hP hS => ?_)
    obtain ⟨hr7, hq7⟩ := hpo7
    have hA8 := (hq7.1 1 (by decide)).trans hA3
    have hfr := FR.step hfr hq7 (by decide) (by decide) (fun h => rfl)
    rcases hr7 with ⟨rfl, hb7⟩ | ⟨rfl, hb7⟩
    · refine lv_if_eq (tgt := 33) hx hb dX12_kin_26 (by decide) (fun c9 => absurd c9 (by decide)) (fun c9 => ?_)
      refine lv_iconst (v := 1) hx hb dX12_kin_29 (by decide) ?_
      refine lv_goto (tgt := 34) hx hb dX12_kin_30 (by decide) ?_
      refine rc_i hAL hS hA (va_runV (As := [.int 1]) (rest := []) ⟨hx, hb, hml, hown, noTs⟩ (r_X12_gives l dC dI H.size cs b u7 a hA8 1) ⟨cbE 1 (wd_1621 hE) (wd_126 hE) (wd_1618 hE) rfl rfl (by decide +kernel) ⟨Nat.le_of_ble_eq_true rfl, Nat.le_of_ble_eq_true rfl⟩, (wd_1620 hE), (wd_80 hE)⟩ ⟨PR.blind, r_recv hK hP rfl, (r_pre (av := [.ref (b 0), .int 1]) hK hP hJ hE)⟩ rfl rfl hl.1 rfl (lv_room (Nat.le_of_ble_eq_true rfl)) dX12_kin_34 ⟨Nat.le_of_ble_eq_true rfl, Nat.le_of_ble_eq_true rfl⟩) (fun r10 u10 H locs hpo10 hP hS => ?_)
      obtain ⟨hr10, hq10⟩ := hpo10
      have hA11 := (hq10.1 1 List.not_mem_nil).trans hA8
      have hfr := FR.step hfr hq10 (fun _ h => absurd h List.not_mem_nil) (by decide) (fun h => rfl)
      subst hr10
      exact W.iret (v := 1) hx hb hr (fun t ht hW => ⟨⟨1, u10, rfl, ⟨trivial, hfr⟩, (show va_P (dC, dI) vwCl (rW cs b u10) t.heap by rw [ht]; exact hP)⟩, hS.F ht⟩) hS.2.2 dX12_kin_37
    · refine lv_if_eq (tgt := 33) hx hb dX12_kin_26 (by decide) (fun c12 => ?_) (fun c12 => absurd c12 (by decide))
      refine lv_iconst (v := 0) hx hb dX12_kin_33 (by decide) ?_
      refine rc_i hAL hS hA (va_runV (As := [.int 0]) (rest := []) ⟨hx, hb, hml, hown, noTs⟩ (r_X12_gives l dC dI H.size cs b u7 a hA8 0) ⟨cbE 1 (wd_1621 hE) (wd_126 hE) (wd_1618 hE) rfl rfl (by decide +kernel) ⟨Nat.le_of_ble_eq_true rfl, Nat.le_of_ble_eq_true rfl⟩, (wd_1620 hE), (wd_80 hE)⟩ ⟨PR.blind, r_recv hK hP rfl, (r_pre (av := [.ref (b 0), .int 0]) hK hP hJ hE)⟩ rfl rfl hl.1 rfl (lv_room (Nat.le_of_ble_eq_true rfl)) dX12_kin_34 ⟨Nat.le_of_ble_eq_true rfl, Nat.le_of_ble_eq_true rfl⟩) (fun r13 u13 H locs hpo13 hP hS => ?_)
      obtain ⟨hr13, hq13⟩ := hpo13
      have hA14 := (hq13.1 1 List.not_mem_nil).trans hA8
      have hfr := FR.step hfr hq13 (fun _ h => absurd h List.not_mem_nil) (by decide) (fun h => rfl)
      subst hr13
      exact W.iret (v := 0) hx hb hr (fun t ht hW => ⟨⟨0, u13, rfl, ⟨trivial, hfr⟩, (show va_P (dC, dI) vwCl (rW cs b u13) t.heap by rw [ht]; exact hP)⟩, hS.F ht⟩) hS.2.2 dX12_kin_37
  · refine lv_istore_n (lv' := [(3, .int 2), (0, .ref (b 0)), (1, .int x), (2, .int y)]) hx hb dX12_kin_6 rfl hl (by decide) rfl (fun ls hl => ?_)
    refine lv_iload_n hx hb dX12_kin_7 rfl (lv_at hl 0 rfl) ?_
    refine lv_if_le (tgt := 19) hx hb dX12_kin_8 (by decide) (fun c15 => absurd c15 (by decide)) (fun c15 => ?_)
    refine lv_aload_n hx hb dX12_kin_11 rfl (lv_at hl 1 rfl) ?_
    refine lv_iload_n hx hb dX12_kin_12 rfl (lv_at hl 0 rfl) ?_
    refine rc_i hAL hS hA (va_runV (As := [.int 2]) (rest := []) ⟨hx, hb, hml, hown, noTs⟩ (r_X12_refuse l dC dI H.size cs b u2 a hA3 2) ⟨cbE 1 (wd_1498 hE) (wd_126 hE) (wd_1495 hE) rfl rfl (by decide +kernel) ⟨Nat.le_of_ble_eq_true rfl, Nat.le_of_ble_eq_true rfl⟩, (wd_1497 hE), (wd_54 hE)⟩ ⟨PR.blind, r_recv hK hP rfl, (r_pre (av := [.ref (b 0), .int 2]) hK hP hJ hE)⟩ rfl rfl hl.1 rfl (lv_room (Nat.le_of_ble_eq_true rfl)) dX12_kin_13 ⟨Nat.le_of_ble_eq_true rfl, Nat.le_of_ble_eq_true rfl⟩) (fun r16 u16 H locs hpo16 hP hS => ?_)
    obtain ⟨hr16, hq16⟩ := hpo16
    have hA17 := (hq16.1 1 List.not_mem_nil).trans hA3
    have hfr := FR.step hfr hq16 (fun _ h => absurd h List.not_mem_nil) (by decide) (fun h => rfl)
    subst hr16
    refine lv_goto (tgt := 37) hx hb dX12_kin_16 (by decide) ?_
    exact W.iret (v := -1) hx hb hr (fun t ht hW => ⟨⟨-1, u16, rfl, ⟨trivial, hfr⟩, (show va_P (dC, dI) vwCl (rW cs b u16) t.heap by rw [ht]; exact hP)⟩, hS.F ht⟩) hS.2.2 dX12_kin_37
  · refine lv_istore_n (lv' := [(3, .int 4), (0, .ref (b 0)), (1, .int x), (2, .int y)]) hx hb dX12_kin_6 rfl hl (by decide) rfl (fun ls hl => ?_)
    refine lv_iload_n hx hb dX12_kin_7 rfl (lv_at hl 0 rfl) ?_
    refine lv_if_le (tgt := 19) hx hb dX12_kin_8 (by decide) (fun c18 => absurd c18 (by decide)) (fun c18 => ?_)
    refine lv_aload_n hx hb dX12_kin_11 rfl (lv_at hl 1 rfl) ?_
    refine lv_iload_n hx hb dX12_kin_12 rfl (lv_at hl 0 rfl) ?_
    refine rc_i hAL hS hA (va_runV (As := [.int 4]) (rest := []) ⟨hx, hb, hml, hown, noTs⟩ (r_X12_refuse l dC dI H.size cs b u2 a hA3 4) ⟨cbE 1 (wd_1498 hE) (wd_126 hE) (wd_1495 hE) rfl rfl (by decide +kernel) ⟨Nat.le_of_ble_eq_true rfl, Nat.le_of_ble_eq_true rfl⟩, (wd_1497 hE), (wd_54 hE)⟩ ⟨PR.blind, r_recv hK hP rfl, (r_pre (av := [.ref (b 0), .int 4]) hK hP hJ hE)⟩ rfl rfl hl.1 rfl (lv_room (Nat.le_of_ble_eq_true rfl)) dX12_kin_13 ⟨Nat.le_of_ble_eq_true rfl, Nat.le_of_ble_eq_true rfl⟩) (fun r19 u19 H locs hpo19 hP hS => ?_)
    obtain ⟨hr19, hq19⟩ := hpo19
    have hA20 := (hq19.1 1 List.not_mem_nil).trans hA3
    have hfr := FR.step hfr hq19 (fun _ h => absurd h List.not_mem_nil) (by decide) (fun h => rfl)
    subst hr19
    refine lv_goto (tgt := 37) hx hb dX12_kin_16 (by decide) ?_
    exact W.iret (v := -1) hx hb hr (fun t ht hW => ⟨⟨-1, u19, rfl, ⟨trivial, hfr⟩, (show va_P (dC, dI) vwCl (rW cs b u19) t.heap by rw [ht]; exact hP)⟩, hS.F ht⟩) hS.2.2 dX12_kin_37

set_option maxHeartbeats 4000000 in
set_option maxRecDepth 100000 in
theorem r_X12_kinBy (l : Launch) (dC : Nat → ClassId) (dI : Nat → Nat → Nat) (sz : Nat) (cs : Nat → ClassId) (b : Nat → Nat) (u : RS) (a : Nat → Int32) (hA1 : rA u 1 = a) (x : Int32) (y : Int32) (z : Int32) (hp0 : BG a) : Met l yX12_kinBy [.code yX12_kinBy cX12_kinBy 5 (some .int)] ({ frames := 8, cells := 0, slots := 0, locals := 320 }) (PR [.ref (b 0), .int x, .int y, .int z] sz dC dI cs b u) (va_Qi (fun (r : Int32) (u' : RS) => (True) ∧ FR [3, 4, 5, 6, 7, 8, 9, 10, 11, 12, 13, 14, 17, 18, 19, 20] [1, 5, 21, 22] true u u') (BR dC dI cs b) (AR b sz)) 0 0 (AR b sz) := by
  refine Met.ofW (cc := cX12_kinBy) (maxL := 5) (ret := (some .int)) (by decide) rfl ?_
  intro p e s m args below meth c s₁ B hml hv
  obtain ⟨rfl, hsz, hP, hK, hJ, hE⟩ := hv
  have hx := B.exec
  have hb := B.bytes
  have hr := B.returns
  have hown : s.vm.findClass RX12 = some m.cls := findClass_of_methodNamed B.named
  have hlocks := B.notSynchronized
  subst hsz
  have hAL : ∀ i, i < 108 → AR b s.heap.size (b i) := fun i h => Or.inl ⟨i, h, rfl⟩
  have hA : ∀ q : Nat, s.heap.size ≤ q → AR b s.heap.size q := fun q h => Or.inr h
  have hS : va_S (AR b s.heap.size) s.heap s.heap [] := va_S.rf
  have hfr : FR [3, 4, 5, 6, 7, 8, 9, 10, 11, 12, 13, 14, 17, 18, 19, 20] [1, 5, 21, 22] true u u := FR.refl
  have hl := lv_entry ([.ref (b 0), .int x, .int y, .int z]) (n := 5) (Nat.le_of_ble_eq_true rfl)
  rw [lg_entry_eq]
  generalize (lg_sl ([.ref (b 0), .int x, .int y, .int z]) ++ List.replicate (5 - (lg_sl ([.ref (b 0), .int x, .int y, .int z])).length) Slot.unset).toArray = ls at hl ⊢
  have hl : lv_has ls 5 [(0, .ref (b 0)), (1, .int x), (2, .int y), (3, .int z)] := hl
  have hB := hp0
  have hG := bg_g hp0
  have ha1 := gg_le hG
  have ha1b := bg_w hp0
  refine lv_iload_n hx hb dX12_kinBy_0 rfl (lv_at hl 3 rfl) ?_
  refine lv_iconst (v := 0) hx hb dX12_kinBy_1 (by decide) ?_
  refine lv_iconst (v := 1) hx hb dX12_kinBy_2 (by decide) ?_
  refine vp_callSi (va_Run.run (va_runS (As := [.int z, .int 0, .int 1]) (rest := []) ⟨hx, hb, hml, hown, noTs⟩ (r_X12_isFrom l dC dI s.heap.size cs b u a hA1 z 0 1 ((0 : Int)) ((1 : Int)) (show Int32.toInt 0 = 0 from rfl) (show Int32.toInt 1 = 1 from rfl)) ⟨cbE 3 (wd_1494 hE) (wd_126 hE) (wd_1492 hE) rfl rfl (by decide +kernel) ⟨Nat.le_of_ble_eq_true rfl, Nat.le_of_ble_eq_true rfl⟩, (wd_1493 hE)⟩ ⟨PR.blind, (r_pre (av := [.int z, .int 0, .int 1]) hK hP hJ hE)⟩ rfl rfl hl.1 rfl (lv_room (Nat.le_of_ble_eq_true rfl)) dX12_kinBy_3 ⟨Nat.le_of_ble_eq_true rfl, Nat.le_of_ble_eq_true rfl⟩)) (fun r2 hr2 => ?_)
  rcases hr2 with ⟨rfl, hb2⟩ | ⟨rfl, hb2⟩
  · refine lv_if_eq (tgt := 18) hx hb dX12_kinBy_6 (by decide) (fun c3 => absurd c3 (by decide)) (fun c3 => ?_)
    refine lv_aload_n hx hb dX12_kinBy_9 rfl (lv_at hl 0 rfl) ?_
    refine lv_iload_n hx hb dX12_kinBy_10 rfl (lv_at hl 1 rfl) ?_
    refine lv_iload_n hx hb dX12_kinBy_11 rfl (lv_at hl 2 rfl) ?_
    refine rc_i hAL hS hA (va_runV (As := [.int x, .int y]) (rest := []) ⟨hx, hb, hml, hown, noTs⟩ (r_X12_wrongLoops l dC dI s.heap.size cs b u a hA1 x y (by first | assumption | omega | rfl | (congr 1; omega))) ⟨cbE 2 (wd_1800 hE) (wd_126 hE) (wd_1797 hE) rfl rfl (by decide +kernel) ⟨Nat.le_of_ble_eq_true rfl, Nat.le_of_ble_eq_true rfl⟩, (wd_1799 hE), (wd_97 hE)⟩ ⟨PR.blind, r_recv hK hP rfl, (r_pre (av := [.ref (b 0), .int x, .int y]) hK hP hJ hE)⟩ rfl rfl hl.1 rfl (lv_room (Nat.le_of_ble_eq_true rfl)) dX12_kinBy_12 ⟨Nat.le_of_ble_eq_true rfl, Nat.le_of_ble_eq_true rfl⟩) (fun r4 u4 H locs hpo4 hP hS => ?_)
    obtain ⟨hr4, hq4⟩ := hpo4
    have hA5 := (hq4.1 1 (by decide)).trans hA1
    have hfr := FR.step hfr hq4 (by decide) (fun _ h => absurd h List.not_mem_nil) (fun h => rfl)
    rcases hr4 with ⟨rfl, hb4⟩ | ⟨rfl, hb4⟩ | ⟨rfl, hb4⟩
    · obtain ⟨n4, hbe4_1, hb4⟩ := hb4
      subst hbe4_1
      have hti6 := nI_toInt (n := n4) (by omega)
      obtain ⟨n4_2, hbe4_2, hb4⟩ := hb4
      subst hbe4_2
      have hti7 := nI_toInt (n := n4_2) (by omega)
      refine lv_goto (tgt := 19) hx hb dX12_kinBy_15 (by decide) ?_
      refine lv_istore (lv' := [(4, .int 0), (0, .ref (b 0)), (1, .int (nI n4)), (2, .int (nI n4_2)), (3, .int z)]) hx hb dX12_kinBy_19 hl (by decide) rfl (fun ls hl => ?_)
      refine lv_iload hx hb dX12_kinBy_21 (lv_at hl 0 rfl) ?_
      refine lv_if_ne (tgt := 38) hx hb dX12_kinBy_23 (by decide) (fun c8 => absurd c8 (by decide)) (fun c8 => ?_)
      refine lv_aload_n hx hb dX12_kinBy_26 rfl (lv_at hl 1 rfl) ?_
      refine lv_iload_n hx hb dX12_kinBy_27 rfl (lv_at hl 2 rfl) ?_
      refine lv_iload_n hx hb dX12_kinBy_28 rfl (lv_at hl 3 rfl) ?_
      refine rc_i hAL hS hA (va_runV (As := [.int (nI n4), .int (nI n4_2)]) (rest := []) ⟨hx, hb, hml, hown, noTs⟩ (r_X12_areKin l dC dI H.size cs b u4 a hA5 n4 n4_2 (by first | assumption | omega | rfl | (congr 1; omega)) (by first | assumption | omega | rfl | (congr 1; omega)) (by first | assumption | omega | rfl | (congr 1; omega)) (by first | assumption | omega | rfl | (congr 1; omega)) (by first | assumption | omega | rfl | (congr 1; omega))) ⟨cbE 2 (wd_1804 hE) (wd_126 hE) (wd_1801 hE) rfl rfl (by decide +kernel) ⟨Nat.le_of_ble_eq_true rfl, Nat.le_of_ble_eq_true rfl⟩, (wd_1803 hE), (wd_98 hE)⟩ ⟨PR.blind, r_recv hK hP rfl, (r_pre (av := [.ref (b 0), .int (nI n4), .int (nI n4_2)]) hK hP hJ hE)⟩ rfl rfl hl.1 rfl (lv_room (Nat.le_of_ble_eq_true rfl)) dX12_kinBy_29 ⟨Nat.le_of_ble_eq_true rfl, Nat.le_of_ble_eq_true rfl⟩) (fun r9 u9 H locs hpo9 hP hS => ?_)
      obtain ⟨hr9, hq9⟩ := hpo9
      have hA10 := (hq9.1 1 (by decide)).trans hA5
      have hfr := FR.step hfr hq9 (by decide) (by decide) (fun h => rfl)
      rcases hr9 with ⟨rfl, hb9⟩ | ⟨rfl, hb9⟩
      · refine lv_if_ne (tgt := 38) hx hb dX12_kinBy_32 (by decide) (fun c11 => ?_) (fun c11 => absurd c11 (by decide))
        refine lv_iload hx hb dX12_kinBy_38 (lv_at hl 0 rfl) ?_
        refine lv_if_le (tgt := 52) hx hb dX12_kinBy_40 (by decide) (fun c12 => ?_) (fun c12 => absurd c12 (by decide))
        refine lv_aload_n hx hb dX12_kinBy_52 rfl (lv_at hl 1 rfl) ?_
        refine lv_iload_n hx hb dX12_kinBy_53 rfl (lv_at hl 4 rfl) ?_
        refine lv_if_ne (tgt := 64) hx hb dX12_kinBy_54 (by decide) (fun c13 => ?_) (fun c13 => ?_)
        · have c13 := mt (b_eq (rfl : Int32.toInt z = _) (show Int32.toInt 0 = 0 from rfl)).mpr c13
          refine lv_aload_n hx hb dX12_kinBy_64 rfl (lv_at hl 1 rfl) ?_
          obtain ⟨y14, hy14⟩ : ∃ z : Int32, rF u9 22 = z := ⟨_, rfl⟩
          refine r_get (v := .int y14) hx hb (ly_X12 hE) hown hK hP rfl 22 (by decide) (wd_1403 hE) (fun _ h9 => h9) (congrArg (fun z : Int32 => some (Value.int z)) hy14) dX12_kinBy_65 ?_
          refine rc_i hAL hS hA (va_runV (As := [.int y14]) (rest := []) ⟨hx, hb, hml, hown, noTs⟩ (r_X12_gives l dC dI H.size cs b u9 a hA10 y14) ⟨cbE 1 (wd_1621 hE) (wd_126 hE) (wd_1618 hE) rfl rfl (by decide +kernel) ⟨Nat.le_of_ble_eq_true rfl, Nat.le_of_ble_eq_true rfl⟩, (wd_1620 hE), (wd_80 hE)⟩ ⟨PR.blind, r_recv hK hP rfl, (r_pre (av := [.ref (b 0), .int y14]) hK hP hJ hE)⟩ rfl rfl hl.1 rfl (lv_room (Nat.le_of_ble_eq_true rfl)) dX12_kinBy_68 ⟨Nat.le_of_ble_eq_true rfl, Nat.le_of_ble_eq_true rfl⟩) (fun r15 u15 H locs hpo15 hP hS => ?_)
          obtain ⟨hr15, hq15⟩ := hpo15
          have hA16 := (hq15.1 1 List.not_mem_nil).trans hA10
          have hF17x := (hq15.2.1 22 (by decide)).trans hy14
          have hfr := FR.step hfr hq15 (fun _ h => absurd h List.not_mem_nil) (by decide) (fun h => rfl)
          refine W.eq (g2 := F0 m 71 ls [.int y14]) (by rw [hr15]) ?_
          exact W.iret (v := y14) hx hb hr (fun t ht hW => ⟨⟨y14, u15, rfl, ⟨trivial, hfr⟩, (show va_P (dC, dI) vwCl (rW cs b u15) t.heap by rw [ht]; exact hP)⟩, hS.F ht⟩) hS.2.2 dX12_kinBy_71
        · have c13 := (b_eq (rfl : Int32.toInt z = _) (show Int32.toInt 0 = 0 from rfl)).mp c13
          refine lv_aload_n hx hb dX12_kinBy_57 rfl (lv_at hl 1 rfl) ?_
          obtain ⟨y18, hy18⟩ : ∃ z : Int32, rF u9 21 = z := ⟨_, rfl⟩
          refine r_get (v := .int y18) hx hb (ly_X12 hE) hown hK hP rfl 21 (by decide) (wd_1402 hE) (fun _ h9 => h9) (congrArg (fun z : Int32 => some (Value.int z)) hy18) dX12_kinBy_58 ?_
          refine lv_goto (tgt := 68) hx hb dX12_kinBy_61 (by decide) ?_
          refine rc_i hAL hS hA (va_runV (As := [.int y18]) (rest := []) ⟨hx, hb, hml, hown, noTs⟩ (r_X12_gives l dC dI H.size cs b u9 a hA10 y18) ⟨cbE 1 (wd_1621 hE) (wd_126 hE) (wd_1618 hE) rfl rfl (by decide +kernel) ⟨Nat.le_of_ble_eq_true rfl, Nat.le_of_ble_eq_true rfl⟩, (wd_1620 hE), (wd_80 hE)⟩ ⟨PR.blind, r_recv hK hP rfl, (r_pre (av := [.ref (b 0), .int y18]) hK hP hJ hE)⟩ rfl rfl hl.1 rfl (lv_room (Nat.le_of_ble_eq_true rfl)) dX12_kinBy_68 ⟨Nat.le_of_ble_eq_true rfl, Nat.le_of_ble_eq_true rfl⟩) (fun r19 u19 H locs hpo19 hP hS => ?_)
          obtain ⟨hr19, hq19⟩ := hpo19
          have hA20 := (hq19.1 1 List.not_mem_nil).trans hA10
          have hF21x := (hq19.2.1 21 (by decide)).trans hy18
          have hfr := FR.step hfr hq19 (fun _ h => absurd h List.not_mem_nil) (by decide) (fun h => rfl)
          refine W.eq (g2 := F0 m 71 ls [.int y18]) (by rw [hr19]) ?_
          exact W.iret (v := y18) hx hb hr (fun t ht hW => ⟨⟨y18, u19, rfl, ⟨trivial, hfr⟩, (show va_P (dC, dI) vwCl (rW cs b u19) t.heap by rw [ht]; exact hP)⟩, hS.F ht⟩) hS.2.2 dX12_kinBy_71
      · refine lv_if_ne (tgt := 38) hx hb dX12_kinBy_32 (by decide) (fun c22 => absurd c22 (by decide)) (fun c22 => ?_)
        refine lv_iconst (v := 5) hx hb dX12_kinBy_35 (by decide) ?_
        refine lv_istore (lv' := [(4, .int 5), (0, .ref (b 0)), (1, .int (nI n4)), (2, .int (nI n4_2)), (3, .int z)]) hx hb dX12_kinBy_36 hl (by decide) rfl (fun ls hl => ?_)
        refine lv_iload hx hb dX12_kinBy_38 (lv_at hl 0 rfl) ?_
        refine lv_if_le (tgt := 52) hx hb dX12_kinBy_40 (by decide) (fun c23 => absurd c23 (by decide)) (fun c23 => ?_)
        refine lv_aload_n hx hb dX12_kinBy_43 rfl (lv_at hl 1 rfl) ?_
        refine lv_iload hx hb dX12_kinBy_44 (lv_at hl 0 rfl) ?_
        refine rc_i hAL hS hA (va_runV (As := [.int 5]) (rest := []) ⟨hx, hb, hml, hown, noTs⟩ (r_X12_refuse l dC dI H.size cs b u9 a hA10 5) ⟨cbE 1 (wd_1498 hE) (wd_126 hE) (wd_1495 hE) rfl rfl (by decide +kernel) ⟨Nat.le_of_ble_eq_true rfl, Nat.le_of_ble_eq_true rfl⟩, (wd_1497 hE), (wd_54 hE)⟩ ⟨PR.blind, r_recv hK hP rfl, (r_pre (av := [.ref (b 0), .int 5]) hK hP hJ hE)⟩ rfl rfl hl.1 rfl (lv_room (Nat.le_of_ble_eq_true rfl)) dX12_kinBy_46 ⟨Nat.le_of_ble_eq_true rfl, Nat.le_of_ble_eq_true rfl⟩) (fun r24 u24 H locs hpo24 hP hS => ?_)
        obtain ⟨hr24, hq24⟩ := hpo24
        have hA25 := (hq24.1 1 List.not_mem_nil).trans hA10
        have hfr := FR.step hfr hq24 (fun _ h => absurd h List.not_mem_nil) (by decide) (fun h => rfl)
        subst hr24
        refine lv_goto (tgt := 71) hx hb dX12_kinBy_49 (by decide) ?_
        exact W.iret (v := -1) hx hb hr (fun t ht hW => ⟨⟨-1, u24, rfl, ⟨trivial, hfr⟩, (show va_P (dC, dI) vwCl (rW cs b u24) t.heap by rw [ht]; exact hP)⟩, hS.F ht⟩) hS.2.2 dX12_kinBy_71
    · refine lv_goto (tgt := 19) hx hb dX12_kinBy_15 (by decide) ?_
      refine lv_istore (lv' := [(4, .int 2), (0, .ref (b 0)), (1, .int x), (2, .int y), (3, .int z)]) hx hb dX12_kinBy_19 hl (by decide) rfl (fun ls hl => ?_)
      refine lv_iload hx hb dX12_kinBy_21 (lv_at hl 0 rfl) ?_
      refine lv_if_ne (tgt := 38) hx hb dX12_kinBy_23 (by decide) (fun c26 => ?_) (fun c26 => absurd c26 (by decide))
      refine lv_iload hx hb dX12_kinBy_38 (lv_at hl 0 rfl) ?_
      refine lv_if_le (tgt := 52) hx hb dX12_kinBy_40 (by decide) (fun c27 => absurd c27 (by decide)) (fun c27 => ?_)
      refine lv_aload_n hx hb dX12_kinBy_43 rfl (lv_at hl 1 rfl) ?_
      refine lv_iload hx hb dX12_kinBy_44 (lv_at hl 0 rfl) ?_
      refine rc_i hAL hS hA (va_runV (As := [.int 2]) (rest := []) ⟨hx, hb, hml, hown, noTs⟩ (r_X12_refuse l dC dI H.size cs b u4 a hA5 2) ⟨cbE 1 (wd_1498 hE) (wd_126 hE) (wd_1495 hE) rfl rfl (by decide +kernel) ⟨Nat.le_of_ble_eq_true rfl, Nat.le_of_ble_eq_true rfl⟩, (wd_1497 hE), (wd_54 hE)⟩ ⟨PR.blind, r_recv hK hP rfl, (r_pre (av := [.ref (b 0), .int 2]) hK hP hJ hE)⟩ rfl rfl hl.1 rfl (lv_room (Nat.le_of_ble_eq_true rfl)) dX12_kinBy_46 ⟨Nat.le_of_ble_eq_true rfl, Nat.le_of_ble_eq_true rfl⟩) (fun r28 u28 H locs hpo28 hP hS => ?_)
      obtain ⟨hr28, hq28⟩ := hpo28
      have hA29 := (hq28.1 1 List.not_mem_nil).trans hA5
      have hfr := FR.step hfr hq28 (fun _ h => absurd h List.not_mem_nil) (by decide) (fun h => rfl)
      subst hr28
      refine lv_goto (tgt := 71) hx hb dX12_kinBy_49 (by decide) ?_
      exact W.iret (v := -1) hx hb hr (fun t ht hW => ⟨⟨-1, u28, rfl, ⟨trivial, hfr⟩, (show va_P (dC, dI) vwCl (rW cs b u28) t.heap by rw [ht]; exact hP)⟩, hS.F ht⟩) hS.2.2 dX12_kinBy_71
    · refine lv_goto (tgt := 19) hx hb dX12_kinBy_15 (by decide) ?_
      refine lv_istore (lv' := [(4, .int 4), (0, .ref (b 0)), (1, .int x), (2, .int y), (3, .int z)]) hx hb dX12_kinBy_19 hl (by decide) rfl (fun ls hl => ?_)
      refine lv_iload hx hb dX12_kinBy_21 (lv_at hl 0 rfl) ?_
      refine lv_if_ne (tgt := 38) hx hb dX12_kinBy_23 (by decide) (fun c30 => ?_) (fun c30 => absurd c30 (by decide))
      refine lv_iload hx hb dX12_kinBy_38 (lv_at hl 0 rfl) ?_
      refine lv_if_le (tgt := 52) hx hb dX12_kinBy_40 (by decide) (fun c31 => absurd c31 (by decide)) (fun c31 => ?_)
      refine lv_aload_n hx hb dX12_kinBy_43 rfl (lv_at hl 1 rfl) ?_
      refine lv_iload hx hb dX12_kinBy_44 (lv_at hl 0 rfl) ?_
      refine rc_i hAL hS hA (va_runV (As := [.int 4]) (rest := []) ⟨hx, hb, hml, hown, noTs⟩ (r_X12_refuse l dC dI H.size cs b u4 a hA5 4) ⟨cbE 1 (wd_1498 hE) (wd_126 hE) (wd_1495 hE) rfl rfl (by decide +kernel) ⟨Nat.le_of_ble_eq_true rfl, Nat.le_of_ble_eq_true rfl⟩, (wd_1497 hE), (wd_54 hE)⟩ ⟨PR.blind, r_recv hK hP rfl, (r_pre (av := [.ref (b 0), .int 4]) hK hP hJ hE)⟩ rfl rfl hl.1 rfl (lv_room (Nat.le_of_ble_eq_true rfl)) dX12_kinBy_46 ⟨Nat.le_of_ble_eq_true rfl, Nat.le_of_ble_eq_true rfl⟩) (fun r32 u32 H locs hpo32 hP hS => ?_)
      obtain ⟨hr32, hq32⟩ := hpo32
      have hA33 := (hq32.1 1 List.not_mem_nil).trans hA5
      have hfr := FR.step hfr hq32 (fun _ h => absurd h List.not_mem_nil) (by decide) (fun h => rfl)
      subst hr32
      refine lv_goto (tgt := 71) hx hb dX12_kinBy_49 (by decide) ?_
      exact W.iret (v := -1) hx hb hr (fun t ht hW => ⟨⟨-1, u32, rfl, ⟨trivial, hfr⟩, (show va_P (dC, dI) vwCl (rW cs b u32) t.heap by rw [ht]; exact hP)⟩, hS.F ht⟩) hS.2.2 dX12_kinBy_71
  · refine lv_if_eq (tgt := 18) hx hb dX12_kinBy_6 (by decide) (fun c34 => ?_) (fun c34 => absurd c34 (by decide))
    refine lv_iconst (v := 1) hx hb dX12_kinBy_18 (by decide) ?_
    refine lv_istore (lv' := [(4, .int 1), (0, .ref (b 0)), (1, .int x), (2, .int y), (3, .int z)]) hx hb dX12_kinBy_19 hl (by decide) rfl (fun ls hl => ?_)
    refine lv_iload hx hb dX12_kinBy_21 (lv_at hl 0 rfl) ?_
    refine lv_if_ne (tgt := 38) hx hb dX12_kinBy_23 (by decide) (fun c35 => ?_) (fun c35 => absurd c35 (by decide))
    refine lv_iload hx hb dX12_kinBy_38 (lv_at hl 0 rfl) ?_
    refine lv_if_le (tgt := 52) hx hb dX12_kinBy_40 (by decide) (fun c36 => absurd c36 (by decide)) (fun c36 => ?_)
    refine lv_aload_n hx hb dX12_kinBy_43 rfl (lv_at hl 1 rfl) ?_
    refine lv_iload hx hb dX12_kinBy_44 (lv_at hl 0 rfl) ?_
    refine rc_i hAL hS hA (va_runV (As := [.int 1]) (rest := []) ⟨hx, hb, hml, hown, noTs⟩ (r_X12_refuse l dC dI s.heap.size cs b u a hA1 1) ⟨cbE 1 (wd_1498 hE) (wd_126 hE) (wd_1495 hE) rfl rfl (by decide +kernel) ⟨Nat.le_of_ble_eq_true rfl, Nat.le_of_ble_eq_true rfl⟩, (wd_1497 hE), (wd_54 hE)⟩ ⟨PR.blind, r_recv hK hP rfl, (r_pre (av := [.ref (b 0), .int 1]) hK hP hJ hE)⟩ rfl rfl hl.1 rfl (lv_room (Nat.le_of_ble_eq_true rfl)) dX12_kinBy_46 ⟨Nat.le_of_ble_eq_true rfl, Nat.le_of_ble_eq_true rfl⟩) (fun r37 u37 H locs hpo37 hP hS => ?_)
    obtain ⟨hr37, hq37⟩ := hpo37
    have hA38 := (hq37.1 1 List.not_mem_nil).trans hA1
    have hfr := FR.step hfr hq37 (fun _ h => absurd h List.not_mem_nil) (by decide) (fun h => rfl)
    subst hr37
    refine lv_goto (tgt := 71) hx hb dX12_kinBy_49 (by decide) ?_
    exact W.iret (v := -1) hx hb hr (fun t ht hW => ⟨⟨-1, u37, rfl, ⟨trivial, hfr⟩, (show va_P (dC, dI) vwCl (rW cs b u37) t.heap by rw [ht]; exact hP)⟩, hS.F ht⟩) hS.2.2 dX12_kinBy_71

set_option maxHeartbeats 4000000 in
set_option maxRecDepth 100000 in
theorem r_X12_kins (l : Launch) (dC : Nat → ClassId) (dI : Nat → Nat → Nat) (sz : Nat) (cs : Nat → ClassId) (b : Nat → Nat) (u : RS) (a : Nat → Int32) (hA1 : rA u 1 = a) (x : Int32) (hp0 : BG a) : Met l yX12_kins [.code yX12_kins cX12_kins 5 (some .int)] ({ frames := 8, cells := 0, slots := 0, locals := 320 }) (PR [.ref (b 0), .int x] sz dC dI cs b u) (va_Qi (fun (r : Int32) (u' : RS) => (True) ∧ FR [3, 4, 5, 6, 7, 8, 9, 10, 11, 12, 13, 14, 17, 18, 19, 20] [1, 5, 21, 22] true u u') (BR dC dI cs b) (AR b sz)) 0 0 (AR b sz) := by
  refine Met.ofW (cc := cX12_kins) (maxL := 5) (ret := (some .int)) (by decide) rfl ?_
  intro p e s m args below meth c s₁ B hml hv
  obtain ⟨rfl, hsz, hP, hK, hJ, hE⟩ := hv
  have hx := B.exec
  have hb := B.bytes
  have hr := B.returns
  have hown : s.vm.findClass RX12 = some m.cls := findClass_of_methodNamed B.named
  have hlocks := B.notSynchronized
  subst hsz
  have hAL : ∀ i, i < 108 → AR b s.heap.size (b i) := fun i h => Or.inl ⟨i, h, rfl⟩
  have hA : ∀ q : Nat, s.heap.size ≤ q → AR b s.heap.size q := fun q h => Or.inr h
  have hS : va_S (AR b s.heap.size) s.heap s.heap [] := va_S.rf
  have hfr : FR [3, 4, 5, 6, 7, 8, 9, 10, 11, 12, 13, 14, 17, 18, 19, 20] [1, 5, 21, 22] true u u := FR.refl
  have hl := lv_entry ([.ref (b 0), .int x]) (n := 5) (Nat.le_of_ble_eq_true rfl)
  rw [lg_entry_eq]
  generalize (lg_sl ([.ref (b 0), .int x]) ++ List.replicate (5 - (lg_sl ([.ref (b 0), .int x])).length) Slot.unset).toArray = ls at hl ⊢
  have hl : lv_has ls 5 [(0, .ref (b 0)), (1, .int x)] := hl
  have hB := hp0
  have hG := bg_g hp0
  have ha1 := gg_le hG
  have ha1b := bg_w hp0
  refine lv_aload_n hx hb dX12_kins_0 rfl (lv_at hl 0 rfl) ?_
  refine lv_iload_n hx hb dX12_kins_1 rfl (lv_at hl 1 rfl) ?_
  refine rc_i hAL hS hA (va_runV (As := [.int x]) (rest := []) ⟨hx, hb, hml, hown, noTs⟩ (r_X12_wrongLoop l dC dI s.heap.size cs b u a hA1 x (by first | assumption | omega | rfl | (congr 1; omega))) ⟨cbE 1 (wd_1781 hE) (wd_126 hE) (wd_1778 hE) rfl rfl (by decide +kernel) ⟨Nat.le_of_ble_eq_true rfl, Nat.le_of_ble_eq_true rfl⟩, (wd_1780 hE), (wd_95 hE)⟩ ⟨PR.blind, r_recv hK hP rfl, (r_pre (av := [.ref (b 0), .int x]) hK hP hJ hE)⟩ rfl rfl hl.1 rfl (lv_room (Nat.le_of_ble_eq_true rfl)) dX12_kins_2 ⟨Nat.le_of_ble_eq_true rfl, Nat.le_of_ble_eq_true rfl⟩) (fun r2 u2 H locs hpo2 hP hS => ?_)
  obtain ⟨hr2, hq2⟩ := hpo2
  have hA3 := (hq2.1 1 (by decide)).trans hA1
  have hfr := FR.step hfr hq2 (by decide) (fun _ h => absurd h List.not_mem_nil) (fun h => rfl)
  rcases hr2 with ⟨rfl, hb2⟩ | ⟨rfl, hb2⟩ | ⟨rfl, hb2⟩
  · obtain ⟨n2, hbe2_1, hb2⟩ := hb2
    subst hbe2_1
    have hti4 := nI_toInt (n := n2) (by omega)
    refine lv_istore_n (lv' := [(2, .int 0), (0, .ref (b 0)), (1, .int (nI n2))]) hx hb dX12_kins_5 rfl hl (by decide) rfl (fun ls hl => ?_)
    refine lv_iload_n hx hb dX12_kins_6 rfl (lv_at hl 0 rfl) ?_
    refine lv_if_le (tgt := 16) hx hb dX12_kins_7 (by decide) (fun c5 => ?_) (fun c5 => absurd c5 (by decide))
    refine lv_iconst (v := 0) hx hb dX12_kins_16 (by decide) ?_
    refine lv_istore_n (lv' := [(3, .int 0), (2, .int 0), (0, .ref (b 0)), (1, .int (nI n2))]) hx hb dX12_kins_17 rfl hl (by decide) rfl (fun ls hl => ?_)
    refine lv_iconst (v := 0) hx hb dX12_kins_18 (by decide) ?_
    refine lv_istore (lv' := [(4, .int 0), (3, .int 0), (2, .int 0), (0, .ref (b 0)), (1, .int (nI n2))]) hx hb dX12_kins_19 hl (by decide) rfl (fun ls hl => ?_)
    refine r_ind (I := fun n u_ H locs ls => va_P (dC, dI) vwCl (rW cs b u_) H ∧ va_S (AR b s.heap.size) s.heap H locs ∧ FR [3, 4, 5, 6, 7, 8, 9, 10, 11, 12, 13, 14, 17, 18, 19, 20] [1, 5, 21, 22] true u u_ ∧ ∃ (k_6 : Nat) (x1_6 : Int32), n = wN a - k_6 ∧ (k_6 ≤ wN a) ∧ lv_has ls 5 [(0, .ref (b 0)), (1, .int (nI n2)), (2, .int 0), (3, .int x1_6), (4, .int (nI k_6))]) (fun n u6 H locs ls hI ih6 => ?_) _ u2 _ _ _ ⟨hP, hS, hfr, 0, 0, rfl, (by first | assumption | omega | rfl | (congr 1; omega)), lv_sub hl [3, 4, 2, 1, 0] rfl⟩
    obtain ⟨hP, hS, hfr, k_6, x1_6, hmu6, hL6_0, hl⟩ := hI
    have hA7 := (hfr.1 1 (by decide)).trans hA1
    subst hmu6
    refine lv_iload hx hb dX12_kins_21 (lv_at hl 4 rfl) ?_
    refine lv_aload_n hx hb dX12_kins_23 rfl (lv_at hl 0 rfl) ?_
    refine lv_iconst (v := 2) hx hb dX12_kins_24 (by decide) ?_
    refine vp_callSi (va_Run.run (va_runV (As := [.int (nI 2)]) (rest := [.int (nI k_6)]) ⟨hx, hb, hml, hown, noTs⟩ (r_X12_of l dC dI H.size cs b u6 a hA7 2 (by first | assumption | omega | rfl | (congr 1; omega))) ⟨cbE 1 (wd_1536 hE) (wd_126 hE) (wd_1533 hE) rfl rfl (by decide +kernel) ⟨Nat.le_of_ble_eq_true rfl, Nat.le_of_ble_eq_true rfl⟩, (wd_1535 hE), (wd_61 hE)⟩ ⟨PR.blind, r_recv hK hP rfl, (r_pre (av := [.ref (b 0), .int (nI 2)]) hK hP hJ hE)⟩ rfl rfl hl.1 rfl (lv_room (Nat.le_of_ble_eq_true rfl)) dX12_kins_25 ⟨Nat.le_of_ble_eq_true rfl, Nat.le_of_ble_eq_true rfl⟩)) (fun r8 hr8 => ?_)
    have hr8 := hr8.trans ((bg_w hB).1)
    subst hr8
    refine lv_icmp_ge (tgt := 67) hx hb dX12_kins_28 (by decide) (fun c9 => ?_) (fun c9 => ?_)
    · have c9 := (b_le (nI_toInt (n := wN a) (by omega)) (nI_toInt (n := k_6) (by omega))).mp c9
      refine lv_aload_n hx hb dX12_kins_67 rfl (lv_at hl 0 rfl) ?_
      refine lv_iload_n hx hb dX12_kins_68 rfl (lv_at hl 3 rfl) ?_
      refine rc_i hAL hS hA (va_runV (As := [.int x1_6]) (rest := []) ⟨hx, hb, hml, hown, noTs⟩ (r_X12_gives l dC dI H.size cs b u6 a hA7 x1_6) ⟨cbE 1 (wd_1621 hE) (wd_126 hE) (wd_1618 hE) rfl rfl (by decide +kernel) ⟨Nat.le_of_ble_eq_true rfl, Nat.le_of_ble_eq_true rfl⟩, (wd_1620 hE), (wd_80 hE)⟩ ⟨PR.blind, r_recv hK hP rfl, (r_pre (av := [.ref (b 0), .int x1_6]) hK hP hJ hE)⟩ rfl rfl hl.1 rfl (lv_room (Nat.le_of_ble_eq_true rfl)) dX12_kins_69 ⟨Nat.le_of_ble_eq_true rfl, Nat.le_of_ble_eq_true rfl⟩) (fun r10 u10 H locs hpo10 hP hS => ?_)
      obtain ⟨hr10, hq10⟩ := hpo10
      have hA11 := (hq10.1 1 List.not_mem_nil).trans hA7
      have hfr := FR.step hfr hq10 (fun _ h => absurd h List.not_mem_nil) (by decide) (fun h => rfl)
      refine W.eq (g2 := F0 m 72 ls [.int x1_6]) (by rw [hr10]) ?_
      exact W.iret (v := x1_6) hx hb hr (fun t ht hW => ⟨⟨x1_6, u10, rfl, ⟨trivial, hfr⟩, (show va_P (dC, dI) vwCl (rW cs b u10) t.heap by rw [ht]; exact hP)⟩, hS.F ht⟩) hS.2.2 dX12_kins_72
    · have c9 := mt (b_le (nI_toInt (n := wN a) (by omega)) (nI_toInt (n := k_6) (by omega))).mpr c9
      refine lv_iload_n hx hb dX12_kins_31 rfl (lv_at hl 3 rfl) ?_
      refine lv_aload_n hx hb dX12_kins_32 rfl (lv_at hl 0 rfl) ?_
      refine lv_iload hx hb dX12_kins_33 (lv_at hl 4 rfl) ?_
      refine rc_i hAL hS hA (va_runV (As := [.int (nI k_6)]) (rest := [.int x1_6]) ⟨hx, hb, hml, hown, noTs⟩ (r_X12_isLoop l dC dI H.size cs b u6 a hA7 k_6 (by first | assumption | omega | rfl | (congr 1; omega)) (by first | assumption | omega | rfl | (congr 1; omega))) ⟨cbE 1 (wd_1725 hE) (wd_126 hE) (wd_1722 hE) rfl rfl (by decide +kernel) ⟨Nat.le_of_ble_eq_true rfl, Nat.le_of_ble_eq_true rfl⟩, (wd_1724 hE), (wd_91 hE)⟩ ⟨PR.blind, r_recv hK hP rfl, (r_pre (av := [.ref (b 0), .int (nI k_6)]) hK hP hJ hE)⟩ rfl rfl hl.1 rfl (lv_room (Nat.le_of_ble_eq_true rfl)) dX12_kins_35 ⟨Nat.le_of_ble_eq_true rfl, Nat.le_of_ble_eq_true rfl⟩) (fun r12 u12 H locs hpo12 hP hS => ?_)
      obtain ⟨hr12, hq12⟩ := hpo12
      have hA13 := (hq12.1 1 (by decide)).trans hA7
      have hfr := FR.step hfr hq12 (by decide) (fun _ h => absurd h List.not_mem_nil) (fun h => rfl)
      rcases hr12 with ⟨rfl, hb12⟩ | ⟨rfl, hb12⟩
      · refine lv_if_eq (tgt := 58) hx hb dX12_kins_38 (by decide) (fun c14 => absurd c14 (by decide)) (fun c14 => ?_)
        refine lv_aload_n hx hb dX12_kins_41 rfl (lv_at hl 0 rfl) ?_
        refine lv_iload_n hx hb dX12_kins_42 rfl (lv_at hl 1 rfl) ?_
        refine lv_iload hx hb dX12_kins_43 (lv_at hl 4 rfl) ?_
        refine rc_i hAL hS hA (va_runV (As := [.int (nI n2), .int (nI k_6)]) (rest := [.int x1_6]) ⟨hx, hb, hml, hown, noTs⟩ (r_X12_areKin l dC dI H.size cs b u12 a hA13 n2 k_6 (by first | assumption | omega | rfl | (congr 1; omega)) (by first | assumption | omega | rfl | (congr 1; omega)) (by first | assumption | omega | rfl | (congr 1; omega)) (by first | assumption | omega | rfl | (congr 1; omega)) (by first | assumption | omega | rfl | (congr 1; omega))) ⟨cbE 2 (wd_1804 hE) (wd_126 hE) (wd_1801 hE) rfl rfl (by decide +kernel) ⟨Nat.le_of_ble_eq_true rfl, Nat.le_of_ble_eq_true rfl⟩, (wd_1803 hE), (wd_98 hE)⟩ ⟨PR.blind, r_recv hK hP rfl, (r_pre (av := [.ref (b 0), .int (nI n2), .int (nI k_6)]) hK hP hJ hE)⟩ rfl rfl hl.1 rfl (lv_room (Nat.le_of_ble_eq_true rfl)) dX12_kins_45 ⟨Nat.le_of_ble_eq_true rfl, Nat.le_of_ble_eq_true rfl⟩) (fun r15 u15 H locs hpo15 hP hS => ?_)
        obtain ⟨hr15, hq15⟩ := hpo15
        have hA16 := (hq15.1 1 (by decide)).trans hA13
        have hfr := FR.step hfr hq15 (by decide) (by decide) (fun h => rfl)
        rcases hr15 with ⟨rfl, hb15⟩ | ⟨rfl, hb15⟩
        · refine lv_if_eq (tgt := 58) hx hb dX12_kins_48 (by decide) (fun c17 => absurd c17 (by decide)) (fun c17 => ?_)
          refine lv_iconst (v := 1) hx hb dX12_kins_51 (by decide) ?_
          refine lv_iload hx hb dX12_kins_52 (lv_at hl 4 rfl) ?_
          refine lv_ishl hx hb dX12_kins_54 ?_
          refine lv_topi (fun x18 ex18 => ?_)
          refine lv_goto (tgt := 59) hx hb dX12_kins_55 (by decide) ?_
          refine lv_ior hx hb dX12_kins_59 ?_
          refine lv_topi (fun x19 ex19 => ?_)
          refine lv_istore_n (lv' := [(3, .int x19), (0, .ref (b 0)), (1, .int (nI n2)), (2, .int 0), (4, .int (nI k_6))]) hx hb dX12_kins_60 rfl hl (by decide) rfl (fun ls hl => ?_)
          refine lv_iinc (v := nI (k_6 + 1)) (lv' := [(4, .int (nI (k_6 + 1))), (3, .int x19), (0, .ref (b 0)), (1, .int (nI n2)), (2, .int 0)]) hx hb dX12_kins_61 hl (k := 4) rfl (nI_1 k_6) (by decide) rfl (fun ls hl => ?_)
          refine lv_goto (tgt := 21) hx hb dX12_kins_64 (by decide) ?_
          exact ih6 _ u15 _ _ _ (by omega) ⟨hP, hS, hfr, (k_6 + 1), x19, rfl, (by first | assumption | omega | rfl | (congr 1; omega)), lv_sub hl [2, 3, 4, 1, 0] rfl⟩
        · refine lv_if_eq (tgt := 58) hx hb dX12_kins_48 (by decide) (fun c20 => ?_) (fun c20 => absurd c20 (by decide))
          refine lv_iconst (v := 0) hx hb dX12_kins_58 (by decide) ?_
          refine lv_ior hx hb dX12_kins_59 ?_
          refine lv_topi (fun x21 ex21 => ?_)
          refine lv_istore_n (lv' := [(3, .int x21), (0, .ref (b 0)), (1, .int (nI n2)), (2, .int 0), (4, .int (nI k_6))]) hx hb dX12_kins_60 rfl hl (by decide) rfl (fun ls hl => ?_)
          refine lv_iinc (v := nI (k_6 + 1)) (lv' := [(4, .int (nI (k_6 + 1))), (3, .int x21), (0, .ref (b 0)), (1, .int (nI n2)), (2, .int 0)]) hx hb dX12_kins_61 hl (k := 4) rfl (nI_1 k_6) (by decide) rfl (fun ls hl => ?_)
          refine lv_goto (tgt := 21) hx hb dX12_kins_64 (by decide) ?_
          exact ih6 _ u15 _ _ _ (by omega) ⟨hP, hS, hfr, (k_6 + 1), x21, rfl, (by first | assumption | omega | rfl | (congr 1; omega)), lv_sub hl [2, 3, 4, 1, 0] rfl⟩
      · refine lv_if_eq (tgt := 58) hx hb dX12_kins_38 (by decide) (fun c22 => ?_) (fun c22 => absurd c22 (by decide))
        refine lv_iconst (v := 0) hx hb dX12_kins_58 (by decide) ?_
        refine lv_ior hx hb dX12_kins_59 ?_
        refine lv_topi (fun x23 ex23 => ?_)
        refine lv_istore_n (lv' := [(3, .int x23), (0, .ref (b 0)), (1, .int (nI n2)), (2, .int 0), (4, .int (nI k_6))]) hx hb dX12_kins_60 rfl hl (by decide) rfl (fun ls hl => ?_)
        refine lv_iinc (v := nI (k_6 + 1)) (lv' := [(4, .int (nI (k_6 + 1))), (3, .int x23), (0, .ref (b 0)), (1, .int (nI n2)), (2, .int 0)]) hx hb dX12_kins_61 hl (k := 4) rfl (nI_1 k_6) (by decide) rfl (fun ls hl => ?_)
        refine lv_goto (tgt := 21) hx hb dX12_kins_64 (by decide) ?_
        exact ih6 _ u12 _ _ _ (by omega) ⟨hP, hS, hfr, (k_6 + 1), x23, rfl, (by first | assumption | omega | rfl | (congr 1; omega)), lv_sub hl [2, 3, 4, 1, 0] rfl⟩
  · refine lv_istore_n (lv' := [(2, .int 2), (0, .ref (b 0)), (1, .int x)]) hx hb dX12_kins_5 rfl hl (by decide) rfl (fun ls hl => ?_)
    refine lv_iload_n hx hb dX12_kins_6 rfl (lv_at hl 0 rfl) ?_
    refine lv_if_le (tgt := 16) hx hb dX12_kins_7 (by decide) (fun c24 => absurd c24 (by decide)) (fun c24 => ?_)
    refine lv_aload_n hx hb dX12_kins_10 rfl (lv_at hl 1 rfl) ?_
    refine lv_iload_n hx hb dX12_kins_11 rfl (lv_at hl 0 rfl) ?_
    refine rc_i hAL hS hA (va_runV (As := [.int 2]) (rest := []) ⟨hx, hb, hml, hown, noTs⟩ (r_X12_refuse l dC dI H.size cs b u2 a hA3 2) ⟨cbE 1 (wd_1498 hE) (wd_126 hE) (wd_1495 hE) rfl rfl (by decide +kernel) ⟨Nat.le_of_ble_eq_true rfl, Nat.le_of_ble_eq_true rfl⟩, (wd_1497 hE), (wd_54 hE)⟩ ⟨PR.blind, r_recv hK hP rfl, (r_pre (av := [.ref (b 0), .int 2]) hK hP hJ hE)⟩ rfl rfl hl.1 rfl (lv_room (Nat.le_of_ble_eq_true rfl)) dX12_kins_12 ⟨Nat.le_of_ble_eq_true rfl, Nat.le_of_ble_eq_true rfl⟩) (fun r25 u25 H locs hpo25 hP hS => ?_)
    obtain ⟨hr25, hq25⟩ := hpo25
    have hA26 := (hq25.1 1 List.not_mem_nil).trans hA3
    have hfr := FR.step hfr hq25 (fun _ h => absurd h List.not_mem_nil) (by decide) (fun h => rfl)
    subst hr25
    exact W.iret (v := -1) hx hb hr (fun t ht hW => ⟨⟨-1, u25, rfl, ⟨trivial, hfr⟩, (show va_P (dC, dI) vwCl (rW cs b u25) t.heap by rw [ht]; exact hP)⟩, hS.F ht⟩) hS.2.2 dX12_kins_15
  · refine lv_istore_n (lv' := [(2, .int 4), (0, .ref (b 0)), (1, .int x)]) hx hb dX12_kins_5 rfl hl (by decide) rfl (fun ls hl => ?_)
    refine lv_iload_n hx hb dX12_kins_6 rfl (lv_at hl 0 rfl) ?_
    refine lv_if_le (tgt := 16) hx hb dX12_kins_7 (by decide) (fun c27 => absurd c27 (by decide)) (fun c27 => ?_)
    refine lv_aload_n hx hb dX12_kins_10 rfl (lv_at hl 1 rfl) ?_
    refine lv_iload_n hx hb dX12_kins_11 rfl (lv_at hl 0 rfl) ?_
    refine rc_i hAL hS hA (va_runV (As := [.int 4]) (rest := []) ⟨hx, hb, hml, hown, noTs⟩ (r_X12_refuse l dC dI H.size cs b u2 a hA3 4) ⟨cbE 1 (wd_1498 hE) (wd_126 hE) (wd_1495 hE) rfl rfl (by decide +kernel) ⟨Nat.le_of_ble_eq_true rfl, Nat.le_of_ble_eq_true rfl⟩, (wd_1497 hE), (wd_54 hE)⟩ ⟨PR.blind, r_recv hK hP rfl, (r_pre (av := [.ref (b 0), .int 4]) hK hP hJ hE)⟩ rfl rfl hl.1 rfl (lv_room (Nat.le_of_ble_eq_true rfl)) dX12_kins_12 ⟨Nat.le_of_ble_eq_true rfl, Nat.le_of_ble_eq_true rfl⟩) (fun r28 u28 H locs hpo28 hP hS => ?_)
    obtain ⟨hr28, hq28⟩ := hpo28
    have hA29 := (hq28.1 1 List.not_mem_nil).trans hA3
    have hfr := FR.step hfr hq28 (fun _ h => absurd h List.not_mem_nil) (by decide) (fun h => rfl)
    subst hr28
    exact W.iret (v := -1) hx hb hr (fun t ht hW => ⟨⟨-1, u28, rfl, ⟨trivial, hfr⟩, (show va_P (dC, dI) vwCl (rW cs b u28) t.heap by rw [ht]; exact hP)⟩, hS.F ht⟩) hS.2.2 dX12_kins_15

set_option maxHeartbeats 4000000 in
set_option maxRecDepth 100000 in
theorem r_X12_net (l : Launch) (dC : Nat → ClassId) (dI : Nat → Nat → Nat) (sz : Nat) (cs : Nat → ClassId) (b : Nat → Nat) (u : RS) (a : Nat → Int32) (hA1 : rA u 1 = a) (x : Int32) (y : Int32) (hp0 : BG a) : Met l yX12_net [.code yX12_net cX12_net 5 (some .int)] ({ frames := 2, cells := 0, slots := 0, locals := 80 }) (PR [.ref (b 0), .int x, .int y] sz dC dI cs b u) (va_Qi (fun (r : Int32) (u' : RS) => (True) ∧ FR [3, 4, 5, 6, 7, 8, 9, 10, 11, 12, 13, 14, 17, 18, 19, 20] [1, 5, 21, 22] true u u') (BR dC dI cs b) (AR b sz)) 0 0 (AR b sz) := by
  refine Met.ofW (cc := cX12_net) (maxL := 5) (ret := (some .int)) (by decide) rfl ?_
  intro p e s m args below meth c s₁ B hml hv
  obtain ⟨rfl, hsz, hP, hK, hJ, hE⟩ := hv
  have hx := B.exec
  have hb := B.bytes
  have hr := B.returns
  have hown : s.vm.findClass RX12 = some m.cls := findClass_of_methodNamed B.named
  have hlocks := B.notSynchronized
  subst hsz
  have hAL : ∀ i, i < 108 → AR b s.heap.size (b i) := fun i h => Or.inl ⟨i, h, rfl⟩
  have hA : ∀ q : Nat, s.heap.size ≤ q → AR b s.heap.size q := fun q h => Or.inr h
  have hS : va_S (AR b s.heap.size) s.heap s.heap [] := va_S.rf
  have hfr : FR [3, 4, 5, 6, 7, 8, 9, 10, 11, 12, 13, 14, 17, 18, 19, 20] [1, 5, 21, 22] true u u := FR.refl
  have hl := lv_entry ([.ref (b 0), .int x, .int y]) (n := 5) (Nat.le_of_ble_eq_true rfl)
  rw [lg_entry_eq]
  generalize (lg_sl ([.ref (b 0), .int x, .int y]) ++ List.replicate (5 - (lg_sl ([.ref (b 0), .int x, .int y])).length) Slot.unset).toArray = ls at hl ⊢
  have hl : lv_has ls 5 [(0, .ref (b 0)), (1, .int x), (2, .int y)] := hl
  have hB := hp0
  have hG := bg_g hp0
  have ha1 := gg_le hG
  have ha1b := bg_w hp0
  refine lv_aload_n hx hb dX12_net_0 rfl (lv_at hl 0 rfl) ?_
  refine lv_iload_n hx hb dX12_net_1 rfl (lv_at hl 1 rfl) ?_
  refine vp_callSi (va_Run.run (va_runV (As := [.int x]) (rest := []) ⟨hx, hb, hml, hown, noTs⟩ (r_X12_isWord l dC dI s.heap.size cs b u a hA1 x (by first | assumption | omega | rfl | (congr 1; omega))) ⟨cbE 1 (wd_1653 hE) (wd_126 hE) (wd_1650 hE) rfl rfl (by decide +kernel) ⟨Nat.le_of_ble_eq_true rfl, Nat.le_of_ble_eq_true rfl⟩, (wd_1652 hE), (wd_83 hE)⟩ ⟨PR.blind, r_recv hK hP rfl, (r_pre (av := [.ref (b 0), .int x]) hK hP hJ hE)⟩ rfl rfl hl.1 rfl (lv_room (Nat.le_of_ble_eq_true rfl)) dX12_net_2 ⟨Nat.le_of_ble_eq_true rfl, Nat.le_of_ble_eq_true rfl⟩)) (fun r2 hr2 => ?_)
  rcases hr2 with ⟨rfl, hb2⟩ | ⟨rfl, hb2⟩
  · obtain ⟨n2, hbe2_1, hb2⟩ := hb2
    subst hbe2_1
    have hti3 := nI_toInt (n := n2) (by omega)
    refine lv_if_eq (tgt := 16) hx hb dX12_net_5 (by decide) (fun c4 => absurd c4 (by decide)) (fun c4 => ?_)
    refine lv_aload_n hx hb dX12_net_8 rfl (lv_at hl 0 rfl) ?_
    refine lv_iload_n hx hb dX12_net_9 rfl (lv_at hl 2 rfl) ?_
    refine vp_callSi (va_Run.run (va_runV (As := [.int y]) (rest := []) ⟨hx, hb, hml, hown, noTs⟩ (r_X12_isEdge l dC dI s.heap.size cs b u a hA1 y (by first | assumption | omega | rfl | (congr 1; omega))) ⟨cbE 1 (wd_1587 hE) (wd_126 hE) (wd_1584 hE) rfl rfl (by decide +kernel) ⟨Nat.le_of_ble_eq_true rfl, Nat.le_of_ble_eq_true rfl⟩, (wd_1586 hE), (wd_73 hE)⟩ ⟨PR.blind, r_recv hK hP rfl, (r_pre (av := [.ref (b 0), .int y]) hK hP hJ hE)⟩ rfl rfl hl.1 rfl (lv_room (Nat.le_of_ble_eq_true rfl)) dX12_net_10 ⟨Nat.le_of_ble_eq_true rfl, Nat.le_of_ble_eq_true rfl⟩)) (fun r5 hr5 => ?_)
    rcases hr5 with ⟨rfl, hb5⟩ | ⟨rfl, hb5⟩
    · obtain ⟨n5, hbe5_1, hb5⟩ := hb5
      subst hbe5_1
      have hti6 := nI_toInt (n := n5) (by omega)
      refine lv_if_ne (tgt := 22) hx hb dX12_net_13 (by decide) (fun c7 => ?_) (fun c7 => absurd c7 (by decide))
      refine lv_iconst (v := 0) hx hb dX12_net_22 (by decide) ?_
      refine lv_istore_n (lv' := [(3, .int 0), (0, .ref (b 0)), (1, .int (nI n2)), (2, .int (nI n5))]) hx hb dX12_net_23 rfl hl (by decide) rfl (fun ls hl => ?_)
      refine lv_aload_n hx hb dX12_net_24 rfl (lv_at hl 1 rfl) ?_
      refine lv_iload_n hx hb dX12_net_25 rfl (lv_at hl 2 rfl) ?_
      refine lv_aload_n hx hb dX12_net_26 rfl (lv_at hl 1 rfl) ?_
      refine r_get (v := .ref (b 2)) hx hb (ly_X12 hE) hown hK hP rfl 4 (by decide) (wd_1385 hE) (fun _ h9 => h9) rfl dX12_net_27 ?_
      refine lv_iconst (v := 0) hx hb dX12_net_30 (by decide) ?_
      refine r_aald (j := 2) (k := 0) (n := 10) (t0 := 4) (j2 := 3) hx hb hK hP (by decide) rfl rfl (by decide) (by decide) rfl dX12_net_31 ?_
      obtain ⟨g8, hg8⟩ : ∃ g, rA u 3 = g := ⟨_, rfl⟩
      refine rc_v hAL hS hA (va_runV (As := [.int (nI n2), .ref (b 3)]) (rest := []) ⟨hx, hb, hml, hown, noTs⟩ (r_X12_takes l dC dI s.heap.size cs b u a hA1 n2 3 (by decide) g8 hg8 (by first | assumption | omega | rfl | (congr 1; omega)) (by first | assumption | omega | rfl | (congr 1; omega))) ⟨cbE 2 (wd_1657 hE) (wd_126 hE) (wd_1654 hE) rfl rfl (by decide +kernel) ⟨Nat.le_of_ble_eq_true rfl, Nat.le_of_ble_eq_true rfl⟩, (wd_1656 hE), (wd_84 hE)⟩ ⟨PR.blind, r_recv hK hP rfl, (r_pre (av := [.ref (b 0), .int (nI n2), .ref (b 3)]) hK hP hJ hE)⟩ rfl rfl hl.1 rfl (lv_room (Nat.le_of_ble_eq_true rfl)) dX12_net_32 ⟨Nat.le_of_ble_eq_true rfl, Nat.le_of_ble_eq_true rfl⟩) (fun u9 H locs hpo9 hP hS => ?_)
      obtain ⟨h9_0, h9_1, h9_2, h9_3, h9_4, h9_5, hq9⟩ := hpo9
      obtain ⟨w10, hA10⟩ : ∃ g, rA u9 3 = g := ⟨_, rfl⟩
      rw [hA10] at h9_0 h9_1 h9_2 h9_3 h9_4 h9_5
      have hA11 := (hq9.1 1 (by decide)).trans hA1
      have hfr := FR.step hfr hq9 (by decide) (fun _ h => absurd h List.not_mem_nil) (fun h => rfl)
      have hl9_0 := pg_le h9_0
      refine lv_iconst (v := 0) hx hb dX12_net_35 (by decide) ?_
      refine lv_istore (lv' := [(4, .int 0), (3, .int 0), (0, .ref (b 0)), (1, .int (nI n2)), (2, .int (nI n5))]) hx hb dX12_net_36 hl (by decide) rfl (fun ls hl => ?_)
      refine r_ind (I := fun n u_ H locs ls => va_P (dC, dI) vwCl (rW cs b u_) H ∧ va_S (AR b s.heap.size) s.heap H locs ∧ FR [3, 4, 5, 6, 7, 8, 9, 10, 11, 12, 13, 14, 17, 18, 19, 20] [1, 5, 21, 22] true u u_ ∧ ∃ (k_12 : Nat) (x1_12 : Int32), n = rn w10 - k_12 ∧ (k_12 ≤ rn w10) ∧ (rA u_ 3 = w10) ∧ lv_has ls 5 [(0, .ref (b 0)), (1, .int (nI n2)), (2, .int (nI n5)), (3, .int x1_12), (4, .int (nI k_12))]) (fun n u12 H locs ls hI ih12 => ?_) _ u9 _ _ _ ⟨hP, hS, hfr, 0, 0, rfl, (by first | assumption | omega | rfl | (congr 1; omega)), hA10, lv_sub hl [2, 3, 4, 1, 0] rfl⟩
      obtain ⟨hP, hS, hfr, k_12, x1_12, hmu12, hL12_0, hL12_1, hl⟩ := hI
      have hA13 := (hfr.1 1 (by decide)).trans hA1
      subst hmu12
      refine lv_iload hx hb dX12_net_38 (lv_at hl 4 rfl) ?_
      refine lv_aload_n hx hb dX12_net_40 rfl (lv_at hl 0 rfl) ?_
      refine r_get (v := .ref (b 2)) hx hb (ly_X12 hE) hown hK hP rfl 4 (by decide) (wd_1385 hE) (fun _ h9 => h9) rfl dX12_net_41 ?_
      refine lv_iconst (v := 0) hx hb dX12_net_44 (by decide) ?_
      refine r_aald (j := 2) (k := 0) (n := 10) (t0 := 4) (j2 := 3) hx hb hK hP (by decide) rfl rfl (by decide) (by decide) rfl dX12_net_45 ?_
      refine lv_iconst (v := 1) hx hb dX12_net_46 (by decide) ?_
      refine r_iald (j := 3) (k := 1) (n := 200) (x := nI (rn w10)) hx hb hK hP (by decide) rfl (by decide) (by decide) (by rw [hL12_1]; exact pg_n h9_0) dX12_net_47 ?_
      refine lv_icmp_ge (tgt := 102) hx hb dX12_net_48 (by decide) (fun c15 => ?_) (fun c15 => ?_)
      · have c15 := (b_le (nI_toInt (n := rn w10) (by omega)) (nI_toInt (n := k_12) (by omega))).mp c15
        refine lv_aload_n hx hb dX12_net_102 rfl (lv_at hl 0 rfl) ?_
        refine lv_iload_n hx hb dX12_net_103 rfl (lv_at hl 3 rfl) ?_
        refine rc_i hAL hS hA (va_runV (As := [.int x1_12]) (rest := []) ⟨hx, hb, hml, hown, noTs⟩ (r_X12_gives l dC dI H.size cs b u12 a hA13 x1_12) ⟨cbE 1 (wd_1621 hE) (wd_126 hE) (wd_1618 hE) rfl rfl (by decide +kernel) ⟨Nat.le_of_ble_eq_true rfl, Nat.le_of_ble_eq_true rfl⟩, (wd_1620 hE), (wd_80 hE)⟩ ⟨PR.blind, r_recv hK hP rfl, (r_pre (av := [.ref (b 0), .int x1_12]) hK hP hJ hE)⟩ rfl rfl hl.1 rfl (lv_room (Nat.le_of_ble_eq_true rfl)) dX12_net_104 ⟨Nat.le_of_ble_eq_true rfl, Nat.le_of_ble_eq_true rfl⟩) (fun r16 u16 H locs hpo16 hP hS => ?_)
        obtain ⟨hr16, hq16⟩ := hpo16
        have hA17 := (hq16.1 1 List.not_mem_nil).trans hA13
        have hA18 := (hq16.1 3 List.not_mem_nil).trans hL12_1
        have hfr := FR.step hfr hq16 (fun _ h => absurd h List.not_mem_nil) (by decide) (fun h => rfl)
        refine W.eq (g2 := F0 m 107 ls [.int x1_12]) (by rw [hr16]) ?_
        exact W.iret (v := x1_12) hx hb hr (fun t ht hW => ⟨⟨x1_12, u16, rfl, ⟨trivial, hfr⟩, (show va_P (dC, dI) vwCl (rW cs b u16) t.heap by rw [ht]; exact hP)⟩, hS.F ht⟩) hS.2.2 dX12_net_107
      · have c15 := mt (b_le (nI_toInt (n := rn w10) (by omega)) (nI_toInt (n := k_12) (by omega))).mpr c15
        refine lv_iload_n hx hb dX12_net_51 rfl (lv_at hl 3 rfl) ?_
        refine lv_aload_n hx hb dX12_net_52 rfl (lv_at hl 0 rfl) ?_
        refine r_get (v := .ref (b 2)) hx hb (ly_X12 hE) hown hK hP rfl 4 (by decide) (wd_1385 hE) (fun _ h9 => h9) rfl dX12_net_53 ?_
        refine lv_iconst (v := 0) hx hb dX12_net_56 (by decide) ?_
        refine r_aald (j := 2) (k := 0) (n := 10) (t0 := 4) (j2 := 3) hx hb hK hP (by decide) rfl rfl (by decide) (by decide) rfl dX12_net_57 ?_
        refine lv_iload hx hb dX12_net_58 (lv_at hl 4 rfl) ?_
        refine vp_callSi (va_Run.run (va_runS (As := [.ref (b 3), .int (nI k_12)]) (rest := [.int x1_12]) ⟨hx, hb, hml, hown, noTs⟩ (r_X12_step l dC dI H.size cs b u12 a hA13 3 (by decide) w10 hL12_1 k_12 (by first | assumption | omega | rfl | (congr 1; omega)) (by first | assumption | omega | rfl | (congr 1; omega))) ⟨cbE 2 (wd_1602 hE) (wd_126 hE) (wd_1600 hE) rfl rfl (by decide +kernel) ⟨Nat.le_of_ble_eq_true rfl, Nat.le_of_ble_eq_true rfl⟩, (wd_1601 hE)⟩ ⟨PR.blind, (r_pre (av := [.ref (b 3), .int (nI k_12)]) hK hP hJ hE)⟩ rfl rfl hl.1 rfl (lv_room (Nat.le_of_ble_eq_true rfl)) dX12_net_60 ⟨Nat.le_of_ble_eq_true rfl, Nat.le_of_ble_eq_true rfl⟩)) (fun r19 hr19 => ?_)
        have hau19 := pg_sl (a := a) (w := w10) (i := k_12) (by assumption) (by first | assumption | omega)
        subst hr19
        refine lv_iconst (v := 2) hx hb dX12_net_63 (by decide) ?_
        refine lv_idiv hx hb dX12_net_64 (by decide) ?_
        refine W.eq (g2 := F0 m 65 ls [.int (nI ((rs w10 k_12) / 2)), .int x1_12]) (congrArg (fun z : Int32 => F0 m 65 ls (.int z :: [.int x1_12])) (pk_div (a := rs w10 k_12) (d := 2) (by omega) (by omega) (by omega))) ?_
        refine lv_iload_n hx hb dX12_net_65 rfl (lv_at hl 2 rfl) ?_
        refine lv_icmp_eq (tgt := 73) hx hb dX12_net_66 (by decide) (fun c20 => ?_) (fun c20 => ?_)
        · have c20 := (b_eq (nI_toInt (n := (rs w10 k_12) / 2) (by omega)) (nI_toInt (n := n5) (by omega))).mp c20
          refine lv_aload_n hx hb dX12_net_73 rfl (lv_at hl 0 rfl) ?_
          refine r_get (v := .ref (b 2)) hx hb (ly_X12 hE) hown hK hP rfl 4 (by decide) (wd_1385 hE) (fun _ h9 => h9) rfl dX12_net_74 ?_
          refine lv_iconst (v := 0) hx hb dX12_net_77 (by decide) ?_
          refine r_aald (j := 2) (k := 0) (n := 10) (t0 := 4) (j2 := 3) hx hb hK hP (by decide) rfl rfl (by decide) (by decide) rfl dX12_net_78 ?_
          refine lv_iload hx hb dX12_net_79 (lv_at hl 4 rfl) ?_
          refine vp_callSi (va_Run.run (va_runS (As := [.ref (b 3), .int (nI k_12)]) (rest := [.int x1_12]) ⟨hx, hb, hml, hown, noTs⟩ (r_X12_step l dC dI H.size cs b u12 a hA13 3 (by decide) w10 hL12_1 k_12 (by first | assumption | omega | rfl | (congr 1; omega)) (by first | assumption | omega | rfl | (congr 1; omega))) ⟨cbE 2 (wd_1602 hE) (wd_126 hE) (wd_1600 hE) rfl rfl (by decide +kernel) ⟨Nat.le_of_ble_eq_true rfl, Nat.le_of_ble_eq_true rfl⟩, (wd_1601 hE)⟩ ⟨PR.blind, (r_pre (av := [.ref (b 3), .int (nI k_12)]) hK hP hJ hE)⟩ rfl rfl hl.1 rfl (lv_room (Nat.le_of_ble_eq_true rfl)) dX12_net_81 ⟨Nat.le_of_ble_eq_true rfl, Nat.le_of_ble_eq_true rfl⟩)) (fun r21 hr21 => ?_)
          have hau21 := pg_sl (a := a) (w := w10) (i := k_12) (by assumption) (by first | assumption | omega)
          subst hr21
          refine lv_iconst (v := 2) hx hb dX12_net_84 (by decide) ?_
          refine lv_irem hx hb dX12_net_85 (by decide) ?_
          refine W.eq (g2 := F0 m 86 ls [.int (nI ((rs w10 k_12) % 2)), .int x1_12]) (congrArg (fun z : Int32 => F0 m 86 ls (.int z :: [.int x1_12])) (pk_rem (a := rs w10 k_12) (d := 2) (by omega) (by omega) (by omega))) ?_
          refine lv_if_ne (tgt := 93) hx hb dX12_net_86 (by decide) (fun c22 => ?_) (fun c22 => ?_)
          · have c22 := mt (b_eq (nI_toInt (n := (rs w10 k_12) % 2) (by omega)) (show Int32.toInt 0 = 0 from rfl)).mpr c22
            refine lv_iconst (v := -1) hx hb dX12_net_93 (by decide) ?_
            refine lv_iadd hx hb dX12_net_94 ?_
            refine lv_topi (fun x23 ex23 => ?_)
            refine lv_istore_n (lv' := [(3, .int x23), (0, .ref (b 0)), (1, .int (nI n2)), (2, .int (nI n5)), (4, .int (nI k_12))]) hx hb dX12_net_95 rfl hl (by decide) rfl (fun ls hl => ?_)
            refine lv_iinc (v := nI (k_12 + 1)) (lv' := [(4, .int (nI (k_12 + 1))), (3, .int x23), (0, .ref (b 0)), (1, .int (nI n2)), (2, .int (nI n5))]) hx hb dX12_net_96 hl (k := 4) rfl (nI_1 k_12) (by decide) rfl (fun ls hl => ?_)
            refine lv_goto (tgt := 38) hx hb dX12_net_99 (by decide) ?_
            exact ih12 _ u12 _ _ _ (by omega) ⟨hP, hS, hfr, (k_12 + 1), x23, rfl, (by first | assumption | omega | rfl | (congr 1; omega)), hL12_1, lv_sub hl [2, 3, 4, 1, 0] rfl⟩
          · have c22 := (b_eq (nI_toInt (n := (rs w10 k_12) % 2) (by omega)) (show Int32.toInt 0 = 0 from rfl)).mp c22
            refine lv_iconst (v := 1) hx hb dX12_net_89 (by decide) ?_
            refine lv_goto (tgt := 94) hx hb dX12_net_90 (by decide) ?_
            refine lv_iadd hx hb dX12_net_94 ?_
            refine lv_topi (fun x24 ex24 => ?_)
            refine lv_istore_n (lv' := [(3, .int x24), (0, .ref (b 0)), (1, .int (nI n2)), (2, .int (nI n5)), (4, .int (nI k_12))]) hx hb dX12_net_95 rfl hl (by decide) rfl (fun ls hl => ?_)
            refine lv_iinc (v := nI (k_12 + 1)) (lv' := [(4, .int (nI (k_12 + 1))), (3, .int x24), (0, .ref (b 0)), (1, .int (nI n2)), (2, .int (nI n5))]) hx hb dX12_net_96 hl (k := 4) rfl (nI_1 k_12) (by decide) rfl (fun ls hl => ?_)
            refine lv_goto (tgt := 38) hx hb dX12_net_99 (by decide) ?_
            exact ih12 _ u12 _ _ _ (by omega) ⟨hP, hS, hfr, (k_12 + 1), x24, rfl, (by first | assumption | omega | rfl | (congr 1; omega)), hL12_1, lv_sub hl [2, 3, 4, 1, 0] rfl⟩
        · have c20 := mt (b_eq (nI_toInt (n := (rs w10 k_12) / 2) (by omega)) (nI_toInt (n := n5) (by omega))).mpr c20
          refine lv_iconst (v := 0) hx hb dX12_net_69 (by decide) ?_
          refine lv_goto (tgt := 94) hx hb dX12_net_70 (by decide) ?_
          refine lv_iadd hx hb dX12_net_94 ?_
          refine lv_topi (fun x25 ex25 => ?_)
          refine lv_istore_n (lv' := [(3, .int x25), (0, .ref (b 0)), (1, .int (nI n2)), (2, .int (nI n5)), (4, .int (nI k_12))]) hx hb dX12_net_95 rfl hl (by decide) rfl (fun ls hl => ?_)
          refine lv_iinc (v := nI (k_12 + 1)) (lv' := [(4, .int (nI (k_12 + 1))), (3, .int x25), (0, .ref (b 0)), (1, .int (nI n2)), (2, .int (nI n5))]) hx hb dX12_net_96 hl (k := 4) rfl (nI_1 k_12) (by decide) rfl (fun ls hl => ?_)
          refine lv_goto (tgt := 38) hx hb dX12_net_99 (by decide) ?_
          exact ih12 _ u12 _ _ _ (by omega) ⟨hP, hS, hfr, (k_12 + 1), x25, rfl, (by first | assumption | omega | rfl | (congr 1; omega)), hL12_1, lv_sub hl [2, 3, 4, 1, 0] rfl⟩
    · refine lv_if_ne (tgt := 22) hx hb dX12_net_13 (by decide) (fun c26 => absurd c26 (by decide)) (fun c26 => ?_)
      refine lv_aload_n hx hb dX12_net_16 rfl (lv_at hl 0 rfl) ?_
      refine lv_iconst (v := 2) hx hb dX12_net_17 (by decide) ?_
      refine rc_i hAL hS hA (va_runV (As := [.int 2]) (rest := []) ⟨hx, hb, hml, hown, noTs⟩ (r_X12_refuse l dC dI s.heap.size cs b u a hA1 2) ⟨cbE 1 (wd_1498 hE) (wd_126 hE) (wd_1495 hE) rfl rfl (by decide +kernel) ⟨Nat.le_of_ble_eq_true rfl, Nat.le_of_ble_eq_true rfl⟩, (wd_1497 hE), (wd_54 hE)⟩ ⟨PR.blind, r_recv hK hP rfl, (r_pre (av := [.ref (b 0), .int 2]) hK hP hJ hE)⟩ rfl rfl hl.1 rfl (lv_room (Nat.le_of_ble_eq_true rfl)) dX12_net_18 ⟨Nat.le_of_ble_eq_true rfl, Nat.le_of_ble_eq_true rfl⟩) (fun r27 u27 H locs hpo27 hP hS => ?_)
      obtain ⟨hr27, hq27⟩ := hpo27
      have hA28 := (hq27.1 1 List.not_mem_nil).trans hA1
      have hfr := FR.step hfr hq27 (fun _ h => absurd h List.not_mem_nil) (by decide) (fun h => rfl)
      subst hr27
      exact W.iret (v := -1) hx hb hr (fun t ht hW => ⟨⟨-1, u27, rfl, ⟨trivial, hfr⟩, (show va_P (dC, dI) vwCl (rW cs b u27) t.heap by rw [ht]; exact hP)⟩, hS.F ht⟩) hS.2.2 dX12_net_21
  · refine lv_if_eq (tgt := 16) hx hb dX12_net_5 (by decide) (fun c29 => ?_) (fun c29 => absurd c29 (by decide))
    refine lv_aload_n hx hb dX12_net_16 rfl (lv_at hl 0 rfl) ?_
    refine lv_iconst (v := 2) hx hb dX12_net_17 (by decide) ?_
    refine rc_i hAL hS hA (va_runV (As := [.int 2]) (rest := []) ⟨hx, hb, hml, hown, noTs⟩ (r_X12_refuse l dC dI s.heap.size cs b u a hA1 2) ⟨cbE 1 (wd_1498 hE) (wd_126 hE) (wd_1495 hE) rfl rfl (by decide +kernel) ⟨Nat.le_of_ble_eq_true rfl, Nat.le_of_ble_eq_true rfl⟩, (wd_1497 hE), (wd_54 hE)⟩ ⟨PR.blind, r_recv hK hP rfl, (r_pre (av := [.ref (b 0), .int 2]) hK hP hJ hE)⟩ rfl rfl hl.1 rfl (lv_room (Nat.le_of_ble_eq_true rfl)) dX12_net_18 ⟨Nat.le_of_ble_eq_true rfl, Nat.le_of_ble_eq_true rfl⟩) (fun r30 u30 H locs hpo30 hP hS => ?_)
    obtain ⟨hr30, hq30⟩ := hpo30
    have hA31 := (hq30.1 1 List.not_mem_nil).trans hA1
    have hfr := FR.step hfr hq30 (fun _ h => absurd h List.not_mem_nil) (by decide) (fun h => rfl)
    subst hr30
    exact W.iret (v := -1) hx hb hr (fun t ht hW => ⟨⟨-1, u30, rfl, ⟨trivial, hfr⟩, (show va_P (dC, dI) vwCl (rW cs b u30) t.heap by rw [ht]; exact hP)⟩, hS.F ht⟩) hS.2.2 dX12_net_21
