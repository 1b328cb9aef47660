set_option maxHeartbeats 4000000 in
set_option maxRecDepth 100000 in
theorem r_X12_out (l : Launch) (dC : Nat → ClassId) (dI : Nat → Nat → Nat) (sz : Nat) (cs : Nat → ClassId) (b : Nat → Nat) (u : RS) (a : Nat → Int32) (hA1 : rA u 1 = a) (x : Int32) (oo : Nat) (hF30 : rF u 30 = nI oo) (hp0 : oo ≤ 400) : Met l yX12_out [.code yX12_out cX12_out 2 (some .int)] ({ frames := 1, cells := 0, slots := 0, locals := 40 }) (PR [.ref (b 0), .int x] sz dC dI cs b u) (va_Qi (fun (r : Int32) (u' : RS) => (True) ∧ FR [3, 4, 5, 6, 7, 8, 9, 10, 11, 12, 13, 14, 17, 18, 19, 20] [1, 5, 21, 22] true u u') (BR dC dI cs b) (AR b sz)) 0 0 (AR b sz) := by
  refine Met.ofW (cc := cX12_out) (maxL := 2) (ret := (some .int)) (by decide) rfl ?_
  intro p e s m args below meth c s₁ B hml hv
  obtain ⟨rfl, hsz, hP, hK, hJ, hE⟩ := hv
  have hx := B.exec
  have hb := B.bytes
  have hr := B.returns
  have hown : s.vm.findClass RX12 = some m.cls := findClass_of_methodNamed B.named
  have hlocks := B.notSynchronized
  subst hsz
  have hAL : ∀ i, i < 108 → AR b s.heap.size (b i) := fun i h => Or.inl ⟨i, h, rfl⟩
  have hA : ∀ q : Nat, s.heap.size ≤ q → AR b s.heap.size q := fun q h => Or.inr h
  have hS : va_S (AR b s.heap.size) s.heap s.heap [] := va_S.rf
  have hfr : FR [3, 4, 5, 6, 7, 8, 9, 10, 11, 12, 13, 14, 17, 18, 19, 20] [1, 5, 21, 22] true u u := FR.refl
  have hl := lv_entry ([.ref (b 0), .int x]) (n := 2) (Nat.le_of_ble_eq_true rfl)
  rw [lg_entry_eq]
  generalize (lg_sl ([.ref (b 0), .int x]) ++ List.replicate (2 - (lg_sl ([.ref (b 0), .int x])).length) Slot.unset).toArray = ls at hl ⊢
  have hl : lv_has ls 2 [(0, .ref (b 0)), (1, .int x)] := hl
  refine lv_iload_n hx hb dX12_out_0 rfl (lv_at hl 1 rfl) ?_
  refine lv_if_ge (tgt := 10) hx hb dX12_out_1 (by decide) (fun c2 => ?_) (fun c2 => ?_)
  · have c2 := (b_le (show Int32.toInt 0 = 0 from rfl) (rfl : Int32.toInt x = _)).mp c2
    refine lv_iload_n hx hb dX12_out_10 rfl (lv_at hl 1 rfl) ?_
    refine lv_aload_n hx hb dX12_out_11 rfl (lv_at hl 0 rfl) ?_
    refine r_get (v := .int (nI oo)) hx hb (ly_X12 hE) hown hK hP rfl 30 (by decide) (wd_1411 hE) (fun _ h9 => h9) (congrArg (fun z : Int32 => some (Value.int z)) hF30) dX12_out_12 ?_
    refine lv_icmp_ge (tgt := 31) hx hb dX12_out_15 (by decide) (fun c3 => ?_) (fun c3 => ?_)
    · have c3 := (b_le (nI_toInt (n := oo) (by omega)) (rfl : Int32.toInt x = _)).mp c3
      refine lv_aload_n hx hb dX12_out_31 rfl (lv_at hl 0 rfl) ?_
      refine lv_iconst (v := 5) hx hb dX12_out_32 (by decide) ?_
      refine rc_i hAL hS hA (va_runV (As := [.int 5]) (rest := []) ⟨hx, hb, hml, hown, noTs⟩ (r_X12_refuse l dC dI s.heap.size cs b u a hA1 5) ⟨cbE 1 (wd_1498 hE) (wd_126 hE) (wd_1495 hE) rfl rfl (by decide +kernel) ⟨Nat.le_of_ble_eq_true rfl, Nat.le_of_ble_eq_true rfl⟩, (wd_1497 hE), (wd_54 hE)⟩ ⟨PR.blind, r_recv hK hP rfl, (r_pre (av := [.ref (b 0), .int 5]) hK hP hJ hE)⟩ rfl rfl hl.1 rfl (lv_room (Nat.le_of_ble_eq_true rfl)) dX12_out_33 ⟨Nat.le_of_ble_eq_true rfl, Nat.le_of_ble_eq_true rfl⟩) (fun r4 u4 H locs hpo4 hP hS => ?_)
      obtain ⟨hr4, hq4⟩ := hpo4
      have hA5 := (hq4.1 1 List.not_mem_nil).trans hA1
      have hF6x := (hq4.2.1 30 (by decide)).trans hF30
      have hfr := FR.step hfr hq4 (fun _ h => absurd h List.not_mem_nil) (by decide) (fun h => rfl)
      subst hr4
      exact W.iret (v := -1) hx hb hr (fun t ht hW => ⟨⟨-1, u4, rfl, ⟨trivial, hfr⟩, (show va_P (dC, dI) vwCl (rW cs b u4) t.heap by rw [ht]; exact hP)⟩, hS.F ht⟩) hS.2.2 dX12_out_36
    · have c3 := mt (b_le (nI_toInt (n := oo) (by omega)) (rfl : Int32.toInt x = _)).mpr c3
      obtain ⟨nx7, hi7, hj7⟩ := z_ex (x := x) (n := oo) (by omega) (by omega)
      subst hi7
      have hti8 := nI_toInt (n := nx7) (by omega)
      refine lv_aload_n hx hb dX12_out_18 rfl (lv_at hl 0 rfl) ?_
      refine lv_aload_n hx hb dX12_out_19 rfl (lv_at hl 0 rfl) ?_
      refine r_get (v := .ref (b 107)) hx hb (ly_X12 hE) hown hK hP rfl 29 (by decide) (wd_1410 hE) (fun _ h9 => h9) rfl dX12_out_20 ?_
      refine lv_iload_n hx hb dX12_out_23 rfl (lv_at hl 1 rfl) ?_
      obtain ⟨y9, hy9⟩ : ∃ z : Int32, rA u 107 nx7 = z := ⟨_, rfl⟩
      refine r_bald (j := 107) (k := nx7) (n := 400) (x := y9) hx hb hK hP (by decide) rfl (by omega) (by decide) hy9 dX12_out_24 ?_
      refine rc_i hAL hS hA (va_runV (As := [.int y9]) (rest := []) ⟨hx, hb, hml, hown, noTs⟩ (r_X12_gives l dC dI s.heap.size cs b u a hA1 y9) ⟨cbE 1 (wd_1621 hE) (wd_126 hE) (wd_1618 hE) rfl rfl (by decide +kernel) ⟨Nat.le_of_ble_eq_true rfl, Nat.le_of_ble_eq_true rfl⟩, (wd_1620 hE), (wd_80 hE)⟩ ⟨PR.blind, r_recv hK hP rfl, (r_pre (av := [.ref (b 0), .int y9]) hK hP hJ hE)⟩ rfl rfl hl.1 rfl (lv_room (Nat.le_of_ble_eq_true rfl)) dX12_out_25 ⟨Nat.le_of_ble_eq_true rfl, Nat.le_of_ble_eq_true rfl⟩) (fun r10 u10 H locs hpo10 hP hS => ?_)
      obtain ⟨hr10, hq10⟩ := hpo10
      have hA11 := (hq10.1 1 List.not_mem_nil).trans hA1
      have hF12x := (hq10.2.1 30 (by decide)).trans hF30
      have hfr := FR.step hfr hq10 (fun _ h => absurd h List.not_mem_nil) (by decide) (fun h => rfl)
      refine W.eq (g2 := F0 m 28 ls [.int y9]) (by rw [hr10]) ?_
      refine lv_goto (tgt := 36) hx hb dX12_out_28 (by decide) ?_
      exact W.iret (v := y9) hx hb hr (fun t ht hW => ⟨⟨y9, u10, rfl, ⟨trivial, hfr⟩, (show va_P (dC, dI) vwCl (rW cs b u10) t.heap by rw [ht]; exact hP)⟩, hS.F ht⟩) hS.2.2 dX12_out_36
  · have c2 := mt (b_le (show Int32.toInt 0 = 0 from rfl) (rfl : Int32.toInt x = _)).mpr c2
    refine lv_aload_n hx hb dX12_out_4 rfl (lv_at hl 0 rfl) ?_
    refine lv_iconst (v := 1) hx hb dX12_out_5 (by decide) ?_
    refine rc_i hAL hS hA (va_runV (As := [.int 1]) (rest := []) ⟨hx, hb, hml, hown, noTs⟩ (r_X12_refuse l dC dI s.heap.size cs b u a hA1 1) ⟨cbE 1 (wd_1498 hE) (wd_126 hE) (wd_1495 hE) rfl rfl (by decide +kernel) ⟨Nat.le_of_ble_eq_true rfl, Nat.le_of_ble_eq_true rfl⟩, (wd_1497 hE), (wd_54 hE)⟩ ⟨PR.blind, r_recv hK hP rfl, (r_pre (av := [.ref (b 0), .int 1]) hK hP hJ hE)⟩ rfl rfl hl.1 rfl (lv_room (Nat.le_of_ble_eq_true rfl)) dX12_out_6 ⟨Nat.le_of_ble_eq_true rfl, Nat.le_of_ble_eq_true rfl⟩) (fun r13 u13 H locs hpo13 hP hS => ?_)
    obtain ⟨hr13, hq13⟩ := hpo13
    have hA14 := (hq13.1 1 List.not_mem_nil).trans hA1
    have hF15x := (hq13.2.1 30 (by decide)).trans hF30
    have hfr := FR.step hfr hq13 (fun _ h => absurd h List.not_mem_nil) (by decide) (fun h => rfl)
    subst hr13
    exact W.iret (v := -1) hx hb hr (fun t ht hW => ⟨⟨-1, u13, rfl, ⟨trivial, hfr⟩, (show va_P (dC, dI) vwCl (rW cs b u13) t.heap by rw [ht]; exact hP)⟩, hS.F ht⟩) hS.2.2 dX12_out_9
