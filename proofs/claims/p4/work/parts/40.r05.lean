set_option maxHeartbeats 4000000 in
set_option maxRecDepth 100000 in
theorem r_X12_mark_no (l : Launch) (dC : Nat → ClassId) (dI : Nat → Nat → Nat) (sz : Nat) (cs : Nat → ClassId) (b : Nat → Nat) (u : RS) (a : Nat → Int32) (hA1 : rA u 1 = a) (mm : Nat) (hF3 : rF u 3 = nI mm) (hp0 : AB a) (hp1 : mm = 3) : Met l yX12_mark [.code yX12_mark cX12_mark 1 (some .int)] ({ frames := 1, cells := 0, slots := 0, locals := 40 }) (PR [.ref (b 0)] sz dC dI cs b u) (va_Qi (fun (r : Int32) (u' : RS) => (r = -1) ∧ (AB (rA u' 1)) ∧ (rF u' 3 = nI mm) ∧ FR [1] [1, 3] false u u') (BR dC dI cs b) (AR b sz)) 0 0 (AR b sz) := by
  refine Met.ofW (cc := cX12_mark) (maxL := 1) (ret := (some .int)) (by decide) rfl ?_
  intro p e s m args below meth c s₁ B hml hv
  obtain ⟨rfl, hsz, hP, hK, hJ, hE⟩ := hv
  have hx := B.exec
  have hb := B.bytes
  have hr := B.returns
  have hown : s.vm.findClass RX12 = some m.cls := findClass_of_methodNamed B.named
  have hlocks := B.notSynchronized
  subst hsz
  have hAL : ∀ i, i < 108 → AR b s.heap.size (b i) := fun i h => Or.inl ⟨i, h, rfl⟩
  have hA : ∀ q : Nat, s.heap.size ≤ q → AR b s.heap.size q := fun q h => Or.inr h
  have hS : va_S (AR b s.heap.size) s.heap s.heap [] := va_S.rf
  have hfr : FR [1] [1, 3] false u u := FR.refl
  have hl := lv_entry ([.ref (b 0)]) (n := 1) (Nat.le_of_ble_eq_true rfl)
  rw [lg_entry_eq]
  generalize (lg_sl ([.ref (b 0)]) ++ List.replicate (1 - (lg_sl ([.ref (b 0)])).length) Slot.unset).toArray = ls at hl ⊢
  have hl : lv_has ls 1 [(0, .ref (b 0))] := hl
  have hB := ab_0 hp0
  have hG := bg_g hB
  have ha2 := gg_le hG
  have ha2b := bg_w hB
  refine lv_aload_n hx hb dX12_mark_0 rfl (lv_at hl 0 rfl) ?_
  refine r_get (v := .int (nI mm)) hx hb (ly_X12 hE) hown hK hP rfl 3 (by decide) (wd_1384 hE) (fun _ h9 => h9) (congrArg (fun z : Int32 => some (Value.int z)) hF3) dX12_mark_1 ?_
  refine lv_iconst (v := 3) hx hb dX12_mark_4 (by decide) ?_
  refine lv_icmp_ne (tgt := 14) hx hb dX12_mark_5 (by decide) (fun c4 => False.elim (by have c4 := mt (b_eq (nI_toInt (n := mm) (by omega)) (show Int32.toInt 3 = 3 from rfl)).mpr c4; omega)) (fun c4 => ?_)
  have c4 := (b_eq (nI_toInt (n := mm) (by omega)) (show Int32.toInt 3 = 3 from rfl)).mp c4
  refine lv_aload_n hx hb dX12_mark_8 rfl (lv_at hl 0 rfl) ?_
  refine lv_iconst (v := 3) hx hb dX12_mark_9 (by decide) ?_
  refine rc_i hAL hS hA (va_runV (As := [.int 3]) (rest := []) ⟨hx, hb, hml, hown, noTs⟩ (r_X12_refuse l dC dI s.heap.size cs b u a hA1 3) ⟨cbE 1 (wd_1498 hE) (wd_126 hE) (wd_1495 hE) rfl rfl (by decide +kernel) ⟨Nat.le_of_ble_eq_true rfl, Nat.le_of_ble_eq_true rfl⟩, (wd_1497 hE), (wd_54 hE)⟩ ⟨PR.blind, r_recv hK hP rfl, (r_pre (av := [.ref (b 0), .int 3]) hK hP hJ hE)⟩ rfl rfl hl.1 rfl (lv_room (Nat.le_of_ble_eq_true rfl)) dX12_mark_10 ⟨Nat.le_of_ble_eq_true rfl, Nat.le_of_ble_eq_true rfl⟩) (fun r5 u5 H locs hpo5 hP hS => ?_)
  obtain ⟨hr5, hq5⟩ := hpo5
  have hA6 := (hq5.1 1 List.not_mem_nil).trans hA1
  have hF7x := (hq5.2.1 3 (by decide)).trans hF3
  have hfr := FR.step hfr hq5 (fun _ h => absurd h List.not_mem_nil) (by decide) (fun h => rfl)
  subst hr5
  exact W.iret (v := -1) hx hb hr (fun t ht hW => ⟨⟨-1, u5, rfl, ⟨(by first | rfl | omega | (congr 1; omega) | assumption), (by first | (rw [hA6]; done) | (rw [hA6]; first | assumption | omega | rfl | (congr 1; omega))), (by first | (rw [hF7x]; done) | (rw [hF7x]; first | assumption | omega | rfl | (congr 1; omega))), hfr⟩, (show va_P (dC, dI) vwCl (rW cs b u5) t.heap by rw [ht]; exact hP)⟩, hS.F ht⟩) hS.2.2 dX12_mark_13

set_option maxHeartbeats 4000000 in
set_option maxRecDepth 100000 in
theorem r_X12_back (l : Launch) (dC : Nat → ClassId) (dI : Nat → Nat → Nat) (sz : Nat) (cs : Nat → ClassId) (b : Nat → Nat) (u : RS) (a : Nat → Int32) (hA1 : rA u 1 = a) (mm : Nat) (hF3 : rF u 3 = nI mm) (hp0 : AB a) (hp1 : 0 < mm ∧ mm ≤ 3) : Met l yX12_back [.code yX12_back cX12_back 1 (some .int)] ({ frames := 1, cells := 0, slots := 0, locals := 40 }) (PR [.ref (b 0)] sz dC dI cs b u) (va_Qi (fun (r : Int32) (u' : RS) => (r = nI (mm - 1)) ∧ (AB (rA u' 1)) ∧ (rF u' 3 = nI (mm - 1)) ∧ FR [1] [1, 3] false u u') (BR dC dI cs b) (AR b sz)) 0 0 (AR b sz) := by
  refine Met.ofW (cc := cX12_back) (maxL := 1) (ret := (some .int)) (by decide) rfl ?_
  intro p e s m args below meth c s₁ B hml hv
  obtain ⟨rfl, hsz, hP, hK, hJ, hE⟩ := hv
  have hx := B.exec
  have hb := B.bytes
  have hr := B.returns
  have hown : s.vm.findClass RX12 = some m.cls := findClass_of_methodNamed B.named
  have hlocks := B.notSynchronized
  subst hsz
  have hAL : ∀ i, i < 108 → AR b s.heap.size (b i) := fun i h => Or.inl ⟨i, h, rfl⟩
  have hA : ∀ q : Nat, s.heap.size ≤ q → AR b s.heap.size q := fun q h => Or.inr h
  have hS : va_S (AR b s.heap.size) s.heap s.heap [] := va_S.rf
  have hfr : FR [1] [1, 3] false u u := FR.refl
  have hl := lv_entry ([.ref (b 0)]) (n := 1) (Nat.le_of_ble_eq_true rfl)
  rw [lg_entry_eq]
  generalize (lg_sl ([.ref (b 0)]) ++ List.replicate (1 - (lg_sl ([.ref (b 0)])).length) Slot.unset).toArray = ls at hl ⊢
  have hl : lv_has ls 1 [(0, .ref (b 0))] := hl
  have hB := ab_0 hp0
  have hG := bg_g hB
  have ha2 := gg_le hG
  have ha2b := bg_w hB
  refine lv_aload_n hx hb dX12_back_0 rfl (lv_at hl 0 rfl) ?_
  refine r_get (v := .int (nI mm)) hx hb (ly_X12 hE) hown hK hP rfl 3 (by decide) (wd_1384 hE) (fun _ h9 => h9) (congrArg (fun z : Int32 => some (Value.int z)) hF3) dX12_back_1 ?_
  refine lv_if_ne (tgt := 13) hx hb dX12_back_4 (by decide) (fun c4 => ?_) (fun c4 => False.elim (by have c4 := (b_eq (nI_toInt (n := mm) (by omega)) (show Int32.toInt 0 = 0 from rfl)).mp c4; omega))
  have c4 := mt (b_eq (nI_toInt (n := mm) (by omega)) (show Int32.toInt 0 = 0 from rfl)).mpr c4
  refine lv_aload_n hx hb dX12_back_13 rfl (lv_at hl 0 rfl) ?_
  refine lv_dup hx hb dX12_back_14 rfl ?_
  refine r_get (v := .int (nI mm)) hx hb (ly_X12 hE) hown hK hP rfl 3 (by decide) (wd_1384 hE) (fun _ h9 => h9) (congrArg (fun z : Int32 => some (Value.int z)) hF3) dX12_back_15 ?_
  refine lv_iconst (v := 1) hx hb dX12_back_18 (by decide) ?_
  refine lv_isub hx hb dX12_back_19 ?_
  refine W.eq (g2 := F0 m 20 ls [.int (nI (mm - 1)), .ref (b 0)]) (congrArg (fun z : Int32 => F0 m 20 ls (.int z :: [.ref (b 0)])) (pk_sub (a := mm) (b := 1) (by omega))) ?_
  refine r_put (v := nI (mm - 1)) hx hb (ly_X12 hE) tyX12 tyX12_ok nmX12 hown hK hP hJ hAL hS rfl 3 (by decide) (wd_1384 hE) (fun _ h9 => h9) rfl (by decide +kernel) rfl (by decide) dX12_back_20 (fun u5 H locs hf5 hq5 hP hS => ?_)
  have hA6 := (hq5.1 1 List.not_mem_nil).trans hA1
  have hfr := FR.step hfr hq5 (fun _ h => absurd h List.not_mem_nil) (by decide) (fun h => rfl)
  refine lv_aload_n hx hb dX12_back_23 rfl (lv_at hl 0 rfl) ?_
  refine lv_sipush (v := 5540) hx hb dX12_back_24 (by decide) ?_
  refine lv_sipush (v := 554) hx hb dX12_back_27 (by decide) ?_
  refine lv_aload_n hx hb dX12_back_30 rfl (lv_at hl 0 rfl) ?_
  refine r_get (v := .int (nI (mm - 1))) hx hb (ly_X12 hE) hown hK hP rfl 3 (by decide) (wd_1384 hE) (fun _ h9 => h9) (congrArg (fun z : Int32 => some (Value.int z)) hf5) dX12_back_31 ?_
  refine lv_imul hx hb dX12_back_34 ?_
  refine W.eq (g2 := F0 m 35 ls [.int (nI (554 * (mm - 1))), .int 5540, .ref (b 0)]) (congrArg (fun z : Int32 => F0 m 35 ls (.int z :: [.int 5540, .ref (b 0)])) (pk_mul 554 (mm - 1))) ?_
  refine lv_iadd hx hb dX12_back_35 ?_
  refine W.eq (g2 := F0 m 36 ls [.int (nI (5540 + (554 * (mm - 1)))), .ref (b 0)]) (congrArg (fun z : Int32 => F0 m 36 ls (.int z :: [.ref (b 0)])) (nI_add 5540 (554 * (mm - 1)))) ?_
  refine lv_iconst (v := 0) hx hb dX12_back_36 (by decide) ?_
  refine rc_v hAL hS hA (va_runV (As := [.int (nI (5540 + (554 * (mm - 1)))), .int (nI 0)]) (rest := []) ⟨hx, hb, hml, hown, noTs⟩ (r_X12_copies l dC dI H.size cs b u5 a hA6 (5540 + (554 * (mm - 1))) 0 (by first | assumption | omega | rfl | (congr 1; omega)) (by first | assumption | omega | rfl | (congr 1; omega)) (by first | assumption | omega | rfl | (congr 1; omega))) ⟨cbE 2 (wd_1502 hE) (wd_126 hE) (wd_1499 hE) rfl rfl (by decide +kernel) ⟨Nat.le_of_ble_eq_true rfl, Nat.le_of_ble_eq_true rfl⟩, (wd_1501 hE), (wd_55 hE)⟩ ⟨PR.blind, r_recv hK hP rfl, (r_pre (av := [.ref (b 0), .int (nI (5540 + (554 * (mm - 1)))), .int (nI 0)]) hK hP hJ hE)⟩ rfl rfl hl.1 rfl (lv_room (Nat.le_of_ble_eq_true rfl)) dX12_back_37 ⟨Nat.le_of_ble_eq_true rfl, Nat.le_of_ble_eq_true rfl⟩) (fun u7 H locs hpo7 hP hS => ?_)
  obtain ⟨h7_0, h7_1, hq7⟩ := hpo7
  obtain ⟨w8, hA8⟩ : ∃ g, rA u7 1 = g := ⟨_, rfl⟩
  rw [hA8] at h7_0 h7_1
  have hF9x := (hq7.2.1 3 List.not_mem_nil).trans hf5
  have hfr := FR.step hfr hq7 (by decide) (fun _ h => absurd h List.not_mem_nil) (fun h => rfl)
  have abx := ab_copy (i := 10 + (mm - 1)) (j := 0) (by omega) hp0 (fun q hq => (congrArg w8 (show 554 * 0 + q = 0 + q by omega)).trans ((h7_0 q hq).trans (congrArg _ (by omega)))) (fun q hq => h7_1 q (by omega))
  refine lv_aload_n hx hb dX12_back_40 rfl (lv_at hl 0 rfl) ?_
  refine lv_aload_n hx hb dX12_back_41 rfl (lv_at hl 0 rfl) ?_
  refine r_get (v := .int (nI (mm - 1))) hx hb (ly_X12 hE) hown hK hP rfl 3 (by decide) (wd_1384 hE) (fun _ h9 => h9) (congrArg (fun z : Int32 => some (Value.int z)) hF9x) dX12_back_42 ?_
  refine rc_i hAL hS hA (va_runV (As := [.int (nI (mm - 1))]) (rest := []) ⟨hx, hb, hml, hown, noTs⟩ (r_X12_gives l dC dI H.size cs b u7 w8 hA8 (nI (mm - 1))) ⟨cbE 1 (wd_1621 hE) (wd_126 hE) (wd_1618 hE) rfl rfl (by decide +kernel) ⟨Nat.le_of_ble_eq_true rfl, Nat.le_of_ble_eq_true rfl⟩, (wd_1620 hE), (wd_80 hE)⟩ ⟨PR.blind, r_recv hK hP rfl, (r_pre (av := [.ref (b 0), .int (nI (mm - 1))]) hK hP hJ hE)⟩ rfl rfl hl.1 rfl (lv_room (Nat.le_of_ble_eq_true rfl)) dX12_back_45 ⟨Nat.le_of_ble_eq_true rfl, Nat.le_of_ble_eq_true rfl⟩) (fun r10 u10 H locs hpo10 hP hS => ?_)
  obtain ⟨hr10, hq10⟩ := hpo10
  have hA11 := (hq10.1 1 List.not_mem_nil).trans hA8
  have hF12x := (hq10.2.1 3 (by decide)).trans hF9x
  have hfr := FR.step hfr hq10 (fun _ h => absurd h List.not_mem_nil) (by decide) (fun h => rfl)
  refine W.eq (g2 := F0 m 48 ls [.int (nI (mm - 1))]) (by rw [hr10]) ?_
  exact W.iret (v := nI (mm - 1)) hx hb hr (fun t ht hW => ⟨⟨nI (mm - 1), u10, rfl, ⟨(by first | rfl | omega | (congr 1; omega) | assumption), (by first | (rw [hA11]; done) | (rw [hA11]; exact abx)), (by first | (rw [hF12x]; done) | (rw [hF12x]; first | assumption | omega | rfl | (congr 1; omega))), hfr⟩, (show va_P (dC, dI) vwCl (rW cs b u10) t.heap by rw [ht]; exact hP)⟩, hS.F ht⟩) hS.2.2 dX12_back_48

set_option maxHeartbeats 4000000 in
set_option maxRecDepth 100000 in
theorem r_X12_back_no (l : Launch) (dC : Nat → ClassId) (dI : Nat → Nat → Nat) (sz : Nat) (cs : Nat → ClassId) (b : Nat → Nat) (u : RS) (a : Nat → Int32) (hA1 : rA u 1 = a) (mm : Nat) (hF3 : rF u 3 = nI mm) (hp0 : AB a) (hp1 : mm = 0) : Met l yX12_back [.code yX12_back cX12_back 1 (some .int)] ({ frames := 1, cells := 0, slots := 0, locals := 40 }) (PR [.ref (b 0)] sz dC dI cs b u) (va_Qi (fun (r : Int32) (u' : RS) => (r = -1) ∧ (AB (rA u' 1)) ∧ (rF u' 3 = nI mm) ∧ FR [1] [1, 3] false u u') (BR dC dI cs b) (AR b sz)) 0 0 (AR b sz) := by
  refine Met.ofW (cc := cX12_back) (maxL := 1) (ret := (some .int)) (by decide) rfl ?_
  intro p e s m args below meth c s₁ B hml hv
  obtain ⟨rfl, hsz, hP, hK, hJ, hE⟩ := hv
  have hx := B.exec
  have hb := B.bytes
  have hr := B.returns
  have hown : s.vm.findClass RX12 = some m.cls := findClass_of_methodNamed B.named
  have hlocks := B.notSynchronized
  subst hsz
  have hAL : ∀ i, i < 108 → AR b s.heap.size (b i) := fun i h => Or.inl ⟨i, h, rfl⟩
  have hA : ∀ q : Nat, s.heap.size ≤ q → AR b s.heap.size q := fun q h => Or.inr h
  have hS : va_S (AR b s.heap.size) s.heap s.heap [] := va_S.rf
  have hfr : FR [1] [1, 3] false u u := FR.refl
  have hl := lv_entry ([.ref (b 0)]) (n := 1) (Nat.le_of_ble_eq_true rfl)
  rw [lg_entry_eq]
  generalize (lg_sl ([.ref (b 0)]) ++ List.replicate (1 - (lg_sl ([.ref (b 0)])).length) Slot.unset).toArray = ls at hl ⊢
  have hl : lv_has ls 1 [(0, .ref (b 0))] := hl
  have hB := ab_0 hp0
  have hG := bg_g hB
  have ha2 := gg_le hG
  have ha2b := bg_w hB
  refine lv_aload_n hx hb dX12_back_0 rfl (lv_at hl 0 rfl) ?_
  refine r_get (v := .int (nI mm)) hx hb (ly_X12 hE) hown hK hP rfl 3 (by decide) (wd_1384 hE) (fun _ h9 => h9) (congrArg (fun z : Int32 => some (Value.int z)) hF3) dX12_back_1 ?_
  refine lv_if_ne (tgt := 13) hx hb dX12_back_4 (by decide) (fun c4 => False.elim (by have c4 := mt (b_eq (nI_toInt (n := mm) (by omega)) (show Int32.toInt 0 = 0 from rfl)).mpr c4; omega)) (fun c4 => ?_)
  have c4 := (b_eq (nI_toInt (n := mm) (by omega)) (show Int32.toInt 0 = 0 from rfl)).mp c4
  refine lv_aload_n hx hb dX12_back_7 rfl (lv_at hl 0 rfl) ?_
  refine lv_iconst (v := 5) hx hb dX12_back_8 (by decide) ?_
  refine rc_i hAL hS hA (va_runV (As := [.int 5]) (rest := []) ⟨hx, hb, hml, hown, noTs⟩ (r_X12_refuse l dC dI s.heap.size cs b u a hA1 5) ⟨cbE 1 (wd_1498 hE) (wd_126 hE) (wd_1495 hE) rfl rfl (by decide +kernel) ⟨Nat.le_of_ble_eq_true rfl, Nat.le_of_ble_eq_true rfl⟩, (wd_1497 hE), (wd_54 hE)⟩ ⟨PR.blind, r_recv hK hP rfl, (r_pre (av := [.ref (b 0), .int 5]) hK hP hJ hE)⟩ rfl rfl hl.1 rfl (lv_room (Nat.le_of_ble_eq_true rfl)) dX12_back_9 ⟨Nat.le_of_ble_eq_true rfl, Nat.le_of_ble_eq_true rfl⟩) (fun r5 u5 H locs hpo5 hP hS => ?_)
  obtain ⟨hr5, hq5⟩ := hpo5
  have hA6 := (hq5.1 1 List.not_mem_nil).trans hA1
  have hF7x := (hq5.2.1 3 (by decide)).trans hF3
  have hfr := FR.step hfr hq5 (fun _ h => absurd h List.not_mem_nil) (by decide) (fun h => rfl)
  subst hr5
  exact W.iret (v := -1) hx hb hr (fun t ht hW => ⟨⟨-1, u5, rfl, ⟨(by first | rfl | omega | (congr 1; omega) | assumption), (by first | (rw [hA6]; done) | (rw [hA6]; first | assumption | omega | rfl | (congr 1; omega))), (by first | (rw [hF7x]; done) | (rw [hF7x]; first | assumption | omega | rfl | (congr 1; omega))), hfr⟩, (show va_P (dC, dI) vwCl (rW cs b u5) t.heap by rw [ht]; exact hP)⟩, hS.F ht⟩) hS.2.2 dX12_back_12

set_option maxHeartbeats 4000000 in
set_option maxRecDepth 100000 in
theorem r_X12_feed_no (l : Launch) (dC : Nat → ClassId) (dI : Nat → Nat → Nat) (sz : Nat) (cs : Nat → ClassId) (b : Nat → Nat) (u : RS) (a : Nat → Int32) (hA1 : rA u 1 = a) (x1 : Int32) (x2 : Int32) (x3 : Int32) (x4 : Int32) (x5 : Int32) (tt : Nat) (hF10 : rF u 10 = nI tt) (hp0 : 700 < tt + 20) (hp1 : tt ≤ 700) : Met l yX12_feed [.code yX12_feed cX12_feed 6 (some .int)] ({ frames := 0, cells := 0, slots := 0, locals := 0 }) (PR [.ref (b 0), .int x1, .int x2, .int x3, .int x4, .int x5] sz dC dI cs b u) (vp_Si (fun (r : Int32) => r = -1)) 0 0 (fun _ => False) := by
  refine Met.ofW (cc := cX12_feed) (maxL := 6) (ret := (some .int)) (by decide) rfl ?_
  intro p e s m args below meth c s₁ B hml hv
  obtain ⟨rfl, hsz, hP, hK, hJ, hE⟩ := hv
  have hx := B.exec
  have hb := B.bytes
  have hr := B.returns
  have hown : s.vm.findClass RX12 = some m.cls := findClass_of_methodNamed B.named
  have hlocks := B.notSynchronized
  subst hsz
  have hl := lv_entry ([.ref (b 0), .int x1, .int x2, .int x3, .int x4, .int x5]) (n := 6) (Nat.le_of_ble_eq_true rfl)
  rw [lg_entry_eq]
  generalize (lg_sl ([.ref (b 0), .int x1, .int x2, .int x3, .int x4, .int x5]) ++ List.replicate (6 - (lg_sl ([.ref (b 0), .int x1, .int x2, .int x3, .int x4, .int x5])).length) Slot.unset).toArray = ls at hl ⊢
  have hl : lv_has ls 6 [(0, .ref (b 0)), (1, .int x1), (2, .int x2), (3, .int x3), (4, .int x4), (5, .int x5)] := hl
  refine lv_aload_n hx hb dX12_feed_0 rfl (lv_at hl 0 rfl) ?_
  refine r_get (v := .int (nI tt)) hx hb (ly_X12 hE) hown hK hP rfl 10 (by decide) (wd_1391 hE) (fun _ h9 => h9) (congrArg (fun z : Int32 => some (Value.int z)) hF10) dX12_feed_1 ?_
  refine lv_sipush (v := 680) hx hb dX12_feed_4 (by decide) ?_
  refine lv_icmp_le (tgt := 12) hx hb dX12_feed_7 (by decide) (fun c3 => False.elim (by have c3 := (b_le (nI_toInt (n := tt) (by omega)) (show Int32.toInt 680 = 680 from rfl)).mp c3; omega)) (fun c3 => ?_)
  have c3 := mt (b_le (nI_toInt (n := tt) (by omega)) (show Int32.toInt 680 = 680 from rfl)).mpr c3
  refine lv_iconst (v := -1) hx hb dX12_feed_10 (by decide) ?_
  exact W.iret (v := -1) hx hb hr (fun t ht hW => ⟨-1, rfl, (by first | rfl | omega | (congr 1; omega) | assumption), ht⟩) (fun _ h => absurd h List.not_mem_nil) dX12_feed_11
