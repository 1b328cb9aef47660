set_option maxHeartbeats 4000000 in
set_option maxRecDepth 100000 in
theorem r_X12_mark_no (l : Launch) (dC : Nat → ClassId) (dI : Nat → Nat → Nat) (sz : Nat) (cs : Nat → ClassId) (b : Nat → Nat) (u : RS) (a : Nat → Int32) (hA1 : rA u 1 = a) (mm : Nat) (hF3 : rF u 3 = nI mm) (hp0 : AB a) (hp1 : mm = 3) : Met l yX12_mark [.code yX12_mark cX12_mark 1 (some .int)] ({ frames := 1, cells := 0, slots := 0, locals := 40 }) (PR [.ref (b 0)] sz dC dI cs b u) (va_Qi (fun (r : Int32) (u' : RS) => (r = -1) ∧ (AB (rA u' 1)) ∧ (rF u' 3 = nI mm) ∧ FR [1] [1, 3] false u u') (BR dC dI cs b) (AR b sz)) 0 0 (AR b sz) := by
  refine Met.ofW (cc := cX12_mark) (maxL := 1) (ret := (some .int)) (by decide) rfl ?_
  intro p e s m args below meth c s₁ B hml hv
  obtain ⟨rfl, hsz, hP, hK, hJ, hE⟩ := hv
  have hx := B.exec
  have hb := B.bytes
  have hr := B.returns
  have hown : s.vm.findClass RX12 = some m.cls := findClass_of_methodNamed B.named
  have hlocks := B.notSynchronized
  subst hsz
  have hAL : ∀ i, i < 108 → AR b s.heap.size (b i) := fun i h => Or.inl ⟨i, h, rfl⟩
  have hA : ∀ q : Nat, s.heap.size ≤ q → AR b s.heap.size q := fun q h => Or.inr h
  have hS : va_S (AR b s.heap.size) s.heap s.heap [] := va_S.rf
  have hfr : FR [1] [1, 3] false u u := FR.refl
  have hl := lv_entry ([.ref (b 0)]) (n := 1) (Nat.le_of_ble_eq_true rfl)
  rw [lg_entry_eq]
  generalize (lg_sl ([.ref (b 0)]) ++ List.replicate (1 - (lg_sl ([.ref (b 0)])).length) Slot.unset).toArray = ls at hl ⊢
  have hl : lv_has ls 1 [(0, .ref (b 0))] := hl
  have hB := ab_0 hp0
  have hG := bg_g hB
  have ha2 := gg_le hG
  have ha2b := bg_w hB
  refine lv_aload_n hx hb dX12_mark_0 rfl (lv_at hl 0 rfl) ?_
  refine r_get (v := .int (nI mm)) hx hb (ly_X12 hE) hown hK hP rfl 3 (by decide) (wd_1384 hE) (fun _ h9 => h9) (congrArg (fun z : Int32 => some (Value.int z)) hF3) dX12_mark_1 ?_
  refine lv_iconst (v := 3) hx hb dX12_mark_4 (by decide) ?_
  refine lv_icmp_ne (tgt := 14) hx hb dX12_mark_5 (by decide) (fun c4 => False.elim (by have c4 := mt (b_eq (nI_toInt (n := mm) (by omega)) (show Int32.toInt 3 = 3 from rfl)).mpr c4; omega)) (fun c4 => ?_)
  have c4 := (b_eq (nI_toInt (n := mm) (by omega)) (show Int32.toInt 3 = 3 from rfl)).mp c4
  refine lv_aload_n hx hb dX12_mark_8 rfl (lv_at hl 0 rfl) ?_
  refine lv_iconst (v := 3) hx hb dX12_mark_9 (by decide) ?_
  refine rc_i hAL hS hA (va_runV (As := [.int 3]) (rest := []) ⟨hx, hb, hml, hown, noTs⟩ (r_X12_refuse l dC dI s.heap.size cs b u a hA1 3) ⟨cbE 1 (wd_1498 hE) (wd_126 hE) (wd_1495 hE) rfl rfl (by decide +kernel) ⟨Nat.le_of_ble_eq_true rfl, Nat.le_of_ble_eq_true rfl⟩, (wd_1497 hE), (wd_54 hE)⟩ ⟨PR.blind, r_recv hK hP rfl, (r_pre (av := [.ref (b 0), .int 3]) hK hP hJ hE)⟩ rfl rfl hl.1 rfl (lv_room (Nat.le_of_ble_eq_true rfl)) dX12_mark_10 ⟨Nat.le_of_ble_eq_true rfl, Nat.le_of_ble_eq_true rfl⟩) (fun r5 u5 H locs hpo5 hP hS => ?_)
  obtain ⟨hr5, hq5⟩ := hpo5
  have hA6 := (hq5.1 1 List.not_mem_nil).trans hA1
  have hF7x := (hq5.2.1 3 (by decide)).trans hF3
  have hfr := FR.step hfr hq5 (fun _ h => absurd h List.not_mem_nil) (by decide) (fun h => rfl)
  subst hr5
  exact W.iret (v := -1) hx hb hr (fun t ht hW => ⟨⟨-1, u5, rfl, ⟨(by first | rfl | omega | (congr 1; omega) | assumption), (by first | (rw [hA6]; done) | (rw [hA6]; first | assumption | omega | rfl | (congr 1; omega))), (by first | (rw [hF7x]; done) | (rw [hF7x]; first | assumption | omega | rfl | (congr 1; omega))), hfr⟩, (show va_P (dC, dI) vwCl (rW cs b u5) t.heap by rw [ht]; exact hP)⟩, hS.F ht⟩) hS.2.2 dX12_mark_13

set_option maxHeartbeats 4000000 in
set_option maxRecDepth 100000 in
theorem r_X12_back (l : Launch) (dC : Nat → ClassId) (dI : Nat → Nat → Nat) (sz : Nat) (cs : Nat → ClassId) (b : Nat → Nat) (u : RS) (a : Nat → Int32) (hA1 : rA u 1 = a) (mm : Nat) (hF3 : rF u 3 = nI mm) (hp0 : AB a) (hp1 : 0 < mm ∧ mm ≤ 3) : Met l yX12_back [.code yX12_back cX12_back 1 (some .int)] ({ frames := 1, cells := 0, slots := 0, locals := 40 }) (PR [.ref (b 0)] sz dC dI cs b u) (va_Qi (fun (r : Int32) (u' : RS) => (r = nI (mm - 1)) ∧ (AB (rA u' 1)) ∧ (rF u' 3 = nI (mm - 1)) ∧ FR [1] [1, 3] false u u') (BR dC dI cs b) (AR b sz)) 0 0 (AR b sz) := by
  refine Met.ofW (cc := cX12_back) (maxL := 1) (ret := (some .int)) (by decide) rfl ?_
  intro p e s m args below meth c s₁ B hml hv
  obtain ⟨rfl, hsz, hP, hK, hJ, hE⟩ := hv
  have hx := B.exec
  have hb := B.bytes
  have hr := B.returns
  have hown : s.vm.findClass RX12 = some m.cls := findClass_of_methodNamed B.named
  have hlocks := B.notSynchronized
  subst hsz
  have hAL : ∀ i, i < 108 → AR b s.heap.size (b i) := fun i h => Or.inl ⟨i, h, rfl⟩
  have hA : ∀ q : Nat, s.heap.size ≤ q → AR b s.heap.size q := fun q h => Or.inr h
  have hS : va_S (AR b s.heap.size) s.heap s.heap [] := va_S.rf
  have hfr : FR [1] [1, 3] false u u := FR.refl
  have hl := lv_entry ([.ref (b 0)]) (n := 1) (Nat.le_of_ble_eq_true rfl)
  rw [lg_entry_eq]
  generalize (lg_sl ([.ref (b 0)]) ++ List.replicate (1 - (lg_sl ([.ref (b 0)])).length) Slot.unset).toArray = ls at hl ⊢
  have hl : lv_has ls 1 [(0, .ref (b 0))] := hl
  have hB := ab_0 hp0
  have hG := bg_g hB
  have ha2 := gg_le hG
  have ha2b := bg_w hB
  refine lv_aload_n hx hb dX12_back_0 rfl (lv_at hl 0 rfl) ?_
  refine r_get (v := .int (nI mm)) hx hb (ly_X12 hE) hown hK hP rfl 3 (by decide) (wd_1384 hE) (fun _ h9 => h9) (congrArg (fun z : Int32 => some (Value.int z)) hF3) dX12_back_1 ?_
  refine lv_if_ne (tgt := 13) hx hb dX12_back_4 (by decide) (fun c4 => ?_) (fun c4 => False.elim (by have c4 := (b_eq (nI_toInt (n := mm) (by omega)) (show Int32.toInt 0 = 0 from rfl)).mp c4; omega))
  have c4 := mt (b_eq (nI_toInt (n := mm) (by omega)) (show Int32.toInt 0 = 0 from rfl)).mpr c4
  refine lv_aload_n hx hb dX12_back_13 rfl (lv_at hl 0 rfl) ?_
  refine lv_dup hx hb dX12_back_14 rfl ?_
  refine r_get (v := .int (nI mm)) hx hb (ly_X12 hE) hown hK hP rfl 3 (by decide) (wd_1384 hE) (fun _ h9 => h9) (congrArg (fun z : Int32 => some (Value.int z)) hF3) dX12_back_15 ?_
  refine lv_iconst (v := 1) hx hb dX12_back_18 (by decide) ?_
  refine lv_isub hx hb dX12_back_19 ?_
  refine W.eq (g2 := F0 m 20 ls [.int (nI (mm - 1)), .ref (b 0)]) (congrArg (fun z : Int32 => F0 m 20 ls (.int z :: [.ref (b 0)])) (pk_sub (a := mm) (b := 1) (by omega))) ?_
  refine r_put (v := nI (mm - 1)) hx hb (ly_X12 hE) tyX12 tyX12_ok nmX12 hown hK hP hJ hAL hS rfl 3 (by decide) (wd_1384 hE) (fun _ h9 => h9) rfl (by decide +kernel) rfl (by decide) dX12_back_20 (fun u5 H locs hf5 hq5 hP hS => ?_)
  have hA6 := (hq5.1 1 List.not_mem_nil).trans hA1
  have hfr := FR.step hfr hq5 (fun _ h => absurd h List.not_mem_nil) (by decide) (fun h => rfl)
  refine lv_aload_n hx hb dX12_back_23 rfl (lv_at hl 0 rfl) ?_
  refine lv_sipush (v := 5540) hx hb dX12_back_24 (by decide) ?_
  refine lv_sipush (v := 554) hx hb dX12_back_27 (by decide) ?_
  refine lv_aload_n hx hb dX12_back_30 rfl (lv_at hl 0 rfl) ?_
  refine r_get (v := .int (nI (mm - 1))) hx hb (ly_X12 hE) hown hK hP rfl 3 (by decide) (wd_1384 hE) (fun _ h9 => h9) (congrArg (fun z : Int32 => some (Value.int z)) hf5) dX12_back_31 ?_
  refine lv_imul hx hb dX12_back_34 ?_
  refine W.eq (g2 := F0 m 35 ls [.int (nI (554 * (mm - 1))), .int 5540, .ref (b 0)]) (congrArg (fun z : Int32 => F0 m 35 ls (.int z :: [.int 5540, .ref (b 0)])) (pk_mul 554 (mm - 1))) ?_
  refine lv_iadd hx hb dX12_back_35 ?_
  refine W.eq (g2 := F0 m 36 ls [.int (nI (5540 + (554 * (mm - 1)))), .ref (b 0)]) (congrArg (fun z : Int32 => F0 m 36 ls (.int z :: [.ref (b 0)])) (nI_add 5540 (554 * (mm - 1)))) ?_
  refine lv_iconst (v := 0) hx hb dX12_back_36 (by decide) ?_
  refine rc_v hAL hS hA (va_runV (As := [.int (nI (5540 + (554 * (mm - 1)))), .int (nI 0)]) (rest := []) ⟨hx, hb, hml, hown, noTs⟩ (r_X12_copies l dC dI H.size cs b u5 a hA6 (5540 + (554 * (mm - 1))) 0 (by first | assumption | omega | rfl | (congr 1; omega)) (by first | assumption | omega | rfl | (congr 1; omega)) (by first | assumption | omega | rfl | (congr 1; omega))) ⟨cbE 2 (wd_1502 hE) (wd_126 hE) (wd_1499 hE) rfl rfl (by decide +kernel) ⟨Nat.le_of_ble_eq_true rfl, Nat.le_of_ble_eq_true rfl⟩, (wd_1501 hE), (wd_55 hE)⟩ ⟨PR.blind, r_recv hK hP rfl, (r_pre (av := [.ref (b 0), .int (nI (5540 + (554 * (mm - 1)))), .int (nI 0)]) hK hP hJ hE)⟩ rfl rfl hl.1 rfl (lv_room (Nat.le_of_ble_eq_true rfl)) dX12_back_37 ⟨Nat.le_of_ble_eq_true rfl, Nat.le_of_ble_eq_true rfl⟩) (fun u7 H locs hpo7 hP hS => ?_)
  obtain ⟨h7_0, h7_1, hq7⟩ := hpo7
  obtain ⟨w8, hA8⟩ : ∃ g, rA u7 1 = g := ⟨_, rfl⟩
  rw [hA8] at h7_0 h7_1
  have hF9x := (hq7.2.1 3 List.not_mem_nil).trans hf5
  have hfr := FR.step hfr hq7 (by decide) (fun _ h => absurd h List.not_mem_nil) (fun h => rfl)
  have abx := ab_copy (i := 10 + (mm - 1)) (j := 0) (by omega) hp0 (fun q hq => (congrArg w8 (show 554 * 0 + q = 0 + q by omega)).trans ((h7_0 q hq).trans (congrArg _ (by omega)))) (fun q hq => h7_1 q (by omega))
  refine lv_aload_n hx hb dX12_back_40 rfl (lv_at hl 0 rfl) ?_
  refine lv_aload_n hx hb dX12_back_41 rfl (lv_at hl 0 rfl) ?_
  refine r_get (v := .int (nI (mm - 1))) hx hb (ly_X12 hE) hown hK hP rfl 3 (by decide) (wd_1384 hE) (fun _ h9 => h9) (congrArg (fun z : Int32 => some (Value.int z)) hF9x) dX12_back_42 ?_
  refine rc_i hAL hS hA (va_runV (As := [.int (nI (mm - 1))]) (rest := []) ⟨hx, hb, hml, hown, noTs⟩ (r_X12_gives l dC dI H.size cs b u7 w8 hA8 (nI (mm - 1))) ⟨cbE 1 (wd_1621 hE) (wd_126 hE) (wd_1618 hE) rfl rfl (by decide +kernel) ⟨Nat.le_of_ble_eq_true rfl, Nat.le_of_ble_eq_true rfl⟩, (wd_1620 hE), (wd_80 hE)⟩ ⟨PR.blind, r_recv hK hP rfl, (r_pre (av := [.ref (b 0), .int (nI (mm - 1))]) hK hP hJ hE)⟩ rfl rfl hl.1 rfl (lv_room (Nat.le_of_ble_eq_true rfl)) dX12_back_45 ⟨Nat.le_of_ble_eq_true rfl, Nat.le_of_ble_eq_true rfl⟩) (fun r10 u10 H locs hpo10 hP hS => ?_)
  obtain ⟨hr10, hq10⟩ := hpo10
  have hA11 := (hq10.1 1 List.not_mem_nil).trans hA8
  have hF12x := (hq10.2.1 3 (by decide)).trans hF9x
  have hfr := FR.step hfr hq10 (fun _ h => absurd h List.not_mem_nil) (by decide) (fun h => rfl)
  refine W.eq (g2 := F0 m 48 ls [.int (nI (mm - 1))]) (by rw [hr10]) ?_
  exact W.iret (v := nI (mm - 1)) hx hb hr (fun t ht hW => ⟨⟨nI (mm - 1), u10, rfl, ⟨(by first | rfl | omega | (congr 1; omega) | assumption), (by first | (rw [hA11]; done) | (rw [hA11]; exact abx)), (by first | (rw [hF12x]; done) | (rw [hF12x]; first | assumption | omega | rfl | (congr 1; omega))), hfr⟩, (show va_P (dC, dI) vwCl (rW cs b u10) t.heap by rw [ht]; exact hP)⟩, hS.F ht⟩) hS.2.2 dX12_back_48

set_option maxHeartbeats 4000000 in
set_option maxRecDepth 100000 in
theorem r_X12_back_no (l : Launch) (dC : Nat → ClassId) (dI : Nat → Nat → Nat) (sz : Nat) (cs : Nat → ClassId) (b : Nat → Nat) (u : RS) (a : Nat → Int32) (hA1 : rA u 1 = a) (mm : Nat) (hF3 : rF u 3 = nI mm) (hp0 : AB a) (hp1 : mm = 0) : Met l yX12_back [.code yX12_back cX12_back 1 (some .int)] ({ frames := 1, cells := 0, slots := 0, locals := 40 }) (PR [.ref (b 0)] sz dC dI cs b u) (va_Qi (fun (r : Int32) (u' : RS) => (r = -1) ∧ (AB (rA u' 1)) ∧ (rF u' 3 = nI mm) ∧ FR [1] [1, 3] false u u') (BR dC dI cs b) (AR b sz)) 0 0 (AR b sz) := by
  refine Met.ofW (cc := cX12_back) (maxL := 1) (ret := (some .int)) (by decide) rfl ?_
  intro p e s m args below meth c s₁ B hml hv
  obtain ⟨rfl, hsz, hP, hK, hJ, hE⟩ := hv
  have hx := B.exec
  have hb := B.bytes
  have hr := B.returns
  have hown : s.vm.findClass RX12 = some m.cls := findClass_of_methodNamed B.named
  have hlocks := B.notSynchronized
  subst hsz
  have hAL : ∀ i, i < 108 → AR b s.heap.size (b i) := fun i h => Or.inl ⟨i, h, rfl⟩
  have hA : ∀ q : Nat, s.heap.size ≤ q → AR b s.heap.size q := fun q h => Or.inr h
  have hS : va_S (AR b s.heap.size) s.heap s.heap [] := va_S.rf
  have hfr : FR [1] [1, 3] false u u := FR.refl
  have hl := lv_entry ([.ref (b 0)]) (n := 1) (Nat.le_of_ble_eq_true rfl)
  rw [lg_entry_eq]
  generalize (lg_sl ([.ref (b 0)]) ++ List.replicate (1 - (lg_sl ([.ref (b 0)])).length) Slot.unset).toArray = ls at hl ⊢
  have hl : lv_has ls 1 [(0, .ref (b 0))] := hl
  have hB := ab_0 hp0
  have hG := bg_g hB
  have ha2 := gg_le hG
  have ha2b := bg_w hB
  refine lv_aload_n hx hb dX12_back_0 rfl (lv_at hl 0 rfl) ?_
  refine r_get (v := .int (nI mm)) hx hb (ly_X12 hE) hown hK hP rfl 3 (by decide) (wd_1384 hE) (fun _ h9 => h9) (congrArg (fun z : Int32 => some (Value.int z)) hF3) dX12_back_1 ?_
  refine lv_if_ne (tgt := 13) hx hb dX12_back_4 (by decide) (fun c4 => False.elim (by have c4 := mt (b_eq (nI_toInt (n := mm) (by omega)) (show Int32.toInt 0 = 0 from rfl)).mpr c4; omega)) (fun c4 => ?_)
  have c4 := (b_eq (nI_toInt (n := mm) (by omega)) (show Int32.toInt 0 = 0 from rfl)).mp c4
  refine lv_aload_n hx hb dX12_back_7 rfl (lv_at hl 0 rfl) ?_
  refine lv_iconst (v := 5) hx hb dX12_back_8 (by decide) ?_
  refine rc_i hAL hS hA (va_runV (As := [.int 5]) (rest := []) ⟨hx, hb, hml, hown, noTs⟩ (r_X12_refuse l dC dI s.heap.size cs b u a hA1 5) ⟨cbE 1 (wd_1498 hE) (wd_126 hE) (wd_1495 hE) rfl rfl (by decide +kernel) ⟨Nat.le_of_ble_eq_true rfl, Nat.le_of_ble_eq_true rfl⟩, (wd_1497 hE), (wd_54 hE)⟩ ⟨PR.blind, r_recv hK hP rfl, (r_pre (av := [.ref (b 0), .int 5]) hK hP hJ hE)⟩ rfl rfl hl.1 rfl (lv_room (Nat.le_of_ble_eq_true rfl)) dX12_back_9 ⟨Nat.le_of_ble_eq_true rfl, Nat.le_of_ble_eq_true rfl⟩) (fun r5 u5 H locs hpo5 hP hS => ?_)
  obtain ⟨hr5, hq5⟩ := hpo5
  have hA6 := (hq5.1 1 List.not_mem_nil).trans hA1
  have hF7x := (hq5.2.1 3 (by decide)).trans hF3
  have hfr := FR.step hfr hq5 (fun _ h => absurd h List.not_mem_nil) (by decide) (fun h => rfl)
  subst hr5
  exact W.iret (v := -1) hx hb hr (fun t ht hW => ⟨⟨-1, u5, rfl, ⟨(by first | rfl | omega | (congr 1; omega) | assumption), (by first | (rw [hA6]; done) | (rw [hA6]; first | assumption | omega | rfl | (congr 1; omega))), (by first | (rw [hF7x]; done) | (rw [hF7x]; first | assumption | omega | rfl | (congr 1; omega))), hfr⟩, (show va_P (dC, dI) vwCl (rW cs b u5) t.heap by rw [ht]; exact hP)⟩, hS.F ht⟩) hS.2.2 dX12_back_12

set_option maxHeartbeats 4000000 in
set_option maxRecDepth 100000 in
theorem r_X12_four (l : Launch) (dC : Nat → ClassId) (dI : Nat → Nat → Nat) (sz : Nat) (cs : Nat → ClassId) (b : Nat → Nat) (u : RS) (a : Nat → Int32) (hA1 : rA u 1 = a) (x : Int32) (tt : Nat) (hF10 : rF u 10 = nI tt) (hp0 : tt + 4 ≤ 700) : Met l yX12_four [.code yX12_four cX12_four 3 none] ({ frames := 0, cells := 0, slots := 0, locals := 0 }) (PR [.ref (b 0), .int x] sz dC dI cs b u) (va_Qv (fun (u' : RS) => (rF u' 10 = nI (tt + 4)) ∧ FR [15] [10] false u u') (BR dC dI cs b) (AR b sz)) 0 0 (AR b sz) := by
  refine Met.ofW (cc := cX12_four) (maxL := 3) (ret := none) (by decide) rfl ?_
  intro p e s m args below meth c s₁ B hml hv
  obtain ⟨rfl, hsz, hP, hK, hJ, hE⟩ := hv
  have hx := B.exec
  have hb := B.bytes
  have hr := B.returns
  have hown : s.vm.findClass RX12 = some m.cls := findClass_of_methodNamed B.named
  have hlocks := B.notSynchronized
  subst hsz
  have hAL : ∀ i, i < 108 → AR b s.heap.size (b i) := fun i h => Or.inl ⟨i, h, rfl⟩
  have hA : ∀ q : Nat, s.heap.size ≤ q → AR b s.heap.size q := fun q h => Or.inr h
  have hS : va_S (AR b s.heap.size) s.heap s.heap [] := va_S.rf
  have hfr : FR [15] [10] false u u := FR.refl
  have hl := lv_entry ([.ref (b 0), .int x]) (n := 3) (Nat.le_of_ble_eq_true rfl)
  rw [lg_entry_eq]
  generalize (lg_sl ([.ref (b 0), .int x]) ++ List.replicate (3 - (lg_sl ([.ref (b 0), .int x])).length) Slot.unset).toArray = ls at hl ⊢
  have hl : lv_has ls 3 [(0, .ref (b 0)), (1, .int x)] := hl
  refine lv_iconst (v := 3) hx hb dX12_four_0 (by decide) ?_
  refine lv_istore_n (lv' := [(2, .int 3), (0, .ref (b 0)), (1, .int x)]) hx hb dX12_four_1 rfl hl (by decide) rfl (fun ls hl => ?_)
  refine lv_iload_n hx hb dX12_four_2 rfl (lv_at hl 0 rfl) ?_
  refine lv_if_lt (tgt := 38) hx hb dX12_four_3 (by decide) (fun c2 => absurd c2 (by decide)) (fun c2 => ?_)
  refine lv_aload_n hx hb dX12_four_6 rfl (lv_at hl 1 rfl) ?_
  refine r_get (v := .ref (b 15)) hx hb (ly_X12 hE) hown hK hP rfl 8 (by decide) (wd_1389 hE) (fun _ h9 => h9) rfl dX12_four_7 ?_
  refine lv_aload_n hx hb dX12_four_10 rfl (lv_at hl 1 rfl) ?_
  refine r_get (v := .int (nI tt)) hx hb (ly_X12 hE) hown hK hP rfl 10 (by decide) (wd_1391 hE) (fun _ h9 => h9) (congrArg (fun z : Int32 => some (Value.int z)) hF10) dX12_four_11 ?_
  refine lv_iload_n hx hb dX12_four_14 rfl (lv_at hl 2 rfl) ?_
  refine lv_bipush (v := 8) hx hb dX12_four_15 (by decide) ?_
  refine lv_iload_n hx hb dX12_four_17 rfl (lv_at hl 0 rfl) ?_
  refine lv_imul hx hb dX12_four_18 ?_
  refine W.eq (g2 := F0 m 19 ls [.int 24, .int x, .int (nI tt), .ref (b 15)]) rfl ?_
  refine lv_ishr hx hb dX12_four_19 ?_
  refine lv_topi (fun x3 ex3 => ?_)
  refine lv_i2b hx hb dX12_four_20 rfl ?_
  refine lv_topi (fun x4 ex4 => ?_)
  obtain ⟨g6, hg6⟩ : ∃ g, rA u 15 = g := ⟨_, rfl⟩
  refine r_bast (j := 15) (k := tt) (n := 700) (x := x4) hx hb hK hP hJ hAL hS (by decide) (fun _ => rfl) hg6 (by omega) (by decide) dX12_four_21 (fun u5 H locs hs5 hq5 hP hS => ?_)
  obtain ⟨w5, hw5⟩ : ∃ g, g = upd g6 tt (vp_nar .byte x4) := ⟨_, rfl⟩
  rw [← hw5] at hs5
  have hA7 := (hq5.1 1 (by decide)).trans hA1
  have hF8x := (hq5.2.1 10 List.not_mem_nil).trans hF10
  have hfr := FR.step hfr hq5 (by decide) (fun _ h => absurd h List.not_mem_nil) (fun h => rfl)
  refine lv_aload_n hx hb dX12_four_22 rfl (lv_at hl 1 rfl) ?_
  refine lv_dup hx hb dX12_four_23 rfl ?_
  refine r_get (v := .int (nI tt)) hx hb (ly_X12 hE) hown hK hP rfl 10 (by decide) (wd_1391 hE) (fun _ h9 => h9) (congrArg (fun z : Int32 => some (Value.int z)) hF8x) dX12_four_24 ?_
  refine lv_iconst (v := 1) hx hb dX12_four_27 (by decide) ?_
  refine lv_iadd hx hb dX12_four_28 ?_
  refine W.eq (g2 := F0 m 29 ls [.int (nI (tt + 1)), .ref (b 0)]) (congrArg (fun z : Int32 => F0 m 29 ls (.int z :: [.ref (b 0)])) (nI_add tt 1)) ?_
  refine r_put (v := nI (tt + 1)) hx hb (ly_X12 hE) tyX12 tyX12_ok nmX12 hown hK hP hJ hAL hS rfl 10 (by decide) (wd_1391 hE) (fun _ h9 => h9) rfl (by decide +kernel) rfl (by decide) dX12_four_29 (fun u9 H locs hf9 hq9 hP hS => ?_)
  have hA10 := (hq9.1 1 List.not_mem_nil).trans hA7
  have hA11 := (hq9.1 15 List.not_mem_nil).trans hs5
  have hfr := FR.step hfr hq9 (fun _ h => absurd h List.not_mem_nil) (by decide) (fun h => rfl)
  refine lv_iinc (v := 2) (lv' := [(2, .int 2), (0, .ref (b 0)), (1, .int x)]) hx hb dX12_four_32 hl (k := 0) rfl (by decide) (by decide) rfl (fun ls hl => ?_)
  refine lv_goto (tgt := 2) hx hb dX12_four_35 (by decide) ?_
  refine lv_iload_n hx hb dX12_four_2 rfl (lv_at hl 0 rfl) ?_
  refine lv_if_lt (tgt := 38) hx hb dX12_four_3 (by decide) (fun c12 => absurd c12 (by decide)) (fun c12 => ?_)
  refine lv_aload_n hx hb dX12_four_6 rfl (lv_at hl 1 rfl) ?_
  refine r_get (v := .ref (b 15)) hx hb (ly_X12 hE) hown hK hP rfl 8 (by decide) (wd_1389 hE) (fun _ h9 => h9) rfl dX12_four_7 ?_
  refine lv_aload_n hx hb dX12_four_10 rfl (lv_at hl 1 rfl) ?_
  refine r_get (v := .int (nI (tt + 1))) hx hb (ly_X12 hE) hown hK hP rfl 10 (by decide) (wd_1391 hE) (fun _ h9 => h9) (congrArg (fun z : Int32 => some (Value.int z)) hf9) dX12_four_11 ?_
  refine lv_iload_n hx hb dX12_four_14 rfl (lv_at hl 2 rfl) ?_
  refine lv_bipush (v := 8) hx hb dX12_four_15 (by decide) ?_
  refine lv_iload_n hx hb dX12_four_17 rfl (lv_at hl 0 rfl) ?_
  refine lv_imul hx hb dX12_four_18 ?_
  refine W.eq (g2 := F0 m 19 ls [.int 16, .int x, .int (nI (tt + 1)), .ref (b 15)]) rfl ?_
  refine lv_ishr hx hb dX12_four_19 ?_
  refine lv_topi (fun x13 ex13 => ?_)
  refine lv_i2b hx hb dX12_four_20 rfl ?_
  refine lv_topi (fun x14 ex14 => ?_)
  refine r_bast (j := 15) (k := tt + 1) (n := 700) (x := x14) hx hb hK hP hJ hAL hS (by decide) (fun _ => rfl) hA11 (by omega) (by decide) dX12_four_21 (fun u15 H locs hs15 hq15 hP hS => ?_)
  obtain ⟨w15, hw15⟩ : ∃ g, g = upd w5 (tt + 1) (vp_nar .byte x14) := ⟨_, rfl⟩
  rw [← hw15] at hs15
  have hA16 := (hq15.1 1 (by decide)).trans hA10
  have hF17x := (hq15.2.1 10 List.not_mem_nil).trans hf9
  have hfr := FR.step hfr hq15 (by decide) (fun _ h => absurd h List.not_mem_nil) (fun h => rfl)
  refine lv_aload_n hx hb dX12_four_22 rfl (lv_at hl 1 rfl) ?_
  refine lv_dup hx hb dX12_four_23 rfl ?_
  refine r_get (v := .int (nI (tt + 1))) hx hb (ly_X12 hE) hown hK hP rfl 10 (by decide) (wd_1391 hE) (fun _ h9 => h9) (congrArg (fun z : Int32 => some (Value.int z)) hF17x) dX12_four_24 ?_
  refine lv_iconst (v := 1) hx hb dX12_four_27 (by decide) ?_
  refine lv_iadd hx hb dX12_four_28 ?_
  refine W.eq (g2 := F0 m 29 ls [.int (nI ((tt + 1) + 1)), .ref (b 0)]) (congrArg (fun z : Int32 => F0 m 29 ls (.int z :: [.ref (b 0)])) (nI_add (tt + 1) 1)) ?_
  refine r_put (v := nI ((tt + 1) + 1)) hx hb (ly_X12 hE) tyX12 tyX12_ok nmX12 hown hK hP hJ hAL hS rfl 10 (by decide) (wd_1391 hE) (fun _ h9 => h9) rfl (by decide +kernel) rfl (by decide) dX12_four_29 (fun u18 H locs hf18 hq18 hP hS => ?_)
  have hA19 := (hq18.1 1 List.not_mem_nil).trans hA16
  have hA20 := (hq18.1 15 List.not_mem_nil).trans hs15
  have hfr := FR.step hfr hq18 (fun _ h => absurd h List.not_mem_nil) (by decide) (fun h => rfl)
  refine lv_iinc (v := 1) (lv' := [(2, .int 1), (0, .ref (b 0)), (1, .int x)]) hx hb dX12_four_32 hl (k := 0) rfl (by decide) (by decide) rfl (fun ls hl => ?_)
  refine lv_goto (tgt := 2) hx hb dX12_four_35 (by decide) ?_
  refine lv_iload_n hx hb dX12_four_2 rfl (lv_at hl 0 rfl) ?_
  refine lv_if_lt (tgt := 38) hx hb dX12_four_3 (by decide) (fun c21 => absurd c21 (by decide)) (fun c21 => ?_)
  refine lv_aload_n hx hb dX12_four_6 rfl (lv_at hl 1 rfl) ?_
  refine r_get (v := .ref (b 15)) hx hb (ly_X12 hE) hown hK hP rfl 8 (by decide) (wd_1389 hE) (fun _ h9 => h9) rfl dX12_four_7 ?_
  refine lv_aload_n hx hb dX12_four_10 rfl (lv_at hl 1 rfl) ?_
  refine r_get (v := .int (nI ((tt + 1) + 1))) hx hb (ly_X12 hE) hown hK hP rfl 10 (by decide) (wd_1391 hE) (fun _ h9 => h9) (congrArg (fun z : Int32 => some (Value.int z)) hf18) dX12_four_11 ?_
  refine lv_iload_n hx hb dX12_four_14 rfl (lv_at hl 2 rfl) ?_
  refine lv_bipush (v := 8) hx hb dX12_four_15 (by decide) ?_
  refine lv_iload_n hx hb dX12_four_17 rfl (lv_at hl 0 rfl) ?_
  refine lv_imul hx hb dX12_four_18 ?_
  refine W.eq (g2 := F0 m 19 ls [.int 8, .int x, .int (nI ((tt + 1) + 1)), .ref (b 15)]) rfl ?_
  refine lv_ishr hx hb dX12_four_19 ?_
  refine lv_topi (fun x22 ex22 => ?_)
  refine lv_i2b hx hb dX12_four_20 rfl ?_
  refine lv_topi (fun x23 ex23 => ?_)
  refine r_bast (j := 15) (k := (tt + 1) + 1) (n := 700) (x := x23) hx hb hK hP hJ hAL hS (by decide) (fun _ => rfl) hA20 (by omega) (by decide) dX12_four_21 (fun u24 H locs hs24 hq24 hP hS => ?_)
  obtain ⟨w24, hw24⟩ : ∃ g, g = upd w15 ((tt + 1) + 1) (vp_nar .byte x23) := ⟨_, rfl⟩
  rw [← hw24] at hs24
  have hA25 := (hq24.1 1 (by decide)).trans hA19
  have hF26x := (hq24.2.1 10 List.not_mem_nil).trans hf18
  have hfr := FR.step hfr hq24 (by decide) (fun _ h => absurd h List.not_mem_nil) (fun h => rfl)
  refine lv_aload_n hx hb dX12_four_22 rfl (lv_at hl 1 rfl) ?_
  refine lv_dup hx hb dX12_four_23 rfl ?_
  refine r_get (v := .int (nI ((tt + 1) + 1))) hx hb (ly_X12 hE) hown hK hP rfl 10 (by decide) (wd_1391 hE) (fun _ h9 => h9) (congrArg (fun z : Int32 => some (Value.int z)) hF26x) dX12_four_24 ?_
  refine lv_iconst (v := 1) hx hb dX12_four_27 (by decide) ?_
  refine lv_iadd hx hb dX12_four_28 ?_
  refine W.eq (g2 := F0 m 29 ls [.int (nI (((tt + 1) + 1) + 1)), .ref (b 0)]) (congrArg (fun z : Int32 => F0 m 29 ls (.int z :: [.ref (b 0)])) (nI_add ((tt + 1) + 1) 1)) ?_
  refine r_put (v := nI (((tt + 1) + 1) + 1)) hx hb (ly_X12 hE) tyX12 tyX12_ok nmX12 hown hK hP hJ hAL hS rfl 10 (by decide) (wd_1391 hE) (fun _ h9 => h9) rfl (by decide +kernel) rfl (by decide) dX12_four_29 (fun u27 H locs hf27 hq27 hP hS => ?_)
  have hA28 := (hq27.1 1 List.not_mem_nil).trans hA25
  have hA29 := (hq27.1 15 List.not_mem_nil).trans hs24
  have hfr := FR.step hfr hq27 (fun _ h => absurd h List.not_mem_nil) (by decide) (fun h => rfl)
  refine lv_iinc (v := 0) (lv' := [(2, .int 0), (0, .ref (b 0)), (1, .int x)]) hx hb dX12_four_32 hl (k := 0) rfl (by decide) (by decide) rfl (fun ls hl => ?_)
  refine lv_goto (tgt := 2) hx hb dX12_four_35 (by decide) ?_
  refine lv_iload_n hx hb dX12_four_2 rfl (lv_at hl 0 rfl) ?_
  refine lv_if_lt (tgt := 38) hx hb dX12_four_3 (by decide) (fun c30 => absurd c30 (by decide)) (fun c30 => ?_)
  refine lv_aload_n hx hb dX12_four_6 rfl (lv_at hl 1 rfl) ?_
  refine r_get (v := .ref (b 15)) hx hb (ly_X12 hE) hown hK hP rfl 8 (by decide) (wd_1389 hE) (fun _ h9 => h9) rfl dX12_four_7 ?_
  refine lv_aload_n hx hb dX12_four_10 rfl (lv_at hl 1 rfl) ?_
  refine r_get (v := .int (nI (((tt + 1) + 1) + 1))) hx hb (ly_X12 hE) hown hK hP rfl 10 (by decide) (wd_1391 hE) (fun _ h9 => h9) (congrArg (fun z : Int32 => some (Value.int z)) hf27) dX12_four_11 ?_
  refine lv_iload_n hx hb dX12_four_14 rfl (lv_at hl 2 rfl) ?_
  refine lv_bipush (v := 8) hx hb dX12_four_15 (by decide) ?_
  refine lv_iload_n hx hb dX12_four_17 rfl (lv_at hl 0 rfl) ?_
  refine lv_imul hx hb dX12_four_18 ?_
  refine W.eq (g2 := F0 m 19 ls [.int 0, .int x, .int (nI (((tt + 1) + 1) + 1)), .ref (b 15)]) rfl ?_
  refine lv_ishr hx hb dX12_four_19 ?_
  refine lv_topi (fun x31 ex31 => ?_)
  refine lv_i2b hx hb dX12_four_20 rfl ?_
  refine lv_topi (fun x32 ex32 => ?_)
  refine r_bast (j := 15) (k := ((tt + 1) + 1) + 1) (n := 700) (x := x32) hx hb hK hP hJ hAL hS (by decide) (fun _ => rfl) hA29 (by omega) (by decide) dX12_four_21 (fun u33 H locs hs33 hq33 hP hS => ?_)
  obtain ⟨w33, hw33⟩ : ∃ g, g = upd w24 (((tt + 1) + 1) + 1) (vp_nar .byte x32) := ⟨_, rfl⟩
  rw [← hw33] at hs33
  have hA34 := (hq33.1 1 (by decide)).trans hA28
  have hF35x := (hq33.2.1 10 List.not_mem_nil).trans hf27
  have hfr := FR.step hfr hq33 (by decide) (fun _ h => absurd h List.not_mem_nil) (fun h => rfl)
  refine lv_aload_n hx hb dX12_four_22 rfl (lv_at hl 1 rfl) ?_
  refine lv_dup hx hb dX12_four_23 rfl ?_
  refine r_get (v := .int (nI (((tt + 1) + 1) + 1))) hx hb (ly_X12 hE) hown hK hP rfl 10 (by decide) (wd_1391 hE) (fun _ h9 => h9) (congrArg (fun z : Int32 => some (Value.int z)) hF35x) dX12_four_24 ?_
  refine lv_iconst (v := 1) hx hb dX12_four_27 (by decide) ?_
  refine lv_iadd hx hb dX12_four_28 ?_
  refine W.eq (g2 := F0 m 29 ls [.int (nI ((((tt + 1) + 1) + 1) + 1)), .ref (b 0)]) (congrArg (fun z : Int32 => F0 m 29 ls (.int z :: [.ref (b 0)])) (nI_add (((tt + 1) + 1) + 1) 1)) ?_
  refine r_put (v := nI ((((tt + 1) + 1) + 1) + 1)) hx hb (ly_X12 hE) tyX12 tyX12_ok nmX12 hown hK hP hJ hAL hS rfl 10 (by decide) (wd_1391 hE) (fun _ h9 => h9) rfl (by decide +kernel) rfl (by decide) dX12_four_29 (fun u36 H locs hf36 hq36 hP hS => ?_)
  have hA37 := (hq36.1 1 List.not_mem_nil).trans hA34
  have hA38 := (hq36.1 15 List.not_mem_nil).trans hs33
  have hfr := FR.step hfr hq36 (fun _ h => absurd h List.not_mem_nil) (by decide) (fun h => rfl)
  refine lv_iinc (v := -1) (lv' := [(2, .int (-1)), (0, .ref (b 0)), (1, .int x)]) hx hb dX12_four_32 hl (k := 0) rfl (by decide) (by decide) rfl (fun ls hl => ?_)
  refine lv_goto (tgt := 2) hx hb dX12_four_35 (by decide) ?_
  refine lv_iload_n hx hb dX12_four_2 rfl (lv_at hl 0 rfl) ?_
  refine lv_if_lt (tgt := 38) hx hb dX12_four_3 (by decide) (fun c39 => ?_) (fun c39 => absurd c39 (by decide))
  exact W.vret hx hb hr (fun t ht hW => ⟨⟨u36, rfl, ⟨(by first | (rw [hf36]; done) | (rw [hf36]; first | assumption | omega | rfl | (congr 1; omega))), hfr⟩, (show va_P (dC, dI) vwCl (rW cs b u36) t.heap by rw [ht]; exact hP)⟩, hS.F ht⟩) hS.2.2 dX12_four_38

set_option maxHeartbeats 4000000 in
set_option maxRecDepth 100000 in
theorem r_X12_feed (l : Launch) (dC : Nat → ClassId) (dI : Nat → Nat → Nat) (sz : Nat) (cs : Nat → ClassId) (b : Nat → Nat) (u : RS) (a : Nat → Int32) (hA1 : rA u 1 = a) (x1 : Int32) (x2 : Int32) (x3 : Int32) (x4 : Int32) (x5 : Int32) (tt : Nat) (hF10 : rF u 10 = nI tt) (hp0 : tt + 20 ≤ 700) : Met l yX12_feed [.code yX12_feed cX12_feed 6 (some .int)] ({ frames := 1, cells := 0, slots := 0, locals := 40 }) (PR [.ref (b 0), .int x1, .int x2, .int x3, .int x4, .int x5] sz dC dI cs b u) (va_Qi (fun (r : Int32) (u' : RS) => (r = nI (tt + 20)) ∧ (rF u' 10 = nI (tt + 20)) ∧ FR [15] [10] false u u') (BR dC dI cs b) (AR b sz)) 0 0 (AR b sz) := by
  refine Met.ofW (cc := cX12_feed) (maxL := 6) (ret := (some .int)) (by decide) rfl ?_
  intro p e s m args below meth c s₁ B hml hv
  obtain ⟨rfl, hsz, hP, hK, hJ, hE⟩ := hv
  have hx := B.exec
  have hb := B.bytes
  have hr := B.returns
  have hown : s.vm.findClass RX12 = some m.cls := findClass_of_methodNamed B.named
  have hlocks := B.notSynchronized
  subst hsz
  have hAL : ∀ i, i < 108 → AR b s.heap.size (b i) := fun i h => Or.inl ⟨i, h, rfl⟩
  have hA : ∀ q : Nat, s.heap.size ≤ q → AR b s.heap.size q := fun q h => Or.inr h
  have hS : va_S (AR b s.heap.size) s.heap s.heap [] := va_S.rf
  have hfr : FR [15] [10] false u u := FR.refl
  have hl := lv_entry ([.ref (b 0), .int x1, .int x2, .int x3, .int x4, .int x5]) (n := 6) (Nat.le_of_ble_eq_true rfl)
  rw [lg_entry_eq]
  generalize (lg_sl ([.ref (b 0), .int x1, .int x2, .int x3, .int x4, .int x5]) ++ List.replicate (6 - (lg_sl ([.ref (b 0), .int x1, .int x2, .int x3, .int x4, .int x5])).length) Slot.unset).toArray = ls at hl ⊢
  have hl : lv_has ls 6 [(0, .ref (b 0)), (1, .int x1), (2, .int x2), (3, .int x3), (4, .int x4), (5, .int x5)] := hl
  refine lv_aload_n hx hb dX12_feed_0 rfl (lv_at hl 0 rfl) ?_
  refine r_get (v := .int (nI tt)) hx hb (ly_X12 hE) hown hK hP rfl 10 (by decide) (wd_1391 hE) (fun _ h9 => h9) (congrArg (fun z : Int32 => some (Value.int z)) hF10) dX12_feed_1 ?_
  refine lv_sipush (v := 680) hx hb dX12_feed_4 (by decide) ?_
  refine lv_icmp_le (tgt := 12) hx hb dX12_feed_7 (by decide) (fun c2 => ?_) (fun c2 => False.elim (by have c2 := mt (b_le (nI_toInt (n := tt) (by omega)) (show Int32.toInt 680 = 680 from rfl)).mpr c2; omega))
  have c2 := (b_le (nI_toInt (n := tt) (by omega)) (show Int32.toInt 680 = 680 from rfl)).mp c2
  refine lv_aload_n hx hb dX12_feed_12 rfl (lv_at hl 0 rfl) ?_
  refine lv_iload_n hx hb dX12_feed_13 rfl (lv_at hl 1 rfl) ?_
  refine rc_v hAL hS hA (va_runV (As := [.int x1]) (rest := []) ⟨hx, hb, hml, hown, noTs⟩ (r_X12_four l dC dI s.heap.size cs b u a hA1 x1 tt hF10 (by first | assumption | omega | rfl | (congr 1; omega))) ⟨cbE 1 (wd_1487 hE) (wd_126 hE) (wd_1484 hE) rfl rfl (by decide +kernel) ⟨Nat.le_of_ble_eq_true rfl, Nat.le_of_ble_eq_true rfl⟩, (wd_1486 hE), (wd_53 hE)⟩ ⟨PR.blind, r_recv hK hP rfl, (r_pre (av := [.ref (b 0), .int x1]) hK hP hJ hE)⟩ rfl rfl hl.1 rfl (lv_room (Nat.le_of_ble_eq_true rfl)) dX12_feed_14 ⟨Nat.le_of_ble_eq_true rfl, Nat.le_of_ble_eq_true rfl⟩) (fun u3 H locs hpo3 hP hS => ?_)
  obtain ⟨h3_0, hq3⟩ := hpo3
  have hA4 := (hq3.1 1 (by decide)).trans hA1
  have hfr := FR.step hfr hq3 (by decide) (by decide) (fun h => rfl)
  refine lv_aload_n hx hb dX12_feed_17 rfl (lv_at hl 0 rfl) ?_
  refine lv_iload_n hx hb dX12_feed_18 rfl (lv_at hl 2 rfl) ?_
  refine rc_v hAL hS hA (va_runV (As := [.int x2]) (rest := []) ⟨hx, hb, hml, hown, noTs⟩ (r_X12_four l dC dI H.size cs b u3 a hA4 x2 (tt + 4) h3_0 (by first | assumption | omega | rfl | (congr 1; omega))) ⟨cbE 1 (wd_1487 hE) (wd_126 hE) (wd_1484 hE) rfl rfl (by decide +kernel) ⟨Nat.le_of_ble_eq_true rfl, Nat.le_of_ble_eq_true rfl⟩, (wd_1486 hE), (wd_53 hE)⟩ ⟨PR.blind, r_recv hK hP rfl, (r_pre (av := [.ref (b 0), .int x2]) hK hP hJ hE)⟩ rfl rfl hl.1 rfl (lv_room (Nat.le_of_ble_eq_true rfl)) dX12_feed_19 ⟨Nat.le_of_ble_eq_true rfl, Nat.le_of_ble_eq_true rfl⟩) (fun u5 H locs hpo5 hP hS => ?_)
  obtain ⟨h5_0, hq5⟩ := hpo5
  have hA6 := (hq5.1 1 (by decide)).trans hA4
  have hfr := FR.step hfr hq5 (by decide) (by decide) (fun h => rfl)
  refine lv_aload_n hx hb dX12_feed_22 rfl (lv_at hl 0 rfl) ?_
  refine lv_iload_n hx hb dX12_feed_23 rfl (lv_at hl 3 rfl) ?_
  refine rc_v hAL hS hA (va_runV (As := [.int x3]) (rest := []) ⟨hx, hb, hml, hown, noTs⟩ (r_X12_four l dC dI H.size cs b u5 a hA6 x3 ((tt + 4) + 4) h5_0 (by first | assumption | omega | rfl | (congr 1; omega))) ⟨cbE 1 (wd_1487 hE) (wd_126 hE) (wd_1484 hE) rfl rfl (by decide +kernel) ⟨Nat.le_of_ble_eq_true rfl, Nat.le_of_ble_eq_true rfl⟩, (wd_1486 hE), (wd_53 hE)⟩ ⟨PR.blind, r_recv hK hP rfl, (r_pre (av := [.ref (b 0), .int x3]) hK hP hJ hE)⟩ rfl rfl hl.1 rfl (lv_room (Nat.le_of_ble_eq_true rfl)) dX12_feed_24 ⟨Nat.le_of_ble_eq_true rfl, Nat.le_of_ble_eq_true rfl⟩) (fun u7 H locs hpo7 hP hS => ?_)
  obtain ⟨h7_0, hq7⟩ := hpo7
  have hA8 := (hq7.1 1 (by decide)).trans hA6
  have hfr := FR.step hfr hq7 (by decide) (by decide) (fun h => rfl)
  refine lv_aload_n hx hb dX12_feed_27 rfl (lv_at hl 0 rfl) ?_
  refine lv_iload hx hb dX12_feed_28 (lv_at hl 4 rfl) ?_
  refine rc_v hAL hS hA (va_runV (As := [.int x4]) (rest := []) ⟨hx, hb, hml, hown, noTs⟩ (r_X12_four l dC dI H.size cs b u7 a hA8 x4 (((tt + 4) + 4) + 4) h7_0 (by first | assumption | omega | rfl | (congr 1; omega))) ⟨cbE 1 (wd_1487 hE) (wd_126 hE) (wd_1484 hE) rfl rfl (by decide +kernel) ⟨Nat.le_of_ble_eq_true rfl, Nat.le_of_ble_eq_true rfl⟩, (wd_1486 hE), (wd_53 hE)⟩ ⟨PR.blind, r_recv hK hP rfl, (r_pre (av := [.ref (b 0), .int x4]) hK hP hJ hE)⟩ rfl rfl hl.1 rfl (lv_room (Nat.le_of_ble_eq_true rfl)) dX12_feed_30 ⟨Nat.le_of_ble_eq_true rfl, Nat.le_of_ble_eq_true rfl⟩) (fun u9 H locs hpo9 hP hS => ?_)
  obtain ⟨h9_0, hq9⟩ := hpo9
  have hA10 := (hq9.1 1 (by decide)).trans hA8
  have hfr := FR.step hfr hq9 (by decide) (by decide) (fun h => rfl)
  refine lv_aload_n hx hb dX12_feed_33 rfl (lv_at hl 0 rfl) ?_
  refine lv_iload hx hb dX12_feed_34 (lv_at hl 5 rfl) ?_
  refine rc_v hAL hS hA (va_runV (As := [.int x5]) (rest := []) ⟨hx, hb, hml, hown, noTs⟩ (r_X12_four l dC dI H.size cs b u9 a hA10 x5 ((((tt + 4) + 4) + 4) + 4) h9_0 (by first | assumption | omega | rfl | (congr 1; omega))) ⟨cbE 1 (wd_1487 hE) (wd_126 hE) (wd_1484 hE) rfl rfl (by decide +kernel) ⟨Nat.le_of_ble_eq_true rfl, Nat.le_of_ble_eq_true rfl⟩, (wd_1486 hE), (wd_53 hE)⟩ ⟨PR.blind, r_recv hK hP rfl, (r_pre (av := [.ref (b 0), .int x5]) hK hP hJ hE)⟩ rfl rfl hl.1 rfl (lv_room (Nat.le_of_ble_eq_true rfl)) dX12_feed_36 ⟨Nat.le_of_ble_eq_true rfl, Nat.le_of_ble_eq_true rfl⟩) (fun u11 H locs hpo11 hP hS => ?_)
  obtain ⟨h11_0, hq11⟩ := hpo11
  have hA12 := (hq11.1 1 (by decide)).trans hA10
  have hfr := FR.step hfr hq11 (by decide) (by decide) (fun h => rfl)
  refine lv_aload_n hx hb dX12_feed_39 rfl (lv_at hl 0 rfl) ?_
  refine r_get (v := .int (nI (((((tt + 4) + 4) + 4) + 4) + 4))) hx hb (ly_X12 hE) hown hK hP rfl 10 (by decide) (wd_1391 hE) (fun _ h9 => h9) (congrArg (fun z : Int32 => some (Value.int z)) h11_0) dX12_feed_40 ?_
  exact W.iret (v := nI (((((tt + 4) + 4) + 4) + 4) + 4)) hx hb hr (fun t ht hW => ⟨⟨nI (((((tt + 4) + 4) + 4) + 4) + 4), u11, rfl, ⟨(by first | rfl | omega | (congr 1; omega) | assumption), (by first | (rw [h11_0]; done) | (rw [h11_0]; first | assumption | omega | rfl | (congr 1; omega))), hfr⟩, (show va_P (dC, dI) vwCl (rW cs b u11) t.heap by rw [ht]; exact hP)⟩, hS.F ht⟩) hS.2.2 dX12_feed_43

set_option maxHeartbeats 4000000 in
set_option maxRecDepth 100000 in
theorem r_X12_feed_no (l : Launch) (dC : Nat → ClassId) (dI : Nat → Nat → Nat) (sz : Nat) (cs : Nat → ClassId) (b : Nat → Nat) (u : RS) (a : Nat → Int32) (hA1 : rA u 1 = a) (x1 : Int32) (x2 : Int32) (x3 : Int32) (x4 : Int32) (x5 : Int32) (tt : Nat) (hF10 : rF u 10 = nI tt) (hp0 : 700 < tt + 20) (hp1 : tt ≤ 700) : Met l yX12_feed [.code yX12_feed cX12_feed 6 (some .int)] ({ frames := 0, cells := 0, slots := 0, locals := 0 }) (PR [.ref (b 0), .int x1, .int x2, .int x3, .int x4, .int x5] sz dC dI cs b u) (vp_Si (fun (r : Int32) => r = -1)) 0 0 (fun _ => False) := by
  refine Met.ofW (cc := cX12_feed) (maxL := 6) (ret := (some .int)) (by decide) rfl ?_
  intro p e s m args below meth c s₁ B hml hv
  obtain ⟨rfl, hsz, hP, hK, hJ, hE⟩ := hv
  have hx := B.exec
  have hb := B.bytes
  have hr := B.returns
  have hown : s.vm.findClass RX12 = some m.cls := findClass_of_methodNamed B.named
  have hlocks := B.notSynchronized
  subst hsz
  have hl := lv_entry ([.ref (b 0), .int x1, .int x2, .int x3, .int x4, .int x5]) (n := 6) (Nat.le_of_ble_eq_true rfl)
  rw [lg_entry_eq]
  generalize (lg_sl ([.ref (b 0), .int x1, .int x2, .int x3, .int x4, .int x5]) ++ List.replicate (6 - (lg_sl ([.ref (b 0), .int x1, .int x2, .int x3, .int x4, .int x5])).length) Slot.unset).toArray = ls at hl ⊢
  have hl : lv_has ls 6 [(0, .ref (b 0)), (1, .int x1), (2, .int x2), (3, .int x3), (4, .int x4), (5, .int x5)] := hl
  refine lv_aload_n hx hb dX12_feed_0 rfl (lv_at hl 0 rfl) ?_
  refine r_get (v := .int (nI tt)) hx hb (ly_X12 hE) hown hK hP rfl 10 (by decide) (wd_1391 hE) (fun _ h9 => h9) (congrArg (fun z : Int32 => some (Value.int z)) hF10) dX12_feed_1 ?_
  refine lv_sipush (v := 680) hx hb dX12_feed_4 (by decide) ?_
  refine lv_icmp_le (tgt := 12) hx hb dX12_feed_7 (by decide) (fun c3 => False.elim (by have c3 := (b_le (nI_toInt (n := tt) (by omega)) (show Int32.toInt 680 = 680 from rfl)).mp c3; omega)) (fun c3 => ?_)
  have c3 := mt (b_le (nI_toInt (n := tt) (by omega)) (show Int32.toInt 680 = 680 from rfl)).mpr c3
  refine lv_iconst (v := -1) hx hb dX12_feed_10 (by decide) ?_
  exact W.iret (v := -1) hx hb hr (fun t ht hW => ⟨-1, rfl, (by first | rfl | omega | (congr 1; omega) | assumption), ht⟩) (fun _ h => absurd h List.not_mem_nil) dX12_feed_11
