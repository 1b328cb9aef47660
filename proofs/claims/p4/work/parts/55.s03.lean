set_option maxHeartbeats 4000000 in
set_option maxRecDepth 100000 in
theorem x_X12_isVertex (l : Launch) (dC : Nat → ClassId) (dI : Nat → Nat → Nat) (sz : Nat) (cs : Nat → ClassId) (b : Nat → Nat) (u : RS) (a : Nat → Int32) (hA1 : rA u 1 = a) (x : Int32) (hp0 : GG a) : Met l yX12_isVertex [.code yX12_isVertex cX12_isVertex 2 (some .boolean)] ({ frames := 1, cells := 0, slots := 0, locals := 40 }) (PR [.ref (b 0), .int x] sz dC dI cs b u) (vp_Si (fun (r : Int32) => (r = 1 ∧ (∃ n : Nat, x = nI n ∧ n < vN a)) ∨ (r = 0 ∧ (x.toInt < 0 ∨ ((vN a : Nat) : Int) ≤ x.toInt)))) 0 0 (fun _ => False) := by
  refine Met.ofW (cc := cX12_isVertex) (maxL := 2) (ret := (some .boolean)) (by decide) rfl ?_
  intro p e s m args below meth c s₁ B hml hv
  obtain ⟨rfl, hsz, hP, hK, hJ, hE⟩ := hv
  have hx := B.exec
  have hb := B.bytes
  have hr := B.returns
  have hown : s.vm.findClass RX12 = some m.cls := findClass_of_methodNamed B.named
  have hlocks := B.notSynchronized
  subst hsz
  have hl := lv_entry ([.ref (b 0), .int x]) (n := 2) (Nat.le_of_ble_eq_true rfl)
  rw [lg_entry_eq]
  generalize (lg_sl ([.ref (b 0), .int x]) ++ List.replicate (2 - (lg_sl ([.ref (b 0), .int x])).length) Slot.unset).toArray = ls at hl ⊢
  have hl : lv_has ls 2 [(0, .ref (b 0)), (1, .int x)] := hl
  have hG := hp0
  have ha1 := gg_le hp0
  refine lv_iload_n hx hb dX12_isVertex_0 rfl (lv_at hl 1 rfl) ?_
  refine lv_if_lt (tgt := 17) hx hb dX12_isVertex_1 (by decide) (fun c2 => ?_) (fun c2 => ?_)
  · have c2 := (b_lt (rfl : Int32.toInt x = _) (show Int32.toInt 0 = 0 from rfl)).mp c2
    refine lv_iconst (v := 0) hx hb dX12_isVertex_17 (by decide) ?_
    exact W.zret (v := 0) hx hb hr rfl (fun t ht hW => ⟨0, rfl, Or.inr ⟨rfl, by first | assumption | omega | rfl | (congr 1; omega)⟩, ht⟩) (fun _ h => absurd h List.not_mem_nil) dX12_isVertex_18
  · have c2 := mt (b_lt (rfl : Int32.toInt x = _) (show Int32.toInt 0 = 0 from rfl)).mpr c2
    refine lv_iload_n hx hb dX12_isVertex_4 rfl (lv_at hl 1 rfl) ?_
    refine lv_aload_n hx hb dX12_isVertex_5 rfl (lv_at hl 0 rfl) ?_
    refine lv_iconst (v := 0) hx hb dX12_isVertex_6 (by decide) ?_
    refine vp_callSi (va_Run.run (va_runV (As := [.int (nI 0)]) (rest := [.int x]) ⟨hx, hb, hml, hown, noTs⟩ (r_X12_of l dC dI s.heap.size cs b u a hA1 0 (by first | assumption | omega | rfl | (congr 1; omega))) ⟨cbE 1 (wd_1536 hE) (wd_126 hE) (wd_1533 hE) rfl rfl (by decide +kernel) ⟨Nat.le_of_ble_eq_true rfl, Nat.le_of_ble_eq_true rfl⟩, (wd_1535 hE), (wd_61 hE)⟩ ⟨PR.blind, r_recv hK hP rfl, (r_pre (av := [.ref (b 0), .int (nI 0)]) hK hP hJ hE)⟩ rfl rfl hl.1 rfl (lv_room (Nat.le_of_ble_eq_true rfl)) dX12_isVertex_7 ⟨Nat.le_of_ble_eq_true rfl, Nat.le_of_ble_eq_true rfl⟩)) (fun r3 hr3 => ?_)
    have hr3 := hr3.trans (gg_v hG)
    subst hr3
    refine lv_icmp_ge (tgt := 17) hx hb dX12_isVertex_10 (by decide) (fun c4 => ?_) (fun c4 => ?_)
    · have c4 := (b_le (nI_toInt (n := vN a) (by omega)) (rfl : Int32.toInt x = _)).mp c4
      refine lv_iconst (v := 0) hx hb dX12_isVertex_17 (by decide) ?_
      exact W.zret (v := 0) hx hb hr rfl (fun t ht hW => ⟨0, rfl, Or.inr ⟨rfl, by first | assumption | omega | rfl | (congr 1; omega)⟩, ht⟩) (fun _ h => absurd h List.not_mem_nil) dX12_isVertex_18
    · have c4 := mt (b_le (nI_toInt (n := vN a) (by omega)) (rfl : Int32.toInt x = _)).mpr c4
      refine lv_iconst (v := 1) hx hb dX12_isVertex_13 (by decide) ?_
      refine lv_goto (tgt := 18) hx hb dX12_isVertex_14 (by decide) ?_
      exact W.zret (v := 1) hx hb hr rfl (fun t ht hW => ⟨1, rfl, Or.inl ⟨rfl, by exact z_ex (by omega) (by omega)⟩, ht⟩) (fun _ h => absurd h List.not_mem_nil) dX12_isVertex_18

set_option maxHeartbeats 4000000 in
set_option maxRecDepth 100000 in
theorem x_X12_isEdge (l : Launch) (dC : Nat → ClassId) (dI : Nat → Nat → Nat) (sz : Nat) (cs : Nat → ClassId) (b : Nat → Nat) (u : RS) (a : Nat → Int32) (hA1 : rA u 1 = a) (x : Int32) (hp0 : GG a) : Met l yX12_isEdge [.code yX12_isEdge cX12_isEdge 2 (some .boolean)] ({ frames := 1, cells := 0, slots := 0, locals := 40 }) (PR [.ref (b 0), .int x] sz dC dI cs b u) (vp_Si (fun (r : Int32) => (r = 1 ∧ (∃ n : Nat, x = nI n ∧ n < eN a)) ∨ (r = 0 ∧ (x.toInt < 0 ∨ ((eN a : Nat) : Int) ≤ x.toInt)))) 0 0 (fun _ => False) := by
  refine Met.ofW (cc := cX12_isEdge) (maxL := 2) (ret := (some .boolean)) (by decide) rfl ?_
  intro p e s m args below meth c s₁ B hml hv
  obtain ⟨rfl, hsz, hP, hK, hJ, hE⟩ := hv
  have hx := B.exec
  have hb := B.bytes
  have hr := B.returns
  have hown : s.vm.findClass RX12 = some m.cls := findClass_of_methodNamed B.named
  have hlocks := B.notSynchronized
  subst hsz
  have hl := lv_entry ([.ref (b 0), .int x]) (n := 2) (Nat.le_of_ble_eq_true rfl)
  rw [lg_entry_eq]
  generalize (lg_sl ([.ref (b 0), .int x]) ++ List.replicate (2 - (lg_sl ([.ref (b 0), .int x])).length) Slot.unset).toArray = ls at hl ⊢
  have hl : lv_has ls 2 [(0, .ref (b 0)), (1, .int x)] := hl
  have hG := hp0
  have ha1 := gg_le hp0
  refine lv_iload_n hx hb dX12_isEdge_0 rfl (lv_at hl 1 rfl) ?_
  refine lv_if_lt (tgt := 17) hx hb dX12_isEdge_1 (by decide) (fun c2 => ?_) (fun c2 => ?_)
  · have c2 := (b_lt (rfl : Int32.toInt x = _) (show Int32.toInt 0 = 0 from rfl)).mp c2
    refine lv_iconst (v := 0) hx hb dX12_isEdge_17 (by decide) ?_
    exact W.zret (v := 0) hx hb hr rfl (fun t ht hW => ⟨0, rfl, Or.inr ⟨rfl, by first | assumption | omega | rfl | (congr 1; omega)⟩, ht⟩) (fun _ h => absurd h List.not_mem_nil) dX12_isEdge_18
  · have c2 := mt (b_lt (rfl : Int32.toInt x = _) (show Int32.toInt 0 = 0 from rfl)).mpr c2
    refine lv_iload_n hx hb dX12_isEdge_4 rfl (lv_at hl 1 rfl) ?_
    refine lv_aload_n hx hb dX12_isEdge_5 rfl (lv_at hl 0 rfl) ?_
    refine lv_iconst (v := 1) hx hb dX12_isEdge_6 (by decide) ?_
    refine vp_callSi (va_Run.run (va_runV (As := [.int (nI 1)]) (rest := [.int x]) ⟨hx, hb, hml, hown, noTs⟩ (r_X12_of l dC dI s.heap.size cs b u a hA1 1 (by first | assumption | omega | rfl | (congr 1; omega))) ⟨cbE 1 (wd_1536 hE) (wd_126 hE) (wd_1533 hE) rfl rfl (by decide +kernel) ⟨Nat.le_of_ble_eq_true rfl, Nat.le_of_ble_eq_true rfl⟩, (wd_1535 hE), (wd_61 hE)⟩ ⟨PR.blind, r_recv hK hP rfl, (r_pre (av := [.ref (b 0), .int (nI 1)]) hK hP hJ hE)⟩ rfl rfl hl.1 rfl (lv_room (Nat.le_of_ble_eq_true rfl)) dX12_isEdge_7 ⟨Nat.le_of_ble_eq_true rfl, Nat.le_of_ble_eq_true rfl⟩)) (fun r3 hr3 => ?_)
    have hr3 := hr3.trans (gg_e hG)
    subst hr3
    refine lv_icmp_ge (tgt := 17) hx hb dX12_isEdge_10 (by decide) (fun c4 => ?_) (fun c4 => ?_)
    · have c4 := (b_le (nI_toInt (n := eN a) (by omega)) (rfl : Int32.toInt x = _)).mp c4
      refine lv_iconst (v := 0) hx hb dX12_isEdge_17 (by decide) ?_
      exact W.zret (v := 0) hx hb hr rfl (fun t ht hW => ⟨0, rfl, Or.inr ⟨rfl, by first | assumption | omega | rfl | (congr 1; omega)⟩, ht⟩) (fun _ h => absurd h List.not_mem_nil) dX12_isEdge_18
    · have c4 := mt (b_le (nI_toInt (n := eN a) (by omega)) (rfl : Int32.toInt x = _)).mpr c4
      refine lv_iconst (v := 1) hx hb dX12_isEdge_13 (by decide) ?_
      refine lv_goto (tgt := 18) hx hb dX12_isEdge_14 (by decide) ?_
      exact W.zret (v := 1) hx hb hr rfl (fun t ht hW => ⟨1, rfl, Or.inl ⟨rfl, by exact z_ex (by omega) (by omega)⟩, ht⟩) (fun _ h => absurd h List.not_mem_nil) dX12_isEdge_18

set_option maxHeartbeats 4000000 in
set_option maxRecDepth 100000 in
theorem x_X12_aSide (l : Launch) (dC : Nat → ClassId) (dI : Nat → Nat → Nat) (sz : Nat) (cs : Nat → ClassId) (b : Nat → Nat) (u : RS) (a : Nat → Int32) (hA1 : rA u 1 = a) (tx : Nat → Int32) (hAc16 : rA u 16 = tx) (at1 : Nat) (sz1 : Nat) (p0 : Nat) (ln : Nat) (x17 : Int32) (x18 : Int32) (gg : PGr) (hF11 : rF u 11 = nI sz1) (hF16 : rF u 16 = 0) (hF17 : rF u 17 = x17) (hF18 : rF u 18 = x18) (hF20 : rF u 20 = nI ln) (hp0 : BG a) (hp1 : TE u tx sz1 p0) (hp2 : sz1 ≤ 700) (hp3 : GA a gg) (hp4 : 10 + 4 * eN a ≤ at1) (hp5 : at1 + 1 < 34) : Met l yX12_aSide [.code yX12_aSide cX12_aSide 2 (some .boolean)] ({ frames := 2, cells := 0, slots := 0, locals := 80 }) (PR [.ref (b 0), .int (nI at1)] sz dC dI cs b u) (va_Qi (fun (r : Int32) (u' : RS) => ((r = 1 ∧ ((pSide tx sz1 gg p0).1 = 0 ∧ TE u' tx sz1 (pSide tx sz1 gg p0).2.1 ∧ kd tx sz1 (pSide tx sz1 gg p0).2.1 = 6 ∧ (rA u' 1) at1 = nI (pSide tx sz1 gg p0).2.2.1 ∧ (rA u' 1) (at1 + 1) = nI (pSide tx sz1 gg p0).2.2.2 ∧ (pSide tx sz1 gg p0).2.2.1 < vN a ∧ 1 ≤ (pSide tx sz1 gg p0).2.2.2 ∧ (pSide tx sz1 gg p0).2.2.2 ≤ 9999 ∧ pO gg (pSide tx sz1 gg p0).2.2.1 % (pSide tx sz1 gg p0).2.2.2 = 0 ∧ rF u' 16 = 0 ∧ rF u' 17 = x17 ∧ rF u' 18 = x18)) ∨ (r = 0 ∧ ((pSide tx sz1 gg p0).1 ≠ 0 ∧ FL u' (pSide tx sz1 gg p0).1 (pSide tx sz1 gg p0).2.1 ln))) ∧ (BG (rA u' 1)) ∧ (vN (rA u' 1) = vN a) ∧ (eN (rA u' 1) = eN a) ∧ (∀ v, v < vN a → od (rA u' 1) v = od a v) ∧ (∀ k, k ≠ at1 → k ≠ at1 + 1 → (rA u' 1) k = a k) ∧ (∃ k : Nat, k ≤ 9999 ∧ rF u' 15 = nI k) ∧ FR [1] [12, 13, 14, 15, 16, 17, 18] false u u') (BR dC dI cs b) (AR b sz)) 0 0 (AR b sz) := by
  refine Met.ofW (cc := cX12_aSide) (maxL := 2) (ret := (some .boolean)) (by decide) rfl ?_
  intro p e s m args below meth c s₁ B hml hv
  obtain ⟨rfl, hsz, hP, hK, hJ, hE⟩ := hv
  have hx := B.exec
  have hb := B.bytes
  have hr := B.returns
  have hown : s.vm.findClass RX12 = some m.cls := findClass_of_methodNamed B.named
  have hlocks := B.notSynchronized
  subst hsz
  have hAL : ∀ i, i < 108 → AR b s.heap.size (b i) := fun i h => Or.inl ⟨i, h, rfl⟩
  have hA : ∀ q : Nat, s.heap.size ≤ q → AR b s.heap.size q := fun q h => Or.inr h
  have hS : va_S (AR b s.heap.size) s.heap s.heap [] := va_S.rf
  have hfr : FR [1] [12, 13, 14, 15, 16, 17, 18] false u u := FR.refl
  have hl := lv_entry ([.ref (b 0), .int (nI at1)]) (n := 2) (Nat.le_of_ble_eq_true rfl)
  rw [lg_entry_eq]
  generalize (lg_sl ([.ref (b 0), .int (nI at1)]) ++ List.replicate (2 - (lg_sl ([.ref (b 0), .int (nI at1)])).length) Slot.unset).toArray = ls at hl ⊢
  have hl : lv_has ls 2 [(0, .ref (b 0)), (1, .int (nI at1))] := hl
  have hB := hp0
  have hG := bg_g hp0
  have ha1 := gg_le hG
  have ha1b := bg_w hp0
  have hte3 : TE u tx sz1 p0 := hp1
  obtain ⟨te13_3, te14_3, te12_3, tep3, tv3, tvl3, te15_3, tvv3⟩ := hte3
  have tkf3 := kd_f tx sz1 p0
  have tna3 := tnd_le (tx := tx) tep3
  have tnb3 := fun h : p0 < sz1 => tnd_gt (tx := tx) h
  have ga1 := hp3.1
  have ga2 := hp3.2.1
  have ga3 := hp3.2.2.1
  refine lv_aload_n hx hb dX12_aSide_0 rfl (lv_at hl 0 rfl) ?_
  refine rc_i hAL hS hA (va_runV (As := []) (rest := []) ⟨hx, hb, hml, hown, noTs⟩ (x_X12_isNumber l dC dI s.heap.size cs b u tx hAc16 sz1 p0 ln x17 x18 hF11 hF16 hF17 hF18 hF20 ⟨te13_3, te14_3, te12_3, by omega, _, by omega, te15_3, tvv3⟩ (by first | assumption | omega | rfl | (congr 1; omega))) ⟨cbE 0 (wd_1544 hE) (wd_126 hE) (wd_1541 hE) rfl rfl (by decide +kernel) ⟨Nat.le_of_ble_eq_true rfl, Nat.le_of_ble_eq_true rfl⟩, (wd_1543 hE), (wd_63 hE)⟩ ⟨PR.blind, r_recv hK hP rfl, (r_pre (av := [.ref (b 0)]) hK hP hJ hE)⟩ rfl rfl hl.1 rfl (lv_room (Nat.le_of_ble_eq_true rfl)) dX12_aSide_1 ⟨Nat.le_of_ble_eq_true rfl, Nat.le_of_ble_eq_true rfl⟩) (fun r8 u8 H locs hpo8 hP hS => ?_)
  obtain ⟨hr8, hq8⟩ := hpo8
  have hA9 := (hq8.1 1 List.not_mem_nil).trans hA1
  have hA10 := (hq8.1 16 List.not_mem_nil).trans hAc16
  have hF11x := (hq8.2.1 11 (by decide)).trans hF11
  have hF12x := (hq8.2.1 20 (by decide)).trans hF20
  have hF13x := (hq8.2.1 13 (by decide)).trans te13_3
  have hF14x := (hq8.2.1 14 (by decide)).trans te14_3
  have hF15x := (hq8.2.1 12 (by decide)).trans te12_3
  have hF16x := (hq8.2.1 15 (by decide)).trans te15_3
  have hfr := FR.step hfr hq8 (fun _ h => absurd h List.not_mem_nil) (by decide) (fun h => rfl)
  rcases hr8 with ⟨rfl, hb8⟩ | ⟨rfl, hb8⟩
  · have K6 := hb8.1
    have TV := tvv3 K6
    refine lv_if_ne (tgt := 9) hx hb dX12_aSide_4 (by decide) (fun c17 => ?_) (fun c17 => absurd c17 (by decide))
    refine lv_aload_n hx hb dX12_aSide_9 rfl (lv_at hl 0 rfl) ?_
    refine lv_aload_n hx hb dX12_aSide_10 rfl (lv_at hl 0 rfl) ?_
    refine r_get (v := .int (nI tv3)) hx hb (ly_X12 hE) hown hK hP rfl 15 (by decide) (wd_1396 hE) (fun _ h9 => h9) (congrArg (fun z : Int32 => some (Value.int z)) hF16x) dX12_aSide_11 ?_
    refine vp_callSi (va_Run.run (va_runV (As := [.int (nI tv3)]) (rest := []) ⟨hx, hb, hml, hown, noTs⟩ (x_X12_isVertex l dC dI H.size cs b u8 a hA9 (nI tv3) (by first | assumption | omega | rfl | (congr 1; omega))) ⟨cbE 1 (wd_1560 hE) (wd_126 hE) (wd_1557 hE) rfl rfl (by decide +kernel) ⟨Nat.le_of_ble_eq_true rfl, Nat.le_of_ble_eq_true rfl⟩, (wd_1559 hE), (wd_67 hE)⟩ ⟨PR.blind, r_recv hK hP rfl, (r_pre (av := [.ref (b 0), .int (nI tv3)]) hK hP hJ hE)⟩ rfl rfl hl.1 rfl (lv_room (Nat.le_of_ble_eq_true rfl)) dX12_aSide_14 ⟨Nat.le_of_ble_eq_true rfl, Nat.le_of_ble_eq_true rfl⟩)) (fun r18 hr18 => ?_)
    rcases hr18 with ⟨rfl, hb18⟩ | ⟨rfl, hb18⟩
    · obtain ⟨n18, hbe18_1, hb18⟩ := hb18
      have hbe18_1 := (nI_eq (by omega) (by omega)).mp hbe18_1
      subst hbe18_1
      have hvx := nI_toInt (n := tv3) (by omega)
      refine lv_if_ne (tgt := 26) hx hb dX12_aSide_17 (by decide) (fun c19 => ?_) (fun c19 => absurd c19 (by decide))
      refine lv_aload_n hx hb dX12_aSide_26 rfl (lv_at hl 0 rfl) ?_
      refine r_get (v := .ref (b 1)) hx hb (ly_X12 hE) hown hK hP rfl 0 (by decide) (wd_1381 hE) (fun _ h9 => h9) rfl dX12_aSide_27 ?_
      refine lv_iload_n hx hb dX12_aSide_30 rfl (lv_at hl 1 rfl) ?_
      refine lv_aload_n hx hb dX12_aSide_31 rfl (lv_at hl 0 rfl) ?_
      refine r_get (v := .int (nI tv3)) hx hb (ly_X12 hE) hown hK hP rfl 15 (by decide) (wd_1396 hE) (fun _ h9 => h9) (congrArg (fun z : Int32 => some (Value.int z)) hF16x) dX12_aSide_32 ?_
      refine r_iast (j := 1) (k := at1) (n := 7202) (x := nI tv3) hx hb hK hP hJ hAL hS (by decide) (fun _ => rfl) hA9 (by omega) (by decide) dX12_aSide_35 (fun u20 H locs hs20 hq20 hP hS => ?_)
      obtain ⟨w20, hw20⟩ : ∃ g, g = upd a at1 (nI tv3) := ⟨_, rfl⟩
      rw [← hw20] at hs20
      have hA21 := (hq20.1 16 (by decide)).trans hA10
      have hF22x := (hq20.2.1 11 List.not_mem_nil).trans hF11x
      have hF23x := (hq20.2.1 20 List.not_mem_nil).trans hF12x
      have hF24x := (hq20.2.1 13 List.not_mem_nil).trans hF13x
      have hF25x := (hq20.2.1 14 List.not_mem_nil).trans hF14x
      have hF26x := (hq20.2.1 12 List.not_mem_nil).trans hF15x
      have hF27x := (hq20.2.1 15 List.not_mem_nil).trans hF16x
      have hF28x := (hq20.2.1 16 List.not_mem_nil).trans hb8.2.1
      have hF29x := (hq20.2.1 17 List.not_mem_nil).trans hb8.2.2.1
      have hF30x := (hq20.2.1 18 List.not_mem_nil).trans hb8.2.2.2
      have hfr := FR.step hfr hq20 (by decide) (fun _ h => absurd h List.not_mem_nil) (fun h => rfl)
      have K1 := hw20
      obtain ⟨b1, b2, b3, b4, o1⟩ := bg_free hp0 (by omega) (by omega) hw20
      have g1 := bg_g b1
      have s1 : ∀ k, k ≠ at1 → w20 k = a k := fun k hk => by rw [hw20, pk_un hk]
      have VVb : tv3 ≤ 9999 := by omega
      have OG : od a tv3 = pO gg tv3 := hp3.2.2.2.1 _ (by omega)
      refine lv_aload_n hx hb dX12_aSide_36 rfl (lv_at hl 0 rfl) ?_
      refine rc_v hAL hS hA (va_runV (As := []) (rest := []) ⟨hx, hb, hml, hown, noTs⟩ (x_X12_ahead l dC dI H.size cs b u20 tx hA21 sz1 (tnd tx sz1 p0) tv3 hF22x hF25x hF27x (by first | assumption | omega | rfl | (congr 1; omega)) (by first | assumption | omega | rfl | (congr 1; omega)) (by first | assumption | omega | rfl | (congr 1; omega))) ⟨cbE 0 (wd_1506 hE) (wd_126 hE) (wd_1503 hE) rfl rfl (by decide +kernel) ⟨Nat.le_of_ble_eq_true rfl, Nat.le_of_ble_eq_true rfl⟩, (wd_1505 hE), (wd_56 hE)⟩ ⟨PR.blind, r_recv hK hP rfl, (r_pre (av := [.ref (b 0)]) hK hP hJ hE)⟩ rfl rfl hl.1 rfl (lv_room (Nat.le_of_ble_eq_true rfl)) dX12_aSide_37 ⟨Nat.le_of_ble_eq_true rfl, Nat.le_of_ble_eq_true rfl⟩) (fun u31 H locs hpo31 hP hS => ?_)
      obtain ⟨h31_0, hq31⟩ := hpo31
      have hA32 := (hq31.1 16 List.not_mem_nil).trans hA21
      have hA33 := (hq31.1 1 List.not_mem_nil).trans hs20
      have hF34x := (hq31.2.1 11 (by decide)).trans hF22x
      have hF35x := (hq31.2.1 20 (by decide)).trans hF23x
      have hF36x := (hq31.2.1 16 (by decide)).trans hF28x
      have hF37x := (hq31.2.1 17 (by decide)).trans hF29x
      have hF38x := (hq31.2.1 18 (by decide)).trans hF30x
      have hfr := FR.step hfr hq31 (fun _ h => absurd h List.not_mem_nil) (by decide) (fun h => rfl)
      clear tkf3 tnb3
      have hte39 : TE u31 tx sz1 (nxt tx sz1 p0) := h31_0
      obtain ⟨te13_39, te14_39, te12_39, tep39, tv39, tvl39, te15_39, tvv39⟩ := hte39
      have tkf39 := kd_f tx sz1 (nxt tx sz1 p0)
      have tna39 := tnd_le (tx := tx) tep39
      have tnb39 := fun h : (nxt tx sz1 p0) < sz1 => tnd_gt (tx := tx) h
      refine lv_aload_n hx hb dX12_aSide_40 rfl (lv_at hl 0 rfl) ?_
      refine rc_i hAL hS hA (va_runV (As := []) (rest := []) ⟨hx, hb, hml, hown, noTs⟩ (x_X12_isNumber l dC dI H.size cs b u31 tx hA32 sz1 (nxt tx sz1 p0) ln x17 x18 hF34x hF36x hF37x hF38x hF35x ⟨te13_39, te14_39, te12_39, by omega, _, by omega, te15_39, tvv39⟩ (by first | assumption | omega | rfl | (congr 1; omega))) ⟨cbE 0 (wd_1544 hE) (wd_126 hE) (wd_1541 hE) rfl rfl (by decide +kernel) ⟨Nat.le_of_ble_eq_true rfl, Nat.le_of_ble_eq_true rfl⟩, (wd_1543 hE), (wd_63 hE)⟩ ⟨PR.blind, r_recv hK hP rfl, (r_pre (av := [.ref (b 0)]) hK hP hJ hE)⟩ rfl rfl hl.1 rfl (lv_room (Nat.le_of_ble_eq_true rfl)) dX12_aSide_41 ⟨Nat.le_of_ble_eq_true rfl, Nat.le_of_ble_eq_true rfl⟩) (fun r40 u40 H locs hpo40 hP hS => ?_)
      obtain ⟨hr40, hq40⟩ := hpo40
      have hA41 := (hq40.1 16 List.not_mem_nil).trans hA32
      have hA42 := (hq40.1 1 List.not_mem_nil).trans hA33
      have hF43x := (hq40.2.1 11 (by decide)).trans hF34x
      have hF44x := (hq40.2.1 20 (by decide)).trans hF35x
      have hF45x := (hq40.2.1 13 (by decide)).trans te13_39
      have hF46x := (hq40.2.1 14 (by decide)).trans te14_39
      have hF47x := (hq40.2.1 12 (by decide)).trans te12_39
      have hF48x := (hq40.2.1 15 (by decide)).trans te15_39
      have hfr := FR.step hfr hq40 (fun _ h => absurd h List.not_mem_nil) (by decide) (fun h => rfl)
      rcases hr40 with ⟨rfl, hb40⟩ | ⟨rfl, hb40⟩
      · have K62 := hb40.1
        have TV2 := tvv39 K62
        refine lv_if_ne (tgt := 49) hx hb dX12_aSide_44 (by decide) (fun c49 => ?_) (fun c49 => absurd c49 (by decide))
        refine lv_aload_n hx hb dX12_aSide_49 rfl (lv_at hl 0 rfl) ?_
        refine r_get (v := .int (nI tv39)) hx hb (ly_X12 hE) hown hK hP rfl 15 (by decide) (wd_1396 hE) (fun _ h9 => h9) (congrArg (fun z : Int32 => some (Value.int z)) hF48x) dX12_aSide_50 ?_
        refine lv_if_eq (tgt := 73) hx hb dX12_aSide_53 (by decide) (fun c50 => ?_) (fun c50 => ?_)
        · have c50 := (b_eq (nI_toInt (n := tv39) (by omega)) (show Int32.toInt 0 = 0 from rfl)).mp c50
          refine lv_aload_n hx hb dX12_aSide_73 rfl (lv_at hl 0 rfl) ?_
          refine lv_iconst (v := 4) hx hb dX12_aSide_74 (by decide) ?_
          refine rc_i hAL hS hA (va_runV (As := [.int (nI 4)]) (rest := []) ⟨hx, hb, hml, hown, noTs⟩ (x_X12_fails l dC dI H.size cs b u40 4 (tkr (kd tx sz1 (nxt tx sz1 p0))) (nxt tx sz1 p0) ln hb40.2.1 hF47x hF45x hF44x (by first | assumption | omega | rfl | (congr 1; omega))) ⟨cbE 1 (wd_1540 hE) (wd_126 hE) (wd_1537 hE) rfl rfl (by decide +kernel) ⟨Nat.le_of_ble_eq_true rfl, Nat.le_of_ble_eq_true rfl⟩, (wd_1539 hE), (wd_62 hE)⟩ ⟨PR.blind, r_recv hK hP rfl, (r_pre (av := [.ref (b 0), .int (nI 4)]) hK hP hJ hE)⟩ rfl rfl hl.1 rfl (lv_room (Nat.le_of_ble_eq_true rfl)) dX12_aSide_75 ⟨Nat.le_of_ble_eq_true rfl, Nat.le_of_ble_eq_true rfl⟩) (fun r51 u51 H locs hpo51 hP hS => ?_)
          obtain ⟨hr51, h51_0, h51_1, h51_2, hq51⟩ := hpo51
          have hA52 := (hq51.1 16 List.not_mem_nil).trans hA41
          have hA53 := (hq51.1 1 List.not_mem_nil).trans hA42
          have hF54x := (hq51.2.1 11 (by decide)).trans hF43x
          have hF55x := (hq51.2.1 20 (by decide)).trans hF44x
          have hF56x := (hq51.2.1 13 (by decide)).trans hF45x
          have hF57x := (hq51.2.1 14 (by decide)).trans hF46x
          have hF58x := (hq51.2.1 12 (by decide)).trans hF47x
          have hF59x := (hq51.2.1 15 (by decide)).trans hF48x
          have hfr := FR.step hfr hq51 (fun _ h => absurd h List.not_mem_nil) (by decide) (fun h => rfl)
          subst hr51
          exact W.zret (v := 0) hx hb hr rfl (fun t ht hW => ⟨⟨0, u51, rfl, ⟨Or.inr ⟨rfl, by rw [ps_4 K6 (by omega) K62 (by first | exact Or.inl (by omega) | exact Or.inr (by rw [← TV, ← TV2, ← OG, ← OV]; omega))]; dsimp only; exact ⟨by decide, ⟨by rw [h51_0, if_neg (by omega)], h51_1, h51_2⟩⟩⟩, (by first | (rw [hA53]; done) | (rw [hA53]; first | assumption | exact b1)), (by first | (rw [hA53]; done) | (rw [hA53]; first | rfl | omega)), (by first | (rw [hA53]; done) | (rw [hA53]; first | rfl | omega)), (by first | (rw [hA53]; done) | (rw [hA53]; first | (intro v _; rfl) | (intro v hv; exact o1 v hv))), (by first | (rw [hA53]; done) | (rw [hA53]; first | (intro k _ _; rfl) | (intro k h1 h2; exact s1 k h1)| (intro k h1 h2; exact s2 k h1 h2))), (by first | (rw [hF59x]; done) | (rw [hF59x]; refine ⟨_, ?_, rfl⟩; omega)), hfr⟩, (show va_P (dC, dI) vwCl (rW cs b u51) t.heap by rw [ht]; exact hP)⟩, hS.F ht⟩) hS.2.2 dX12_aSide_78
        · have c50 := mt (b_eq (nI_toInt (n := tv39) (by omega)) (show Int32.toInt 0 = 0 from rfl)).mpr c50
          refine lv_aload_n hx hb dX12_aSide_56 rfl (lv_at hl 0 rfl) ?_
          refine lv_aload_n hx hb dX12_aSide_57 rfl (lv_at hl 0 rfl) ?_
          refine lv_iload_n hx hb dX12_aSide_58 rfl (lv_at hl 1 rfl) ?_
          refine vp_callSi (va_Run.run (va_runV (As := [.int (nI at1)]) (rest := [.ref (b 0)]) ⟨hx, hb, hml, hown, noTs⟩ (r_X12_of l dC dI H.size cs b u40 w20 hA42 at1 (by first | assumption | omega | rfl | (congr 1; omega))) ⟨cbE 1 (wd_1536 hE) (wd_126 hE) (wd_1533 hE) rfl rfl (by decide +kernel) ⟨Nat.le_of_ble_eq_true rfl, Nat.le_of_ble_eq_true rfl⟩, (wd_1535 hE), (wd_61 hE)⟩ ⟨PR.blind, r_recv hK hP rfl, (r_pre (av := [.ref (b 0), .int (nI at1)]) hK hP hJ hE)⟩ rfl rfl hl.1 rfl (lv_room (Nat.le_of_ble_eq_true rfl)) dX12_aSide_59 ⟨Nat.le_of_ble_eq_true rfl, Nat.le_of_ble_eq_true rfl⟩)) (fun r60 hr60 => ?_)
          have hr60 := hr60.trans ((show w20 at1 = nI tv3 by rw [K1]; exact pk_us))
          subst hr60
          refine vp_callSi (va_Run.run (va_runV (As := [.int (nI tv3)]) (rest := []) ⟨hx, hb, hml, hown, noTs⟩ (r_X12_orderAt l dC dI H.size cs b u40 w20 hA42 tv3 (by first | assumption | omega | rfl | (congr 1; omega)) (by first | assumption | omega | rfl | (congr 1; omega))) ⟨cbE 1 (wd_1564 hE) (wd_126 hE) (wd_1561 hE) rfl rfl (by decide +kernel) ⟨Nat.le_of_ble_eq_true rfl, Nat.le_of_ble_eq_true rfl⟩, (wd_1563 hE), (wd_68 hE)⟩ ⟨PR.blind, r_recv hK hP rfl, (r_pre (av := [.ref (b 0), .int (nI tv3)]) hK hP hJ hE)⟩ rfl rfl hl.1 rfl (lv_room (Nat.le_of_ble_eq_true rfl)) dX12_aSide_62 ⟨Nat.le_of_ble_eq_true rfl, Nat.le_of_ble_eq_true rfl⟩)) (fun r61 hr61 => ?_)
          have OV : od w20 tv3 = od a tv3 := o1 _ (by omega)
          have hau61 := (gg_od (a := w20) (v := tv3) (by assumption) (by first | assumption | omega)).2
          subst hr61
          refine lv_aload_n hx hb dX12_aSide_65 rfl (lv_at hl 0 rfl) ?_
          refine r_get (v := .int (nI tv39)) hx hb (ly_X12 hE) hown hK hP rfl 15 (by decide) (wd_1396 hE) (fun _ h9 => h9) (congrArg (fun z : Int32 => some (Value.int z)) hF48x) dX12_aSide_66 ?_
          refine lv_irem hx hb dX12_aSide_69 (nI_ne0 (n := tv39) (by omega) (by omega)) ?_
          refine W.eq (g2 := F0 m 70 ls [.int (nI ((od w20 tv3) % tv39))]) (congrArg (fun z : Int32 => F0 m 70 ls (.int z :: [])) (pk_rem (a := od w20 tv3) (d := tv39) (by omega) (by omega) (by omega))) ?_
          have hmd62 := Nat.mod_lt (od w20 tv3) (show 0 < tv39 by omega)
          refine lv_if_eq (tgt := 79) hx hb dX12_aSide_70 (by decide) (fun c63 => ?_) (fun c63 => ?_)
          · have c63 := (b_eq (nI_toInt (n := (od w20 tv3) % tv39) (by omega)) (show Int32.toInt 0 = 0 from rfl)).mp c63
            refine lv_aload_n hx hb dX12_aSide_79 rfl (lv_at hl 0 rfl) ?_
            refine r_get (v := .ref (b 1)) hx hb (ly_X12 hE) hown hK hP rfl 0 (by decide) (wd_1381 hE) (fun _ h9 => h9) rfl dX12_aSide_80 ?_
            refine lv_iload_n hx hb dX12_aSide_83 rfl (lv_at hl 1 rfl) ?_
            refine lv_iconst (v := 1) hx hb dX12_aSide_84 (by decide) ?_
            refine lv_iadd hx hb dX12_aSide_85 ?_
            refine W.eq (g2 := F0 m 86 ls [.int (nI (at1 + 1)), .ref (b 1)]) (congrArg (fun z : Int32 => F0 m 86 ls (.int z :: [.ref (b 1)])) (nI_add at1 1)) ?_
            refine lv_aload_n hx hb dX12_aSide_86 rfl (lv_at hl 0 rfl) ?_
            refine r_get (v := .int (nI tv39)) hx hb (ly_X12 hE) hown hK hP rfl 15 (by decide) (wd_1396 hE) (fun _ h9 => h9) (congrArg (fun z : Int32 => some (Value.int z)) hF48x) dX12_aSide_87 ?_
            refine r_iast (j := 1) (k := at1 + 1) (n := 7202) (x := nI tv39) hx hb hK hP hJ hAL hS (by decide) (fun _ => rfl) hA42 (by omega) (by decide) dX12_aSide_90 (fun u64 H locs hs64 hq64 hP hS => ?_)
            obtain ⟨w64, hw64⟩ : ∃ g, g = upd w20 (at1 + 1) (nI tv39) := ⟨_, rfl⟩
            rw [← hw64] at hs64
            have hA65 := (hq64.1 16 (by decide)).trans hA41
            have hF66x := (hq64.2.1 11 List.not_mem_nil).trans hF43x
            have hF67x := (hq64.2.1 20 List.not_mem_nil).trans hF44x
            have hF68x := (hq64.2.1 13 List.not_mem_nil).trans hF45x
            have hF69x := (hq64.2.1 14 List.not_mem_nil).trans hF46x
            have hF70x := (hq64.2.1 12 List.not_mem_nil).trans hF47x
            have hF71x := (hq64.2.1 15 List.not_mem_nil).trans hF48x
            have hF72x := (hq64.2.1 16 List.not_mem_nil).trans hb40.2.1
            have hF73x := (hq64.2.1 17 List.not_mem_nil).trans hb40.2.2.1
            have hF74x := (hq64.2.1 18 List.not_mem_nil).trans hb40.2.2.2
            have hfr := FR.step hfr hq64 (by decide) (fun _ h => absurd h List.not_mem_nil) (fun h => rfl)
            have K2 := hw64
            obtain ⟨c1b, c2, c3, c4, o2⟩ := bg_free b1 (by omega) (by omega) hw64
            have b1 := c1b
            have s2 : ∀ k, k ≠ at1 → k ≠ at1 + 1 → w64 k = a k := fun k hk hk2 => by rw [hw64, pk_un hk2]; exact s1 k hk
            have o1 : ∀ v, v < vN a → od w64 v = od a v := fun v hv => (o2 v (by omega)).trans (o1 v hv)
            have C1 : w64 at1 = nI tv3 := by rw [K2, pk_un (by omega), K1]; exact pk_us
            have C2 : w64 (at1 + 1) = nI tv39 := by rw [K2]; exact pk_us
            have RM : pO gg tv3 % tv39 = 0 := by rw [← OG, ← OV]; omega
            refine lv_iconst (v := 1) hx hb dX12_aSide_91 (by decide) ?_
            exact W.zret (v := 1) hx hb hr rfl (fun t ht hW => ⟨⟨1, u64, rfl, ⟨Or.inl ⟨rfl, by rw [ps_ok K6 (by omega) K62 (by omega) (by rw [← TV, ← TV2]; exact RM)]; dsimp only; rw [← TV, ← TV2]; exact ⟨rfl, ⟨hF68x, hF69x, hF70x, by omega, _, by omega, hF71x, tvv39⟩, K62, (by rw [hs64]; exact C1), (by rw [hs64]; exact C2), by omega, by omega, by omega, RM, hF72x, hF73x, hF74x⟩⟩, (by first | (rw [hs64]; done) | (rw [hs64]; first | assumption | exact b1)), (by first | (rw [hs64]; done) | (rw [hs64]; first | rfl | omega)), (by first | (rw [hs64]; done) | (rw [hs64]; first | rfl | omega)), (by first | (rw [hs64]; done) | (rw [hs64]; first | (intro v _; rfl) | (intro v hv; exact o1 v hv))), (by first | (rw [hs64]; done) | (rw [hs64]; first | (intro k _ _; rfl) | (intro k h1 h2; exact s1 k h1)| (intro k h1 h2; exact s2 k h1 h2))), (by first | (rw [hF71x]; done) | (rw [hF71x]; refine ⟨_, ?_, rfl⟩; omega)), hfr⟩, (show va_P (dC, dI) vwCl (rW cs b u64) t.heap by rw [ht]; exact hP)⟩, hS.F ht⟩) hS.2.2 dX12_aSide_92
          · have c63 := mt (b_eq (nI_toInt (n := (od w20 tv3) % tv39) (by omega)) (show Int32.toInt 0 = 0 from rfl)).mpr c63
            refine lv_aload_n hx hb dX12_aSide_73 rfl (lv_at hl 0 rfl) ?_
            refine lv_iconst (v := 4) hx hb dX12_aSide_74 (by decide) ?_
            refine rc_i hAL hS hA (va_runV (As := [.int (nI 4)]) (rest := []) ⟨hx, hb, hml, hown, noTs⟩ (x_X12_fails l dC dI H.size cs b u40 4 (tkr (kd tx sz1 (nxt tx sz1 p0))) (nxt tx sz1 p0) ln hb40.2.1 hF47x hF45x hF44x (by first | assumption | omega | rfl | (congr 1; omega))) ⟨cbE 1 (wd_1540 hE) (wd_126 hE) (wd_1537 hE) rfl rfl (by decide +kernel) ⟨Nat.le_of_ble_eq_true rfl, Nat.le_of_ble_eq_true rfl⟩, (wd_1539 hE), (wd_62 hE)⟩ ⟨PR.blind, r_recv hK hP rfl, (r_pre (av := [.ref (b 0), .int (nI 4)]) hK hP hJ hE)⟩ rfl rfl hl.1 rfl (lv_room (Nat.le_of_ble_eq_true rfl)) dX12_aSide_75 ⟨Nat.le_of_ble_eq_true rfl, Nat.le_of_ble_eq_true rfl⟩) (fun r75 u75 H locs hpo75 hP hS => ?_)
            obtain ⟨hr75, h75_0, h75_1, h75_2, hq75⟩ := hpo75
            have hA76 := (hq75.1 16 List.not_mem_nil).trans hA41
            have hA77 := (hq75.1 1 List.not_mem_nil).trans hA42
            have hF78x := (hq75.2.1 11 (by decide)).trans hF43x
            have hF79x := (hq75.2.1 20 (by decide)).trans hF44x
            have hF80x := (hq75.2.1 13 (by decide)).trans hF45x
            have hF81x := (hq75.2.1 14 (by decide)).trans hF46x
            have hF82x := (hq75.2.1 12 (by decide)).trans hF47x
            have hF83x := (hq75.2.1 15 (by decide)).trans hF48x
            have hfr := FR.step hfr hq75 (fun _ h => absurd h List.not_mem_nil) (by decide) (fun h => rfl)
            subst hr75
            exact W.zret (v := 0) hx hb hr rfl (fun t ht hW => ⟨⟨0, u75, rfl, ⟨Or.inr ⟨rfl, by rw [ps_4 K6 (by omega) K62 (by first | exact Or.inl (by omega) | exact Or.inr (by rw [← TV, ← TV2, ← OG, ← OV]; omega))]; dsimp only; exact ⟨by decide, ⟨by rw [h75_0, if_neg (by omega)], h75_1, h75_2⟩⟩⟩, (by first | (rw [hA77]; done) | (rw [hA77]; first | assumption | exact b1)), (by first | (rw [hA77]; done) | (rw [hA77]; first | rfl | omega)), (by first | (rw [hA77]; done) | (rw [hA77]; first | rfl | omega)), (by first | (rw [hA77]; done) | (rw [hA77]; first | (intro v _; rfl) | (intro v hv; exact o1 v hv))), (by first | (rw [hA77]; done) | (rw [hA77]; first | (intro k _ _; rfl) | (intro k h1 h2; exact s1 k h1)| (intro k h1 h2; exact s2 k h1 h2))), (by first | (rw [hF83x]; done) | (rw [hF83x]; refine ⟨_, ?_, rfl⟩; omega)), hfr⟩, (show va_P (dC, dI) vwCl (rW cs b u75) t.heap by rw [ht]; exact hP)⟩, hS.F ht⟩) hS.2.2 dX12_aSide_78
      · have NN2 := id hb40
        refine lv_if_ne (tgt := 49) hx hb dX12_aSide_44 (by decide) (fun c84 => absurd c84 (by decide)) (fun c84 => ?_)
        refine lv_iconst (v := 0) hx hb dX12_aSide_47 (by decide) ?_
        exact W.zret (v := 0) hx hb hr rfl (fun t ht hW => ⟨⟨0, u40, rfl, ⟨Or.inr ⟨rfl, by rw [ps_n2 K6 (by omega) NN2.1]; dsimp only; exact ⟨bad_ne, NN2.2⟩⟩, (by first | (rw [hA42]; done) | (rw [hA42]; first | assumption | exact b1)), (by first | (rw [hA42]; done) | (rw [hA42]; first | rfl | omega)), (by first | (rw [hA42]; done) | (rw [hA42]; first | rfl | omega)), (by first | (rw [hA42]; done) | (rw [hA42]; first | (intro v _; rfl) | (intro v hv; exact o1 v hv))), (by first | (rw [hA42]; done) | (rw [hA42]; first | (intro k _ _; rfl) | (intro k h1 h2; exact s1 k h1)| (intro k h1 h2; exact s2 k h1 h2))), (by first | (rw [hF48x]; done) | (rw [hF48x]; refine ⟨_, ?_, rfl⟩; omega)), hfr⟩, (show va_P (dC, dI) vwCl (rW cs b u40) t.heap by rw [ht]; exact hP)⟩, hS.F ht⟩) hS.2.2 dX12_aSide_48
    · have hvx := nI_toInt (n := tv3) (by omega)
      refine lv_if_ne (tgt := 26) hx hb dX12_aSide_17 (by decide) (fun c85 => absurd c85 (by decide)) (fun c85 => ?_)
      refine lv_aload_n hx hb dX12_aSide_20 rfl (lv_at hl 0 rfl) ?_
      refine lv_iconst (v := 3) hx hb dX12_aSide_21 (by decide) ?_
      refine rc_i hAL hS hA (va_runV (As := [.int (nI 3)]) (rest := []) ⟨hx, hb, hml, hown, noTs⟩ (x_X12_fails l dC dI H.size cs b u8 3 (tkr (kd tx sz1 p0)) p0 ln hb8.2.1 hF15x hF13x hF12x (by first | assumption | omega | rfl | (congr 1; omega))) ⟨cbE 1 (wd_1540 hE) (wd_126 hE) (wd_1537 hE) rfl rfl (by decide +kernel) ⟨Nat.le_of_ble_eq_true rfl, Nat.le_of_ble_eq_true rfl⟩, (wd_1539 hE), (wd_62 hE)⟩ ⟨PR.blind, r_recv hK hP rfl, (r_pre (av := [.ref (b 0), .int (nI 3)]) hK hP hJ hE)⟩ rfl rfl hl.1 rfl (lv_room (Nat.le_of_ble_eq_true rfl)) dX12_aSide_22 ⟨Nat.le_of_ble_eq_true rfl, Nat.le_of_ble_eq_true rfl⟩) (fun r86 u86 H locs hpo86 hP hS => ?_)
      obtain ⟨hr86, h86_0, h86_1, h86_2, hq86⟩ := hpo86
      have hA87 := (hq86.1 1 List.not_mem_nil).trans hA9
      have hA88 := (hq86.1 16 List.not_mem_nil).trans hA10
      have hF89x := (hq86.2.1 11 (by decide)).trans hF11x
      have hF90x := (hq86.2.1 20 (by decide)).trans hF12x
      have hF91x := (hq86.2.1 13 (by decide)).trans hF13x
      have hF92x := (hq86.2.1 14 (by decide)).trans hF14x
      have hF93x := (hq86.2.1 12 (by decide)).trans hF15x
      have hF94x := (hq86.2.1 15 (by decide)).trans hF16x
      have hfr := FR.step hfr hq86 (fun _ h => absurd h List.not_mem_nil) (by decide) (fun h => rfl)
      subst hr86
      exact W.zret (v := 0) hx hb hr rfl (fun t ht hW => ⟨⟨0, u86, rfl, ⟨Or.inr ⟨rfl, by rw [ps_3 K6 (by omega)]; dsimp only; exact ⟨by decide, ⟨by rw [h86_0, if_neg (by omega)], h86_1, h86_2⟩⟩⟩, (by first | (rw [hA87]; done) | (rw [hA87]; first | assumption | exact b1)), (by first | (rw [hA87]; done) | (rw [hA87]; first | rfl | omega)), (by first | (rw [hA87]; done) | (rw [hA87]; first | rfl | omega)), (by first | (rw [hA87]; done) | (rw [hA87]; first | (intro v _; rfl) | (intro v hv; exact o1 v hv))), (by first | (rw [hA87]; done) | (rw [hA87]; first | (intro k _ _; rfl) | (intro k h1 h2; exact s1 k h1)| (intro k h1 h2; exact s2 k h1 h2))), (by first | (rw [hF94x]; done) | (rw [hF94x]; refine ⟨_, ?_, rfl⟩; omega)), hfr⟩, (show va_P (dC, dI) vwCl (rW cs b u86) t.heap by rw [ht]; exact hP)⟩, hS.F ht⟩) hS.2.2 dX12_aSide_25
  · have NN := id hb8
    refine lv_if_ne (tgt := 9) hx hb dX12_aSide_4 (by decide) (fun c95 => absurd c95 (by decide)) (fun c95 => ?_)
    refine lv_iconst (v := 0) hx hb dX12_aSide_7 (by decide) ?_
    exact W.zret (v := 0) hx hb hr rfl (fun t ht hW => ⟨⟨0, u8, rfl, ⟨Or.inr ⟨rfl, by rw [ps_n NN.1]; dsimp only; exact ⟨bad_ne, NN.2⟩⟩, (by first | (rw [hA9]; done) | (rw [hA9]; first | assumption | exact b1)), (by first | (rw [hA9]; done) | (rw [hA9]; first | rfl | omega)), (by first | (rw [hA9]; done) | (rw [hA9]; first | rfl | omega)), (by first | (rw [hA9]; done) | (rw [hA9]; first | (intro v _; rfl) | (intro v hv; exact o1 v hv))), (by first | (rw [hA9]; done) | (rw [hA9]; first | (intro k _ _; rfl) | (intro k h1 h2; exact s1 k h1)| (intro k h1 h2; exact s2 k h1 h2))), (by first | (rw [hF16x]; done) | (rw [hF16x]; refine ⟨_, ?_, rfl⟩; omega)), hfr⟩, (show va_P (dC, dI) vwCl (rW cs b u8) t.heap by rw [ht]; exact hP)⟩, hS.F ht⟩) hS.2.2 dX12_aSide_8

set_option maxHeartbeats 4000000 in
set_option maxRecDepth 100000 in
theorem x_X12_anEdge (l : Launch) (dC : Nat → ClassId) (dI : Nat → Nat → Nat) (sz : Nat) (cs : Nat → ClassId) (b : Nat → Nat) (u : RS) (a : Nat → Int32) (hA1 : rA u 1 = a) (tx : Nat → Int32) (hAc16 : rA u 16 = tx) (sz1 : Nat) (p0 : Nat) (ln : Nat) (x17 : Int32) (x18 : Int32) (gg : PGr) (hF11 : rF u 11 = nI sz1) (hF16 : rF u 16 = 0) (hF17 : rF u 17 = x17) (hF18 : rF u 18 = x18) (hF20 : rF u 20 = nI ln) (hp0 : BG a) (hp1 : TE u tx sz1 p0) (hp2 : sz1 ≤ 700) (hp3 : GA a gg) (hp4 : kd tx sz1 p0 = 4) : Met l yX12_anEdge [.code yX12_anEdge cX12_anEdge 2 (some .boolean)] ({ frames := 3, cells := 0, slots := 0, locals := 120 }) (PR [.ref (b 0)] sz dC dI cs b u) (va_Qi (fun (r : Int32) (u' : RS) => ((r = 1 ∧ ((pEdge tx sz1 gg p0).1 = 0 ∧ TE u' tx sz1 (pEdge tx sz1 gg p0).2.1 ∧ GA (rA u' 1) (pEdge tx sz1 gg p0).2.2 ∧ rF u' 16 = 0 ∧ rF u' 17 = x17 ∧ rF u' 18 = x18)) ∨ (r = 0 ∧ ((pEdge tx sz1 gg p0).1 ≠ 0 ∧ FL u' (pEdge tx sz1 gg p0).1 (pEdge tx sz1 gg p0).2.1 ln))) ∧ (BG (rA u' 1)) ∧ (∀ k, 554 ≤ k → (rA u' 1) k = a k) ∧ (∃ k : Nat, k ≤ 9999 ∧ rF u' 15 = nI k) ∧ FR [1] [12, 13, 14, 15, 16, 17, 18] false u u') (BR dC dI cs b) (AR b sz)) 0 0 (AR b sz) := by
  refine Met.ofW (cc := cX12_anEdge) (maxL := 2) (ret := (some .boolean)) (by decide) rfl ?_
  intro p e s m args below meth c s₁ B hml hv
  obtain ⟨rfl, hsz, hP, hK, hJ, hE⟩ := hv
  have hx := B.exec
  have hb := B.bytes
  have hr := B.returns
  have hown : s.vm.findClass RX12 = some m.cls := findClass_of_methodNamed B.named
  have hlocks := B.notSynchronized
  subst hsz
  have hAL : ∀ i, i < 108 → AR b s.heap.size (b i) := fun i h => Or.inl ⟨i, h, rfl⟩
  have hA : ∀ q : Nat, s.heap.size ≤ q → AR b s.heap.size q := fun q h => Or.inr h
  have hS : va_S (AR b s.heap.size) s.heap s.heap [] := va_S.rf
  have hfr : FR [1] [12, 13, 14, 15, 16, 17, 18] false u u := FR.refl
  have hl := lv_entry ([.ref (b 0)]) (n := 2) (Nat.le_of_ble_eq_true rfl)
  rw [lg_entry_eq]
  generalize (lg_sl ([.ref (b 0)]) ++ List.replicate (2 - (lg_sl ([.ref (b 0)])).length) Slot.unset).toArray = ls at hl ⊢
  have hl : lv_has ls 2 [(0, .ref (b 0))] := hl
  have hB := hp0
  have hG := bg_g hp0
  have ha1 := gg_le hG
  have ha1b := bg_w hp0
  have hte3 : TE u tx sz1 p0 := hp1
  obtain ⟨te13_3, te14_3, te12_3, tep3, tv3, tvl3, te15_3, tvv3⟩ := hte3
  have tkf3 := kd_f tx sz1 p0
  have tna3 := tnd_le (tx := tx) tep3
  have tnb3 := fun h : p0 < sz1 => tnd_gt (tx := tx) h
  have ga1 := hp3.1
  have ga2 := hp3.2.1
  have ga3 := hp3.2.2.1
  refine lv_aload_n hx hb dX12_anEdge_0 rfl (lv_at hl 0 rfl) ?_
  refine lv_iconst (v := 1) hx hb dX12_anEdge_1 (by decide) ?_
  refine vp_callSi (va_Run.run (va_runV (As := [.int (nI 1)]) (rest := []) ⟨hx, hb, hml, hown, noTs⟩ (r_X12_of l dC dI s.heap.size cs b u a hA1 1 (by first | assumption | omega | rfl | (congr 1; omega))) ⟨cbE 1 (wd_1536 hE) (wd_126 hE) (wd_1533 hE) rfl rfl (by decide +kernel) ⟨Nat.le_of_ble_eq_true rfl, Nat.le_of_ble_eq_true rfl⟩, (wd_1535 hE), (wd_61 hE)⟩ ⟨PR.blind, r_recv hK hP rfl, (r_pre (av := [.ref (b 0), .int (nI 1)]) hK hP hJ hE)⟩ rfl rfl hl.1 rfl (lv_room (Nat.le_of_ble_eq_true rfl)) dX12_anEdge_2 ⟨Nat.le_of_ble_eq_true rfl, Nat.le_of_ble_eq_true rfl⟩)) (fun r7 hr7 => ?_)
  have hr7 := hr7.trans (gg_e hG)
  subst hr7
  refine lv_bipush (v := 6) hx hb dX12_anEdge_5 (by decide) ?_
  refine lv_icmp_ne (tgt := 17) hx hb dX12_anEdge_7 (by decide) (fun c8 => ?_) (fun c8 => ?_)
  · have c8 := mt (b_eq (nI_toInt (n := eN a) (by omega)) (show Int32.toInt 6 = 6 from rfl)).mpr c8
    refine lv_bipush (v := 10) hx hb dX12_anEdge_17 (by decide) ?_
    refine lv_iconst (v := 4) hx hb dX12_anEdge_19 (by decide) ?_
    refine lv_aload_n hx hb dX12_anEdge_20 rfl (lv_at hl 0 rfl) ?_
    refine lv_iconst (v := 1) hx hb dX12_anEdge_21 (by decide) ?_
    refine vp_callSi (va_Run.run (va_runV (As := [.int (nI 1)]) (rest := [.int 4, .int 10]) ⟨hx, hb, hml, hown, noTs⟩ (r_X12_of l dC dI s.heap.size cs b u a hA1 1 (by first | assumption | omega | rfl | (congr 1; omega))) ⟨cbE 1 (wd_1536 hE) (wd_126 hE) (wd_1533 hE) rfl rfl (by decide +kernel) ⟨Nat.le_of_ble_eq_true rfl, Nat.le_of_ble_eq_true rfl⟩, (wd_1535 hE), (wd_61 hE)⟩ ⟨PR.blind, r_recv hK hP rfl, (r_pre (av := [.ref (b 0), .int (nI 1)]) hK hP hJ hE)⟩ rfl rfl hl.1 rfl (lv_room (Nat.le_of_ble_eq_true rfl)) dX12_anEdge_22 ⟨Nat.le_of_ble_eq_true rfl, Nat.le_of_ble_eq_true rfl⟩)) (fun r9 hr9 => ?_)
    have hr9 := hr9.trans (gg_e hG)
    subst hr9
    refine lv_imul hx hb dX12_anEdge_25 ?_
    refine W.eq (g2 := F0 m 26 ls [.int (nI (4 * (eN a))), .int 10]) (congrArg (fun z : Int32 => F0 m 26 ls (.int z :: [.int 10])) (pk_mul 4 (eN a))) ?_
    refine lv_iadd hx hb dX12_anEdge_26 ?_
    refine W.eq (g2 := F0 m 27 ls [.int (nI (10 + (4 * (eN a))))]) (congrArg (fun z : Int32 => F0 m 27 ls (.int z :: [])) (nI_add 10 (4 * (eN a)))) ?_
    refine lv_istore_n (lv' := [(1, .int (nI (10 + (4 * (eN a))))), (0, .ref (b 0))]) hx hb dX12_anEdge_27 rfl hl (by decide) rfl (fun ls hl => ?_)
    refine lv_aload_n hx hb dX12_anEdge_28 rfl (lv_at hl 1 rfl) ?_
    refine rc_v hAL hS hA (va_runV (As := []) (rest := []) ⟨hx, hb, hml, hown, noTs⟩ (x_X12_ahead l dC dI s.heap.size cs b u tx hAc16 sz1 (tnd tx sz1 p0) tv3 hF11 te14_3 te15_3 (by first | assumption | omega | rfl | (congr 1; omega)) (by first | assumption | omega | rfl | (congr 1; omega)) (by first | assumption | omega | rfl | (congr 1; omega))) ⟨cbE 0 (wd_1506 hE) (wd_126 hE) (wd_1503 hE) rfl rfl (by decide +kernel) ⟨Nat.le_of_ble_eq_true rfl, Nat.le_of_ble_eq_true rfl⟩, (wd_1505 hE), (wd_56 hE)⟩ ⟨PR.blind, r_recv hK hP rfl, (r_pre (av := [.ref (b 0)]) hK hP hJ hE)⟩ rfl rfl hl.1 rfl (lv_room (Nat.le_of_ble_eq_true rfl)) dX12_anEdge_29 ⟨Nat.le_of_ble_eq_true rfl, Nat.le_of_ble_eq_true rfl⟩) (fun u10 H locs hpo10 hP hS => ?_)
    obtain ⟨h10_0, hq10⟩ := hpo10
    have hA11 := (hq10.1 1 List.not_mem_nil).trans hA1
    have hA12 := (hq10.1 16 List.not_mem_nil).trans hAc16
    have hF13x := (hq10.2.1 11 (by decide)).trans hF11
    have hF14x := (hq10.2.1 16 (by decide)).trans hF16
    have hF15x := (hq10.2.1 17 (by decide)).trans hF17
    have hF16x := (hq10.2.1 18 (by decide)).trans hF18
    have hF17x := (hq10.2.1 20 (by decide)).trans hF20
    have hfr := FR.step hfr hq10 (fun _ h => absurd h List.not_mem_nil) (by decide) (fun h => rfl)
    clear tkf3 tnb3
    have hte18 : TE u10 tx sz1 (nxt tx sz1 p0) := h10_0
    obtain ⟨te13_18, te14_18, te12_18, tep18, tv18, tvl18, te15_18, tvv18⟩ := hte18
    have tkf18 := kd_f tx sz1 (nxt tx sz1 p0)
    have tna18 := tnd_le (tx := tx) tep18
    have tnb18 := fun h : (nxt tx sz1 p0) < sz1 => tnd_gt (tx := tx) h
    refine lv_aload_n hx hb dX12_anEdge_32 rfl (lv_at hl 1 rfl) ?_
    refine lv_iload_n hx hb dX12_anEdge_33 rfl (lv_at hl 0 rfl) ?_
    refine rc_i hAL hS hA (va_runV (As := [.int (nI (10 + (4 * (eN a))))]) (rest := []) ⟨hx, hb, hml, hown, noTs⟩ (x_X12_aSide l dC dI H.size cs b u10 a hA11 tx hA12 (10 + (4 * (eN a))) sz1 (nxt tx sz1 p0) ln x17 x18 gg hF13x hF14x hF15x hF16x hF17x (by first | assumption | omega | rfl | (congr 1; omega)) ⟨te13_18, te14_18, te12_18, by omega, _, by omega, te15_18, tvv18⟩ (by first | assumption | omega | rfl | (congr 1; omega)) (by first | assumption | omega | rfl | (congr 1; omega)) (by first | assumption | omega | rfl | (congr 1; omega)) (by first | assumption | omega | rfl | (congr 1; omega))) ⟨cbE 1 (wd_1556 hE) (wd_126 hE) (wd_1553 hE) rfl rfl (by decide +kernel) ⟨Nat.le_of_ble_eq_true rfl, Nat.le_of_ble_eq_true rfl⟩, (wd_1555 hE), (wd_66 hE)⟩ ⟨PR.blind, r_recv hK hP rfl, (r_pre (av := [.ref (b 0), .int (nI (10 + (4 * (eN a))))]) hK hP hJ hE)⟩ rfl rfl hl.1 rfl (lv_room (Nat.le_of_ble_eq_true rfl)) dX12_anEdge_34 ⟨Nat.le_of_ble_eq_true rfl, Nat.le_of_ble_eq_true rfl⟩) (fun r19 u19 H locs hpo19 hP hS => ?_)
    obtain ⟨hr19, h19_0, h19_1, h19_2, h19_3, h19_4, h19_5, hq19⟩ := hpo19
    obtain ⟨w20, hA20⟩ : ∃ g, rA u19 1 = g := ⟨_, rfl⟩
    rw [hA20] at h19_0 h19_1 h19_2 h19_3 h19_4 hr19
    obtain ⟨n19_5, hn19_5, hfe19_5⟩ := h19_5
    have hA21 := (hq19.1 16 (by decide)).trans hA12
    have hF22x := (hq19.2.1 11 (by decide)).trans hF13x
    have hF23x := (hq19.2.1 20 (by decide)).trans hF17x
    have hfr := FR.step hfr hq19 (by decide) (by decide) (fun h => rfl)
    have hB := h19_0
    have hG := bg_g h19_0
    have ha24 := gg_le hG
    have ha24b := bg_w h19_0
    have S1o := h19_4
    have bgo1 : ∀ k, 554 ≤ k → w20 k = a k := fun k hk => h19_4 k (by omega) (by omega)
    have S1v := h19_1
    have S1e := h19_2
    have S1d := h19_3
    have B1 := h19_0
    have GA1 : GA w20 gg := ga_side hp3 (by omega) h19_1 h19_2 h19_3 h19_4
    rcases hr19 with ⟨rfl, hb19⟩ | ⟨rfl, hb19⟩
    · clear tkf18 tnb18
      have hte25 : TE u19 tx sz1 ((pSide tx sz1 gg (nxt tx sz1 p0)).2.1) := hb19.2.1
      obtain ⟨te13_25, te14_25, te12_25, tep25, tv25, tvl25, te15_25, tvv25⟩ := hte25
      have tkf25 := kd_f tx sz1 ((pSide tx sz1 gg (nxt tx sz1 p0)).2.1)
      have tna25 := tnd_le (tx := tx) tep25
      have tnb25 := fun h : ((pSide tx sz1 gg (nxt tx sz1 p0)).2.1) < sz1 => tnd_gt (tx := tx) h
      obtain ⟨Z1, -, A0, A1, A3, A2, A4, A5, A6, -⟩ := id hb19
      refine lv_if_ne (tgt := 42) hx hb dX12_anEdge_37 (by decide) (fun c26 => ?_) (fun c26 => absurd c26 (by decide))
      refine lv_aload_n hx hb dX12_anEdge_42 rfl (lv_at hl 1 rfl) ?_
      refine rc_v hAL hS hA (va_runV (As := []) (rest := []) ⟨hx, hb, hml, hown, noTs⟩ (x_X12_ahead l dC dI H.size cs b u19 tx hA21 sz1 (tnd tx sz1 ((pSide tx sz1 gg (nxt tx sz1 p0)).2.1)) tv25 hF22x te14_25 te15_25 (by first | assumption | omega | rfl | (congr 1; omega)) (by first | assumption | omega | rfl | (congr 1; omega)) (by first | assumption | omega | rfl | (congr 1; omega))) ⟨cbE 0 (wd_1506 hE) (wd_126 hE) (wd_1503 hE) rfl rfl (by decide +kernel) ⟨Nat.le_of_ble_eq_true rfl, Nat.le_of_ble_eq_true rfl⟩, (wd_1505 hE), (wd_56 hE)⟩ ⟨PR.blind, r_recv hK hP rfl, (r_pre (av := [.ref (b 0)]) hK hP hJ hE)⟩ rfl rfl hl.1 rfl (lv_room (Nat.le_of_ble_eq_true rfl)) dX12_anEdge_43 ⟨Nat.le_of_ble_eq_true rfl, Nat.le_of_ble_eq_true rfl⟩) (fun u27 H locs hpo27 hP hS => ?_)
      obtain ⟨h27_0, hq27⟩ := hpo27
      have hA28 := (hq27.1 16 List.not_mem_nil).trans hA21
      have hA29 := (hq27.1 1 List.not_mem_nil).trans hA20
      have hF30x := (hq27.2.1 11 (by decide)).trans hF22x
      have hF31x := (hq27.2.1 20 (by decide)).trans hF23x
      have hF32x := (hq27.2.1 16 (by decide)).trans hb19.2.2.2.2.2.2.2.2.2.1
      have hF33x := (hq27.2.1 17 (by decide)).trans hb19.2.2.2.2.2.2.2.2.2.2.1
      have hF34x := (hq27.2.1 18 (by decide)).trans hb19.2.2.2.2.2.2.2.2.2.2.2
      have hfr := FR.step hfr hq27 (fun _ h => absurd h List.not_mem_nil) (by decide) (fun h => rfl)
      clear tkf25 tnb25
      have hte35 : TE u27 tx sz1 (nxt tx sz1 ((pSide tx sz1 gg (nxt tx sz1 p0)).2.1)) := h27_0
      obtain ⟨te13_35, te14_35, te12_35, tep35, tv35, tvl35, te15_35, tvv35⟩ := hte35
      have tkf35 := kd_f tx sz1 (nxt tx sz1 ((pSide tx sz1 gg (nxt tx sz1 p0)).2.1))
      have tna35 := tnd_le (tx := tx) tep35
      have tnb35 := fun h : (nxt tx sz1 ((pSide tx sz1 gg (nxt tx sz1 p0)).2.1)) < sz1 => tnd_gt (tx := tx) h
      refine lv_aload_n hx hb dX12_anEdge_46 rfl (lv_at hl 1 rfl) ?_
      refine lv_iload_n hx hb dX12_anEdge_47 rfl (lv_at hl 0 rfl) ?_
      refine lv_iconst (v := 2) hx hb dX12_anEdge_48 (by decide) ?_
      refine lv_iadd hx hb dX12_anEdge_49 ?_
      refine W.eq (g2 := F0 m 50 ls [.int (nI ((10 + (4 * (eN a))) + 2)), .ref (b 0)]) (congrArg (fun z : Int32 => F0 m 50 ls (.int z :: [.ref (b 0)])) (nI_add (10 + (4 * (eN a))) 2)) ?_
      refine rc_i hAL hS hA (va_runV (As := [.int (nI ((10 + (4 * (eN a))) + 2))]) (rest := []) ⟨hx, hb, hml, hown, noTs⟩ (x_X12_aSide l dC dI H.size cs b u27 w20 hA29 tx hA28 ((10 + (4 * (eN a))) + 2) sz1 (nxt tx sz1 ((pSide tx sz1 gg (nxt tx sz1 p0)).2.1)) ln x17 x18 gg hF30x hF32x hF33x hF34x hF31x (by first | assumption | omega | rfl | (congr 1; omega)) ⟨te13_35, te14_35, te12_35, by omega, _, by omega, te15_35, tvv35⟩ (by first | assumption | omega | rfl | (congr 1; omega)) (by first | assumption | omega | rfl | (congr 1; omega)) (by first | assumption | omega | rfl | (congr 1; omega)) (by first | assumption | omega | rfl | (congr 1; omega))) ⟨cbE 1 (wd_1556 hE) (wd_126 hE) (wd_1553 hE) rfl rfl (by decide +kernel) ⟨Nat.le_of_ble_eq_true rfl, Nat.le_of_ble_eq_true rfl⟩, (wd_1555 hE), (wd_66 hE)⟩ ⟨PR.blind, r_recv hK hP rfl, (r_pre (av := [.ref (b 0), .int (nI ((10 + (4 * (eN a))) + 2))]) hK hP hJ hE)⟩ rfl rfl hl.1 rfl (lv_room (Nat.le_of_ble_eq_true rfl)) dX12_anEdge_50 ⟨Nat.le_of_ble_eq_true rfl, Nat.le_of_ble_eq_true rfl⟩) (fun r36 u36 H locs hpo36 hP hS => ?_)
      obtain ⟨hr36, h36_0, h36_1, h36_2, h36_3, h36_4, h36_5, hq36⟩ := hpo36
      obtain ⟨w37, hA37⟩ : ∃ g, rA u36 1 = g := ⟨_, rfl⟩
      rw [hA37] at h36_0 h36_1 h36_2 h36_3 h36_4 hr36
      obtain ⟨n36_5, hn36_5, hfe36_5⟩ := h36_5
      have hA38 := (hq36.1 16 (by decide)).trans hA28
      have hF39x := (hq36.2.1 11 (by decide)).trans hF30x
      have hF40x := (hq36.2.1 20 (by decide)).trans hF31x
      have hfr := FR.step hfr hq36 (by decide) (by decide) (fun h => rfl)
      have hB := h36_0
      have hG := bg_g h36_0
      have ha41 := gg_le hG
      have ha41b := bg_w h36_0
      have S2o := h36_4
      have bgo2 : ∀ k, 554 ≤ k → w37 k = a k := fun k hk => (h36_4 k (by omega) (by omega)).trans (bgo1 k hk)
      have S2v := h36_1
      have S2e := h36_2
      have S2d := h36_3
      have B2 := h36_0
      have GA2 : GA w37 gg := ga_side GA1 (by omega) h36_1 h36_2 h36_3 h36_4
      rcases hr36 with ⟨rfl, hb36⟩ | ⟨rfl, hb36⟩
      · clear tkf35 tnb35
        have hte42 : TE u36 tx sz1 ((pSide tx sz1 gg (nxt tx sz1 ((pSide tx sz1 gg (nxt tx sz1 p0)).2.1))).2.1) := hb36.2.1
        obtain ⟨te13_42, te14_42, te12_42, tep42, tv42, tvl42, te15_42, tvv42⟩ := hte42
        have tkf42 := kd_f tx sz1 ((pSide tx sz1 gg (nxt tx sz1 ((pSide tx sz1 gg (nxt tx sz1 p0)).2.1))).2.1)
        have tna42 := tnd_le (tx := tx) tep42
        have tnb42 := fun h : ((pSide tx sz1 gg (nxt tx sz1 ((pSide tx sz1 gg (nxt tx sz1 p0)).2.1))).2.1) < sz1 => tnd_gt (tx := tx) h
        obtain ⟨Z2, -, D0, D1, D3, D2, D4, D5, D6, -⟩ := id hb36
        have G2 := bg_g B2
        have E1 : w37 (10 + 4 * eN a) = nI (pSide tx sz1 gg (nxt tx sz1 p0)).2.2.1 := (S2o _ (by omega) (by omega)).trans A1
        have E2 : w37 (10 + 4 * eN a + 1) = nI (pSide tx sz1 gg (nxt tx sz1 p0)).2.2.2 := (S2o _ (by omega) (by omega)).trans A3
        have OG1 : od w37 (pSide tx sz1 gg (nxt tx sz1 p0)).2.2.1 = pO gg (pSide tx sz1 gg (nxt tx sz1 p0)).2.2.1 := GA2.2.2.2.1 _ (by have := GA2.1; omega)
        have OG2 : od w37 (pSide tx sz1 gg (nxt tx sz1 (pSide tx sz1 gg (nxt tx sz1 p0)).2.1)).2.2.1 = pO gg (pSide tx sz1 gg (nxt tx sz1 (pSide tx sz1 gg (nxt tx sz1 p0)).2.1)).2.2.1 := GA2.2.2.2.1 _ (by have := GA2.1; omega)
        have F1 : od w37 (pSide tx sz1 gg (nxt tx sz1 p0)).2.2.1 = (pO gg (pSide tx sz1 gg (nxt tx sz1 p0)).2.2.1 / (pSide tx sz1 gg (nxt tx sz1 p0)).2.2.2) * (pSide tx sz1 gg (nxt tx sz1 p0)).2.2.2 := OG1.trans (Nat.div_mul_cancel (Nat.dvd_of_mod_eq_zero A6)).symm
        have F2 : od w37 (pSide tx sz1 gg (nxt tx sz1 (pSide tx sz1 gg (nxt tx sz1 p0)).2.1)).2.2.1 = (pO gg (pSide tx sz1 gg (nxt tx sz1 (pSide tx sz1 gg (nxt tx sz1 p0)).2.1)).2.2.1 / (pSide tx sz1 gg (nxt tx sz1 (pSide tx sz1 gg (nxt tx sz1 p0)).2.1)).2.2.2) * (pSide tx sz1 gg (nxt tx sz1 (pSide tx sz1 gg (nxt tx sz1 p0)).2.1)).2.2.2 := OG2.trans (Nat.div_mul_cancel (Nat.dvd_of_mod_eq_zero D6)).symm
        refine lv_if_ne (tgt := 58) hx hb dX12_anEdge_53 (by decide) (fun c43 => ?_) (fun c43 => absurd c43 (by decide))
        refine lv_aload_n hx hb dX12_anEdge_58 rfl (lv_at hl 1 rfl) ?_
        refine lv_aload_n hx hb dX12_anEdge_59 rfl (lv_at hl 1 rfl) ?_
        refine lv_iload_n hx hb dX12_anEdge_60 rfl (lv_at hl 0 rfl) ?_
        refine vp_callSi (va_Run.run (va_runV (As := [.int (nI (10 + (4 * (eN a))))]) (rest := [.ref (b 0)]) ⟨hx, hb, hml, hown, noTs⟩ (r_X12_of l dC dI H.size cs b u36 w37 hA37 (10 + (4 * (eN a))) (by first | assumption | omega | rfl | (congr 1; omega))) ⟨cbE 1 (wd_1536 hE) (wd_126 hE) (wd_1533 hE) rfl rfl (by decide +kernel) ⟨Nat.le_of_ble_eq_true rfl, Nat.le_of_ble_eq_true rfl⟩, (wd_1535 hE), (wd_61 hE)⟩ ⟨PR.blind, r_recv hK hP rfl, (r_pre (av := [.ref (b 0), .int (nI (10 + (4 * (eN a))))]) hK hP hJ hE)⟩ rfl rfl hl.1 rfl (lv_room (Nat.le_of_ble_eq_true rfl)) dX12_anEdge_61 ⟨Nat.le_of_ble_eq_true rfl, Nat.le_of_ble_eq_true rfl⟩)) (fun r44 hr44 => ?_)
        have hr44 := hr44.trans (E1)
        subst hr44
        refine vp_callSi (va_Run.run (va_runV (As := [.int (nI ((pSide tx sz1 gg (nxt tx sz1 p0)).2.2.1))]) (rest := []) ⟨hx, hb, hml, hown, noTs⟩ (r_X12_orderAt l dC dI H.size cs b u36 w37 hA37 ((pSide tx sz1 gg (nxt tx sz1 p0)).2.2.1) (by first | assumption | omega | rfl | (congr 1; omega)) (by first | assumption | omega | rfl | (congr 1; omega))) ⟨cbE 1 (wd_1564 hE) (wd_126 hE) (wd_1561 hE) rfl rfl (by decide +kernel) ⟨Nat.le_of_ble_eq_true rfl, Nat.le_of_ble_eq_true rfl⟩, (wd_1563 hE), (wd_68 hE)⟩ ⟨PR.blind, r_recv hK hP rfl, (r_pre (av := [.ref (b 0), .int (nI ((pSide tx sz1 gg (nxt tx sz1 p0)).2.2.1))]) hK hP hJ hE)⟩ rfl rfl hl.1 rfl (lv_room (Nat.le_of_ble_eq_true rfl)) dX12_anEdge_64 ⟨Nat.le_of_ble_eq_true rfl, Nat.le_of_ble_eq_true rfl⟩)) (fun r45 hr45 => ?_)
        have hau45 := (gg_od (a := w37) (v := ((pSide tx sz1 gg (nxt tx sz1 p0)).2.2.1)) (by assumption) (by first | assumption | omega)).2
        subst hr45
        refine lv_aload_n hx hb dX12_anEdge_67 rfl (lv_at hl 1 rfl) ?_
        refine lv_iload_n hx hb dX12_anEdge_68 rfl (lv_at hl 0 rfl) ?_
        refine lv_iconst (v := 1) hx hb dX12_anEdge_69 (by decide) ?_
        refine lv_iadd hx hb dX12_anEdge_70 ?_
        refine W.eq (g2 := F0 m 71 ls [.int (nI ((10 + (4 * (eN a))) + 1)), .ref (b 0), .int (nI (od w37 ((pSide tx sz1 gg (nxt tx sz1 p0)).2.2.1)))]) (congrArg (fun z : Int32 => F0 m 71 ls (.int z :: [.ref (b 0), .int (nI (od w37 ((pSide tx sz1 gg (nxt tx sz1 p0)).2.2.1)))])) (nI_add (10 + (4 * (eN a))) 1)) ?_
        refine vp_callSi (va_Run.run (va_runV (As := [.int (nI ((10 + (4 * (eN a))) + 1))]) (rest := [.int (nI (od w37 ((pSide tx sz1 gg (nxt tx sz1 p0)).2.2.1)))]) ⟨hx, hb, hml, hown, noTs⟩ (r_X12_of l dC dI H.size cs b u36 w37 hA37 ((10 + (4 * (eN a))) + 1) (by first | assumption | omega | rfl | (congr 1; omega))) ⟨cbE 1 (wd_1536 hE) (wd_126 hE) (wd_1533 hE) rfl rfl (by decide +kernel) ⟨Nat.le_of_ble_eq_true rfl, Nat.le_of_ble_eq_true rfl⟩, (wd_1535 hE), (wd_61 hE)⟩ ⟨PR.blind, r_recv hK hP rfl, (r_pre (av := [.ref (b 0), .int (nI ((10 + (4 * (eN a))) + 1))]) hK hP hJ hE)⟩ rfl rfl hl.1 rfl (lv_room (Nat.le_of_ble_eq_true rfl)) dX12_anEdge_71 ⟨Nat.le_of_ble_eq_true rfl, Nat.le_of_ble_eq_true rfl⟩)) (fun r46 hr46 => ?_)
        have hr46 := hr46.trans (E2)
        subst hr46
        refine lv_idiv hx hb dX12_anEdge_74 (nI_ne0 (n := (pSide tx sz1 gg (nxt tx sz1 p0)).2.2.2) (by omega) (by omega)) ?_
        refine W.eq (g2 := F0 m 75 ls [.int (nI ((od w37 ((pSide tx sz1 gg (nxt tx sz1 p0)).2.2.1)) / ((pSide tx sz1 gg (nxt tx sz1 p0)).2.2.2)))]) (congrArg (fun z : Int32 => F0 m 75 ls (.int z :: [])) (pk_div (a := od w37 ((pSide tx sz1 gg (nxt tx sz1 p0)).2.2.1)) (d := (pSide tx sz1 gg (nxt tx sz1 p0)).2.2.2) (by omega) (by omega) (by omega))) ?_
        have hmd47 := Nat.div_le_self (od w37 ((pSide tx sz1 gg (nxt tx sz1 p0)).2.2.1)) ((pSide tx sz1 gg (nxt tx sz1 p0)).2.2.2)
        refine lv_aload_n hx hb dX12_anEdge_75 rfl (lv_at hl 1 rfl) ?_
        refine lv_aload_n hx hb dX12_anEdge_76 rfl (lv_at hl 1 rfl) ?_
        refine lv_iload_n hx hb dX12_anEdge_77 rfl (lv_at hl 0 rfl) ?_
        refine lv_iconst (v := 2) hx hb dX12_anEdge_78 (by decide) ?_
        refine lv_iadd hx hb dX12_anEdge_79 ?_
        refine W.eq (g2 := F0 m 80 ls [.int (nI ((10 + (4 * (eN a))) + 2)), .ref (b 0), .ref (b 0), .int (nI ((od w37 ((pSide tx sz1 gg (nxt tx sz1 p0)).2.2.1)) / ((pSide tx sz1 gg (nxt tx sz1 p0)).2.2.2)))]) (congrArg (fun z : Int32 => F0 m 80 ls (.int z :: [.ref (b 0), .ref (b 0), .int (nI ((od w37 ((pSide tx sz1 gg (nxt tx sz1 p0)).2.2.1)) / ((pSide tx sz1 gg (nxt tx sz1 p0)).2.2.2)))])) (nI_add (10 + (4 * (eN a))) 2)) ?_
        refine vp_callSi (va_Run.run (va_runV (As := [.int (nI ((10 + (4 * (eN a))) + 2))]) (rest := [.ref (b 0), .int (nI ((od w37 ((pSide tx sz1 gg (nxt tx sz1 p0)).2.2.1)) / ((pSide tx sz1 gg (nxt tx sz1 p0)).2.2.2)))]) ⟨hx, hb, hml, hown, noTs⟩ (r_X12_of l dC dI H.size cs b u36 w37 hA37 ((10 + (4 * (eN a))) + 2) (by first | assumption | omega | rfl | (congr 1; omega))) ⟨cbE 1 (wd_1536 hE) (wd_126 hE) (wd_1533 hE) rfl rfl (by decide +kernel) ⟨Nat.le_of_ble_eq_true rfl, Nat.le_of_ble_eq_true rfl⟩, (wd_1535 hE), (wd_61 hE)⟩ ⟨PR.blind, r_recv hK hP rfl, (r_pre (av := [.ref (b 0), .int (nI ((10 + (4 * (eN a))) + 2))]) hK hP hJ hE)⟩ rfl rfl hl.1 rfl (lv_room (Nat.le_of_ble_eq_true rfl)) dX12_anEdge_80 ⟨Nat.le_of_ble_eq_true rfl, Nat.le_of_ble_eq_true rfl⟩)) (fun r48 hr48 => ?_)
        have hr48 := hr48.trans (D1)
        subst hr48
        refine vp_callSi (va_Run.run (va_runV (As := [.int (nI ((pSide tx sz1 gg (nxt tx sz1 (pSide tx sz1 gg (nxt tx sz1 p0)).2.1)).2.2.1))]) (rest := [.int (nI ((od w37 ((pSide tx sz1 gg (nxt tx sz1 p0)).2.2.1)) / ((pSide tx sz1 gg (nxt tx sz1 p0)).2.2.2)))]) ⟨hx, hb, hml, hown, noTs⟩ (r_X12_orderAt l dC dI H.size cs b u36 w37 hA37 ((pSide tx sz1 gg (nxt tx sz1 (pSide tx sz1 gg (nxt tx sz1 p0)).2.1)).2.2.1) (by first | assumption | omega | rfl | (congr 1; omega)) (by first | assumption | omega | rfl | (congr 1; omega))) ⟨cbE 1 (wd_1564 hE) (wd_126 hE) (wd_1561 hE) rfl rfl (by decide +kernel) ⟨Nat.le_of_ble_eq_true rfl, Nat.le_of_ble_eq_true rfl⟩, (wd_1563 hE), (wd_68 hE)⟩ ⟨PR.blind, r_recv hK hP rfl, (r_pre (av := [.ref (b 0), .int (nI ((pSide tx sz1 gg (nxt tx sz1 (pSide tx sz1 gg (nxt tx sz1 p0)).2.1)).2.2.1))]) hK hP hJ hE)⟩ rfl rfl hl.1 rfl (lv_room (Nat.le_of_ble_eq_true rfl)) dX12_anEdge_83 ⟨Nat.le_of_ble_eq_true rfl, Nat.le_of_ble_eq_true rfl⟩)) (fun r49 hr49 => ?_)
        have hau49 := (gg_od (a := w37) (v := ((pSide tx sz1 gg (nxt tx sz1 (pSide tx sz1 gg (nxt tx sz1 p0)).2.1)).2.2.1)) (by assumption) (by first | assumption | omega)).2
        subst hr49
        refine lv_aload_n hx hb dX12_anEdge_86 rfl (lv_at hl 1 rfl) ?_
        refine lv_iload_n hx hb dX12_anEdge_87 rfl (lv_at hl 0 rfl) ?_
        refine lv_iconst (v := 3) hx hb dX12_anEdge_88 (by decide) ?_
        refine lv_iadd hx hb dX12_anEdge_89 ?_
        refine W.eq (g2 := F0 m 90 ls [.int (nI ((10 + (4 * (eN a))) + 3)), .ref (b 0), .int (nI (od w37 ((pSide tx sz1 gg (nxt tx sz1 (pSide tx sz1 gg (nxt tx sz1 p0)).2.1)).2.2.1))), .int (nI ((od w37 ((pSide tx sz1 gg (nxt tx sz1 p0)).2.2.1)) / ((pSide tx sz1 gg (nxt tx sz1 p0)).2.2.2)))]) (congrArg (fun z : Int32 => F0 m 90 ls (.int z :: [.ref (b 0), .int (nI (od w37 ((pSide tx sz1 gg (nxt tx sz1 (pSide tx sz1 gg (nxt tx sz1 p0)).2.1)).2.2.1))), .int (nI ((od w37 ((pSide tx sz1 gg (nxt tx sz1 p0)).2.2.1)) / ((pSide tx sz1 gg (nxt tx sz1 p0)).2.2.2)))])) (nI_add (10 + (4 * (eN a))) 3)) ?_
        refine vp_callSi (va_Run.run (va_runV (As := [.int (nI ((10 + (4 * (eN a))) + 3))]) (rest := [.int (nI (od w37 ((pSide tx sz1 gg (nxt tx sz1 (pSide tx sz1 gg (nxt tx sz1 p0)).2.1)).2.2.1))), .int (nI ((od w37 ((pSide tx sz1 gg (nxt tx sz1 p0)).2.2.1)) / ((pSide tx sz1 gg (nxt tx sz1 p0)).2.2.2)))]) ⟨hx, hb, hml, hown, noTs⟩ (r_X12_of l dC dI H.size cs b u36 w37 hA37 ((10 + (4 * (eN a))) + 3) (by first | assumption | omega | rfl | (congr 1; omega))) ⟨cbE 1 (wd_1536 hE) (wd_126 hE) (wd_1533 hE) rfl rfl (by decide +kernel) ⟨Nat.le_of_ble_eq_true rfl, Nat.le_of_ble_eq_true rfl⟩, (wd_1535 hE), (wd_61 hE)⟩ ⟨PR.blind, r_recv hK hP rfl, (r_pre (av := [.ref (b 0), .int (nI ((10 + (4 * (eN a))) + 3))]) hK hP hJ hE)⟩ rfl rfl hl.1 rfl (lv_room (Nat.le_of_ble_eq_true rfl)) dX12_anEdge_90 ⟨Nat.le_of_ble_eq_true rfl, Nat.le_of_ble_eq_true rfl⟩)) (fun r50 hr50 => ?_)
        have hr50 := hr50.trans (D3)
        subst hr50
        refine lv_idiv hx hb dX12_anEdge_93 (nI_ne0 (n := (pSide tx sz1 gg (nxt tx sz1 (pSide tx sz1 gg (nxt tx sz1 p0)).2.1)).2.2.2) (by omega) (by omega)) ?_
        refine W.eq (g2 := F0 m 94 ls [.int (nI ((od w37 ((pSide tx sz1 gg (nxt tx sz1 (pSide tx sz1 gg (nxt tx sz1 p0)).2.1)).2.2.1)) / ((pSide tx sz1 gg (nxt tx sz1 (pSide tx sz1 gg (nxt tx sz1 p0)).2.1)).2.2.2))), .int (nI ((od w37 ((pSide tx sz1 gg (nxt tx sz1 p0)).2.2.1)) / ((pSide tx sz1 gg (nxt tx sz1 p0)).2.2.2)))]) (congrArg (fun z : Int32 => F0 m 94 ls (.int z :: [.int (nI ((od w37 ((pSide tx sz1 gg (nxt tx sz1 p0)).2.2.1)) / ((pSide tx sz1 gg (nxt tx sz1 p0)).2.2.2)))])) (pk_div (a := od w37 ((pSide tx sz1 gg (nxt tx sz1 (pSide tx sz1 gg (nxt tx sz1 p0)).2.1)).2.2.1)) (d := (pSide tx sz1 gg (nxt tx sz1 (pSide tx sz1 gg (nxt tx sz1 p0)).2.1)).2.2.2) (by omega) (by omega) (by omega))) ?_
        have hmd51 := Nat.div_le_self (od w37 ((pSide tx sz1 gg (nxt tx sz1 (pSide tx sz1 gg (nxt tx sz1 p0)).2.1)).2.2.1)) ((pSide tx sz1 gg (nxt tx sz1 (pSide tx sz1 gg (nxt tx sz1 p0)).2.1)).2.2.2)
        refine lv_icmp_eq (tgt := 103) hx hb dX12_anEdge_94 (by decide) (fun c52 => ?_) (fun c52 => ?_)
        · have c52 := (b_eq (nI_toInt (n := (od w37 ((pSide tx sz1 gg (nxt tx sz1 p0)).2.2.1)) / ((pSide tx sz1 gg (nxt tx sz1 p0)).2.2.2)) (by omega)) (nI_toInt (n := (od w37 ((pSide tx sz1 gg (nxt tx sz1 (pSide tx sz1 gg (nxt tx sz1 p0)).2.1)).2.2.1)) / ((pSide tx sz1 gg (nxt tx sz1 (pSide tx sz1 gg (nxt tx sz1 p0)).2.1)).2.2.2)) (by omega))).mp c52
          have QE : pO gg (pSide tx sz1 gg (nxt tx sz1 p0)).2.2.1 / (pSide tx sz1 gg (nxt tx sz1 p0)).2.2.2 = pO gg (pSide tx sz1 gg (nxt tx sz1 (pSide tx sz1 gg (nxt tx sz1 p0)).2.1)).2.2.1 / (pSide tx sz1 gg (nxt tx sz1 (pSide tx sz1 gg (nxt tx sz1 p0)).2.1)).2.2.2 := by rw [← OG1, ← OG2]; omega
          refine lv_aload_n hx hb dX12_anEdge_103 rfl (lv_at hl 1 rfl) ?_
          refine r_get (v := .ref (b 1)) hx hb (ly_X12 hE) hown hK hP rfl 0 (by decide) (wd_1381 hE) (fun _ h9 => h9) rfl dX12_anEdge_104 ?_
          refine lv_iconst (v := 1) hx hb dX12_anEdge_107 (by decide) ?_
          refine lv_dup2_11 hx hb dX12_anEdge_108 rfl rfl ?_
          refine r_iald (j := 1) (k := 1) (n := 7202) (x := nI (eN w37)) hx hb hK hP (by decide) rfl (by decide) (by decide) (by rw [hA37]; exact gg_e hG) dX12_anEdge_109 ?_
          refine lv_iconst (v := 1) hx hb dX12_anEdge_110 (by decide) ?_
          refine lv_iadd hx hb dX12_anEdge_111 ?_
          refine W.eq (g2 := F0 m 112 ls [.int (nI ((eN w37) + 1)), .int 1, .ref (b 1)]) (congrArg (fun z : Int32 => F0 m 112 ls (.int z :: [.int 1, .ref (b 1)])) (nI_add (eN w37) 1)) ?_
          refine r_iast (j := 1) (k := 1) (n := 7202) (x := nI ((eN w37) + 1)) hx hb hK hP hJ hAL hS (by decide) (fun _ => rfl) hA37 (by decide) (by decide) dX12_anEdge_112 (fun u54 H locs hs54 hq54 hP hS => ?_)
          obtain ⟨w54, hw54⟩ : ∃ g, g = upd w37 1 (nI ((eN w37) + 1)) := ⟨_, rfl⟩
          rw [← hw54] at hs54
          have hA55 := (hq54.1 16 (by decide)).trans hA38
          have hF56x := (hq54.2.1 11 List.not_mem_nil).trans hF39x
          have hF57x := (hq54.2.1 20 List.not_mem_nil).trans hF40x
          have hF58x := (hq54.2.1 15 List.not_mem_nil).trans te15_42
          have hF59x := (hq54.2.1 13 List.not_mem_nil).trans te13_42
          have hF60x := (hq54.2.1 14 List.not_mem_nil).trans te14_42
          have hF61x := (hq54.2.1 12 List.not_mem_nil).trans te12_42
          have hF62x := (hq54.2.1 16 List.not_mem_nil).trans hb36.2.2.2.2.2.2.2.2.2.1
          have hF63x := (hq54.2.1 17 List.not_mem_nil).trans hb36.2.2.2.2.2.2.2.2.2.2.1
          have hF64x := (hq54.2.1 18 List.not_mem_nil).trans hb36.2.2.2.2.2.2.2.2.2.2.2
          have hfr := FR.step hfr hq54 (by decide) (fun _ h => absurd h List.not_mem_nil) (fun h => rfl)
          have e2e : eN w37 = eN a := by omega
          have bgx := bg_edge (a' := w54) (v1 := (pSide tx sz1 gg (nxt tx sz1 p0)).2.2.1) (x1 := (pSide tx sz1 gg (nxt tx sz1 p0)).2.2.2) (v2 := (pSide tx sz1 gg (nxt tx sz1 (pSide tx sz1 gg (nxt tx sz1 p0)).2.1)).2.2.1) (x2 := (pSide tx sz1 gg (nxt tx sz1 (pSide tx sz1 gg (nxt tx sz1 p0)).2.1)).2.2.2) (c := pO gg (pSide tx sz1 gg (nxt tx sz1 p0)).2.2.1 / (pSide tx sz1 gg (nxt tx sz1 p0)).2.2.2) B2 (by omega) (by first | exact hw54 | (rw [e2e]; exact hw54)) (by rw [e2e]; first | done | exact E1) (by rw [e2e]; first | done | exact E2) (by rw [e2e]; first | done | exact D1) (by rw [e2e]; first | done | exact D3) (by omega) (by omega) (by omega) (by omega) F1 (by rw [QE]; exact F2)
          have bgo : ∀ k, 554 ≤ k → w54 k = a k := fun k hk => by rw [hw54, pk_un (by omega)]; exact bgo2 k hk
          have gax := ga_edge (a' := w54) (x0 := (pSide tx sz1 gg (nxt tx sz1 p0)).2.2.1) (x1 := (pSide tx sz1 gg (nxt tx sz1 p0)).2.2.2) (x2 := (pSide tx sz1 gg (nxt tx sz1 (pSide tx sz1 gg (nxt tx sz1 p0)).2.1)).2.2.1) (x3 := (pSide tx sz1 gg (nxt tx sz1 (pSide tx sz1 gg (nxt tx sz1 p0)).2.1)).2.2.2) GA2 (by omega) (by first | exact hw54 | (rw [e2e]; exact hw54)) (by rw [e2e]; first | done | exact E1) (by rw [e2e]; first | done | exact E2) (by rw [e2e]; first | done | exact D1) (by rw [e2e]; first | done | exact D3) (by omega) (by omega) (by omega) (by omega)
          refine lv_aload_n hx hb dX12_anEdge_113 rfl (lv_at hl 1 rfl) ?_
          refine rc_i hAL hS hA (va_runV (As := []) (rest := []) ⟨hx, hb, hml, hown, noTs⟩ (x_X12_takesOn l dC dI H.size cs b u54 tx hA55 sz1 (tnd tx sz1 ((pSide tx sz1 gg (nxt tx sz1 ((pSide tx sz1 gg (nxt tx sz1 p0)).2.1))).2.1)) tv42 hF56x hF60x hF58x (by first | assumption | omega | rfl | (congr 1; omega)) (by first | assumption | omega | rfl | (congr 1; omega)) (by first | assumption | omega | rfl | (congr 1; omega))) ⟨cbE 0 (wd_1548 hE) (wd_126 hE) (wd_1545 hE) rfl rfl (by decide +kernel) ⟨Nat.le_of_ble_eq_true rfl, Nat.le_of_ble_eq_true rfl⟩, (wd_1547 hE), (wd_64 hE)⟩ ⟨PR.blind, r_recv hK hP rfl, (r_pre (av := [.ref (b 0)]) hK hP hJ hE)⟩ rfl rfl hl.1 rfl (lv_room (Nat.le_of_ble_eq_true rfl)) dX12_anEdge_114 ⟨Nat.le_of_ble_eq_true rfl, Nat.le_of_ble_eq_true rfl⟩) (fun r65 u65 H locs hpo65 hP hS => ?_)
          obtain ⟨hr65, h65_0, hq65⟩ := hpo65
          have hA66 := (hq65.1 16 List.not_mem_nil).trans hA55
          have hA67 := (hq65.1 1 List.not_mem_nil).trans hs54
          have hF68x := (hq65.2.1 11 (by decide)).trans hF56x
          have hF69x := (hq65.2.1 20 (by decide)).trans hF57x
          have hF70x := (hq65.2.1 16 (by decide)).trans hF62x
          have hF71x := (hq65.2.1 17 (by decide)).trans hF63x
          have hF72x := (hq65.2.1 18 (by decide)).trans hF64x
          have hfr := FR.step hfr hq65 (fun _ h => absurd h List.not_mem_nil) (by decide) (fun h => rfl)
          clear tkf42 tnb42
          have hte73 : TE u65 tx sz1 (nxt tx sz1 ((pSide tx sz1 gg (nxt tx sz1 ((pSide tx sz1 gg (nxt tx sz1 p0)).2.1))).2.1)) := h65_0
          obtain ⟨te13_73, te14_73, te12_73, tep73, tv73, tvl73, te15_73, tvv73⟩ := hte73
          have tkf73 := kd_f tx sz1 (nxt tx sz1 ((pSide tx sz1 gg (nxt tx sz1 ((pSide tx sz1 gg (nxt tx sz1 p0)).2.1))).2.1))
          have tna73 := tnd_le (tx := tx) tep73
          have tnb73 := fun h : (nxt tx sz1 ((pSide tx sz1 gg (nxt tx sz1 ((pSide tx sz1 gg (nxt tx sz1 p0)).2.1))).2.1)) < sz1 => tnd_gt (tx := tx) h
          subst hr65
          exact W.zret (v := 1) hx hb hr rfl (fun t ht hW => ⟨⟨1, u65, rfl, ⟨Or.inl ⟨rfl, by rw [pe_ok (by omega) Z1 Z2 QE]; dsimp only; exact ⟨rfl, ⟨te13_73, te14_73, te12_73, by omega, _, by omega, te15_73, tvv73⟩, (by rw [hA67]; exact gax), hF70x, hF71x, hF72x⟩⟩, (by first | (rw [hA67]; done) | (rw [hA67]; first | assumption | exact bgx)), (by first | (rw [hA67]; done) | (rw [hA67]; first | (intro k _; rfl) | exact bgo | exact bgo2 | exact bgo1)), (by first | (rw [te15_73]; done) | (rw [te15_73]; refine ⟨_, ?_, rfl⟩; omega)), hfr⟩, (show va_P (dC, dI) vwCl (rW cs b u65) t.heap by rw [ht]; exact hP)⟩, hS.F ht⟩) hS.2.2 dX12_anEdge_117
        · have c52 := mt (b_eq (nI_toInt (n := (od w37 ((pSide tx sz1 gg (nxt tx sz1 p0)).2.2.1)) / ((pSide tx sz1 gg (nxt tx sz1 p0)).2.2.2)) (by omega)) (nI_toInt (n := (od w37 ((pSide tx sz1 gg (nxt tx sz1 (pSide tx sz1 gg (nxt tx sz1 p0)).2.1)).2.2.1)) / ((pSide tx sz1 gg (nxt tx sz1 (pSide tx sz1 gg (nxt tx sz1 p0)).2.1)).2.2.2)) (by omega))).mpr c52
          have QN : pO gg (pSide tx sz1 gg (nxt tx sz1 p0)).2.2.1 / (pSide tx sz1 gg (nxt tx sz1 p0)).2.2.2 ≠ pO gg (pSide tx sz1 gg (nxt tx sz1 (pSide tx sz1 gg (nxt tx sz1 p0)).2.1)).2.2.1 / (pSide tx sz1 gg (nxt tx sz1 (pSide tx sz1 gg (nxt tx sz1 p0)).2.1)).2.2.2 := by rw [← OG1, ← OG2]; omega
          refine lv_aload_n hx hb dX12_anEdge_97 rfl (lv_at hl 1 rfl) ?_
          refine lv_iconst (v := 4) hx hb dX12_anEdge_98 (by decide) ?_
          refine rc_i hAL hS hA (va_runV (As := [.int (nI 4)]) (rest := []) ⟨hx, hb, hml, hown, noTs⟩ (x_X12_fails l dC dI H.size cs b u36 4 (tkr (kd tx sz1 ((pSide tx sz1 gg (nxt tx sz1 ((pSide tx sz1 gg (nxt tx sz1 p0)).2.1))).2.1))) ((pSide tx sz1 gg (nxt tx sz1 ((pSide tx sz1 gg (nxt tx sz1 p0)).2.1))).2.1) ln hb36.2.2.2.2.2.2.2.2.2.1 te12_42 te13_42 hF40x (by first | assumption | omega | rfl | (congr 1; omega))) ⟨cbE 1 (wd_1540 hE) (wd_126 hE) (wd_1537 hE) rfl rfl (by decide +kernel) ⟨Nat.le_of_ble_eq_true rfl, Nat.le_of_ble_eq_true rfl⟩, (wd_1539 hE), (wd_62 hE)⟩ ⟨PR.blind, r_recv hK hP rfl, (r_pre (av := [.ref (b 0), .int (nI 4)]) hK hP hJ hE)⟩ rfl rfl hl.1 rfl (lv_room (Nat.le_of_ble_eq_true rfl)) dX12_anEdge_99 ⟨Nat.le_of_ble_eq_true rfl, Nat.le_of_ble_eq_true rfl⟩) (fun r74 u74 H locs hpo74 hP hS => ?_)
          obtain ⟨hr74, h74_0, h74_1, h74_2, hq74⟩ := hpo74
          have hA75 := (hq74.1 16 List.not_mem_nil).trans hA38
          have hA76 := (hq74.1 1 List.not_mem_nil).trans hA37
          have hF77x := (hq74.2.1 11 (by decide)).trans hF39x
          have hF78x := (hq74.2.1 20 (by decide)).trans hF40x
          have hF79x := (hq74.2.1 15 (by decide)).trans te15_42
          have hF80x := (hq74.2.1 13 (by decide)).trans te13_42
          have hF81x := (hq74.2.1 14 (by decide)).trans te14_42
          have hF82x := (hq74.2.1 12 (by decide)).trans te12_42
          have hfr := FR.step hfr hq74 (fun _ h => absurd h List.not_mem_nil) (by decide) (fun h => rfl)
          subst hr74
          exact W.zret (v := 0) hx hb hr rfl (fun t ht hW => ⟨⟨0, u74, rfl, ⟨Or.inr ⟨rfl, by rw [pe_q (by omega) Z1 Z2 QN]; dsimp only; exact ⟨by decide, ⟨by rw [h74_0, if_neg (by omega)], h74_1, h74_2⟩⟩⟩, (by first | (rw [hA76]; done) | (rw [hA76]; first | assumption | exact bgx)), (by first | (rw [hA76]; done) | (rw [hA76]; first | (intro k _; rfl) | exact bgo | exact bgo2 | exact bgo1)), (by first | (rw [hF79x]; done) | (rw [hF79x]; refine ⟨_, ?_, rfl⟩; omega)), hfr⟩, (show va_P (dC, dI) vwCl (rW cs b u74) t.heap by rw [ht]; exact hP)⟩, hS.F ht⟩) hS.2.2 dX12_anEdge_102
      · have NA2 := id hb36
        refine lv_if_ne (tgt := 58) hx hb dX12_anEdge_53 (by decide) (fun c83 => absurd c83 (by decide)) (fun c83 => ?_)
        refine lv_iconst (v := 0) hx hb dX12_anEdge_56 (by decide) ?_
        exact W.zret (v := 0) hx hb hr rfl (fun t ht hW => ⟨⟨0, u36, rfl, ⟨Or.inr ⟨rfl, by rw [pe_b (by omega) Z1 NA2.1]; dsimp only; exact NA2⟩, (by first | (rw [hA37]; done) | (rw [hA37]; first | assumption | exact bgx)), (by first | (rw [hA37]; done) | (rw [hA37]; first | (intro k _; rfl) | exact bgo | exact bgo2 | exact bgo1)), (by first | (rw [hfe36_5]; done) | (rw [hfe36_5]; refine ⟨_, ?_, rfl⟩; omega)), hfr⟩, (show va_P (dC, dI) vwCl (rW cs b u36) t.heap by rw [ht]; exact hP)⟩, hS.F ht⟩) hS.2.2 dX12_anEdge_57
    · have NA1 := id hb19
      refine lv_if_ne (tgt := 42) hx hb dX12_anEdge_37 (by decide) (fun c84 => absurd c84 (by decide)) (fun c84 => ?_)
      refine lv_iconst (v := 0) hx hb dX12_anEdge_40 (by decide) ?_
      exact W.zret (v := 0) hx hb hr rfl (fun t ht hW => ⟨⟨0, u19, rfl, ⟨Or.inr ⟨rfl, by rw [pe_a (by omega) NA1.1]; dsimp only; exact NA1⟩, (by first | (rw [hA20]; done) | (rw [hA20]; first | assumption | exact bgx)), (by first | (rw [hA20]; done) | (rw [hA20]; first | (intro k _; rfl) | exact bgo | exact bgo2 | exact bgo1)), (by first | (rw [hfe19_5]; done) | (rw [hfe19_5]; refine ⟨_, ?_, rfl⟩; omega)), hfr⟩, (show va_P (dC, dI) vwCl (rW cs b u19) t.heap by rw [ht]; exact hP)⟩, hS.F ht⟩) hS.2.2 dX12_anEdge_41
  · have c8 := (b_eq (nI_toInt (n := eN a) (by omega)) (show Int32.toInt 6 = 6 from rfl)).mp c8
    refine lv_aload_n hx hb dX12_anEdge_10 rfl (lv_at hl 0 rfl) ?_
    refine lv_bipush (v := 6) hx hb dX12_anEdge_11 (by decide) ?_
    refine rc_i hAL hS hA (va_runV (As := [.int (nI 6)]) (rest := []) ⟨hx, hb, hml, hown, noTs⟩ (x_X12_fails l dC dI s.heap.size cs b u 6 (tkr (kd tx sz1 p0)) p0 ln hF16 te12_3 te13_3 hF20 (by first | assumption | omega | rfl | (congr 1; omega))) ⟨cbE 1 (wd_1540 hE) (wd_126 hE) (wd_1537 hE) rfl rfl (by decide +kernel) ⟨Nat.le_of_ble_eq_true rfl, Nat.le_of_ble_eq_true rfl⟩, (wd_1539 hE), (wd_62 hE)⟩ ⟨PR.blind, r_recv hK hP rfl, (r_pre (av := [.ref (b 0), .int (nI 6)]) hK hP hJ hE)⟩ rfl rfl hl.1 rfl (lv_room (Nat.le_of_ble_eq_true rfl)) dX12_anEdge_13 ⟨Nat.le_of_ble_eq_true rfl, Nat.le_of_ble_eq_true rfl⟩) (fun r85 u85 H locs hpo85 hP hS => ?_)
    obtain ⟨hr85, h85_0, h85_1, h85_2, hq85⟩ := hpo85
    have hA86 := (hq85.1 1 List.not_mem_nil).trans hA1
    have hA87 := (hq85.1 16 List.not_mem_nil).trans hAc16
    have hF88x := (hq85.2.1 11 (by decide)).trans hF11
    have hF89x := (hq85.2.1 20 (by decide)).trans hF20
    have hF90x := (hq85.2.1 13 (by decide)).trans te13_3
    have hF91x := (hq85.2.1 14 (by decide)).trans te14_3
    have hF92x := (hq85.2.1 12 (by decide)).trans te12_3
    have hF93x := (hq85.2.1 15 (by decide)).trans te15_3
    have hfr := FR.step hfr hq85 (fun _ h => absurd h List.not_mem_nil) (by decide) (fun h => rfl)
    subst hr85
    exact W.zret (v := 0) hx hb hr rfl (fun t ht hW => ⟨⟨0, u85, rfl, ⟨Or.inr ⟨rfl, by rw [pe_6 (by omega)]; dsimp only; exact ⟨by decide, ⟨by rw [h85_0, if_neg (by omega)], h85_1, h85_2⟩⟩⟩, (by first | (rw [hA86]; done) | (rw [hA86]; first | assumption | exact bgx)), (by first | (rw [hA86]; done) | (rw [hA86]; first | (intro k _; rfl) | exact bgo | exact bgo2 | exact bgo1)), (by first | (rw [hF93x]; done) | (rw [hF93x]; refine ⟨_, ?_, rfl⟩; omega)), hfr⟩, (show va_P (dC, dI) vwCl (rW cs b u85) t.heap by rw [ht]; exact hP)⟩, hS.F ht⟩) hS.2.2 dX12_anEdge_16

set_option maxHeartbeats 4000000 in
set_option maxRecDepth 100000 in
theorem x_X12_aStep (l : Launch) (dC : Nat → ClassId) (dI : Nat → Nat → Nat) (sz : Nat) (cs : Nat → ClassId) (b : Nat → Nat) (u : RS) (a : Nat → Int32) (hA1 : rA u 1 = a) (tx : Nat → Int32) (hAc16 : rA u 16 = tx) (jw : Nat) (hjwr : 3 ≤ jw ∧ jw ≤ 14) (w : Nat → Int32) (hAjw : rA u jw = w) (sz1 : Nat) (p0 : Nat) (ln : Nat) (x17 : Int32) (x18 : Int32) (gg : PGr) (hF11 : rF u 11 = nI sz1) (hF16 : rF u 16 = 0) (hF17 : rF u 17 = x17) (hF18 : rF u 18 = x18) (hF20 : rF u 20 = nI ln) (hp0 : BG a) (hp1 : TE u tx sz1 p0) (hp2 : sz1 ≤ 700) (hp3 : GA a gg) (hp4 : PG a w) (hp5 : LG a w) (hp6 : rn w ≤ 24) (hp7 : kd tx sz1 p0 = 7 ∨ kd tx sz1 p0 = 8) : Met l yX12_aStep [.code yX12_aStep cX12_aStep 4 (some .boolean)] ({ frames := 5, cells := 0, slots := 0, locals := 200 }) (PR [.ref (b 0), .ref (b jw)] sz dC dI cs b u) (va_Qi (fun (r : Int32) (u' : RS) => ((r = 1 ∧ (rn (rA u' jw) = rn w + 1 ∧ TE u' tx sz1 (pNum tx sz1 (nxt tx sz1 (nxt tx sz1 p0))) ∧ (∀ f, pSteps tx sz1 gg (f + 1) (vend a w) (rn w) p0 = pSteps tx sz1 gg f (vend a (rA u' jw)) (rn w + 1) (pNum tx sz1 (nxt tx sz1 (nxt tx sz1 p0)))) ∧ rF u' 16 = 0 ∧ rF u' 17 = x17 ∧ rF u' 18 = x18)) ∨ (r = 0 ∧ (∃ k q : Nat, k ≠ 0 ∧ FL u' k q ln ∧ ∀ f, pSteps tx sz1 gg (f + 1) (vend a w) (rn w) p0 = (k, q)))) ∧ (PG a (rA u' jw)) ∧ (LG a (rA u' jw)) ∧ (rn (rA u' jw) ≤ 24) ∧ (∃ k : Nat, k ≤ 9999 ∧ rF u' 15 = nI k) ∧ FR [jw] [12, 13, 14, 15, 16, 17, 18] false u u') (BR dC dI cs b) (AR b sz)) 0 0 (AR b sz) := by
  refine Met.ofW (cc := cX12_aStep) (maxL := 4) (ret := (some .boolean)) (by decide) rfl ?_
  intro p e s m args below meth c s₁ B hml hv
  obtain ⟨rfl, hsz, hP, hK, hJ, hE⟩ := hv
  have hx := B.exec
  have hb := B.bytes
  have hr := B.returns
  have hown : s.vm.findClass RX12 = some m.cls := findClass_of_methodNamed B.named
  have hlocks := B.notSynchronized
  subst hsz
  have hAL : ∀ i, i < 108 → AR b s.heap.size (b i) := fun i h => Or.inl ⟨i, h, rfl⟩
  have hA : ∀ q : Nat, s.heap.size ≤ q → AR b s.heap.size q := fun q h => Or.inr h
  have hS : va_S (AR b s.heap.size) s.heap s.heap [] := va_S.rf
  have hfr : FR [jw] [12, 13, 14, 15, 16, 17, 18] false u u := FR.refl
  have hl := lv_entry ([.ref (b 0), .ref (b jw)]) (n := 4) (Nat.le_of_ble_eq_true rfl)
  rw [lg_entry_eq]
  generalize (lg_sl ([.ref (b 0), .ref (b jw)]) ++ List.replicate (4 - (lg_sl ([.ref (b 0), .ref (b jw)])).length) Slot.unset).toArray = ls at hl ⊢
  have hl : lv_has ls 4 [(0, .ref (b 0)), (1, .ref (b jw))] := hl
  have hB := hp0
  have hG := bg_g hp0
  have ha1 := gg_le hG
  have ha1b := bg_w hp0
  have hte3 : TE u tx sz1 p0 := hp1
  obtain ⟨te13_3, te14_3, te12_3, tep3, tv3, tvl3, te15_3, tvv3⟩ := hte3
  have tkf3 := kd_f tx sz1 p0
  have tna3 := tnd_le (tx := tx) tep3
  have tnb3 := fun h : p0 < sz1 => tnd_gt (tx := tx) h
  have ha6 := pg_le hp4
  have ga1 := hp3.1
  have ga2 := hp3.2.1
  have ga3 := hp3.2.2.1
  refine lv_aload_n hx hb dX12_aStep_0 rfl (lv_at hl 1 rfl) ?_
  refine lv_iconst (v := 1) hx hb dX12_aStep_1 (by decide) ?_
  refine r_iald (j := jw) (k := 1) (n := 200) (x := nI (rn w)) hx hb hK hP (by omega) (rE_row (by omega)) (by decide) (by decide) (by rw [hAjw]; exact pg_n hp4) dX12_aStep_2 ?_
  refine lv_bipush (v := 24) hx hb dX12_aStep_3 (by decide) ?_
  refine lv_icmp_ne (tgt := 15) hx hb dX12_aStep_5 (by decide) (fun c11 => ?_) (fun c11 => ?_)
  · have c11 := mt (b_eq (nI_toInt (n := rn w) (by omega)) (show Int32.toInt 24 = 24 from rfl)).mpr c11
    refine lv_aload_n hx hb dX12_aStep_15 rfl (lv_at hl 0 rfl) ?_
    refine lv_aload_n hx hb dX12_aStep_16 rfl (lv_at hl 0 rfl) ?_
    refine r_get (v := .int (nI p0)) hx hb (ly_X12 hE) hown hK hP rfl 13 (by decide) (wd_1394 hE) (fun _ h9 => h9) (congrArg (fun z : Int32 => some (Value.int z)) te13_3) dX12_aStep_17 ?_
    refine vp_callSi (va_Run.run (va_runV (As := [.int (nI p0)]) (rest := []) ⟨hx, hb, hml, hown, noTs⟩ (r_X12_byteAt l dC dI s.heap.size cs b u tx hAc16 p0 sz1 hF11 (by first | assumption | omega | rfl | (congr 1; omega)) (by first | assumption | omega | rfl | (congr 1; omega))) ⟨cbE 1 (wd_1510 hE) (wd_126 hE) (wd_1507 hE) rfl rfl (by decide +kernel) ⟨Nat.le_of_ble_eq_true rfl, Nat.le_of_ble_eq_true rfl⟩, (wd_1509 hE), (wd_57 hE)⟩ ⟨PR.blind, r_recv hK hP rfl, (r_pre (av := [.ref (b 0), .int (nI p0)]) hK hP hJ hE)⟩ rfl rfl hl.1 rfl (lv_room (Nat.le_of_ble_eq_true rfl)) dX12_aStep_20 ⟨Nat.le_of_ble_eq_true rfl, Nat.le_of_ble_eq_true rfl⟩)) (fun r12 hr12 => ?_)
    subst hr12
    have htf12 := bA_f tx sz1 p0
    refine lv_bipush (v := 60) hx hb dX12_aStep_23 (by decide) ?_
    refine lv_icmp_ne (tgt := 32) hx hb dX12_aStep_25 (by decide) (fun c13 => ?_) (fun c13 => ?_)
    · have c13 := mt (b_eq (rfl : Int32.toInt (bA tx sz1 p0) = _) (show Int32.toInt 60 = 60 from rfl)).mpr c13
      have SG := sgn_0 (mt (kd_byte (show tkr (kd tx sz1 p0) = 4 by omega)).2.1.mp (by omega))
      refine lv_iconst (v := 0) hx hb dX12_aStep_32 (by decide) ?_
      refine lv_istore_n (lv' := [(2, .int 0), (0, .ref (b 0)), (1, .ref (b jw))]) hx hb dX12_aStep_33 rfl hl (by decide) rfl (fun ls hl => ?_)
      refine lv_aload_n hx hb dX12_aStep_34 rfl (lv_at hl 1 rfl) ?_
      refine rc_v hAL hS hA (va_runV (As := []) (rest := []) ⟨hx, hb, hml, hown, noTs⟩ (x_X12_ahead l dC dI s.heap.size cs b u tx hAc16 sz1 (tnd tx sz1 p0) tv3 hF11 te14_3 te15_3 (by first | assumption | omega | rfl | (congr 1; omega)) (by first | assumption | omega | rfl | (congr 1; omega)) (by first | assumption | omega | rfl | (congr 1; omega))) ⟨cbE 0 (wd_1506 hE) (wd_126 hE) (wd_1503 hE) rfl rfl (by decide +kernel) ⟨Nat.le_of_ble_eq_true rfl, Nat.le_of_ble_eq_true rfl⟩, (wd_1505 hE), (wd_56 hE)⟩ ⟨PR.blind, r_recv hK hP rfl, (r_pre (av := [.ref (b 0)]) hK hP hJ hE)⟩ rfl rfl hl.1 rfl (lv_room (Nat.le_of_ble_eq_true rfl)) dX12_aStep_35 ⟨Nat.le_of_ble_eq_true rfl, Nat.le_of_ble_eq_true rfl⟩) (fun u14 H locs hpo14 hP hS => ?_)
      obtain ⟨h14_0, hq14⟩ := hpo14
      have hA15 := (hq14.1 1 List.not_mem_nil).trans hA1
      have hA16 := (hq14.1 16 List.not_mem_nil).trans hAc16
      have hA17 := (hq14.1 jw List.not_mem_nil).trans hAjw
      have hF18x := (hq14.2.1 11 (by decide)).trans hF11
      have hF19x := (hq14.2.1 16 (by decide)).trans hF16
      have hF20x := (hq14.2.1 17 (by decide)).trans hF17
      have hF21x := (hq14.2.1 18 (by decide)).trans hF18
      have hF22x := (hq14.2.1 20 (by decide)).trans hF20
      have hfr := FR.step hfr hq14 (fun _ h => absurd h List.not_mem_nil) (by decide) (fun h => rfl)
      clear tkf3 tnb3
      have hte23 : TE u14 tx sz1 (nxt tx sz1 p0) := h14_0
      obtain ⟨te13_23, te14_23, te12_23, tep23, tv23, tvl23, te15_23, tvv23⟩ := hte23
      have tkf23 := kd_f tx sz1 (nxt tx sz1 p0)
      have tna23 := tnd_le (tx := tx) tep23
      have tnb23 := fun h : (nxt tx sz1 p0) < sz1 => tnd_gt (tx := tx) h
      refine lv_aload_n hx hb dX12_aStep_38 rfl (lv_at hl 1 rfl) ?_
      refine rc_i hAL hS hA (va_runV (As := []) (rest := []) ⟨hx, hb, hml, hown, noTs⟩ (x_X12_isNumber l dC dI H.size cs b u14 tx hA16 sz1 (nxt tx sz1 p0) ln x17 x18 hF18x hF19x hF20x hF21x hF22x ⟨te13_23, te14_23, te12_23, by omega, _, by omega, te15_23, tvv23⟩ (by first | assumption | omega | rfl | (congr 1; omega))) ⟨cbE 0 (wd_1544 hE) (wd_126 hE) (wd_1541 hE) rfl rfl (by decide +kernel) ⟨Nat.le_of_ble_eq_true rfl, Nat.le_of_ble_eq_true rfl⟩, (wd_1543 hE), (wd_63 hE)⟩ ⟨PR.blind, r_recv hK hP rfl, (r_pre (av := [.ref (b 0)]) hK hP hJ hE)⟩ rfl rfl hl.1 rfl (lv_room (Nat.le_of_ble_eq_true rfl)) dX12_aStep_39 ⟨Nat.le_of_ble_eq_true rfl, Nat.le_of_ble_eq_true rfl⟩) (fun r24 u24 H locs hpo24 hP hS => ?_)
      obtain ⟨hr24, hq24⟩ := hpo24
      have hA25 := (hq24.1 1 List.not_mem_nil).trans hA15
      have hA26 := (hq24.1 16 List.not_mem_nil).trans hA16
      have hA27 := (hq24.1 jw List.not_mem_nil).trans hA17
      have hF28x := (hq24.2.1 11 (by decide)).trans hF18x
      have hF29x := (hq24.2.1 20 (by decide)).trans hF22x
      have hF30x := (hq24.2.1 13 (by decide)).trans te13_23
      have hF31x := (hq24.2.1 14 (by decide)).trans te14_23
      have hF32x := (hq24.2.1 12 (by decide)).trans te12_23
      have hF33x := (hq24.2.1 15 (by decide)).trans te15_23
      have hfr := FR.step hfr hq24 (fun _ h => absurd h List.not_mem_nil) (by decide) (fun h => rfl)
      rcases hr24 with ⟨rfl, hb24⟩ | ⟨rfl, hb24⟩
      · have K6 := hb24.1
        have TV := tvv23 K6
        refine lv_if_ne (tgt := 47) hx hb dX12_aStep_42 (by decide) (fun c34 => ?_) (fun c34 => absurd c34 (by decide))
        refine lv_aload_n hx hb dX12_aStep_47 rfl (lv_at hl 1 rfl) ?_
        refine lv_aload_n hx hb dX12_aStep_48 rfl (lv_at hl 1 rfl) ?_
        refine r_get (v := .int (nI tv23)) hx hb (ly_X12 hE) hown hK hP rfl 15 (by decide) (wd_1396 hE) (fun _ h9 => h9) (congrArg (fun z : Int32 => some (Value.int z)) hF33x) dX12_aStep_49 ?_
        refine vp_callSi (va_Run.run (va_runV (As := [.int (nI tv23)]) (rest := []) ⟨hx, hb, hml, hown, noTs⟩ (x_X12_isEdge l dC dI H.size cs b u24 a hA25 (nI tv23) (by first | assumption | omega | rfl | (congr 1; omega))) ⟨cbE 1 (wd_1587 hE) (wd_126 hE) (wd_1584 hE) rfl rfl (by decide +kernel) ⟨Nat.le_of_ble_eq_true rfl, Nat.le_of_ble_eq_true rfl⟩, (wd_1586 hE), (wd_73 hE)⟩ ⟨PR.blind, r_recv hK hP rfl, (r_pre (av := [.ref (b 0), .int (nI tv23)]) hK hP hJ hE)⟩ rfl rfl hl.1 rfl (lv_room (Nat.le_of_ble_eq_true rfl)) dX12_aStep_52 ⟨Nat.le_of_ble_eq_true rfl, Nat.le_of_ble_eq_true rfl⟩)) (fun r35 hr35 => ?_)
        rcases hr35 with ⟨rfl, hb35⟩ | ⟨rfl, hb35⟩
        · obtain ⟨n35, hbe35_1, hb35⟩ := hb35
          have hbe35_1 := (nI_eq (by omega) (by omega)).mp hbe35_1
          subst hbe35_1
          have hvx := nI_toInt (n := tv23) (by omega)
          refine lv_if_ne (tgt := 64) hx hb dX12_aStep_55 (by decide) (fun c36 => ?_) (fun c36 => absurd c36 (by decide))
          refine lv_iconst (v := 2) hx hb dX12_aStep_64 (by decide) ?_
          refine lv_aload_n hx hb dX12_aStep_65 rfl (lv_at hl 1 rfl) ?_
          refine r_get (v := .int (nI tv23)) hx hb (ly_X12 hE) hown hK hP rfl 15 (by decide) (wd_1396 hE) (fun _ h9 => h9) (congrArg (fun z : Int32 => some (Value.int z)) hF33x) dX12_aStep_66 ?_
          refine lv_imul hx hb dX12_aStep_69 ?_
          refine W.eq (g2 := F0 m 70 ls [.int (nI (2 * tv23))]) (congrArg (fun z : Int32 => F0 m 70 ls (.int z :: [])) (pk_mul 2 tv23)) ?_
          refine lv_iload_n hx hb dX12_aStep_70 rfl (lv_at hl 0 rfl) ?_
          refine lv_iadd hx hb dX12_aStep_71 ?_
          refine W.eq (g2 := F0 m 72 ls [.int (nI ((2 * tv23) + 0))]) (congrArg (fun z : Int32 => F0 m 72 ls (.int z :: [])) (nI_add (2 * tv23) 0)) ?_
          refine lv_istore_n (lv' := [(3, .int (nI ((2 * tv23) + 0))), (2, .int 0), (0, .ref (b 0)), (1, .ref (b jw))]) hx hb dX12_aStep_72 rfl hl (by decide) rfl (fun ls hl => ?_)
          refine lv_aload_n hx hb dX12_aStep_73 rfl (lv_at hl 2 rfl) ?_
          refine lv_iload_n hx hb dX12_aStep_74 rfl (lv_at hl 0 rfl) ?_
          refine vp_callSi (va_Run.run (va_runV (As := [.int (nI ((2 * tv23) + 0))]) (rest := []) ⟨hx, hb, hml, hown, noTs⟩ (r_X12_from l dC dI H.size cs b u24 a hA25 ((2 * tv23) + 0) (by first | assumption | omega | rfl | (congr 1; omega)) (by first | assumption | omega | rfl | (congr 1; omega))) ⟨cbE 1 (wd_1591 hE) (wd_126 hE) (wd_1588 hE) rfl rfl (by decide +kernel) ⟨Nat.le_of_ble_eq_true rfl, Nat.le_of_ble_eq_true rfl⟩, (wd_1590 hE), (wd_74 hE)⟩ ⟨PR.blind, r_recv hK hP rfl, (r_pre (av := [.ref (b 0), .int (nI ((2 * tv23) + 0))]) hK hP hJ hE)⟩ rfl rfl hl.1 rfl (lv_room (Nat.le_of_ble_eq_true rfl)) dX12_aStep_75 ⟨Nat.le_of_ble_eq_true rfl, Nat.le_of_ble_eq_true rfl⟩)) (fun r37 hr37 => ?_)
          have hau37 := gg_src (a := a) (s := ((2 * tv23) + 0)) (by assumption) (by first | assumption | omega)
          subst hr37
          refine lv_aload_n hx hb dX12_aStep_78 rfl (lv_at hl 2 rfl) ?_
          refine lv_aload_n hx hb dX12_aStep_79 rfl (lv_at hl 3 rfl) ?_
          refine vp_callSi (va_Run.run (va_runV (As := [.ref (b jw)]) (rest := [.int (nI (src a ((2 * tv23) + 0)))]) ⟨hx, hb, hml, hown, noTs⟩ (r_X12_end l dC dI H.size cs b u24 a hA25 jw (by omega) w hA27 (by first | assumption | omega | rfl | (congr 1; omega)) (by first | assumption | omega | rfl | (congr 1; omega))) ⟨cbE 1 (wd_1599 hE) (wd_126 hE) (wd_1596 hE) rfl rfl (by decide +kernel) ⟨Nat.le_of_ble_eq_true rfl, Nat.le_of_ble_eq_true rfl⟩, (wd_1598 hE), (wd_76 hE)⟩ ⟨PR.blind, r_recv hK hP rfl, (r_pre (av := [.ref (b 0), .ref (b jw)]) hK hP hJ hE)⟩ rfl rfl hl.1 rfl (lv_room (Nat.le_of_ble_eq_true rfl)) dX12_aStep_80 ⟨Nat.le_of_ble_eq_true rfl, Nat.le_of_ble_eq_true rfl⟩)) (fun r38 hr38 => ?_)
          have hau38 := pg_end (a := a) (w := w) (by assumption) (by assumption)
          subst hr38
          refine lv_icmp_eq (tgt := 92) hx hb dX12_aStep_83 (by decide) (fun c39 => ?_) (fun c39 => ?_)
          · have c39 := (b_eq (nI_toInt (n := src a ((2 * tv23) + 0)) (by omega)) (nI_toInt (n := vend a w) (by omega))).mp c39
            have SQ : pSrc gg (2 * vl tx sz1 (nxt tx sz1 p0) + sgn tx sz1 p0) = src a ((2 * tv23) + 0) := by rw [SG, ← TV]; exact (ga_src hp3 (by omega)).symm
            refine lv_aload_n hx hb dX12_aStep_92 rfl (lv_at hl 2 rfl) ?_
            refine rc_v hAL hS hA (va_runV (As := []) (rest := []) ⟨hx, hb, hml, hown, noTs⟩ (x_X12_ahead l dC dI H.size cs b u24 tx hA26 sz1 (tnd tx sz1 (nxt tx sz1 p0)) tv23 hF28x hF31x hF33x (by first | assumption | omega | rfl | (congr 1; omega)) (by first | assumption | omega | rfl | (congr 1; omega)) (by first | assumption | omega | rfl | (congr 1; omega))) ⟨cbE 0 (wd_1506 hE) (wd_126 hE) (wd_1503 hE) rfl rfl (by decide +kernel) ⟨Nat.le_of_ble_eq_true rfl, Nat.le_of_ble_eq_true rfl⟩, (wd_1505 hE), (wd_56 hE)⟩ ⟨PR.blind, r_recv hK hP rfl, (r_pre (av := [.ref (b 0)]) hK hP hJ hE)⟩ rfl rfl hl.1 rfl (lv_room (Nat.le_of_ble_eq_true rfl)) dX12_aStep_93 ⟨Nat.le_of_ble_eq_true rfl, Nat.le_of_ble_eq_true rfl⟩) (fun u40 H locs hpo40 hP hS => ?_)
            obtain ⟨h40_0, hq40⟩ := hpo40
            have hA41 := (hq40.1 1 List.not_mem_nil).trans hA25
            have hA42 := (hq40.1 16 List.not_mem_nil).trans hA26
            have hA43 := (hq40.1 jw List.not_mem_nil).trans hA27
            have hF44x := (hq40.2.1 11 (by decide)).trans hF28x
            have hF45x := (hq40.2.1 20 (by decide)).trans hF29x
            have hF46x := (hq40.2.1 16 (by decide)).trans hb24.2.1
            have hF47x := (hq40.2.1 17 (by decide)).trans hb24.2.2.1
            have hF48x := (hq40.2.1 18 (by decide)).trans hb24.2.2.2
            have hfr := FR.step hfr hq40 (fun _ h => absurd h List.not_mem_nil) (by decide) (fun h => rfl)
            clear tkf23 tnb23
            have hte49 : TE u40 tx sz1 (nxt tx sz1 (nxt tx sz1 p0)) := h40_0
            obtain ⟨te13_49, te14_49, te12_49, tep49, tv49, tvl49, te15_49, tvv49⟩ := hte49
            have tkf49 := kd_f tx sz1 (nxt tx sz1 (nxt tx sz1 p0))
            have tna49 := tnd_le (tx := tx) tep49
            have tnb49 := fun h : (nxt tx sz1 (nxt tx sz1 p0)) < sz1 => tnd_gt (tx := tx) h
            refine lv_aload_n hx hb dX12_aStep_96 rfl (lv_at hl 3 rfl) ?_
            refine lv_iload_n hx hb dX12_aStep_97 rfl (lv_at hl 0 rfl) ?_
            refine lv_aload_n hx hb dX12_aStep_98 rfl (lv_at hl 2 rfl) ?_
            refine lv_aload_n hx hb dX12_aStep_99 rfl (lv_at hl 2 rfl) ?_
            refine lv_iload_n hx hb dX12_aStep_100 rfl (lv_at hl 0 rfl) ?_
            refine vp_callSi (va_Run.run (va_runV (As := [.int (nI ((2 * tv23) + 0))]) (rest := [.ref (b 0), .int (nI ((2 * tv23) + 0)), .ref (b jw)]) ⟨hx, hb, hml, hown, noTs⟩ (r_X12_to l dC dI H.size cs b u40 a hA41 ((2 * tv23) + 0) (by first | assumption | omega | rfl | (congr 1; omega)) (by first | assumption | omega | rfl | (congr 1; omega))) ⟨cbE 1 (wd_1606 hE) (wd_126 hE) (wd_1603 hE) rfl rfl (by decide +kernel) ⟨Nat.le_of_ble_eq_true rfl, Nat.le_of_ble_eq_true rfl⟩, (wd_1605 hE), (wd_77 hE)⟩ ⟨PR.blind, r_recv hK hP rfl, (r_pre (av := [.ref (b 0), .int (nI ((2 * tv23) + 0))]) hK hP hJ hE)⟩ rfl rfl hl.1 rfl (lv_room (Nat.le_of_ble_eq_true rfl)) dX12_aStep_101 ⟨Nat.le_of_ble_eq_true rfl, Nat.le_of_ble_eq_true rfl⟩)) (fun r50 hr50 => ?_)
            have hau50 := gg_dst (a := a) (s := ((2 * tv23) + 0)) (by assumption) (by first | assumption | omega)
            subst hr50
            refine rc_i hAL hS hA (va_runV (As := [.int (nI (dst a ((2 * tv23) + 0)))]) (rest := [.int (nI ((2 * tv23) + 0)), .ref (b jw)]) ⟨hx, hb, hml, hown, noTs⟩ (x_X12_someNumber l dC dI H.size cs b u40 a hA41 tx hA42 (dst a ((2 * tv23) + 0)) sz1 (nxt tx sz1 (nxt tx sz1 p0)) hF44x (by first | assumption | omega | rfl | (congr 1; omega)) ⟨te13_49, te14_49, te12_49, by omega, _, by omega, te15_49, tvv49⟩ (by first | assumption | omega | rfl | (congr 1; omega)) (by first | assumption | omega | rfl | (congr 1; omega))) ⟨cbE 1 (wd_1572 hE) (wd_126 hE) (wd_1569 hE) rfl rfl (by decide +kernel) ⟨Nat.le_of_ble_eq_true rfl, Nat.le_of_ble_eq_true rfl⟩, (wd_1571 hE), (wd_70 hE)⟩ ⟨PR.blind, r_recv hK hP rfl, (r_pre (av := [.ref (b 0), .int (nI (dst a ((2 * tv23) + 0)))]) hK hP hJ hE)⟩ rfl rfl hl.1 rfl (lv_room (Nat.le_of_ble_eq_true rfl)) dX12_aStep_104 ⟨Nat.le_of_ble_eq_true rfl, Nat.le_of_ble_eq_true rfl⟩) (fun r51 u51 H locs hpo51 hP hS => ?_)
            obtain ⟨hr51, h51_0, hq51⟩ := hpo51
            have hA52 := (hq51.1 1 List.not_mem_nil).trans hA41
            have hA53 := (hq51.1 16 List.not_mem_nil).trans hA42
            have hA54 := (hq51.1 jw List.not_mem_nil).trans hA43
            have hF55x := (hq51.2.1 11 (by decide)).trans hF44x
            have hF56x := (hq51.2.1 20 (by decide)).trans hF45x
            have hF57x := (hq51.2.1 16 (by decide)).trans hF46x
            have hF58x := (hq51.2.1 17 (by decide)).trans hF47x
            have hF59x := (hq51.2.1 18 (by decide)).trans hF48x
            have hfr := FR.step hfr hq51 (fun _ h => absurd h List.not_mem_nil) (by decide) (fun h => rfl)
            clear tkf49 tnb49
            have hte60 : TE u51 tx sz1 (pNum tx sz1 (nxt tx sz1 (nxt tx sz1 p0))) := h51_0
            obtain ⟨te13_60, te14_60, te12_60, tep60, tv60, tvl60, te15_60, tvv60⟩ := hte60
            have tkf60 := kd_f tx sz1 (pNum tx sz1 (nxt tx sz1 (nxt tx sz1 p0)))
            have tna60 := tnd_le (tx := tx) tep60
            have tnb60 := fun h : (pNum tx sz1 (nxt tx sz1 (nxt tx sz1 p0))) < sz1 => tnd_gt (tx := tx) h
            obtain ⟨n51, rfl, hn51_0⟩ := hr51
            refine rc_v hAL hS hA (va_runS (As := [.ref (b jw), .int (nI ((2 * tv23) + 0)), .int (nI n51)]) (rest := []) ⟨hx, hb, hml, hown, noTs⟩ (r_X12_goes l dC dI H.size cs b u51 a hA52 jw (by omega) w hA54 ((2 * tv23) + 0) (nI n51) (by first | assumption | omega | rfl | (congr 1; omega)) (by first | assumption | omega | rfl | (congr 1; omega)) (by first | assumption | omega | rfl | (congr 1; omega)) (by first | assumption | omega | rfl | (congr 1; omega)) (by first | assumption | omega | rfl | (congr 1; omega))) ⟨cbE 3 (wd_1609 hE) (wd_126 hE) (wd_1607 hE) rfl rfl (by decide +kernel) ⟨Nat.le_of_ble_eq_true rfl, Nat.le_of_ble_eq_true rfl⟩, (wd_1608 hE)⟩ ⟨PR.blind, (r_pre (av := [.ref (b jw), .int (nI ((2 * tv23) + 0)), .int (nI n51)]) hK hP hJ hE)⟩ rfl rfl hl.1 rfl (lv_room (Nat.le_of_ble_eq_true rfl)) dX12_aStep_107 ⟨Nat.le_of_ble_eq_true rfl, Nat.le_of_ble_eq_true rfl⟩) (fun u61 H locs hpo61 hP hS => ?_)
            obtain ⟨h61_0, h61_1, h61_2, h61_3, h61_4, h61_5, h61_6, h61_7, hq61⟩ := hpo61
            obtain ⟨w62, hA62⟩ : ∃ g, rA u61 jw = g := ⟨_, rfl⟩
            rw [hA62] at h61_0 h61_1 h61_2 h61_3 h61_4 h61_5 h61_6 h61_7
            have hA63 := (hq61.1 1 (by simp only [List.mem_cons, List.not_mem_nil, or_false, not_or]; omega)).trans hA52
            have hA64 := (hq61.1 16 (by simp only [List.mem_cons, List.not_mem_nil, or_false, not_or]; omega)).trans hA53
            have hF65x := (hq61.2.1 11 List.not_mem_nil).trans hF55x
            have hF66x := (hq61.2.1 20 List.not_mem_nil).trans hF56x
            have hF67x := (hq61.2.1 16 List.not_mem_nil).trans hF57x
            have hF68x := (hq61.2.1 17 List.not_mem_nil).trans hF58x
            have hF69x := (hq61.2.1 18 List.not_mem_nil).trans hF59x
            have hF70x := (hq61.2.1 13 List.not_mem_nil).trans te13_60
            have hF71x := (hq61.2.1 14 List.not_mem_nil).trans te14_60
            have hF72x := (hq61.2.1 12 List.not_mem_nil).trans te12_60
            have hF73x := (hq61.2.1 15 List.not_mem_nil).trans te15_60
            have hfr := FR.step hfr hq61 (by simp) (fun _ h => absurd h List.not_mem_nil) (fun h => rfl)
            have hl61_0 := pg_le h61_0
            have p1 := h61_0
            have hdo := gg_od hG (gg_dst hG (s := ((2 * tv23) + 0)) (by omega))
            have p8 : LG a w62 := lg_mk (n := rn w + 1) h61_1 h61_3 h61_4 (by omega) (by omega)
            have VE := h61_3
            have DQ : pDst gg (2 * vl tx sz1 (nxt tx sz1 p0) + sgn tx sz1 p0) = vend a w62 := by rw [SG, ← TV, VE]; exact (ga_dst hp3 (by omega)).symm
            refine lv_iconst (v := 1) hx hb dX12_aStep_110 (by decide) ?_
            exact W.zret (v := 1) hx hb hr rfl (fun t ht hW => ⟨⟨1, u61, rfl, ⟨Or.inl ⟨rfl, by exact ⟨by rw [hA62]; omega, ⟨hF70x, hF71x, hF72x, by omega, _, by omega, hF73x, tvv60⟩, fun f => (pt_ok hp7 (by omega) K6 (by omega) (SQ.trans (by omega))).trans (by rw [hA62, DQ]), hF67x, hF68x, hF69x⟩⟩, (by first | (rw [hA62]; done) | (rw [hA62]; first | assumption | exact p1)), (by first | (rw [hA62]; done) | (rw [hA62]; first | assumption | exact p8)), (by first | (rw [hA62]; done) | (rw [hA62]; first | assumption | omega | rfl | (congr 1; omega))), (by first | (rw [hF73x]; done) | (rw [hF73x]; refine ⟨_, ?_, rfl⟩; omega)), hfr⟩, (show va_P (dC, dI) vwCl (rW cs b u61) t.heap by rw [ht]; exact hP)⟩, hS.F ht⟩) hS.2.2 dX12_aStep_111
          · have c39 := mt (b_eq (nI_toInt (n := src a ((2 * tv23) + 0)) (by omega)) (nI_toInt (n := vend a w) (by omega))).mpr c39
            have SQ : pSrc gg (2 * vl tx sz1 (nxt tx sz1 p0) + sgn tx sz1 p0) = src a ((2 * tv23) + 0) := by rw [SG, ← TV]; exact (ga_src hp3 (by omega)).symm
            refine lv_aload_n hx hb dX12_aStep_86 rfl (lv_at hl 2 rfl) ?_
            refine lv_iconst (v := 5) hx hb dX12_aStep_87 (by decide) ?_
            refine rc_i hAL hS hA (va_runV (As := [.int (nI 5)]) (rest := []) ⟨hx, hb, hml, hown, noTs⟩ (x_X12_fails l dC dI H.size cs b u24 5 (tkr (kd tx sz1 (nxt tx sz1 p0))) (nxt tx sz1 p0) ln hb24.2.1 hF32x hF30x hF29x (by first | assumption | omega | rfl | (congr 1; omega))) ⟨cbE 1 (wd_1540 hE) (wd_126 hE) (wd_1537 hE) rfl rfl (by decide +kernel) ⟨Nat.le_of_ble_eq_true rfl, Nat.le_of_ble_eq_true rfl⟩, (wd_1539 hE), (wd_62 hE)⟩ ⟨PR.blind, r_recv hK hP rfl, (r_pre (av := [.ref (b 0), .int (nI 5)]) hK hP hJ hE)⟩ rfl rfl hl.1 rfl (lv_room (Nat.le_of_ble_eq_true rfl)) dX12_aStep_88 ⟨Nat.le_of_ble_eq_true rfl, Nat.le_of_ble_eq_true rfl⟩) (fun r74 u74 H locs hpo74 hP hS => ?_)
            obtain ⟨hr74, h74_0, h74_1, h74_2, hq74⟩ := hpo74
            have hA75 := (hq74.1 1 List.not_mem_nil).trans hA25
            have hA76 := (hq74.1 16 List.not_mem_nil).trans hA26
            have hA77 := (hq74.1 jw List.not_mem_nil).trans hA27
            have hF78x := (hq74.2.1 11 (by decide)).trans hF28x
            have hF79x := (hq74.2.1 20 (by decide)).trans hF29x
            have hF80x := (hq74.2.1 13 (by decide)).trans hF30x
            have hF81x := (hq74.2.1 14 (by decide)).trans hF31x
            have hF82x := (hq74.2.1 12 (by decide)).trans hF32x
            have hF83x := (hq74.2.1 15 (by decide)).trans hF33x
            have hfr := FR.step hfr hq74 (fun _ h => absurd h List.not_mem_nil) (by decide) (fun h => rfl)
            subst hr74
            exact W.zret (v := 0) hx hb hr rfl (fun t ht hW => ⟨⟨0, u74, rfl, ⟨Or.inr ⟨rfl, by exact ⟨5, nxt tx sz1 p0, by decide, ⟨by rw [h74_0, if_neg (by omega)], h74_1, h74_2⟩, fun f => pt_5 hp7 (by omega) K6 (by omega) (by rw [SQ]; omega)⟩⟩, (by first | (rw [hA77]; done) | (rw [hA77]; first | assumption | exact p1)), (by first | (rw [hA77]; done) | (rw [hA77]; first | assumption | exact p8)), (by first | (rw [hA77]; done) | (rw [hA77]; first | assumption | omega | rfl | (congr 1; omega))), (by first | (rw [hF83x]; done) | (rw [hF83x]; refine ⟨_, ?_, rfl⟩; omega)), hfr⟩, (show va_P (dC, dI) vwCl (rW cs b u74) t.heap by rw [ht]; exact hP)⟩, hS.F ht⟩) hS.2.2 dX12_aStep_91
        · have hvx := nI_toInt (n := tv23) (by omega)
          refine lv_if_ne (tgt := 64) hx hb dX12_aStep_55 (by decide) (fun c84 => absurd c84 (by decide)) (fun c84 => ?_)
          refine lv_aload_n hx hb dX12_aStep_58 rfl (lv_at hl 1 rfl) ?_
          refine lv_iconst (v := 3) hx hb dX12_aStep_59 (by decide) ?_
          refine rc_i hAL hS hA (va_runV (As := [.int (nI 3)]) (rest := []) ⟨hx, hb, hml, hown, noTs⟩ (x_X12_fails l dC dI H.size cs b u24 3 (tkr (kd tx sz1 (nxt tx sz1 p0))) (nxt tx sz1 p0) ln hb24.2.1 hF32x hF30x hF29x (by first | assumption | omega | rfl | (congr 1; omega))) ⟨cbE 1 (wd_1540 hE) (wd_126 hE) (wd_1537 hE) rfl rfl (by decide +kernel) ⟨Nat.le_of_ble_eq_true rfl, Nat.le_of_ble_eq_true rfl⟩, (wd_1539 hE), (wd_62 hE)⟩ ⟨PR.blind, r_recv hK hP rfl, (r_pre (av := [.ref (b 0), .int (nI 3)]) hK hP hJ hE)⟩ rfl rfl hl.1 rfl (lv_room (Nat.le_of_ble_eq_true rfl)) dX12_aStep_60 ⟨Nat.le_of_ble_eq_true rfl, Nat.le_of_ble_eq_true rfl⟩) (fun r85 u85 H locs hpo85 hP hS => ?_)
          obtain ⟨hr85, h85_0, h85_1, h85_2, hq85⟩ := hpo85
          have hA86 := (hq85.1 1 List.not_mem_nil).trans hA25
          have hA87 := (hq85.1 16 List.not_mem_nil).trans hA26
          have hA88 := (hq85.1 jw List.not_mem_nil).trans hA27
          have hF89x := (hq85.2.1 11 (by decide)).trans hF28x
          have hF90x := (hq85.2.1 20 (by decide)).trans hF29x
          have hF91x := (hq85.2.1 13 (by decide)).trans hF30x
          have hF92x := (hq85.2.1 14 (by decide)).trans hF31x
          have hF93x := (hq85.2.1 12 (by decide)).trans hF32x
          have hF94x := (hq85.2.1 15 (by decide)).trans hF33x
          have hfr := FR.step hfr hq85 (fun _ h => absurd h List.not_mem_nil) (by decide) (fun h => rfl)
          subst hr85
          exact W.zret (v := 0) hx hb hr rfl (fun t ht hW => ⟨⟨0, u85, rfl, ⟨Or.inr ⟨rfl, by exact ⟨3, nxt tx sz1 p0, by decide, ⟨by rw [h85_0, if_neg (by omega)], h85_1, h85_2⟩, fun f => pt_3 hp7 (by omega) K6 (by omega)⟩⟩, (by first | (rw [hA88]; done) | (rw [hA88]; first | assumption | exact p1)), (by first | (rw [hA88]; done) | (rw [hA88]; first | assumption | exact p8)), (by first | (rw [hA88]; done) | (rw [hA88]; first | assumption | omega | rfl | (congr 1; omega))), (by first | (rw [hF94x]; done) | (rw [hF94x]; refine ⟨_, ?_, rfl⟩; omega)), hfr⟩, (show va_P (dC, dI) vwCl (rW cs b u85) t.heap by rw [ht]; exact hP)⟩, hS.F ht⟩) hS.2.2 dX12_aStep_63
      · have NN := id hb24
        refine lv_if_ne (tgt := 47) hx hb dX12_aStep_42 (by decide) (fun c95 => absurd c95 (by decide)) (fun c95 => ?_)
        refine lv_iconst (v := 0) hx hb dX12_aStep_45 (by decide) ?_
        exact W.zret (v := 0) hx hb hr rfl (fun t ht hW => ⟨⟨0, u24, rfl, ⟨Or.inr ⟨rfl, by exact ⟨_, nxt tx sz1 p0, bad_ne, NN.2, fun f => pt_n hp7 (by omega) NN.1⟩⟩, (by first | (rw [hA27]; done) | (rw [hA27]; first | assumption | exact p1)), (by first | (rw [hA27]; done) | (rw [hA27]; first | assumption | exact p8)), (by first | (rw [hA27]; done) | (rw [hA27]; first | assumption | omega | rfl | (congr 1; omega))), (by first | (rw [hF33x]; done) | (rw [hF33x]; refine ⟨_, ?_, rfl⟩; omega)), hfr⟩, (show va_P (dC, dI) vwCl (rW cs b u24) t.heap by rw [ht]; exact hP)⟩, hS.F ht⟩) hS.2.2 dX12_aStep_46
    · have c13 := (b_eq (rfl : Int32.toInt (bA tx sz1 p0) = _) (show Int32.toInt 60 = 60 from rfl)).mp c13
      have SG := sgn_1 ((kd_byte (show tkr (kd tx sz1 p0) = 4 by omega)).2.1.mpr (by omega))
      refine lv_iconst (v := 1) hx hb dX12_aStep_28 (by decide) ?_
      refine lv_goto (tgt := 33) hx hb dX12_aStep_29 (by decide) ?_
      refine lv_istore_n (lv' := [(2, .int 1), (0, .ref (b 0)), (1, .ref (b jw))]) hx hb dX12_aStep_33 rfl hl (by decide) rfl (fun ls hl => ?_)
      refine lv_aload_n hx hb dX12_aStep_34 rfl (lv_at hl 1 rfl) ?_
      refine rc_v hAL hS hA (va_runV (As := []) (rest := []) ⟨hx, hb, hml, hown, noTs⟩ (x_X12_ahead l dC dI s.heap.size cs b u tx hAc16 sz1 (tnd tx sz1 p0) tv3 hF11 te14_3 te15_3 (by first | assumption | omega | rfl | (congr 1; omega)) (by first | assumption | omega | rfl | (congr 1; omega)) (by first | assumption | omega | rfl | (congr 1; omega))) ⟨cbE 0 (wd_1506 hE) (wd_126 hE) (wd_1503 hE) rfl rfl (by decide +kernel) ⟨Nat.le_of_ble_eq_true rfl, Nat.le_of_ble_eq_true rfl⟩, (wd_1505 hE), (wd_56 hE)⟩ ⟨PR.blind, r_recv hK hP rfl, (r_pre (av := [.ref (b 0)]) hK hP hJ hE)⟩ rfl rfl hl.1 rfl (lv_room (Nat.le_of_ble_eq_true rfl)) dX12_aStep_35 ⟨Nat.le_of_ble_eq_true rfl, Nat.le_of_ble_eq_true rfl⟩) (fun u96 H locs hpo96 hP hS => ?_)
      obtain ⟨h96_0, hq96⟩ := hpo96
      have hA97 := (hq96.1 1 List.not_mem_nil).trans hA1
      have hA98 := (hq96.1 16 List.not_mem_nil).trans hAc16
      have hA99 := (hq96.1 jw List.not_mem_nil).trans hAjw
      have hF100x := (hq96.2.1 11 (by decide)).trans hF11
      have hF101x := (hq96.2.1 16 (by decide)).trans hF16
      have hF102x := (hq96.2.1 17 (by decide)).trans hF17
      have hF103x := (hq96.2.1 18 (by decide)).trans hF18
      have hF104x := (hq96.2.1 20 (by decide)).trans hF20
      have hfr := FR.step hfr hq96 (fun _ h => absurd h List.not_mem_nil) (by decide) (fun h => rfl)
      clear tkf3 tnb3
      have hte105 : TE u96 tx sz1 (nxt tx sz1 p0) := h96_0
      obtain ⟨te13_105, te14_105, te12_105, tep105, tv105, tvl105, te15_105, tvv105⟩ := hte105
      have tkf105 := kd_f tx sz1 (nxt tx sz1 p0)
      have tna105 := tnd_le (tx := tx) tep105
      have tnb105 := fun h : (nxt tx sz1 p0) < sz1 => tnd_gt (tx := tx) h
      refine lv_aload_n hx hb dX12_aStep_38 rfl (lv_at hl 1 rfl) ?_
      refine rc_i hAL hS hA (va_runV (As := []) (rest := []) ⟨hx, hb, hml, hown, noTs⟩ (x_X12_isNumber l dC dI H.size cs b u96 tx hA98 sz1 (nxt tx sz1 p0) ln x17 x18 hF100x hF101x hF102x hF103x hF104x ⟨te13_105, te14_105, te12_105, by omega, _, by omega, te15_105, tvv105⟩ (by first | assumption | omega | rfl | (congr 1; omega))) ⟨cbE 0 (wd_1544 hE) (wd_126 hE) (wd_1541 hE) rfl rfl (by decide +kernel) ⟨Nat.le_of_ble_eq_true rfl, Nat.le_of_ble_eq_true rfl⟩, (wd_1543 hE), (wd_63 hE)⟩ ⟨PR.blind, r_recv hK hP rfl, (r_pre (av := [.ref (b 0)]) hK hP hJ hE)⟩ rfl rfl hl.1 rfl (lv_room (Nat.le_of_ble_eq_true rfl)) dX12_aStep_39 ⟨Nat.le_of_ble_eq_true rfl, Nat.le_of_ble_eq_true rfl⟩) (fun r106 u106 H locs hpo106 hP hS => ?_)
      obtain ⟨hr106, hq106⟩ := hpo106
      have hA107 := (hq106.1 1 List.not_mem_nil).trans hA97
      have hA108 := (hq106.1 16 List.not_mem_nil).trans hA98
      have hA109 := (hq106.1 jw List.not_mem_nil).trans hA99
      have hF110x := (hq106.2.1 11 (by decide)).trans hF100x
      have hF111x := (hq106.2.1 20 (by decide)).trans hF104x
      have hF112x := (hq106.2.1 13 (by decide)).trans te13_105
      have hF113x := (hq106.2.1 14 (by decide)).trans te14_105
      have hF114x := (hq106.2.1 12 (by decide)).trans te12_105
      have hF115x := (hq106.2.1 15 (by decide)).trans te15_105
      have hfr := FR.step hfr hq106 (fun _ h => absurd h List.not_mem_nil) (by decide) (fun h => rfl)
      rcases hr106 with ⟨rfl, hb106⟩ | ⟨rfl, hb106⟩
      · have K6 := hb106.1
        have TV := tvv105 K6
        refine lv_if_ne (tgt := 47) hx hb dX12_aStep_42 (by decide) (fun c116 => ?_) (fun c116 => absurd c116 (by decide))
        refine lv_aload_n hx hb dX12_aStep_47 rfl (lv_at hl 1 rfl) ?_
        refine lv_aload_n hx hb dX12_aStep_48 rfl (lv_at hl 1 rfl) ?_
        refine r_get (v := .int (nI tv105)) hx hb (ly_X12 hE) hown hK hP rfl 15 (by decide) (wd_1396 hE) (fun _ h9 => h9) (congrArg (fun z : Int32 => some (Value.int z)) hF115x) dX12_aStep_49 ?_
        refine vp_callSi (va_Run.run (va_runV (As := [.int (nI tv105)]) (rest := []) ⟨hx, hb, hml, hown, noTs⟩ (x_X12_isEdge l dC dI H.size cs b u106 a hA107 (nI tv105) (by first | assumption | omega | rfl | (congr 1; omega))) ⟨cbE 1 (wd_1587 hE) (wd_126 hE) (wd_1584 hE) rfl rfl (by decide +kernel) ⟨Nat.le_of_ble_eq_true rfl, Nat.le_of_ble_eq_true rfl⟩, (wd_1586 hE), (wd_73 hE)⟩ ⟨PR.blind, r_recv hK hP rfl, (r_pre (av := [.ref (b 0), .int (nI tv105)]) hK hP hJ hE)⟩ rfl rfl hl.1 rfl (lv_room (Nat.le_of_ble_eq_true rfl)) dX12_aStep_52 ⟨Nat.le_of_ble_eq_true rfl, Nat.le_of_ble_eq_true rfl⟩)) (fun r117 hr117 => ?_)
        rcases hr117 with ⟨rfl, hb117⟩ | ⟨rfl, hb117⟩
        · obtain ⟨n117, hbe117_1, hb117⟩ := hb117
          have hbe117_1 := (nI_eq (by omega) (by omega)).mp hbe117_1
          subst hbe117_1
          have hvx := nI_toInt (n := tv105) (by omega)
          refine lv_if_ne (tgt := 64) hx hb dX12_aStep_55 (by decide) (fun c118 => ?_) (fun c118 => absurd c118 (by decide))
          refine lv_iconst (v := 2) hx hb dX12_aStep_64 (by decide) ?_
          refine lv_aload_n hx hb dX12_aStep_65 rfl (lv_at hl 1 rfl) ?_
          refine r_get (v := .int (nI tv105)) hx hb (ly_X12 hE) hown hK hP rfl 15 (by decide) (wd_1396 hE) (fun _ h9 => h9) (congrArg (fun z : Int32 => some (Value.int z)) hF115x) dX12_aStep_66 ?_
          refine lv_imul hx hb dX12_aStep_69 ?_
          refine W.eq (g2 := F0 m 70 ls [.int (nI (2 * tv105))]) (congrArg (fun z : Int32 => F0 m 70 ls (.int z :: [])) (pk_mul 2 tv105)) ?_
          refine lv_iload_n hx hb dX12_aStep_70 rfl (lv_at hl 0 rfl) ?_
          refine lv_iadd hx hb dX12_aStep_71 ?_
          refine W.eq (g2 := F0 m 72 ls [.int (nI ((2 * tv105) + 1))]) (congrArg (fun z : Int32 => F0 m 72 ls (.int z :: [])) (nI_add (2 * tv105) 1)) ?_
          refine lv_istore_n (lv' := [(3, .int (nI ((2 * tv105) + 1))), (2, .int 1), (0, .ref (b 0)), (1, .ref (b jw))]) hx hb dX12_aStep_72 rfl hl (by decide) rfl (fun ls hl => ?_)
          refine lv_aload_n hx hb dX12_aStep_73 rfl (lv_at hl 2 rfl) ?_
          refine lv_iload_n hx hb dX12_aStep_74 rfl (lv_at hl 0 rfl) ?_
          refine vp_callSi (va_Run.run (va_runV (As := [.int (nI ((2 * tv105) + 1))]) (rest := []) ⟨hx, hb, hml, hown, noTs⟩ (r_X12_from l dC dI H.size cs b u106 a hA107 ((2 * tv105) + 1) (by first | assumption | omega | rfl | (congr 1; omega)) (by first | assumption | omega | rfl | (congr 1; omega))) ⟨cbE 1 (wd_1591 hE) (wd_126 hE) (wd_1588 hE) rfl rfl (by decide +kernel) ⟨Nat.le_of_ble_eq_true rfl, Nat.le_of_ble_eq_true rfl⟩, (wd_1590 hE), (wd_74 hE)⟩ ⟨PR.blind, r_recv hK hP rfl, (r_pre (av := [.ref (b 0), .int (nI ((2 * tv105) + 1))]) hK hP hJ hE)⟩ rfl rfl hl.1 rfl (lv_room (Nat.le_of_ble_eq_true rfl)) dX12_aStep_75 ⟨Nat.le_of_ble_eq_true rfl, Nat.le_of_ble_eq_true rfl⟩)) (fun r119 hr119 => ?_)
          have hau119 := gg_src (a := a) (s := ((2 * tv105) + 1)) (by assumption) (by first | assumption | omega)
          subst hr119
          refine lv_aload_n hx hb dX12_aStep_78 rfl (lv_at hl 2 rfl) ?_
          refine lv_aload_n hx hb dX12_aStep_79 rfl (lv_at hl 3 rfl) ?_
          refine vp_callSi (va_Run.run (va_runV (As := [.ref (b jw)]) (rest := [.int (nI (src a ((2 * tv105) + 1)))]) ⟨hx, hb, hml, hown, noTs⟩ (r_X12_end l dC dI H.size cs b u106 a hA107 jw (by omega) w hA109 (by first | assumption | omega | rfl | (congr 1; omega)) (by first | assumption | omega | rfl | (congr 1; omega))) ⟨cbE 1 (wd_1599 hE) (wd_126 hE) (wd_1596 hE) rfl rfl (by decide +kernel) ⟨Nat.le_of_ble_eq_true rfl, Nat.le_of_ble_eq_true rfl⟩, (wd_1598 hE), (wd_76 hE)⟩ ⟨PR.blind, r_recv hK hP rfl, (r_pre (av := [.ref (b 0), .ref (b jw)]) hK hP hJ hE)⟩ rfl rfl hl.1 rfl (lv_room (Nat.le_of_ble_eq_true rfl)) dX12_aStep_80 ⟨Nat.le_of_ble_eq_true rfl, Nat.le_of_ble_eq_true rfl⟩)) (fun r120 hr120 => ?_)
          have hau120 := pg_end (a := a) (w := w) (by assumption) (by assumption)
          subst hr120
          refine lv_icmp_eq (tgt := 92) hx hb dX12_aStep_83 (by decide) (fun c121 => ?_) (fun c121 => ?_)
          · have c121 := (b_eq (nI_toInt (n := src a ((2 * tv105) + 1)) (by omega)) (nI_toInt (n := vend a w) (by omega))).mp c121
            have SQ : pSrc gg (2 * vl tx sz1 (nxt tx sz1 p0) + sgn tx sz1 p0) = src a ((2 * tv105) + 1) := by rw [SG, ← TV]; exact (ga_src hp3 (by omega)).symm
            refine lv_aload_n hx hb dX12_aStep_92 rfl (lv_at hl 2 rfl) ?_
            refine rc_v hAL hS hA (va_runV (As := []) (rest := []) ⟨hx, hb, hml, hown, noTs⟩ (x_X12_ahead l dC dI H.size cs b u106 tx hA108 sz1 (tnd tx sz1 (nxt tx sz1 p0)) tv105 hF110x hF113x hF115x (by first | assumption | omega | rfl | (congr 1; omega)) (by first | assumption | omega | rfl | (congr 1; omega)) (by first | assumption | omega | rfl | (congr 1; omega))) ⟨cbE 0 (wd_1506 hE) (wd_126 hE) (wd_1503 hE) rfl rfl (by decide +kernel) ⟨Nat.le_of_ble_eq_true rfl, Nat.le_of_ble_eq_true rfl⟩, (wd_1505 hE), (wd_56 hE)⟩ ⟨PR.blind, r_recv hK hP rfl, (r_pre (av := [.ref (b 0)]) hK hP hJ hE)⟩ rfl rfl hl.1 rfl (lv_room (Nat.le_of_ble_eq_true rfl)) dX12_aStep_93 ⟨Nat.le_of_ble_eq_true rfl, Nat.le_of_ble_eq_true rfl⟩) (fun u122 H locs hpo122 hP hS => ?_)
            obtain ⟨h122_0, hq122⟩ := hpo122
            have hA123 := (hq122.1 1 List.not_mem_nil).trans hA107
            have hA124 := (hq122.1 16 List.not_mem_nil).trans hA108
            have hA125 := (hq122.1 jw List.not_mem_nil).trans hA109
            have hF126x := (hq122.2.1 11 (by decide)).trans hF110x
            have hF127x := (hq122.2.1 20 (by decide)).trans hF111x
            have hF128x := (hq122.2.1 16 (by decide)).trans hb106.2.1
            have hF129x := (hq122.2.1 17 (by decide)).trans hb106.2.2.1
            have hF130x := (hq122.2.1 18 (by decide)).trans hb106.2.2.2
            have hfr := FR.step hfr hq122 (fun _ h => absurd h List.not_mem_nil) (by decide) (fun h => rfl)
            clear tkf105 tnb105
            have hte131 : TE u122 tx sz1 (nxt tx sz1 (nxt tx sz1 p0)) := h122_0
            obtain ⟨te13_131, te14_131, te12_131, tep131, tv131, tvl131, te15_131, tvv131⟩ := hte131
            have tkf131 := kd_f tx sz1 (nxt tx sz1 (nxt tx sz1 p0))
            have tna131 := tnd_le (tx := tx) tep131
            have tnb131 := fun h : (nxt tx sz1 (nxt tx sz1 p0)) < sz1 => tnd_gt (tx := tx) h
            refine lv_aload_n hx hb dX12_aStep_96 rfl (lv_at hl 3 rfl) ?_
            refine lv_iload_n hx hb dX12_aStep_97 rfl (lv_at hl 0 rfl) ?_
            refine lv_aload_n hx hb dX12_aStep_98 rfl (lv_at hl 2 rfl) ?_
            refine lv_aload_n hx hb dX12_aStep_99 rfl (lv_at hl 2 rfl) ?_
            refine lv_iload_n hx hb dX12_aStep_100 rfl (lv_at hl 0 rfl) ?_
            refine vp_callSi (va_Run.run (va_runV (As := [.int (nI ((2 * tv105) + 1))]) (rest := [.ref (b 0), .int (nI ((2 * tv105) + 1)), .ref (b jw)]) ⟨hx, hb, hml, hown, noTs⟩ (r_X12_to l dC dI H.size cs b u122 a hA123 ((2 * tv105) + 1) (by first | assumption | omega | rfl | (congr 1; omega)) (by first | assumption | omega | rfl | (congr 1; omega))) ⟨cbE 1 (wd_1606 hE) (wd_126 hE) (wd_1603 hE) rfl rfl (by decide +kernel) ⟨Nat.le_of_ble_eq_true rfl, Nat.le_of_ble_eq_true rfl⟩, (wd_1605 hE), (wd_77 hE)⟩ ⟨PR.blind, r_recv hK hP rfl, (r_pre (av := [.ref (b 0), .int (nI ((2 * tv105) + 1))]) hK hP hJ hE)⟩ rfl rfl hl.1 rfl (lv_room (Nat.le_of_ble_eq_true rfl)) dX12_aStep_101 ⟨Nat.le_of_ble_eq_true rfl, Nat.le_of_ble_eq_true rfl⟩)) (fun r132 hr132 => ?_)
            have hau132 := gg_dst (a := a) (s := ((2 * tv105) + 1)) (by assumption) (by first | assumption | omega)
            subst hr132
            refine rc_i hAL hS hA (va_runV (As := [.int (nI (dst a ((2 * tv105) + 1)))]) (rest := [.int (nI ((2 * tv105) + 1)), .ref (b jw)]) ⟨hx, hb, hml, hown, noTs⟩ (x_X12_someNumber l dC dI H.size cs b u122 a hA123 tx hA124 (dst a ((2 * tv105) + 1)) sz1 (nxt tx sz1 (nxt tx sz1 p0)) hF126x (by first | assumption | omega | rfl | (congr 1; omega)) ⟨te13_131, te14_131, te12_131, by omega, _, by omega, te15_131, tvv131⟩ (by first | assumption | omega | rfl | (congr 1; omega)) (by first | assumption | omega | rfl | (congr 1; omega))) ⟨cbE 1 (wd_1572 hE) (wd_126 hE) (wd_1569 hE) rfl rfl (by decide +kernel) ⟨Nat.le_of_ble_eq_true rfl, Nat.le_of_ble_eq_true rfl⟩, (wd_1571 hE), (wd_70 hE)⟩ ⟨PR.blind, r_recv hK hP rfl, (r_pre (av := [.ref (b 0), .int (nI (dst a ((2 * tv105) + 1)))]) hK hP hJ hE)⟩ rfl rfl hl.1 rfl (lv_room (Nat.le_of_ble_eq_true rfl)) dX12_aStep_104 ⟨Nat.le_of_ble_eq_true rfl, Nat.le_of_ble_eq_true rfl⟩) (fun r133 u133 H locs hpo133 hP hS => ?_)
            obtain ⟨hr133, h133_0, hq133⟩ := hpo133
            have hA134 := (hq133.1 1 List.not_mem_nil).trans hA123
            have hA135 := (hq133.1 16 List.not_mem_nil).trans hA124
            have hA136 := (hq133.1 jw List.not_mem_nil).trans hA125
            have hF137x := (hq133.2.1 11 (by decide)).trans hF126x
            have hF138x := (hq133.2.1 20 (by decide)).trans hF127x
            have hF139x := (hq133.2.1 16 (by decide)).trans hF128x
            have hF140x := (hq133.2.1 17 (by decide)).trans hF129x
            have hF141x := (hq133.2.1 18 (by decide)).trans hF130x
            have hfr := FR.step hfr hq133 (fun _ h => absurd h List.not_mem_nil) (by decide) (fun h => rfl)
            clear tkf131 tnb131
            have hte142 : TE u133 tx sz1 (pNum tx sz1 (nxt tx sz1 (nxt tx sz1 p0))) := h133_0
            obtain ⟨te13_142, te14_142, te12_142, tep142, tv142, tvl142, te15_142, tvv142⟩ := hte142
            have tkf142 := kd_f tx sz1 (pNum tx sz1 (nxt tx sz1 (nxt tx sz1 p0)))
            have tna142 := tnd_le (tx := tx) tep142
            have tnb142 := fun h : (pNum tx sz1 (nxt tx sz1 (nxt tx sz1 p0))) < sz1 => tnd_gt (tx := tx) h
            obtain ⟨n133, rfl, hn133_0⟩ := hr133
            refine rc_v hAL hS hA (va_runS (As := [.ref (b jw), .int (nI ((2 * tv105) + 1)), .int (nI n133)]) (rest := []) ⟨hx, hb, hml, hown, noTs⟩ (r_X12_goes l dC dI H.size cs b u133 a hA134 jw (by omega) w hA136 ((2 * tv105) + 1) (nI n133) (by first | assumption | omega | rfl | (congr 1; omega)) (by first | assumption | omega | rfl | (congr 1; omega)) (by first | assumption | omega | rfl | (congr 1; omega)) (by first | assumption | omega | rfl | (congr 1; omega)) (by first | assumption | omega | rfl | (congr 1; omega))) ⟨cbE 3 (wd_1609 hE) (wd_126 hE) (wd_1607 hE) rfl rfl (by decide +kernel) ⟨Nat.le_of_ble_eq_true rfl, Nat.le_of_ble_eq_true rfl⟩, (wd_1608 hE)⟩ ⟨PR.blind, (r_pre (av := [.ref (b jw), .int (nI ((2 * tv105) + 1)), .int (nI n133)]) hK hP hJ hE)⟩ rfl rfl hl.1 rfl (lv_room (Nat.le_of_ble_eq_true rfl)) dX12_aStep_107 ⟨Nat.le_of_ble_eq_true rfl, Nat.le_of_ble_eq_true rfl⟩) (fun u143 H locs hpo143 hP hS => ?_)
            obtain ⟨h143_0, h143_1, h143_2, h143_3, h143_4, h143_5, h143_6, h143_7, hq143⟩ := hpo143
            obtain ⟨w144, hA144⟩ : ∃ g, rA u143 jw = g := ⟨_, rfl⟩
            rw [hA144] at h143_0 h143_1 h143_2 h143_3 h143_4 h143_5 h143_6 h143_7
            have hA145 := (hq143.1 1 (by simp only [List.mem_cons, List.not_mem_nil, or_false, not_or]; omega)).trans hA134
            have hA146 := (hq143.1 16 (by simp only [List.mem_cons, List.not_mem_nil, or_false, not_or]; omega)).trans hA135
            have hF147x := (hq143.2.1 11 List.not_mem_nil).trans hF137x
            have hF148x := (hq143.2.1 20 List.not_mem_nil).trans hF138x
            have hF149x := (hq143.2.1 16 List.not_mem_nil).trans hF139x
            have hF150x := (hq143.2.1 17 List.not_mem_nil).trans hF140x
            have hF151x := (hq143.2.1 18 List.not_mem_nil).trans hF141x
            have hF152x := (hq143.2.1 13 List.not_mem_nil).trans te13_142
            have hF153x := (hq143.2.1 14 List.not_mem_nil).trans te14_142
            have hF154x := (hq143.2.1 12 List.not_mem_nil).trans te12_142
            have hF155x := (hq143.2.1 15 List.not_mem_nil).trans te15_142
            have hfr := FR.step hfr hq143 (by simp) (fun _ h => absurd h List.not_mem_nil) (fun h => rfl)
            have hl143_0 := pg_le h143_0
            have p1 := h143_0
            have hdo := gg_od hG (gg_dst hG (s := ((2 * tv105) + 1)) (by omega))
            have p8 : LG a w144 := lg_mk (n := rn w + 1) h143_1 h143_3 h143_4 (by omega) (by omega)
            have VE := h143_3
            have DQ : pDst gg (2 * vl tx sz1 (nxt tx sz1 p0) + sgn tx sz1 p0) = vend a w144 := by rw [SG, ← TV, VE]; exact (ga_dst hp3 (by omega)).symm
            refine lv_iconst (v := 1) hx hb dX12_aStep_110 (by decide) ?_
            exact W.zret (v := 1) hx hb hr rfl (fun t ht hW => ⟨⟨1, u143, rfl, ⟨Or.inl ⟨rfl, by exact ⟨by rw [hA144]; omega, ⟨hF152x, hF153x, hF154x, by omega, _, by omega, hF155x, tvv142⟩, fun f => (pt_ok hp7 (by omega) K6 (by omega) (SQ.trans (by omega))).trans (by rw [hA144, DQ]), hF149x, hF150x, hF151x⟩⟩, (by first | (rw [hA144]; done) | (rw [hA144]; first | assumption | exact p1)), (by first | (rw [hA144]; done) | (rw [hA144]; first | assumption | exact p8)), (by first | (rw [hA144]; done) | (rw [hA144]; first | assumption | omega | rfl | (congr 1; omega))), (by first | (rw [hF155x]; done) | (rw [hF155x]; refine ⟨_, ?_, rfl⟩; omega)), hfr⟩, (show va_P (dC, dI) vwCl (rW cs b u143) t.heap by rw [ht]; exact hP)⟩, hS.F ht⟩) hS.2.2 dX12_aStep_111
          · have c121 := mt (b_eq (nI_toInt (n := src a ((2 * tv105) + 1)) (by omega)) (nI_toInt (n := vend a w) (by omega))).mpr c121
            have SQ : pSrc gg (2 * vl tx sz1 (nxt tx sz1 p0) + sgn tx sz1 p0) = src a ((2 * tv105) + 1) := by rw [SG, ← TV]; exact (ga_src hp3 (by omega)).symm
            refine lv_aload_n hx hb dX12_aStep_86 rfl (lv_at hl 2 rfl) ?_
            refine lv_iconst (v := 5) hx hb dX12_aStep_87 (by decide) ?_
            refine rc_i hAL hS hA (va_runV (As := [.int (nI 5)]) (rest := []) ⟨hx, hb, hml, hown, noTs⟩ (x_X12_fails l dC dI H.size cs b u106 5 (tkr (kd tx sz1 (nxt tx sz1 p0))) (nxt tx sz1 p0) ln hb106.2.1 hF114x hF112x hF111x (by first | assumption | omega | rfl | (congr 1; omega))) ⟨cbE 1 (wd_1540 hE) (wd_126 hE) (wd_1537 hE) rfl rfl (by decide +kernel) ⟨Nat.le_of_ble_eq_true rfl, Nat.le_of_ble_eq_true rfl⟩, (wd_1539 hE), (wd_62 hE)⟩ ⟨PR.blind, r_recv hK hP rfl, (r_pre (av := [.ref (b 0), .int (nI 5)]) hK hP hJ hE)⟩ rfl rfl hl.1 rfl (lv_room (Nat.le_of_ble_eq_true rfl)) dX12_aStep_88 ⟨Nat.le_of_ble_eq_true rfl, Nat.le_of_ble_eq_true rfl⟩) (fun r156 u156 H locs hpo156 hP hS => ?_)
            obtain ⟨hr156, h156_0, h156_1, h156_2, hq156⟩ := hpo156
            have hA157 := (hq156.1 1 List.not_mem_nil).trans hA107
            have hA158 := (hq156.1 16 List.not_mem_nil).trans hA108
            have hA159 := (hq156.1 jw List.not_mem_nil).trans hA109
            have hF160x := (hq156.2.1 11 (by decide)).trans hF110x
            have hF161x := (hq156.2.1 20 (by decide)).trans hF111x
            have hF162x := (hq156.2.1 13 (by decide)).trans hF112x
            have hF163x := (hq156.2.1 14 (by decide)).trans hF113x
            have hF164x := (hq156.2.1 12 (by decide)).trans hF114x
            have hF165x := (hq156.2.1 15 (by decide)).trans hF115x
            have hfr := FR.step hfr hq156 (fun _ h => absurd h List.not_mem_nil) (by decide) (fun h => rfl)
            subst hr156
            exact W.zret (v := 0) hx hb hr rfl (fun t ht hW => ⟨⟨0, u156, rfl, ⟨Or.inr ⟨rfl, by exact ⟨5, nxt tx sz1 p0, by decide, ⟨by rw [h156_0, if_neg (by omega)], h156_1, h156_2⟩, fun f => pt_5 hp7 (by omega) K6 (by omega) (by rw [SQ]; omega)⟩⟩, (by first | (rw [hA159]; done) | (rw [hA159]; first | assumption | exact p1)), (by first | (rw [hA159]; done) | (rw [hA159]; first | assumption | exact p8)), (by first | (rw [hA159]; done) | (rw [hA159]; first | assumption | omega | rfl | (congr 1; omega))), (by first | (rw [hF165x]; done) | (rw [hF165x]; refine ⟨_, ?_, rfl⟩; omega)), hfr⟩, (show va_P (dC, dI) vwCl (rW cs b u156) t.heap by rw [ht]; exact hP)⟩, hS.F ht⟩) hS.2.2 dX12_aStep_91
        · have hvx := nI_toInt (n := tv105) (by omega)
          refine lv_if_ne (tgt := 64) hx hb dX12_aStep_55 (by decide) (fun c166 => absurd c166 (by decide)) (fun c166 => ?_)
          refine lv_aload_n hx hb dX12_aStep_58 rfl (lv_at hl 1 rfl) ?_
          refine lv_iconst (v := 3) hx hb dX12_aStep_59 (by decide) ?_
          refine rc_i hAL hS hA (va_runV (As := [.int (nI 3)]) (rest := []) ⟨hx, hb, hml, hown, noTs⟩ (x_X12_fails l dC dI H.size cs b u106 3 (tkr (kd tx sz1 (nxt tx sz1 p0))) (nxt tx sz1 p0) ln hb106.2.1 hF114x hF112x hF111x (by first | assumption | omega | rfl | (congr 1; omega))) ⟨cbE 1 (wd_1540 hE) (wd_126 hE) (wd_1537 hE) rfl rfl (by decide +kernel) ⟨Nat.le_of_ble_eq_true rfl, Nat.le_of_ble_eq_true rfl⟩, (wd_1539 hE), (wd_62 hE)⟩ ⟨PR.blind, r_recv hK hP rfl, (r_pre (av := [.ref (b 0), .int (nI 3)]) hK hP hJ hE)⟩ rfl rfl hl.1 rfl (lv_room (Nat.le_of_ble_eq_true rfl)) dX12_aStep_60 ⟨Nat.le_of_ble_eq_true rfl, Nat.le_of_ble_eq_true rfl⟩) (fun r167 u167 H locs hpo167 hP hS => ?_)
          obtain ⟨hr167, h167_0, h167_1, h167_2, hq167⟩ := hpo167
          have hA168 := (hq167.1 1 List.not_mem_nil).trans hA107
          have hA169 := (hq167.1 16 List.not_mem_nil).trans hA108
          have hA170 := (hq167.1 jw List.not_mem_nil).trans hA109
          have hF171x := (hq167.2.1 11 (by decide)).trans hF110x
          have hF172x := (hq167.2.1 20 (by decide)).trans hF111x
          have hF173x := (hq167.2.1 13 (by decide)).trans hF112x
          have hF174x := (hq167.2.1 14 (by decide)).trans hF113x
          have hF175x := (hq167.2.1 12 (by decide)).trans hF114x
          have hF176x := (hq167.2.1 15 (by decide)).trans hF115x
          have hfr := FR.step hfr hq167 (fun _ h => absurd h List.not_mem_nil) (by decide) (fun h => rfl)
          subst hr167
          exact W.zret (v := 0) hx hb hr rfl (fun t ht hW => ⟨⟨0, u167, rfl, ⟨Or.inr ⟨rfl, by exact ⟨3, nxt tx sz1 p0, by decide, ⟨by rw [h167_0, if_neg (by omega)], h167_1, h167_2⟩, fun f => pt_3 hp7 (by omega) K6 (by omega)⟩⟩, (by first | (rw [hA170]; done) | (rw [hA170]; first | assumption | exact p1)), (by first | (rw [hA170]; done) | (rw [hA170]; first | assumption | exact p8)), (by first | (rw [hA170]; done) | (rw [hA170]; first | assumption | omega | rfl | (congr 1; omega))), (by first | (rw [hF176x]; done) | (rw [hF176x]; refine ⟨_, ?_, rfl⟩; omega)), hfr⟩, (show va_P (dC, dI) vwCl (rW cs b u167) t.heap by rw [ht]; exact hP)⟩, hS.F ht⟩) hS.2.2 dX12_aStep_63
      · have NN := id hb106
        refine lv_if_ne (tgt := 47) hx hb dX12_aStep_42 (by decide) (fun c177 => absurd c177 (by decide)) (fun c177 => ?_)
        refine lv_iconst (v := 0) hx hb dX12_aStep_45 (by decide) ?_
        exact W.zret (v := 0) hx hb hr rfl (fun t ht hW => ⟨⟨0, u106, rfl, ⟨Or.inr ⟨rfl, by exact ⟨_, nxt tx sz1 p0, bad_ne, NN.2, fun f => pt_n hp7 (by omega) NN.1⟩⟩, (by first | (rw [hA109]; done) | (rw [hA109]; first | assumption | exact p1)), (by first | (rw [hA109]; done) | (rw [hA109]; first | assumption | exact p8)), (by first | (rw [hA109]; done) | (rw [hA109]; first | assumption | omega | rfl | (congr 1; omega))), (by first | (rw [hF115x]; done) | (rw [hF115x]; refine ⟨_, ?_, rfl⟩; omega)), hfr⟩, (show va_P (dC, dI) vwCl (rW cs b u106) t.heap by rw [ht]; exact hP)⟩, hS.F ht⟩) hS.2.2 dX12_aStep_46
  · have c11 := (b_eq (nI_toInt (n := rn w) (by omega)) (show Int32.toInt 24 = 24 from rfl)).mp c11
    refine lv_aload_n hx hb dX12_aStep_8 rfl (lv_at hl 0 rfl) ?_
    refine lv_bipush (v := 6) hx hb dX12_aStep_9 (by decide) ?_
    refine rc_i hAL hS hA (va_runV (As := [.int (nI 6)]) (rest := []) ⟨hx, hb, hml, hown, noTs⟩ (x_X12_fails l dC dI s.heap.size cs b u 6 (tkr (kd tx sz1 p0)) p0 ln hF16 te12_3 te13_3 hF20 (by first | assumption | omega | rfl | (congr 1; omega))) ⟨cbE 1 (wd_1540 hE) (wd_126 hE) (wd_1537 hE) rfl rfl (by decide +kernel) ⟨Nat.le_of_ble_eq_true rfl, Nat.le_of_ble_eq_true rfl⟩, (wd_1539 hE), (wd_62 hE)⟩ ⟨PR.blind, r_recv hK hP rfl, (r_pre (av := [.ref (b 0), .int (nI 6)]) hK hP hJ hE)⟩ rfl rfl hl.1 rfl (lv_room (Nat.le_of_ble_eq_true rfl)) dX12_aStep_11 ⟨Nat.le_of_ble_eq_true rfl, Nat.le_of_ble_eq_true rfl⟩) (fun r178 u178 H locs hpo178 hP hS => ?_)
    obtain ⟨hr178, h178_0, h178_1, h178_2, hq178⟩ := hpo178
    have hA179 := (hq178.1 1 List.not_mem_nil).trans hA1
    have hA180 := (hq178.1 16 List.not_mem_nil).trans hAc16
    have hA181 := (hq178.1 jw List.not_mem_nil).trans hAjw
    have hF182x := (hq178.2.1 11 (by decide)).trans hF11
    have hF183x := (hq178.2.1 20 (by decide)).trans hF20
    have hF184x := (hq178.2.1 13 (by decide)).trans te13_3
    have hF185x := (hq178.2.1 14 (by decide)).trans te14_3
    have hF186x := (hq178.2.1 12 (by decide)).trans te12_3
    have hF187x := (hq178.2.1 15 (by decide)).trans te15_3
    have hfr := FR.step hfr hq178 (fun _ h => absurd h List.not_mem_nil) (by decide) (fun h => rfl)
    subst hr178
    exact W.zret (v := 0) hx hb hr rfl (fun t ht hW => ⟨⟨0, u178, rfl, ⟨Or.inr ⟨rfl, by exact ⟨6, p0, by decide, ⟨by rw [h178_0, if_neg (by omega)], h178_1, h178_2⟩, fun f => by rw [show rn w = 24 by omega]; exact pt_6 hp7⟩⟩, (by first | (rw [hA181]; done) | (rw [hA181]; first | assumption | exact p1)), (by first | (rw [hA181]; done) | (rw [hA181]; first | assumption | exact p8)), (by first | (rw [hA181]; done) | (rw [hA181]; first | assumption | omega | rfl | (congr 1; omega))), (by first | (rw [hF187x]; done) | (rw [hF187x]; refine ⟨_, ?_, rfl⟩; omega)), hfr⟩, (show va_P (dC, dI) vwCl (rW cs b u178) t.heap by rw [ht]; exact hP)⟩, hS.F ht⟩) hS.2.2 dX12_aStep_14
