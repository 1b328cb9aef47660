set_option maxHeartbeats 4000000 in
set_option maxRecDepth 100000 in
theorem r_X12_status (l : Launch) (dC : Nat → ClassId) (dI : Nat → Nat → Nat) (sz : Nat) (cs : Nat → ClassId) (b : Nat → Nat) (u : RS) (a : Nat → Int32) (hA1 : rA u 1 = a) : Met l yX12_status [.code yX12_status cX12_status 1 (some .int)] ({ frames := 0, cells := 0, slots := 0, locals := 0 }) (PR [.ref (b 0)] sz dC dI cs b u) (vp_Si (fun (r : Int32) => True)) 0 0 (fun _ => False) := by
  refine Met.ofW (cc := cX12_status) (maxL := 1) (ret := (some .int)) (by decide) rfl ?_
  intro p e s m args below meth c s₁ B hml hv
  obtain ⟨rfl, hsz, hP, hK, hJ, hE⟩ := hv
  have hx := B.exec
  have hb := B.bytes
  have hr := B.returns
  have hown : s.vm.findClass RX12 = some m.cls := findClass_of_methodNamed B.named
  have hlocks := B.notSynchronized
  subst hsz
  have hl := lv_entry ([.ref (b 0)]) (n := 1) (Nat.le_of_ble_eq_true rfl)
  rw [lg_entry_eq]
  generalize (lg_sl ([.ref (b 0)]) ++ List.replicate (1 - (lg_sl ([.ref (b 0)])).length) Slot.unset).toArray = ls at hl ⊢
  have hl : lv_has ls 1 [(0, .ref (b 0))] := hl
  refine lv_aload_n hx hb dX12_status_0 rfl (lv_at hl 0 rfl) ?_
  obtain ⟨y1, hy1⟩ : ∃ z : Int32, rF u 1 = z := ⟨_, rfl⟩
  refine r_get (v := .int y1) hx hb (ly_X12 hE) hown hK hP rfl 1 (by decide) (wd_1382 hE) (fun _ h9 => h9) (congrArg (fun z : Int32 => some (Value.int z)) hy1) dX12_status_1 ?_
  exact W.iret (v := y1) hx hb hr (fun t ht hW => ⟨y1, rfl, trivial, ht⟩) (fun _ h => absurd h List.not_mem_nil) dX12_status_4

set_option maxHeartbeats 4000000 in
set_option maxRecDepth 100000 in
theorem r_X12_refuse (l : Launch) (dC : Nat → ClassId) (dI : Nat → Nat → Nat) (sz : Nat) (cs : Nat → ClassId) (b : Nat → Nat) (u : RS) (a : Nat → Int32) (hA1 : rA u 1 = a) (x : Int32) : Met l yX12_refuse [.code yX12_refuse cX12_refuse 2 (some .int)] ({ frames := 0, cells := 0, slots := 0, locals := 0 }) (PR [.ref (b 0), .int x] sz dC dI cs b u) (va_Qi (fun (r : Int32) (u' : RS) => (r = -1) ∧ FR [] [1] false u u') (BR dC dI cs b) (AR b sz)) 0 0 (AR b sz) := by
  refine Met.ofW (cc := cX12_refuse) (maxL := 2) (ret := (some .int)) (by decide) rfl ?_
  intro p e s m args below meth c s₁ B hml hv
  obtain ⟨rfl, hsz, hP, hK, hJ, hE⟩ := hv
  have hx := B.exec
  have hb := B.bytes
  have hr := B.returns
  have hown : s.vm.findClass RX12 = some m.cls := findClass_of_methodNamed B.named
  have hlocks := B.notSynchronized
  subst hsz
  have hAL : ∀ i, i < 108 → AR b s.heap.size (b i) := fun i h => Or.inl ⟨i, h, rfl⟩
  have hA : ∀ q : Nat, s.heap.size ≤ q → AR b s.heap.size q := fun q h => Or.inr h
  have hS : va_S (AR b s.heap.size) s.heap s.heap [] := va_S.rf
  have hfr : FR [] [1] false u u := FR.refl
  have hl := lv_entry ([.ref (b 0), .int x]) (n := 2) (Nat.le_of_ble_eq_true rfl)
  rw [lg_entry_eq]
  generalize (lg_sl ([.ref (b 0), .int x]) ++ List.replicate (2 - (lg_sl ([.ref (b 0), .int x])).length) Slot.unset).toArray = ls at hl ⊢
  have hl : lv_has ls 2 [(0, .ref (b 0)), (1, .int x)] := hl
  refine lv_aload_n hx hb dX12_refuse_0 rfl (lv_at hl 0 rfl) ?_
  refine lv_iload_n hx hb dX12_refuse_1 rfl (lv_at hl 1 rfl) ?_
  refine r_put (v := x) hx hb (ly_X12 hE) tyX12 tyX12_ok nmX12 hown hK hP hJ hAL hS rfl 1 (by decide) (wd_1382 hE) (fun _ h9 => h9) rfl (by decide +kernel) rfl (by decide) dX12_refuse_2 (fun u1 H locs hf1 hq1 hP hS => ?_)
  have hA2 := (hq1.1 1 List.not_mem_nil).trans hA1
  have hfr := FR.step hfr hq1 (fun _ h => absurd h List.not_mem_nil) (by decide) (fun h => rfl)
  refine lv_iconst (v := -1) hx hb dX12_refuse_5 (by decide) ?_
  exact W.iret (v := -1) hx hb hr (fun t ht hW => ⟨⟨-1, u1, rfl, ⟨(by first | rfl | omega | (congr 1; omega) | assumption), hfr⟩, (show va_P (dC, dI) vwCl (rW cs b u1) t.heap by rw [ht]; exact hP)⟩, hS.F ht⟩) hS.2.2 dX12_refuse_6

set_option maxHeartbeats 4000000 in
set_option maxRecDepth 100000 in
theorem r_X12_gives (l : Launch) (dC : Nat → ClassId) (dI : Nat → Nat → Nat) (sz : Nat) (cs : Nat → ClassId) (b : Nat → Nat) (u : RS) (a : Nat → Int32) (hA1 : rA u 1 = a) (x : Int32) : Met l yX12_gives [.code yX12_gives cX12_gives 2 (some .int)] ({ frames := 0, cells := 0, slots := 0, locals := 0 }) (PR [.ref (b 0), .int x] sz dC dI cs b u) (va_Qi (fun (r : Int32) (u' : RS) => (r = x) ∧ FR [] [1] false u u') (BR dC dI cs b) (AR b sz)) 0 0 (AR b sz) := by
  refine Met.ofW (cc := cX12_gives) (maxL := 2) (ret := (some .int)) (by decide) rfl ?_
  intro p e s m args below meth c s₁ B hml hv
  obtain ⟨rfl, hsz, hP, hK, hJ, hE⟩ := hv
  have hx := B.exec
  have hb := B.bytes
  have hr := B.returns
  have hown : s.vm.findClass RX12 = some m.cls := findClass_of_methodNamed B.named
  have hlocks := B.notSynchronized
  subst hsz
  have hAL : ∀ i, i < 108 → AR b s.heap.size (b i) := fun i h => Or.inl ⟨i, h, rfl⟩
  have hA : ∀ q : Nat, s.heap.size ≤ q → AR b s.heap.size q := fun q h => Or.inr h
  have hS : va_S (AR b s.heap.size) s.heap s.heap [] := va_S.rf
  have hfr : FR [] [1] false u u := FR.refl
  have hl := lv_entry ([.ref (b 0), .int x]) (n := 2) (Nat.le_of_ble_eq_true rfl)
  rw [lg_entry_eq]
  generalize (lg_sl ([.ref (b 0), .int x]) ++ List.replicate (2 - (lg_sl ([.ref (b 0), .int x])).length) Slot.unset).toArray = ls at hl ⊢
  have hl : lv_has ls 2 [(0, .ref (b 0)), (1, .int x)] := hl
  refine lv_aload_n hx hb dX12_gives_0 rfl (lv_at hl 0 rfl) ?_
  refine lv_iconst (v := 0) hx hb dX12_gives_1 (by decide) ?_
  refine r_put (v := 0) hx hb (ly_X12 hE) tyX12 tyX12_ok nmX12 hown hK hP hJ hAL hS rfl 1 (by decide) (wd_1382 hE) (fun _ h9 => h9) rfl (by decide +kernel) rfl (by decide) dX12_gives_2 (fun u1 H locs hf1 hq1 hP hS => ?_)
  have hA2 := (hq1.1 1 List.not_mem_nil).trans hA1
  have hfr := FR.step hfr hq1 (fun _ h => absurd h List.not_mem_nil) (by decide) (fun h => rfl)
  refine lv_iload_n hx hb dX12_gives_5 rfl (lv_at hl 1 rfl) ?_
  exact W.iret (v := x) hx hb hr (fun t ht hW => ⟨⟨x, u1, rfl, ⟨(by first | rfl | omega | (congr 1; omega) | assumption), hfr⟩, (show va_P (dC, dI) vwCl (rW cs b u1) t.heap by rw [ht]; exact hP)⟩, hS.F ht⟩) hS.2.2 dX12_gives_6

set_option maxHeartbeats 4000000 in
set_option maxRecDepth 100000 in
theorem r_X12_gives_ (l : Launch) (dC : Nat → ClassId) (dI : Nat → Nat → Nat) (sz : Nat) (cs : Nat → ClassId) (b : Nat → Nat) (u : RS) (a : Nat → Int32) (hA1 : rA u 1 = a) (x : Int64) : Met l yX12_gives_ [.code yX12_gives_ cX12_gives_ 3 (some .long)] ({ frames := 0, cells := 0, slots := 0, locals := 0 }) (PR [.ref (b 0), .long x] sz dC dI cs b u) (va_Ql (fun (r : Int64) (u' : RS) => (r = x) ∧ FR [] [1] false u u') (BR dC dI cs b) (AR b sz)) 0 0 (AR b sz) := by
  refine Met.ofW (cc := cX12_gives_) (maxL := 3) (ret := (some .long)) (by decide) rfl ?_
  intro p e s m args below meth c s₁ B hml hv
  obtain ⟨rfl, hsz, hP, hK, hJ, hE⟩ := hv
  have hx := B.exec
  have hb := B.bytes
  have hr := B.returns
  have hown : s.vm.findClass RX12 = some m.cls := findClass_of_methodNamed B.named
  have hlocks := B.notSynchronized
  subst hsz
  have hAL : ∀ i, i < 108 → AR b s.heap.size (b i) := fun i h => Or.inl ⟨i, h, rfl⟩
  have hA : ∀ q : Nat, s.heap.size ≤ q → AR b s.heap.size q := fun q h => Or.inr h
  have hS : va_S (AR b s.heap.size) s.heap s.heap [] := va_S.rf
  have hfr : FR [] [1] false u u := FR.refl
  have hl := lv_entry ([.ref (b 0), .long x]) (n := 3) (Nat.le_of_ble_eq_true rfl)
  rw [lg_entry_eq]
  generalize (lg_sl ([.ref (b 0), .long x]) ++ List.replicate (3 - (lg_sl ([.ref (b 0), .long x])).length) Slot.unset).toArray = ls at hl ⊢
  have hl : lv_has ls 3 [(0, .ref (b 0)), (1, .long x)] := hl
  refine lv_aload_n hx hb dX12_gives__0 rfl (lv_at hl 0 rfl) ?_
  refine lv_iconst (v := 0) hx hb dX12_gives__1 (by decide) ?_
  refine r_put (v := 0) hx hb (ly_X12 hE) tyX12 tyX12_ok nmX12 hown hK hP hJ hAL hS rfl 1 (by decide) (wd_1382 hE) (fun _ h9 => h9) rfl (by decide +kernel) rfl (by decide) dX12_gives__2 (fun u1 H locs hf1 hq1 hP hS => ?_)
  have hA2 := (hq1.1 1 List.not_mem_nil).trans hA1
  have hfr := FR.step hfr hq1 (fun _ h => absurd h List.not_mem_nil) (by decide) (fun h => rfl)
  refine lv_lload_n hx hb dX12_gives__5 rfl (lv_at hl 1 rfl) ?_
  exact W.lret (v := x) hx hb hr (fun t ht hW => ⟨⟨x, u1, rfl, ⟨(by first | rfl | omega | (congr 1; omega) | assumption), hfr⟩, (show va_P (dC, dI) vwCl (rW cs b u1) t.heap by rw [ht]; exact hP)⟩, hS.F ht⟩) hS.2.2 dX12_gives__6

set_option maxHeartbeats 4000000 in
set_option maxRecDepth 100000 in
theorem r_X12_isFrom (l : Launch) (dC : Nat → ClassId) (dI : Nat → Nat → Nat) (sz : Nat) (cs : Nat → ClassId) (b : Nat → Nat) (u : RS) (a : Nat → Int32) (hA1 : rA u 1 = a) (x : Int32) (lo : Int32) (hi : Int32) (loz : Int) (hiz : Int) (hp0 : lo.toInt = loz) (hp1 : hi.toInt = hiz) : Met l yX12_isFrom [.code yX12_isFrom cX12_isFrom 3 (some .boolean)] ({ frames := 0, cells := 0, slots := 0, locals := 0 }) (PR [.int x, .int lo, .int hi] sz dC dI cs b u) (vp_Si (fun (r : Int32) => (r = 1 ∧ (loz ≤ x.toInt ∧ x.toInt ≤ hiz)) ∨ (r = 0 ∧ (x.toInt < loz ∨ hiz < x.toInt)))) 0 0 (fun _ => False) := by
  refine Met.ofW (cc := cX12_isFrom) (maxL := 3) (ret := (some .boolean)) (by decide) rfl ?_
  intro p e s m args below meth c s₁ B hml hv
  obtain ⟨rfl, hsz, hP, hK, hJ, hE⟩ := hv
  have hx := B.exec
  have hb := B.bytes
  have hr := B.returns
  have hown : s.vm.findClass RX12 = some m.cls := findClass_of_methodNamed B.named
  have hlocks := B.notSynchronized
  subst hsz
  have hl := lv_entry ([.int x, .int lo, .int hi]) (n := 3) (Nat.le_of_ble_eq_true rfl)
  rw [lg_entry_eq]
  generalize (lg_sl ([.int x, .int lo, .int hi]) ++ List.replicate (3 - (lg_sl ([.int x, .int lo, .int hi])).length) Slot.unset).toArray = ls at hl ⊢
  have hl : lv_has ls 3 [(0, .int x), (1, .int lo), (2, .int hi)] := hl
  refine lv_iload_n hx hb dX12_isFrom_0 rfl (lv_at hl 0 rfl) ?_
  refine lv_iload_n hx hb dX12_isFrom_1 rfl (lv_at hl 1 rfl) ?_
  refine lv_icmp_lt (tgt := 14) hx hb dX12_isFrom_2 (by decide) (fun c3 => ?_) (fun c3 => ?_)
  · have c3 := (b_lt (rfl : Int32.toInt x = _) (rfl : Int32.toInt lo = _)).mp c3
    refine lv_iconst (v := 0) hx hb dX12_isFrom_14 (by decide) ?_
    exact W.zret (v := 0) hx hb hr rfl (fun t ht hW => ⟨0, rfl, Or.inr ⟨rfl, by first | assumption | omega | rfl | (congr 1; omega)⟩, ht⟩) (fun _ h => absurd h List.not_mem_nil) dX12_isFrom_15
  · have c3 := mt (b_lt (rfl : Int32.toInt x = _) (rfl : Int32.toInt lo = _)).mpr c3
    refine lv_iload_n hx hb dX12_isFrom_5 rfl (lv_at hl 0 rfl) ?_
    refine lv_iload_n hx hb dX12_isFrom_6 rfl (lv_at hl 2 rfl) ?_
    refine lv_icmp_gt (tgt := 14) hx hb dX12_isFrom_7 (by decide) (fun c4 => ?_) (fun c4 => ?_)
    · have c4 := (b_lt (rfl : Int32.toInt hi = _) (rfl : Int32.toInt x = _)).mp c4
      refine lv_iconst (v := 0) hx hb dX12_isFrom_14 (by decide) ?_
      exact W.zret (v := 0) hx hb hr rfl (fun t ht hW => ⟨0, rfl, Or.inr ⟨rfl, by first | assumption | omega | rfl | (congr 1; omega)⟩, ht⟩) (fun _ h => absurd h List.not_mem_nil) dX12_isFrom_15
    · have c4 := mt (b_lt (rfl : Int32.toInt hi = _) (rfl : Int32.toInt x = _)).mpr c4
      refine lv_iconst (v := 1) hx hb dX12_isFrom_10 (by decide) ?_
      refine lv_goto (tgt := 15) hx hb dX12_isFrom_11 (by decide) ?_
      exact W.zret (v := 1) hx hb hr rfl (fun t ht hW => ⟨1, rfl, Or.inl ⟨rfl, by first | assumption | omega | rfl | (congr 1; omega)⟩, ht⟩) (fun _ h => absurd h List.not_mem_nil) dX12_isFrom_15

set_option maxHeartbeats 4000000 in
set_option maxRecDepth 100000 in
theorem r_X12_of (l : Launch) (dC : Nat → ClassId) (dI : Nat → Nat → Nat) (sz : Nat) (cs : Nat → ClassId) (b : Nat → Nat) (u : RS) (a : Nat → Int32) (hA1 : rA u 1 = a) (k : Nat) (hp0 : k < 7202) : Met l yX12_of [.code yX12_of cX12_of 2 (some .int)] ({ frames := 0, cells := 0, slots := 0, locals := 0 }) (PR [.ref (b 0), .int (nI k)] sz dC dI cs b u) (vp_Si (fun (r : Int32) => r = a k)) 0 0 (fun _ => False) := by
  refine Met.ofW (cc := cX12_of) (maxL := 2) (ret := (some .int)) (by decide) rfl ?_
  intro p e s m args below meth c s₁ B hml hv
  obtain ⟨rfl, hsz, hP, hK, hJ, hE⟩ := hv
  have hx := B.exec
  have hb := B.bytes
  have hr := B.returns
  have hown : s.vm.findClass RX12 = some m.cls := findClass_of_methodNamed B.named
  have hlocks := B.notSynchronized
  subst hsz
  have hl := lv_entry ([.ref (b 0), .int (nI k)]) (n := 2) (Nat.le_of_ble_eq_true rfl)
  rw [lg_entry_eq]
  generalize (lg_sl ([.ref (b 0), .int (nI k)]) ++ List.replicate (2 - (lg_sl ([.ref (b 0), .int (nI k)])).length) Slot.unset).toArray = ls at hl ⊢
  have hl : lv_has ls 2 [(0, .ref (b 0)), (1, .int (nI k))] := hl
  refine lv_aload_n hx hb dX12_of_0 rfl (lv_at hl 0 rfl) ?_
  refine r_get (v := .ref (b 1)) hx hb (ly_X12 hE) hown hK hP rfl 0 (by decide) (wd_1381 hE) (fun _ h9 => h9) rfl dX12_of_1 ?_
  refine lv_iload_n hx hb dX12_of_4 rfl (lv_at hl 1 rfl) ?_
  refine r_iald (j := 1) (k := k) (n := 7202) (x := a k) hx hb hK hP (by decide) rfl (by omega) (by decide) (by rw [hA1]) dX12_of_5 ?_
  refine lv_topi (fun x3 ex3 => ?_)
  exact W.iret (v := x3) hx hb hr (fun t ht hW => ⟨x3, rfl, (by first | rfl | omega | (congr 1; omega) | assumption), ht⟩) (fun _ h => absurd h List.not_mem_nil) dX12_of_6

set_option maxHeartbeats 4000000 in
set_option maxRecDepth 100000 in
theorem r_X12_isVertex (l : Launch) (dC : Nat → ClassId) (dI : Nat → Nat → Nat) (sz : Nat) (cs : Nat → ClassId) (b : Nat → Nat) (u : RS) (a : Nat → Int32) (hA1 : rA u 1 = a) (x : Int32) (hp0 : GG a) : Met l yX12_isVertex [.code yX12_isVertex cX12_isVertex 2 (some .boolean)] ({ frames := 1, cells := 0, slots := 0, locals := 40 }) (PR [.ref (b 0), .int x] sz dC dI cs b u) (vp_Si (fun (r : Int32) => (r = 1 ∧ (∃ n : Nat, x = nI n ∧ n < vN a)) ∨ (r = 0 ∧ (True)))) 0 0 (fun _ => False) := by
  refine Met.ofW (cc := cX12_isVertex) (maxL := 2) (ret := (some .boolean)) (by decide) rfl ?_
  intro p e s m args below meth c s₁ B hml hv
  obtain ⟨rfl, hsz, hP, hK, hJ, hE⟩ := hv
  have hx := B.exec
  have hb := B.bytes
  have hr := B.returns
  have hown : s.vm.findClass RX12 = some m.cls := findClass_of_methodNamed B.named
  have hlocks := B.notSynchronized
  subst hsz
  have hl := lv_entry ([.ref (b 0), .int x]) (n := 2) (Nat.le_of_ble_eq_true rfl)
  rw [lg_entry_eq]
  generalize (lg_sl ([.ref (b 0), .int x]) ++ List.replicate (2 - (lg_sl ([.ref (b 0), .int x])).length) Slot.unset).toArray = ls at hl ⊢
  have hl : lv_has ls 2 [(0, .ref (b 0)), (1, .int x)] := hl
  have hG := hp0
  have ha1 := gg_le hp0
  refine lv_iload_n hx hb dX12_isVertex_0 rfl (lv_at hl 1 rfl) ?_
  refine lv_if_lt (tgt := 17) hx hb dX12_isVertex_1 (by decide) (fun c2 => ?_) (fun c2 => ?_)
  · have c2 := (b_lt (rfl : Int32.toInt x = _) (show Int32.toInt 0 = 0 from rfl)).mp c2
    refine lv_iconst (v := 0) hx hb dX12_isVertex_17 (by decide) ?_
    exact W.zret (v := 0) hx hb hr rfl (fun t ht hW => ⟨0, rfl, Or.inr ⟨rfl, by trivial⟩, ht⟩) (fun _ h => absurd h List.not_mem_nil) dX12_isVertex_18
  · have c2 := mt (b_lt (rfl : Int32.toInt x = _) (show Int32.toInt 0 = 0 from rfl)).mpr c2
    refine lv_iload_n hx hb dX12_isVertex_4 rfl (lv_at hl 1 rfl) ?_
    refine lv_aload_n hx hb dX12_isVertex_5 rfl (lv_at hl 0 rfl) ?_
    refine lv_iconst (v := 0) hx hb dX12_isVertex_6 (by decide) ?_
    refine vp_callSi (va_Run.run (va_runV (As := [.int (nI 0)]) (rest := [.int x]) ⟨hx, hb, hml, hown, noTs⟩ (r_X12_of l dC dI s.heap.size cs b u a hA1 0 (by first | assumption | omega | rfl | (congr 1; omega))) ⟨cbE 1 (wd_1536 hE) (wd_126 hE) (wd_1533 hE) rfl rfl (by decide +kernel) ⟨Nat.le_of_ble_eq_true rfl, Nat.le_of_ble_eq_true rfl⟩, (wd_1535 hE), (wd_61 hE)⟩ ⟨PR.blind, r_recv hK hP rfl, (r_pre (av := [.ref (b 0), .int (nI 0)]) hK hP hJ hE)⟩ rfl rfl hl.1 rfl (lv_room (Nat.le_of_ble_eq_true rfl)) dX12_isVertex_7 ⟨Nat.le_of_ble_eq_true rfl, Nat.le_of_ble_eq_true rfl⟩)) (fun r3 hr3 => ?_)
    have hr3 := hr3.trans (gg_v hG)
    subst hr3
    refine lv_icmp_ge (tgt := 17) hx hb dX12_isVertex_10 (by decide) (fun c4 => ?_) (fun c4 => ?_)
    · have c4 := (b_le (nI_toInt (n := vN a) (by omega)) (rfl : Int32.toInt x = _)).mp c4
      refine lv_iconst (v := 0) hx hb dX12_isVertex_17 (by decide) ?_
      exact W.zret (v := 0) hx hb hr rfl (fun t ht hW => ⟨0, rfl, Or.inr ⟨rfl, by trivial⟩, ht⟩) (fun _ h => absurd h List.not_mem_nil) dX12_isVertex_18
    · have c4 := mt (b_le (nI_toInt (n := vN a) (by omega)) (rfl : Int32.toInt x = _)).mpr c4
      refine lv_iconst (v := 1) hx hb dX12_isVertex_13 (by decide) ?_
      refine lv_goto (tgt := 18) hx hb dX12_isVertex_14 (by decide) ?_
      exact W.zret (v := 1) hx hb hr rfl (fun t ht hW => ⟨1, rfl, Or.inl ⟨rfl, by exact z_ex (by omega) (by omega)⟩, ht⟩) (fun _ h => absurd h List.not_mem_nil) dX12_isVertex_18

set_option maxHeartbeats 4000000 in
set_option maxRecDepth 100000 in
theorem r_X12_isEdge (l : Launch) (dC : Nat → ClassId) (dI : Nat → Nat → Nat) (sz : Nat) (cs : Nat → ClassId) (b : Nat → Nat) (u : RS) (a : Nat → Int32) (hA1 : rA u 1 = a) (x : Int32) (hp0 : GG a) : Met l yX12_isEdge [.code yX12_isEdge cX12_isEdge 2 (some .boolean)] ({ frames := 1, cells := 0, slots := 0, locals := 40 }) (PR [.ref (b 0), .int x] sz dC dI cs b u) (vp_Si (fun (r : Int32) => (r = 1 ∧ (∃ n : Nat, x = nI n ∧ n < eN a)) ∨ (r = 0 ∧ (True)))) 0 0 (fun _ => False) := by
  refine Met.ofW (cc := cX12_isEdge) (maxL := 2) (ret := (some .boolean)) (by decide) rfl ?_
  intro p e s m args below meth c s₁ B hml hv
  obtain ⟨rfl, hsz, hP, hK, hJ, hE⟩ := hv
  have hx := B.exec
  have hb := B.bytes
  have hr := B.returns
  have hown : s.vm.findClass RX12 = some m.cls := findClass_of_methodNamed B.named
  have hlocks := B.notSynchronized
  subst hsz
  have hl := lv_entry ([.ref (b 0), .int x]) (n := 2) (Nat.le_of_ble_eq_true rfl)
  rw [lg_entry_eq]
  generalize (lg_sl ([.ref (b 0), .int x]) ++ List.replicate (2 - (lg_sl ([.ref (b 0), .int x])).length) Slot.unset).toArray = ls at hl ⊢
  have hl : lv_has ls 2 [(0, .ref (b 0)), (1, .int x)] := hl
  have hG := hp0
  have ha1 := gg_le hp0
  refine lv_iload_n hx hb dX12_isEdge_0 rfl (lv_at hl 1 rfl) ?_
  refine lv_if_lt (tgt := 17) hx hb dX12_isEdge_1 (by decide) (fun c2 => ?_) (fun c2 => ?_)
  · have c2 := (b_lt (rfl : Int32.toInt x = _) (show Int32.toInt 0 = 0 from rfl)).mp c2
    refine lv_iconst (v := 0) hx hb dX12_isEdge_17 (by decide) ?_
    exact W.zret (v := 0) hx hb hr rfl (fun t ht hW => ⟨0, rfl, Or.inr ⟨rfl, by trivial⟩, ht⟩) (fun _ h => absurd h List.not_mem_nil) dX12_isEdge_18
  · have c2 := mt (b_lt (rfl : Int32.toInt x = _) (show Int32.toInt 0 = 0 from rfl)).mpr c2
    refine lv_iload_n hx hb dX12_isEdge_4 rfl (lv_at hl 1 rfl) ?_
    refine lv_aload_n hx hb dX12_isEdge_5 rfl (lv_at hl 0 rfl) ?_
    refine lv_iconst (v := 1) hx hb dX12_isEdge_6 (by decide) ?_
    refine vp_callSi (va_Run.run (va_runV (As := [.int (nI 1)]) (rest := [.int x]) ⟨hx, hb, hml, hown, noTs⟩ (r_X12_of l dC dI s.heap.size cs b u a hA1 1 (by first | assumption | omega | rfl | (congr 1; omega))) ⟨cbE 1 (wd_1536 hE) (wd_126 hE) (wd_1533 hE) rfl rfl (by decide +kernel) ⟨Nat.le_of_ble_eq_true rfl, Nat.le_of_ble_eq_true rfl⟩, (wd_1535 hE), (wd_61 hE)⟩ ⟨PR.blind, r_recv hK hP rfl, (r_pre (av := [.ref (b 0), .int (nI 1)]) hK hP hJ hE)⟩ rfl rfl hl.1 rfl (lv_room (Nat.le_of_ble_eq_true rfl)) dX12_isEdge_7 ⟨Nat.le_of_ble_eq_true rfl, Nat.le_of_ble_eq_true rfl⟩)) (fun r3 hr3 => ?_)
    have hr3 := hr3.trans (gg_e hG)
    subst hr3
    refine lv_icmp_ge (tgt := 17) hx hb dX12_isEdge_10 (by decide) (fun c4 => ?_) (fun c4 => ?_)
    · have c4 := (b_le (nI_toInt (n := eN a) (by omega)) (rfl : Int32.toInt x = _)).mp c4
      refine lv_iconst (v := 0) hx hb dX12_isEdge_17 (by decide) ?_
      exact W.zret (v := 0) hx hb hr rfl (fun t ht hW => ⟨0, rfl, Or.inr ⟨rfl, by trivial⟩, ht⟩) (fun _ h => absurd h List.not_mem_nil) dX12_isEdge_18
    · have c4 := mt (b_le (nI_toInt (n := eN a) (by omega)) (rfl : Int32.toInt x = _)).mpr c4
      refine lv_iconst (v := 1) hx hb dX12_isEdge_13 (by decide) ?_
      refine lv_goto (tgt := 18) hx hb dX12_isEdge_14 (by decide) ?_
      exact W.zret (v := 1) hx hb hr rfl (fun t ht hW => ⟨1, rfl, Or.inl ⟨rfl, by exact z_ex (by omega) (by omega)⟩, ht⟩) (fun _ h => absurd h List.not_mem_nil) dX12_isEdge_18

set_option maxHeartbeats 4000000 in
set_option maxRecDepth 100000 in
theorem r_X12_isWord (l : Launch) (dC : Nat → ClassId) (dI : Nat → Nat → Nat) (sz : Nat) (cs : Nat → ClassId) (b : Nat → Nat) (u : RS) (a : Nat → Int32) (hA1 : rA u 1 = a) (x : Int32) (hp0 : BG a) : Met l yX12_isWord [.code yX12_isWord cX12_isWord 2 (some .boolean)] ({ frames := 1, cells := 0, slots := 0, locals := 40 }) (PR [.ref (b 0), .int x] sz dC dI cs b u) (vp_Si (fun (r : Int32) => (r = 1 ∧ (∃ n : Nat, x = nI n ∧ n < wN a)) ∨ (r = 0 ∧ (True)))) 0 0 (fun _ => False) := by
  refine Met.ofW (cc := cX12_isWord) (maxL := 2) (ret := (some .boolean)) (by decide) rfl ?_
  intro p e s m args below meth c s₁ B hml hv
  obtain ⟨rfl, hsz, hP, hK, hJ, hE⟩ := hv
  have hx := B.exec
  have hb := B.bytes
  have hr := B.returns
  have hown : s.vm.findClass RX12 = some m.cls := findClass_of_methodNamed B.named
  have hlocks := B.notSynchronized
  subst hsz
  have hl := lv_entry ([.ref (b 0), .int x]) (n := 2) (Nat.le_of_ble_eq_true rfl)
  rw [lg_entry_eq]
  generalize (lg_sl ([.ref (b 0), .int x]) ++ List.replicate (2 - (lg_sl ([.ref (b 0), .int x])).length) Slot.unset).toArray = ls at hl ⊢
  have hl : lv_has ls 2 [(0, .ref (b 0)), (1, .int x)] := hl
  have hB := hp0
  have hG := bg_g hp0
  have ha1 := gg_le hG
  have ha1b := bg_w hp0
  refine lv_iload_n hx hb dX12_isWord_0 rfl (lv_at hl 1 rfl) ?_
  refine lv_if_lt (tgt := 17) hx hb dX12_isWord_1 (by decide) (fun c2 => ?_) (fun c2 => ?_)
  · have c2 := (b_lt (rfl : Int32.toInt x = _) (show Int32.toInt 0 = 0 from rfl)).mp c2
    refine lv_iconst (v := 0) hx hb dX12_isWord_17 (by decide) ?_
    exact W.zret (v := 0) hx hb hr rfl (fun t ht hW => ⟨0, rfl, Or.inr ⟨rfl, by trivial⟩, ht⟩) (fun _ h => absurd h List.not_mem_nil) dX12_isWord_18
  · have c2 := mt (b_lt (rfl : Int32.toInt x = _) (show Int32.toInt 0 = 0 from rfl)).mpr c2
    refine lv_iload_n hx hb dX12_isWord_4 rfl (lv_at hl 1 rfl) ?_
    refine lv_aload_n hx hb dX12_isWord_5 rfl (lv_at hl 0 rfl) ?_
    refine lv_iconst (v := 2) hx hb dX12_isWord_6 (by decide) ?_
    refine vp_callSi (va_Run.run (va_runV (As := [.int (nI 2)]) (rest := [.int x]) ⟨hx, hb, hml, hown, noTs⟩ (r_X12_of l dC dI s.heap.size cs b u a hA1 2 (by first | assumption | omega | rfl | (congr 1; omega))) ⟨cbE 1 (wd_1536 hE) (wd_126 hE) (wd_1533 hE) rfl rfl (by decide +kernel) ⟨Nat.le_of_ble_eq_true rfl, Nat.le_of_ble_eq_true rfl⟩, (wd_1535 hE), (wd_61 hE)⟩ ⟨PR.blind, r_recv hK hP rfl, (r_pre (av := [.ref (b 0), .int (nI 2)]) hK hP hJ hE)⟩ rfl rfl hl.1 rfl (lv_room (Nat.le_of_ble_eq_true rfl)) dX12_isWord_7 ⟨Nat.le_of_ble_eq_true rfl, Nat.le_of_ble_eq_true rfl⟩)) (fun r3 hr3 => ?_)
    have hr3 := hr3.trans ((bg_w hB).1)
    subst hr3
    refine lv_icmp_ge (tgt := 17) hx hb dX12_isWord_10 (by decide) (fun c4 => ?_) (fun c4 => ?_)
    · have c4 := (b_le (nI_toInt (n := wN a) (by omega)) (rfl : Int32.toInt x = _)).mp c4
      refine lv_iconst (v := 0) hx hb dX12_isWord_17 (by decide) ?_
      exact W.zret (v := 0) hx hb hr rfl (fun t ht hW => ⟨0, rfl, Or.inr ⟨rfl, by trivial⟩, ht⟩) (fun _ h => absurd h List.not_mem_nil) dX12_isWord_18
    · have c4 := mt (b_le (nI_toInt (n := wN a) (by omega)) (rfl : Int32.toInt x = _)).mpr c4
      refine lv_iconst (v := 1) hx hb dX12_isWord_13 (by decide) ?_
      refine lv_goto (tgt := 18) hx hb dX12_isWord_14 (by decide) ?_
      exact W.zret (v := 1) hx hb hr rfl (fun t ht hW => ⟨1, rfl, Or.inl ⟨rfl, by exact z_ex (by omega) (by omega)⟩, ht⟩) (fun _ h => absurd h List.not_mem_nil) dX12_isWord_18

set_option maxHeartbeats 4000000 in
set_option maxRecDepth 100000 in
theorem r_X12_orderAt (l : Launch) (dC : Nat → ClassId) (dI : Nat → Nat → Nat) (sz : Nat) (cs : Nat → ClassId) (b : Nat → Nat) (u : RS) (a : Nat → Int32) (hA1 : rA u 1 = a) (v : Nat) (hp0 : GG a) (hp1 : v < vN a) : Met l yX12_orderAt [.code yX12_orderAt cX12_orderAt 2 (some .int)] ({ frames := 1, cells := 0, slots := 0, locals := 40 }) (PR [.ref (b 0), .int (nI v)] sz dC dI cs b u) (vp_Si (fun (r : Int32) => r = nI (od a v))) 0 0 (fun _ => False) := by
  refine Met.ofW (cc := cX12_orderAt) (maxL := 2) (ret := (some .int)) (by decide) rfl ?_
  intro p e s m args below meth c s₁ B hml hv
  obtain ⟨rfl, hsz, hP, hK, hJ, hE⟩ := hv
  have hx := B.exec
  have hb := B.bytes
  have hr := B.returns
  have hown : s.vm.findClass RX12 = some m.cls := findClass_of_methodNamed B.named
  have hlocks := B.notSynchronized
  subst hsz
  have hl := lv_entry ([.ref (b 0), .int (nI v)]) (n := 2) (Nat.le_of_ble_eq_true rfl)
  rw [lg_entry_eq]
  generalize (lg_sl ([.ref (b 0), .int (nI v)]) ++ List.replicate (2 - (lg_sl ([.ref (b 0), .int (nI v)])).length) Slot.unset).toArray = ls at hl ⊢
  have hl : lv_has ls 2 [(0, .ref (b 0)), (1, .int (nI v))] := hl
  have hG := hp0
  have ha1 := gg_le hp0
  refine lv_aload_n hx hb dX12_orderAt_0 rfl (lv_at hl 0 rfl) ?_
  refine lv_iconst (v := 4) hx hb dX12_orderAt_1 (by decide) ?_
  refine lv_iload_n hx hb dX12_orderAt_2 rfl (lv_at hl 1 rfl) ?_
  refine lv_iadd hx hb dX12_orderAt_3 ?_
  refine W.eq (g2 := F0 m 4 ls [.int (nI (4 + v)), .ref (b 0)]) (congrArg (fun z : Int32 => F0 m 4 ls (.int z :: [.ref (b 0)])) (nI_add 4 v)) ?_
  refine vp_callSi (va_Run.run (va_runV (As := [.int (nI (4 + v))]) (rest := []) ⟨hx, hb, hml, hown, noTs⟩ (r_X12_of l dC dI s.heap.size cs b u a hA1 (4 + v) (by first | assumption | omega | rfl | (congr 1; omega))) ⟨cbE 1 (wd_1536 hE) (wd_126 hE) (wd_1533 hE) rfl rfl (by decide +kernel) ⟨Nat.le_of_ble_eq_true rfl, Nat.le_of_ble_eq_true rfl⟩, (wd_1535 hE), (wd_61 hE)⟩ ⟨PR.blind, r_recv hK hP rfl, (r_pre (av := [.ref (b 0), .int (nI (4 + v))]) hK hP hJ hE)⟩ rfl rfl hl.1 rfl (lv_room (Nat.le_of_ble_eq_true rfl)) dX12_orderAt_4 ⟨Nat.le_of_ble_eq_true rfl, Nat.le_of_ble_eq_true rfl⟩)) (fun r3 hr3 => ?_)
  have hr3 := hr3.trans ((gg_od hG hp1).1)
  subst hr3
  exact W.iret (v := nI (od a v)) hx hb hr (fun t ht hW => ⟨nI (od a v), rfl, (by first | rfl | omega | (congr 1; omega) | assumption), ht⟩) (fun _ h => absurd h List.not_mem_nil) dX12_orderAt_7

set_option maxHeartbeats 4000000 in
set_option maxRecDepth 100000 in
theorem r_X12_ofEdge (l : Launch) (dC : Nat → ClassId) (dI : Nat → Nat → Nat) (sz : Nat) (cs : Nat → ClassId) (b : Nat → Nat) (u : RS) (a : Nat → Int32) (hA1 : rA u 1 = a) (eg : Nat) (k : Nat) (hp0 : GG a) (hp1 : eg < eN a) (hp2 : k < 4) : Met l yX12_ofEdge [.code yX12_ofEdge cX12_ofEdge 3 (some .int)] ({ frames := 1, cells := 0, slots := 0, locals := 40 }) (PR [.ref (b 0), .int (nI eg), .int (nI k)] sz dC dI cs b u) (vp_Si (fun (r : Int32) => r = nI (ev a eg k))) 0 0 (fun _ => False) := by
  refine Met.ofW (cc := cX12_ofEdge) (maxL := 3) (ret := (some .int)) (by decide) rfl ?_
  intro p e s m args below meth c s₁ B hml hv
  obtain ⟨rfl, hsz, hP, hK, hJ, hE⟩ := hv
  have hx := B.exec
  have hb := B.bytes
  have hr := B.returns
  have hown : s.vm.findClass RX12 = some m.cls := findClass_of_methodNamed B.named
  have hlocks := B.notSynchronized
  subst hsz
  have hl := lv_entry ([.ref (b 0), .int (nI eg), .int (nI k)]) (n := 3) (Nat.le_of_ble_eq_true rfl)
  rw [lg_entry_eq]
  generalize (lg_sl ([.ref (b 0), .int (nI eg), .int (nI k)]) ++ List.replicate (3 - (lg_sl ([.ref (b 0), .int (nI eg), .int (nI k)])).length) Slot.unset).toArray = ls at hl ⊢
  have hl : lv_has ls 3 [(0, .ref (b 0)), (1, .int (nI eg)), (2, .int (nI k))] := hl
  have hG := hp0
  have ha1 := gg_le hp0
  refine lv_aload_n hx hb dX12_ofEdge_0 rfl (lv_at hl 0 rfl) ?_
  refine lv_bipush (v := 10) hx hb dX12_ofEdge_1 (by decide) ?_
  refine lv_iconst (v := 4) hx hb dX12_ofEdge_3 (by decide) ?_
  refine lv_iload_n hx hb dX12_ofEdge_4 rfl (lv_at hl 1 rfl) ?_
  refine lv_imul hx hb dX12_ofEdge_5 ?_
  refine W.eq (g2 := F0 m 6 ls [.int (nI (4 * eg)), .int 10, .ref (b 0)]) (congrArg (fun z : Int32 => F0 m 6 ls (.int z :: [.int 10, .ref (b 0)])) (pk_mul 4 eg)) ?_
  refine lv_iadd hx hb dX12_ofEdge_6 ?_
  refine W.eq (g2 := F0 m 7 ls [.int (nI (10 + (4 * eg))), .ref (b 0)]) (congrArg (fun z : Int32 => F0 m 7 ls (.int z :: [.ref (b 0)])) (nI_add 10 (4 * eg))) ?_
  refine lv_iload_n hx hb dX12_ofEdge_7 rfl (lv_at hl 2 rfl) ?_
  refine lv_iadd hx hb dX12_ofEdge_8 ?_
  refine W.eq (g2 := F0 m 9 ls [.int (nI ((10 + (4 * eg)) + k)), .ref (b 0)]) (congrArg (fun z : Int32 => F0 m 9 ls (.int z :: [.ref (b 0)])) (nI_add (10 + (4 * eg)) k)) ?_
  refine vp_callSi (va_Run.run (va_runV (As := [.int (nI ((10 + (4 * eg)) + k))]) (rest := []) ⟨hx, hb, hml, hown, noTs⟩ (r_X12_of l dC dI s.heap.size cs b u a hA1 ((10 + (4 * eg)) + k) (by first | assumption | omega | rfl | (congr 1; omega))) ⟨cbE 1 (wd_1536 hE) (wd_126 hE) (wd_1533 hE) rfl rfl (by decide +kernel) ⟨Nat.le_of_ble_eq_true rfl, Nat.le_of_ble_eq_true rfl⟩, (wd_1535 hE), (wd_61 hE)⟩ ⟨PR.blind, r_recv hK hP rfl, (r_pre (av := [.ref (b 0), .int (nI ((10 + (4 * eg)) + k))]) hK hP hJ hE)⟩ rfl rfl hl.1 rfl (lv_room (Nat.le_of_ble_eq_true rfl)) dX12_ofEdge_9 ⟨Nat.le_of_ble_eq_true rfl, Nat.le_of_ble_eq_true rfl⟩)) (fun r4 hr4 => ?_)
  have hr4 := hr4.trans (gg_ev hG hp1 hp2)
  subst hr4
  exact W.iret (v := nI (ev a eg k)) hx hb hr (fun t ht hW => ⟨nI (ev a eg k), rfl, (by first | rfl | omega | (congr 1; omega) | assumption), ht⟩) (fun _ h => absurd h List.not_mem_nil) dX12_ofEdge_12

set_option maxHeartbeats 4000000 in
set_option maxRecDepth 100000 in
theorem r_X12_from (l : Launch) (dC : Nat → ClassId) (dI : Nat → Nat → Nat) (sz : Nat) (cs : Nat → ClassId) (b : Nat → Nat) (u : RS) (a : Nat → Int32) (hA1 : rA u 1 = a) (sx : Nat) (hp0 : GG a) (hp1 : sx < 2 * eN a) : Met l yX12_from [.code yX12_from cX12_from 2 (some .int)] ({ frames := 2, cells := 0, slots := 0, locals := 80 }) (PR [.ref (b 0), .int (nI sx)] sz dC dI cs b u) (vp_Si (fun (r : Int32) => r = nI (src a sx))) 0 0 (fun _ => False) := by
  refine Met.ofW (cc := cX12_from) (maxL := 2) (ret := (some .int)) (by decide) rfl ?_
  intro p e s m args below meth c s₁ B hml hv
  obtain ⟨rfl, hsz, hP, hK, hJ, hE⟩ := hv
  have hx := B.exec
  have hb := B.bytes
  have hr := B.returns
  have hown : s.vm.findClass RX12 = some m.cls := findClass_of_methodNamed B.named
  have hlocks := B.notSynchronized
  subst hsz
  have hl := lv_entry ([.ref (b 0), .int (nI sx)]) (n := 2) (Nat.le_of_ble_eq_true rfl)
  rw [lg_entry_eq]
  generalize (lg_sl ([.ref (b 0), .int (nI sx)]) ++ List.replicate (2 - (lg_sl ([.ref (b 0), .int (nI sx)])).length) Slot.unset).toArray = ls at hl ⊢
  have hl : lv_has ls 2 [(0, .ref (b 0)), (1, .int (nI sx))] := hl
  have hG := hp0
  have ha1 := gg_le hp0
  refine lv_aload_n hx hb dX12_from_0 rfl (lv_at hl 0 rfl) ?_
  refine lv_iload_n hx hb dX12_from_1 rfl (lv_at hl 1 rfl) ?_
  refine lv_iconst (v := 2) hx hb dX12_from_2 (by decide) ?_
  refine lv_idiv hx hb dX12_from_3 (by decide) ?_
  refine W.eq (g2 := F0 m 4 ls [.int (nI (sx / 2)), .ref (b 0)]) (congrArg (fun z : Int32 => F0 m 4 ls (.int z :: [.ref (b 0)])) (pk_div (a := sx) (d := 2) (by omega) (by omega) (by omega))) ?_
  refine lv_iload_n hx hb dX12_from_4 rfl (lv_at hl 1 rfl) ?_
  refine lv_iconst (v := 2) hx hb dX12_from_5 (by decide) ?_
  refine lv_irem hx hb dX12_from_6 (by decide) ?_
  refine W.eq (g2 := F0 m 7 ls [.int (nI (sx % 2)), .int (nI (sx / 2)), .ref (b 0)]) (congrArg (fun z : Int32 => F0 m 7 ls (.int z :: [.int (nI (sx / 2)), .ref (b 0)])) (pk_rem (a := sx) (d := 2) (by omega) (by omega) (by omega))) ?_
  refine lv_if_ne (tgt := 14) hx hb dX12_from_7 (by decide) (fun c3 => ?_) (fun c3 => ?_)
  · have c3 := mt (b_eq (nI_toInt (n := sx % 2) (by omega)) (show Int32.toInt 0 = 0 from rfl)).mpr c3
    refine lv_iconst (v := 2) hx hb dX12_from_14 (by decide) ?_
    refine vp_callSi (va_Run.run (va_runV (As := [.int (nI (sx / 2)), .int (nI 2)]) (rest := []) ⟨hx, hb, hml, hown, noTs⟩ (r_X12_ofEdge l dC dI s.heap.size cs b u a hA1 (sx / 2) 2 (by first | assumption | omega | rfl | (congr 1; omega)) (by first | assumption | omega | rfl | (congr 1; omega)) (by first | assumption | omega | rfl | (congr 1; omega))) ⟨cbE 2 (wd_1595 hE) (wd_126 hE) (wd_1592 hE) rfl rfl (by decide +kernel) ⟨Nat.le_of_ble_eq_true rfl, Nat.le_of_ble_eq_true rfl⟩, (wd_1594 hE), (wd_75 hE)⟩ ⟨PR.blind, r_recv hK hP rfl, (r_pre (av := [.ref (b 0), .int (nI (sx / 2)), .int (nI 2)]) hK hP hJ hE)⟩ rfl rfl hl.1 rfl (lv_room (Nat.le_of_ble_eq_true rfl)) dX12_from_15 ⟨Nat.le_of_ble_eq_true rfl, Nat.le_of_ble_eq_true rfl⟩)) (fun r4 hr4 => ?_)
    subst hr4
    exact W.iret (v := nI (ev a (sx / 2) 2)) hx hb hr (fun t ht hW => ⟨nI (ev a (sx / 2) 2), rfl, (by congr 1; unfold src; split <;> first | rfl | omega), ht⟩) (fun _ h => absurd h List.not_mem_nil) dX12_from_18
  · have c3 := (b_eq (nI_toInt (n := sx % 2) (by omega)) (show Int32.toInt 0 = 0 from rfl)).mp c3
    refine lv_iconst (v := 0) hx hb dX12_from_10 (by decide) ?_
    refine lv_goto (tgt := 15) hx hb dX12_from_11 (by decide) ?_
    refine vp_callSi (va_Run.run (va_runV (As := [.int (nI (sx / 2)), .int (nI 0)]) (rest := []) ⟨hx, hb, hml, hown, noTs⟩ (r_X12_ofEdge l dC dI s.heap.size cs b u a hA1 (sx / 2) 0 (by first | assumption | omega | rfl | (congr 1; omega)) (by first | assumption | omega | rfl | (congr 1; omega)) (by first | assumption | omega | rfl | (congr 1; omega))) ⟨cbE 2 (wd_1595 hE) (wd_126 hE) (wd_1592 hE) rfl rfl (by decide +kernel) ⟨Nat.le_of_ble_eq_true rfl, Nat.le_of_ble_eq_true rfl⟩, (wd_1594 hE), (wd_75 hE)⟩ ⟨PR.blind, r_recv hK hP rfl, (r_pre (av := [.ref (b 0), .int (nI (sx / 2)), .int (nI 0)]) hK hP hJ hE)⟩ rfl rfl hl.1 rfl (lv_room (Nat.le_of_ble_eq_true rfl)) dX12_from_15 ⟨Nat.le_of_ble_eq_true rfl, Nat.le_of_ble_eq_true rfl⟩)) (fun r5 hr5 => ?_)
    subst hr5
    exact W.iret (v := nI (ev a (sx / 2) 0)) hx hb hr (fun t ht hW => ⟨nI (ev a (sx / 2) 0), rfl, (by congr 1; unfold src; split <;> first | rfl | omega), ht⟩) (fun _ h => absurd h List.not_mem_nil) dX12_from_18

set_option maxHeartbeats 4000000 in
set_option maxRecDepth 100000 in
theorem r_X12_by (l : Launch) (dC : Nat → ClassId) (dI : Nat → Nat → Nat) (sz : Nat) (cs : Nat → ClassId) (b : Nat → Nat) (u : RS) (a : Nat → Int32) (hA1 : rA u 1 = a) (sx : Nat) (hp0 : GG a) (hp1 : sx < 2 * eN a) : Met l yX12_by [.code yX12_by cX12_by 2 (some .int)] ({ frames := 2, cells := 0, slots := 0, locals := 80 }) (PR [.ref (b 0), .int (nI sx)] sz dC dI cs b u) (vp_Si (fun (r : Int32) => r = nI (idx a sx))) 0 0 (fun _ => False) := by
  refine Met.ofW (cc := cX12_by) (maxL := 2) (ret := (some .int)) (by decide) rfl ?_
  intro p e s m args below meth c s₁ B hml hv
  obtain ⟨rfl, hsz, hP, hK, hJ, hE⟩ := hv
  have hx := B.exec
  have hb := B.bytes
  have hr := B.returns
  have hown : s.vm.findClass RX12 = some m.cls := findClass_of_methodNamed B.named
  have hlocks := B.notSynchronized
  subst hsz
  have hl := lv_entry ([.ref (b 0), .int (nI sx)]) (n := 2) (Nat.le_of_ble_eq_true rfl)
  rw [lg_entry_eq]
  generalize (lg_sl ([.ref (b 0), .int (nI sx)]) ++ List.replicate (2 - (lg_sl ([.ref (b 0), .int (nI sx)])).length) Slot.unset).toArray = ls at hl ⊢
  have hl : lv_has ls 2 [(0, .ref (b 0)), (1, .int (nI sx))] := hl
  have hG := hp0
  have ha1 := gg_le hp0
  refine lv_aload_n hx hb dX12_by_0 rfl (lv_at hl 0 rfl) ?_
  refine lv_iload_n hx hb dX12_by_1 rfl (lv_at hl 1 rfl) ?_
  refine lv_iconst (v := 2) hx hb dX12_by_2 (by decide) ?_
  refine lv_idiv hx hb dX12_by_3 (by decide) ?_
  refine W.eq (g2 := F0 m 4 ls [.int (nI (sx / 2)), .ref (b 0)]) (congrArg (fun z : Int32 => F0 m 4 ls (.int z :: [.ref (b 0)])) (pk_div (a := sx) (d := 2) (by omega) (by omega) (by omega))) ?_
  refine lv_iload_n hx hb dX12_by_4 rfl (lv_at hl 1 rfl) ?_
  refine lv_iconst (v := 2) hx hb dX12_by_5 (by decide) ?_
  refine lv_irem hx hb dX12_by_6 (by decide) ?_
  refine W.eq (g2 := F0 m 7 ls [.int (nI (sx % 2)), .int (nI (sx / 2)), .ref (b 0)]) (congrArg (fun z : Int32 => F0 m 7 ls (.int z :: [.int (nI (sx / 2)), .ref (b 0)])) (pk_rem (a := sx) (d := 2) (by omega) (by omega) (by omega))) ?_
  refine lv_if_ne (tgt := 14) hx hb dX12_by_7 (by decide) (fun c3 => ?_) (fun c3 => ?_)
  · have c3 := mt (b_eq (nI_toInt (n := sx % 2) (by omega)) (show Int32.toInt 0 = 0 from rfl)).mpr c3
    refine lv_iconst (v := 3) hx hb dX12_by_14 (by decide) ?_
    refine vp_callSi (va_Run.run (va_runV (As := [.int (nI (sx / 2)), .int (nI 3)]) (rest := []) ⟨hx, hb, hml, hown, noTs⟩ (r_X12_ofEdge l dC dI s.heap.size cs b u a hA1 (sx / 2) 3 (by first | assumption | omega | rfl | (congr 1; omega)) (by first | assumption | omega | rfl | (congr 1; omega)) (by first | assumption | omega | rfl | (congr 1; omega))) ⟨cbE 2 (wd_1595 hE) (wd_126 hE) (wd_1592 hE) rfl rfl (by decide +kernel) ⟨Nat.le_of_ble_eq_true rfl, Nat.le_of_ble_eq_true rfl⟩, (wd_1594 hE), (wd_75 hE)⟩ ⟨PR.blind, r_recv hK hP rfl, (r_pre (av := [.ref (b 0), .int (nI (sx / 2)), .int (nI 3)]) hK hP hJ hE)⟩ rfl rfl hl.1 rfl (lv_room (Nat.le_of_ble_eq_true rfl)) dX12_by_15 ⟨Nat.le_of_ble_eq_true rfl, Nat.le_of_ble_eq_true rfl⟩)) (fun r4 hr4 => ?_)
    subst hr4
    exact W.iret (v := nI (ev a (sx / 2) 3)) hx hb hr (fun t ht hW => ⟨nI (ev a (sx / 2) 3), rfl, (by congr 1; unfold idx; split <;> first | rfl | omega), ht⟩) (fun _ h => absurd h List.not_mem_nil) dX12_by_18
  · have c3 := (b_eq (nI_toInt (n := sx % 2) (by omega)) (show Int32.toInt 0 = 0 from rfl)).mp c3
    refine lv_iconst (v := 1) hx hb dX12_by_10 (by decide) ?_
    refine lv_goto (tgt := 15) hx hb dX12_by_11 (by decide) ?_
    refine vp_callSi (va_Run.run (va_runV (As := [.int (nI (sx / 2)), .int (nI 1)]) (rest := []) ⟨hx, hb, hml, hown, noTs⟩ (r_X12_ofEdge l dC dI s.heap.size cs b u a hA1 (sx / 2) 1 (by first | assumption | omega | rfl | (congr 1; omega)) (by first | assumption | omega | rfl | (congr 1; omega)) (by first | assumption | omega | rfl | (congr 1; omega))) ⟨cbE 2 (wd_1595 hE) (wd_126 hE) (wd_1592 hE) rfl rfl (by decide +kernel) ⟨Nat.le_of_ble_eq_true rfl, Nat.le_of_ble_eq_true rfl⟩, (wd_1594 hE), (wd_75 hE)⟩ ⟨PR.blind, r_recv hK hP rfl, (r_pre (av := [.ref (b 0), .int (nI (sx / 2)), .int (nI 1)]) hK hP hJ hE)⟩ rfl rfl hl.1 rfl (lv_room (Nat.le_of_ble_eq_true rfl)) dX12_by_15 ⟨Nat.le_of_ble_eq_true rfl, Nat.le_of_ble_eq_true rfl⟩)) (fun r5 hr5 => ?_)
    subst hr5
    exact W.iret (v := nI (ev a (sx / 2) 1)) hx hb hr (fun t ht hW => ⟨nI (ev a (sx / 2) 1), rfl, (by congr 1; unfold idx; split <;> first | rfl | omega), ht⟩) (fun _ h => absurd h List.not_mem_nil) dX12_by_18

set_option maxHeartbeats 4000000 in
set_option maxRecDepth 100000 in
theorem r_X12_to (l : Launch) (dC : Nat → ClassId) (dI : Nat → Nat → Nat) (sz : Nat) (cs : Nat → ClassId) (b : Nat → Nat) (u : RS) (a : Nat → Int32) (hA1 : rA u 1 = a) (sx : Nat) (hp0 : GG a) (hp1 : sx < 2 * eN a) : Met l yX12_to [.code yX12_to cX12_to 2 (some .int)] ({ frames := 3, cells := 0, slots := 0, locals := 120 }) (PR [.ref (b 0), .int (nI sx)] sz dC dI cs b u) (vp_Si (fun (r : Int32) => r = nI (dst a sx))) 0 0 (fun _ => False) := by
  refine Met.ofW (cc := cX12_to) (maxL := 2) (ret := (some .int)) (by decide) rfl ?_
  intro p e s m args below meth c s₁ B hml hv
  obtain ⟨rfl, hsz, hP, hK, hJ, hE⟩ := hv
  have hx := B.exec
  have hb := B.bytes
  have hr := B.returns
  have hown : s.vm.findClass RX12 = some m.cls := findClass_of_methodNamed B.named
  have hlocks := B.notSynchronized
  subst hsz
  have hl := lv_entry ([.ref (b 0), .int (nI sx)]) (n := 2) (Nat.le_of_ble_eq_true rfl)
  rw [lg_entry_eq]
  generalize (lg_sl ([.ref (b 0), .int (nI sx)]) ++ List.replicate (2 - (lg_sl ([.ref (b 0), .int (nI sx)])).length) Slot.unset).toArray = ls at hl ⊢
  have hl : lv_has ls 2 [(0, .ref (b 0)), (1, .int (nI sx))] := hl
  have hG := hp0
  have ha1 := gg_le hp0
  refine lv_aload_n hx hb dX12_to_0 rfl (lv_at hl 0 rfl) ?_
  refine lv_iload_n hx hb dX12_to_1 rfl (lv_at hl 1 rfl) ?_
  refine lv_iconst (v := 1) hx hb dX12_to_2 (by decide) ?_
  refine lv_ixor hx hb dX12_to_3 ?_
  refine W.eq (g2 := F0 m 4 ls [.int (nI (fl sx)), .ref (b 0)]) (congrArg (fun z : Int32 => F0 m 4 ls (.int z :: [.ref (b 0)])) (nI_fl (s := sx) (by omega))) ?_
  have hfa3 := fl_half sx
  have hfb3 := fl_mod sx
  refine vp_callSi (va_Run.run (va_runV (As := [.int (nI (fl sx))]) (rest := []) ⟨hx, hb, hml, hown, noTs⟩ (r_X12_from l dC dI s.heap.size cs b u a hA1 (fl sx) (by first | assumption | omega | rfl | (congr 1; omega)) (by exact fl_lt hp1)) ⟨cbE 1 (wd_1591 hE) (wd_126 hE) (wd_1588 hE) rfl rfl (by decide +kernel) ⟨Nat.le_of_ble_eq_true rfl, Nat.le_of_ble_eq_true rfl⟩, (wd_1590 hE), (wd_74 hE)⟩ ⟨PR.blind, r_recv hK hP rfl, (r_pre (av := [.ref (b 0), .int (nI (fl sx))]) hK hP hJ hE)⟩ rfl rfl hl.1 rfl (lv_room (Nat.le_of_ble_eq_true rfl)) dX12_to_4 ⟨Nat.le_of_ble_eq_true rfl, Nat.le_of_ble_eq_true rfl⟩)) (fun r4 hr4 => ?_)
  have hau4 := gg_src (a := a) (s := (fl sx)) (by assumption) (by first | assumption | omega)
  subst hr4
  exact W.iret (v := nI (src a (fl sx))) hx hb hr (fun t ht hW => ⟨nI (src a (fl sx)), rfl, (by rfl), ht⟩) (fun _ h => absurd h List.not_mem_nil) dX12_to_7

set_option maxHeartbeats 4000000 in
set_option maxRecDepth 100000 in
theorem r_X12_into (l : Launch) (dC : Nat → ClassId) (dI : Nat → Nat → Nat) (sz : Nat) (cs : Nat → ClassId) (b : Nat → Nat) (u : RS) (a : Nat → Int32) (hA1 : rA u 1 = a) (sx : Nat) (hp0 : GG a) (hp1 : sx < 2 * eN a) : Met l yX12_into [.code yX12_into cX12_into 2 (some .int)] ({ frames := 3, cells := 0, slots := 0, locals := 120 }) (PR [.ref (b 0), .int (nI sx)] sz dC dI cs b u) (vp_Si (fun (r : Int32) => r = nI (jdx a sx))) 0 0 (fun _ => False) := by
  refine Met.ofW (cc := cX12_into) (maxL := 2) (ret := (some .int)) (by decide) rfl ?_
  intro p e s m args below meth c s₁ B hml hv
  obtain ⟨rfl, hsz, hP, hK, hJ, hE⟩ := hv
  have hx := B.exec
  have hb := B.bytes
  have hr := B.returns
  have hown : s.vm.findClass RX12 = some m.cls := findClass_of_methodNamed B.named
  have hlocks := B.notSynchronized
  subst hsz
  have hl := lv_entry ([.ref (b 0), .int (nI sx)]) (n := 2) (Nat.le_of_ble_eq_true rfl)
  rw [lg_entry_eq]
  generalize (lg_sl ([.ref (b 0), .int (nI sx)]) ++ List.replicate (2 - (lg_sl ([.ref (b 0), .int (nI sx)])).length) Slot.unset).toArray = ls at hl ⊢
  have hl : lv_has ls 2 [(0, .ref (b 0)), (1, .int (nI sx))] := hl
  have hG := hp0
  have ha1 := gg_le hp0
  refine lv_aload_n hx hb dX12_into_0 rfl (lv_at hl 0 rfl) ?_
  refine lv_iload_n hx hb dX12_into_1 rfl (lv_at hl 1 rfl) ?_
  refine lv_iconst (v := 1) hx hb dX12_into_2 (by decide) ?_
  refine lv_ixor hx hb dX12_into_3 ?_
  refine W.eq (g2 := F0 m 4 ls [.int (nI (fl sx)), .ref (b 0)]) (congrArg (fun z : Int32 => F0 m 4 ls (.int z :: [.ref (b 0)])) (nI_fl (s := sx) (by omega))) ?_
  have hfa3 := fl_half sx
  have hfb3 := fl_mod sx
  refine vp_callSi (va_Run.run (va_runV (As := [.int (nI (fl sx))]) (rest := []) ⟨hx, hb, hml, hown, noTs⟩ (r_X12_by l dC dI s.heap.size cs b u a hA1 (fl sx) (by first | assumption | omega | rfl | (congr 1; omega)) (by exact fl_lt hp1)) ⟨cbE 1 (wd_1668 hE) (wd_126 hE) (wd_1665 hE) rfl rfl (by decide +kernel) ⟨Nat.le_of_ble_eq_true rfl, Nat.le_of_ble_eq_true rfl⟩, (wd_1667 hE), (wd_86 hE)⟩ ⟨PR.blind, r_recv hK hP rfl, (r_pre (av := [.ref (b 0), .int (nI (fl sx))]) hK hP hJ hE)⟩ rfl rfl hl.1 rfl (lv_room (Nat.le_of_ble_eq_true rfl)) dX12_into_4 ⟨Nat.le_of_ble_eq_true rfl, Nat.le_of_ble_eq_true rfl⟩)) (fun r4 hr4 => ?_)
  have hau4 := gg_idx (a := a) (s := (fl sx)) (by assumption) (by first | assumption | omega)
  subst hr4
  exact W.iret (v := nI (idx a (fl sx))) hx hb hr (fun t ht hW => ⟨nI (idx a (fl sx)), rfl, (by rfl), ht⟩) (fun _ h => absurd h List.not_mem_nil) dX12_into_7

set_option maxHeartbeats 4000000 in
set_option maxRecDepth 100000 in
theorem r_X12_round (l : Launch) (dC : Nat → ClassId) (dI : Nat → Nat → Nat) (sz : Nat) (cs : Nat → ClassId) (b : Nat → Nat) (u : RS) (a : Nat → Int32) (hA1 : rA u 1 = a) (v : Nat) (x : Int32) (hp0 : GG a) (hp1 : v < vN a) : Met l yX12_round [.code yX12_round cX12_round 4 (some .int)] ({ frames := 2, cells := 0, slots := 0, locals := 80 }) (PR [.ref (b 0), .int (nI v), .int x] sz dC dI cs b u) (vp_Si (fun (r : Int32) => ∃ k : Nat, r = nI k ∧ k < od a v)) 0 0 (fun _ => False) := by
  refine Met.ofW (cc := cX12_round) (maxL := 4) (ret := (some .int)) (by decide) rfl ?_
  intro p e s m args below meth c s₁ B hml hv
  obtain ⟨rfl, hsz, hP, hK, hJ, hE⟩ := hv
  have hx := B.exec
  have hb := B.bytes
  have hr := B.returns
  have hown : s.vm.findClass RX12 = some m.cls := findClass_of_methodNamed B.named
  have hlocks := B.notSynchronized
  subst hsz
  have hl := lv_entry ([.ref (b 0), .int (nI v), .int x]) (n := 4) (Nat.le_of_ble_eq_true rfl)
  rw [lg_entry_eq]
  generalize (lg_sl ([.ref (b 0), .int (nI v), .int x]) ++ List.replicate (4 - (lg_sl ([.ref (b 0), .int (nI v), .int x])).length) Slot.unset).toArray = ls at hl ⊢
  have hl : lv_has ls 4 [(0, .ref (b 0)), (1, .int (nI v)), (2, .int x)] := hl
  have hG := hp0
  have ha1 := gg_le hp0
  have ho := gg_od hG hp1
  refine lv_iload_n hx hb dX12_round_0 rfl (lv_at hl 2 rfl) ?_
  refine lv_aload_n hx hb dX12_round_1 rfl (lv_at hl 0 rfl) ?_
  refine lv_iload_n hx hb dX12_round_2 rfl (lv_at hl 1 rfl) ?_
  refine vp_callSi (va_Run.run (va_runV (As := [.int (nI v)]) (rest := [.int x]) ⟨hx, hb, hml, hown, noTs⟩ (r_X12_orderAt l dC dI s.heap.size cs b u a hA1 v (by first | assumption | omega | rfl | (congr 1; omega)) (by first | assumption | omega | rfl | (congr 1; omega))) ⟨cbE 1 (wd_1564 hE) (wd_126 hE) (wd_1561 hE) rfl rfl (by decide +kernel) ⟨Nat.le_of_ble_eq_true rfl, Nat.le_of_ble_eq_true rfl⟩, (wd_1563 hE), (wd_68 hE)⟩ ⟨PR.blind, r_recv hK hP rfl, (r_pre (av := [.ref (b 0), .int (nI v)]) hK hP hJ hE)⟩ rfl rfl hl.1 rfl (lv_room (Nat.le_of_ble_eq_true rfl)) dX12_round_3 ⟨Nat.le_of_ble_eq_true rfl, Nat.le_of_ble_eq_true rfl⟩)) (fun r3 hr3 => ?_)
  have hau3 := (gg_od (a := a) (v := v) (by assumption) (by first | assumption | omega)).2
  subst hr3
  refine lv_irem hx hb dX12_round_6 (nI_ne0 (n := od a v) (by omega) (by omega)) ?_
  refine lv_topi (fun x4 ex4 => ?_)
  have hm := z_rem (x := x) (y := nI (od a v)) rfl ho.2.1 (by omega)
  rw [← ex4] at hm
  refine lv_istore_n (lv' := [(3, .int x4), (0, .ref (b 0)), (1, .int (nI v)), (2, .int x)]) hx hb dX12_round_7 rfl hl (by decide) rfl (fun ls hl => ?_)
  refine lv_iload_n hx hb dX12_round_8 rfl (lv_at hl 0 rfl) ?_
  refine lv_if_ge (tgt := 22) hx hb dX12_round_9 (by decide) (fun c5 => ?_) (fun c5 => ?_)
  · have c5 := (b_le (show Int32.toInt 0 = 0 from rfl) (rfl : Int32.toInt x4 = _)).mp c5
    refine lv_iload_n hx hb dX12_round_22 rfl (lv_at hl 0 rfl) ?_
    exact W.iret (v := x4) hx hb hr (fun t ht hW => ⟨x4, rfl, (by exact z_ex (by omega) (by omega)), ht⟩) (fun _ h => absurd h List.not_mem_nil) dX12_round_23
  · have c5 := mt (b_le (show Int32.toInt 0 = 0 from rfl) (rfl : Int32.toInt x4 = _)).mpr c5
    refine lv_iload_n hx hb dX12_round_12 rfl (lv_at hl 0 rfl) ?_
    refine lv_aload_n hx hb dX12_round_13 rfl (lv_at hl 1 rfl) ?_
    refine lv_iload_n hx hb dX12_round_14 rfl (lv_at hl 2 rfl) ?_
    refine vp_callSi (va_Run.run (va_runV (As := [.int (nI v)]) (rest := [.int x4]) ⟨hx, hb, hml, hown, noTs⟩ (r_X12_orderAt l dC dI s.heap.size cs b u a hA1 v (by first | assumption | omega | rfl | (congr 1; omega)) (by first | assumption | omega | rfl | (congr 1; omega))) ⟨cbE 1 (wd_1564 hE) (wd_126 hE) (wd_1561 hE) rfl rfl (by decide +kernel) ⟨Nat.le_of_ble_eq_true rfl, Nat.le_of_ble_eq_true rfl⟩, (wd_1563 hE), (wd_68 hE)⟩ ⟨PR.blind, r_recv hK hP rfl, (r_pre (av := [.ref (b 0), .int (nI v)]) hK hP hJ hE)⟩ rfl rfl hl.1 rfl (lv_room (Nat.le_of_ble_eq_true rfl)) dX12_round_15 ⟨Nat.le_of_ble_eq_true rfl, Nat.le_of_ble_eq_true rfl⟩)) (fun r6 hr6 => ?_)
    have hau6 := (gg_od (a := a) (v := v) (by assumption) (by first | assumption | omega)).2
    subst hr6
    refine lv_iadd hx hb dX12_round_18 ?_
    refine lv_topi (fun x7 ex7 => ?_)
    have hz8 : x7.toInt = x4.toInt + ((od a v : Nat) : Int) := by rw [ex7]; exact z_add (rfl : Int32.toInt x4 = _) (nI_toInt (n := od a v) (by omega)) (by omega) (by omega)
    refine lv_goto (tgt := 23) hx hb dX12_round_19 (by decide) ?_
    exact W.iret (v := x7) hx hb hr (fun t ht hW => ⟨x7, rfl, (by exact z_ex (by omega) (by omega)), ht⟩) (fun _ h => absurd h List.not_mem_nil) dX12_round_23

set_option maxHeartbeats 4000000 in
set_option maxRecDepth 100000 in
theorem r_X12_number (l : Launch) (dC : Nat → ClassId) (dI : Nat → Nat → Nat) (sz : Nat) (cs : Nat → ClassId) (b : Nat → Nat) (u : RS) (a : Nat → Int32) (hA1 : rA u 1 = a) (j : Nat) (hjr : 3 ≤ j ∧ j ≤ 14) (w : Nat → Int32) (hAj : rA u j = w) (i : Nat) (hp0 : i ≤ 98) : Met l yX12_number [.code yX12_number cX12_number 2 (some .int)] ({ frames := 0, cells := 0, slots := 0, locals := 0 }) (PR [.ref (b j), .int (nI i)] sz dC dI cs b u) (vp_Si (fun (r : Int32) => r = w (2 + 2 * i))) 0 0 (fun _ => False) := by
  refine Met.ofW (cc := cX12_number) (maxL := 2) (ret := (some .int)) (by decide) rfl ?_
  intro p e s m args below meth c s₁ B hml hv
  obtain ⟨rfl, hsz, hP, hK, hJ, hE⟩ := hv
  have hx := B.exec
  have hb := B.bytes
  have hr := B.returns
  have hown : s.vm.findClass RX12 = some m.cls := findClass_of_methodNamed B.named
  have hlocks := B.notSynchronized
  subst hsz
  have hl := lv_entry ([.ref (b j), .int (nI i)]) (n := 2) (Nat.le_of_ble_eq_true rfl)
  rw [lg_entry_eq]
  generalize (lg_sl ([.ref (b j), .int (nI i)]) ++ List.replicate (2 - (lg_sl ([.ref (b j), .int (nI i)])).length) Slot.unset).toArray = ls at hl ⊢
  have hl : lv_has ls 2 [(0, .ref (b j)), (1, .int (nI i))] := hl
  refine lv_aload_n hx hb dX12_number_0 rfl (lv_at hl 0 rfl) ?_
  refine lv_iconst (v := 2) hx hb dX12_number_1 (by decide) ?_
  refine lv_iconst (v := 2) hx hb dX12_number_2 (by decide) ?_
  refine lv_iload_n hx hb dX12_number_3 rfl (lv_at hl 1 rfl) ?_
  refine lv_imul hx hb dX12_number_4 ?_
  refine W.eq (g2 := F0 m 5 ls [.int (nI (2 * i)), .int 2, .ref (b j)]) (congrArg (fun z : Int32 => F0 m 5 ls (.int z :: [.int 2, .ref (b j)])) (pk_mul 2 i)) ?_
  refine lv_iadd hx hb dX12_number_5 ?_
  refine W.eq (g2 := F0 m 6 ls [.int (nI (2 + (2 * i))), .ref (b j)]) (congrArg (fun z : Int32 => F0 m 6 ls (.int z :: [.ref (b j)])) (nI_add 2 (2 * i))) ?_
  refine r_iald (j := j) (k := 2 + (2 * i)) (n := 200) (x := w (2 + (2 * i))) hx hb hK hP (by omega) (rE_row (by omega)) (by omega) (by decide) (by rw [hAj]) dX12_number_6 ?_
  refine lv_topi (fun x3 ex3 => ?_)
  exact W.iret (v := x3) hx hb hr (fun t ht hW => ⟨x3, rfl, (by first | rfl | omega | (congr 1; omega) | assumption), ht⟩) (fun _ h => absurd h List.not_mem_nil) dX12_number_7

set_option maxHeartbeats 4000000 in
set_option maxRecDepth 100000 in
theorem r_X12_step (l : Launch) (dC : Nat → ClassId) (dI : Nat → Nat → Nat) (sz : Nat) (cs : Nat → ClassId) (b : Nat → Nat) (u : RS) (a : Nat → Int32) (hA1 : rA u 1 = a) (j : Nat) (hjr : 3 ≤ j ∧ j ≤ 14) (w : Nat → Int32) (hAj : rA u j = w) (i : Nat) (hp0 : PG a w) (hp1 : i < rn w) : Met l yX12_step [.code yX12_step cX12_step 2 (some .int)] ({ frames := 0, cells := 0, slots := 0, locals := 0 }) (PR [.ref (b j), .int (nI i)] sz dC dI cs b u) (vp_Si (fun (r : Int32) => r = nI (rs w i))) 0 0 (fun _ => False) := by
  refine Met.ofW (cc := cX12_step) (maxL := 2) (ret := (some .int)) (by decide) rfl ?_
  intro p e s m args below meth c s₁ B hml hv
  obtain ⟨rfl, hsz, hP, hK, hJ, hE⟩ := hv
  have hx := B.exec
  have hb := B.bytes
  have hr := B.returns
  have hown : s.vm.findClass RX12 = some m.cls := findClass_of_methodNamed B.named
  have hlocks := B.notSynchronized
  subst hsz
  have hl := lv_entry ([.ref (b j), .int (nI i)]) (n := 2) (Nat.le_of_ble_eq_true rfl)
  rw [lg_entry_eq]
  generalize (lg_sl ([.ref (b j), .int (nI i)]) ++ List.replicate (2 - (lg_sl ([.ref (b j), .int (nI i)])).length) Slot.unset).toArray = ls at hl ⊢
  have hl : lv_has ls 2 [(0, .ref (b j)), (1, .int (nI i))] := hl
  have ha1 := pg_le hp0
  refine lv_aload_n hx hb dX12_step_0 rfl (lv_at hl 0 rfl) ?_
  refine lv_iconst (v := 3) hx hb dX12_step_1 (by decide) ?_
  refine lv_iconst (v := 2) hx hb dX12_step_2 (by decide) ?_
  refine lv_iload_n hx hb dX12_step_3 rfl (lv_at hl 1 rfl) ?_
  refine lv_imul hx hb dX12_step_4 ?_
  refine W.eq (g2 := F0 m 5 ls [.int (nI (2 * i)), .int 3, .ref (b j)]) (congrArg (fun z : Int32 => F0 m 5 ls (.int z :: [.int 3, .ref (b j)])) (pk_mul 2 i)) ?_
  refine lv_iadd hx hb dX12_step_5 ?_
  refine W.eq (g2 := F0 m 6 ls [.int (nI (3 + (2 * i))), .ref (b j)]) (congrArg (fun z : Int32 => F0 m 6 ls (.int z :: [.ref (b j)])) (nI_add 3 (2 * i))) ?_
  refine r_iald (j := j) (k := 3 + (2 * i)) (n := 200) (x := nI (rs w i)) hx hb hK hP (by omega) (rE_row (by omega)) (by omega) (by decide) (by rw [hAj]; exact pg_s hp0 hp1) dX12_step_6 ?_
  exact W.iret (v := nI (rs w i)) hx hb hr (fun t ht hW => ⟨nI (rs w i), rfl, (by first | rfl | omega | (congr 1; omega) | assumption), ht⟩) (fun _ h => absurd h List.not_mem_nil) dX12_step_7

set_option maxHeartbeats 4000000 in
set_option maxRecDepth 100000 in
theorem r_X12_last (l : Launch) (dC : Nat → ClassId) (dI : Nat → Nat → Nat) (sz : Nat) (cs : Nat → ClassId) (b : Nat → Nat) (u : RS) (a : Nat → Int32) (hA1 : rA u 1 = a) (j : Nat) (hjr : 3 ≤ j ∧ j ≤ 14) (w : Nat → Int32) (hAj : rA u j = w) (hp0 : PG a w) : Met l yX12_last [.code yX12_last cX12_last 1 (some .int)] ({ frames := 0, cells := 0, slots := 0, locals := 0 }) (PR [.ref (b j)] sz dC dI cs b u) (vp_Si (fun (r : Int32) => r = w (2 + 2 * rn w))) 0 0 (fun _ => False) := by
  refine Met.ofW (cc := cX12_last) (maxL := 1) (ret := (some .int)) (by decide) rfl ?_
  intro p e s m args below meth c s₁ B hml hv
  obtain ⟨rfl, hsz, hP, hK, hJ, hE⟩ := hv
  have hx := B.exec
  have hb := B.bytes
  have hr := B.returns
  have hown : s.vm.findClass RX12 = some m.cls := findClass_of_methodNamed B.named
  have hlocks := B.notSynchronized
  subst hsz
  have hl := lv_entry ([.ref (b j)]) (n := 1) (Nat.le_of_ble_eq_true rfl)
  rw [lg_entry_eq]
  generalize (lg_sl ([.ref (b j)]) ++ List.replicate (1 - (lg_sl ([.ref (b j)])).length) Slot.unset).toArray = ls at hl ⊢
  have hl : lv_has ls 1 [(0, .ref (b j))] := hl
  have ha1 := pg_le hp0
  refine lv_aload_n hx hb dX12_last_0 rfl (lv_at hl 0 rfl) ?_
  refine lv_iconst (v := 2) hx hb dX12_last_1 (by decide) ?_
  refine lv_iconst (v := 2) hx hb dX12_last_2 (by decide) ?_
  refine lv_aload_n hx hb dX12_last_3 rfl (lv_at hl 0 rfl) ?_
  refine lv_iconst (v := 1) hx hb dX12_last_4 (by decide) ?_
  refine r_iald (j := j) (k := 1) (n := 200) (x := nI (rn w)) hx hb hK hP (by omega) (rE_row (by omega)) (by decide) (by decide) (by rw [hAj]; exact pg_n hp0) dX12_last_5 ?_
  refine lv_imul hx hb dX12_last_6 ?_
  refine W.eq (g2 := F0 m 7 ls [.int (nI (2 * (rn w))), .int 2, .ref (b j)]) (congrArg (fun z : Int32 => F0 m 7 ls (.int z :: [.int 2, .ref (b j)])) (pk_mul 2 (rn w))) ?_
  refine lv_iadd hx hb dX12_last_7 ?_
  refine W.eq (g2 := F0 m 8 ls [.int (nI (2 + (2 * (rn w)))), .ref (b j)]) (congrArg (fun z : Int32 => F0 m 8 ls (.int z :: [.ref (b j)])) (nI_add 2 (2 * (rn w)))) ?_
  refine r_iald (j := j) (k := 2 + (2 * (rn w))) (n := 200) (x := w (2 + (2 * (rn w)))) hx hb hK hP (by omega) (rE_row (by omega)) (by omega) (by decide) (by rw [hAj]) dX12_last_8 ?_
  refine lv_topi (fun x4 ex4 => ?_)
  exact W.iret (v := x4) hx hb hr (fun t ht hW => ⟨x4, rfl, (by first | rfl | omega | (congr 1; omega) | assumption), ht⟩) (fun _ h => absurd h List.not_mem_nil) dX12_last_9

set_option maxHeartbeats 4000000 in
set_option maxRecDepth 100000 in
theorem r_X12_end (l : Launch) (dC : Nat → ClassId) (dI : Nat → Nat → Nat) (sz : Nat) (cs : Nat → ClassId) (b : Nat → Nat) (u : RS) (a : Nat → Int32) (hA1 : rA u 1 = a) (j : Nat) (hjr : 3 ≤ j ∧ j ≤ 14) (w : Nat → Int32) (hAj : rA u j = w) (hp0 : GG a) (hp1 : PG a w) : Met l yX12_end [.code yX12_end cX12_end 2 (some .int)] ({ frames := 4, cells := 0, slots := 0, locals := 160 }) (PR [.ref (b 0), .ref (b j)] sz dC dI cs b u) (vp_Si (fun (r : Int32) => r = nI (vend a w))) 0 0 (fun _ => False) := by
  refine Met.ofW (cc := cX12_end) (maxL := 2) (ret := (some .int)) (by decide) rfl ?_
  intro p e s m args below meth c s₁ B hml hv
  obtain ⟨rfl, hsz, hP, hK, hJ, hE⟩ := hv
  have hx := B.exec
  have hb := B.bytes
  have hr := B.returns
  have hown : s.vm.findClass RX12 = some m.cls := findClass_of_methodNamed B.named
  have hlocks := B.notSynchronized
  subst hsz
  have hl := lv_entry ([.ref (b 0), .ref (b j)]) (n := 2) (Nat.le_of_ble_eq_true rfl)
  rw [lg_entry_eq]
  generalize (lg_sl ([.ref (b 0), .ref (b j)]) ++ List.replicate (2 - (lg_sl ([.ref (b 0), .ref (b j)])).length) Slot.unset).toArray = ls at hl ⊢
  have hl : lv_has ls 2 [(0, .ref (b 0)), (1, .ref (b j))] := hl
  have hG := hp0
  have ha1 := gg_le hp0
  have ha2 := pg_le hp1
  refine lv_aload_n hx hb dX12_end_0 rfl (lv_at hl 1 rfl) ?_
  refine lv_iconst (v := 1) hx hb dX12_end_1 (by decide) ?_
  refine r_iald (j := j) (k := 1) (n := 200) (x := nI (rn w)) hx hb hK hP (by omega) (rE_row (by omega)) (by decide) (by decide) (by rw [hAj]; exact pg_n hp1) dX12_end_2 ?_
  refine lv_if_ne (tgt := 12) hx hb dX12_end_3 (by decide) (fun c4 => ?_) (fun c4 => ?_)
  · have c4 := mt (b_eq (nI_toInt (n := rn w) (by omega)) (show Int32.toInt 0 = 0 from rfl)).mpr c4
    refine lv_aload_n hx hb dX12_end_12 rfl (lv_at hl 0 rfl) ?_
    refine lv_aload_n hx hb dX12_end_13 rfl (lv_at hl 1 rfl) ?_
    refine lv_aload_n hx hb dX12_end_14 rfl (lv_at hl 1 rfl) ?_
    refine lv_iconst (v := 1) hx hb dX12_end_15 (by decide) ?_
    refine r_iald (j := j) (k := 1) (n := 200) (x := nI (rn w)) hx hb hK hP (by omega) (rE_row (by omega)) (by decide) (by decide) (by rw [hAj]; exact pg_n hp1) dX12_end_16 ?_
    refine lv_iconst (v := 1) hx hb dX12_end_17 (by decide) ?_
    refine lv_isub hx hb dX12_end_18 ?_
    refine W.eq (g2 := F0 m 19 ls [.int (nI ((rn w) - 1)), .ref (b j), .ref (b 0)]) (congrArg (fun z : Int32 => F0 m 19 ls (.int z :: [.ref (b j), .ref (b 0)])) (pk_sub (a := rn w) (b := 1) (by omega))) ?_
    refine vp_callSi (va_Run.run (va_runS (As := [.ref (b j), .int (nI ((rn w) - 1))]) (rest := [.ref (b 0)]) ⟨hx, hb, hml, hown, noTs⟩ (r_X12_step l dC dI s.heap.size cs b u a hA1 j (by omega) w hAj ((rn w) - 1) (by first | assumption | omega | rfl | (congr 1; omega)) (by first | assumption | omega | rfl | (congr 1; omega))) ⟨cbE 2 (wd_1602 hE) (wd_126 hE) (wd_1600 hE) rfl rfl (by decide +kernel) ⟨Nat.le_of_ble_eq_true rfl, Nat.le_of_ble_eq_true rfl⟩, (wd_1601 hE)⟩ ⟨PR.blind, (r_pre (av := [.ref (b j), .int (nI ((rn w) - 1))]) hK hP hJ hE)⟩ rfl rfl hl.1 rfl (lv_room (Nat.le_of_ble_eq_true rfl)) dX12_end_19 ⟨Nat.le_of_ble_eq_true rfl, Nat.le_of_ble_eq_true rfl⟩)) (fun r6 hr6 => ?_)
    have hau6 := pg_sl (a := a) (w := w) (i := ((rn w) - 1)) (by assumption) (by first | assumption | omega)
    subst hr6
    refine vp_callSi (va_Run.run (va_runV (As := [.int (nI (rs w ((rn w) - 1)))]) (rest := []) ⟨hx, hb, hml, hown, noTs⟩ (r_X12_to l dC dI s.heap.size cs b u a hA1 (rs w ((rn w) - 1)) (by first | assumption | omega | rfl | (congr 1; omega)) (by exact pg_sl hp1 (by omega))) ⟨cbE 1 (wd_1606 hE) (wd_126 hE) (wd_1603 hE) rfl rfl (by decide +kernel) ⟨Nat.le_of_ble_eq_true rfl, Nat.le_of_ble_eq_true rfl⟩, (wd_1605 hE), (wd_77 hE)⟩ ⟨PR.blind, r_recv hK hP rfl, (r_pre (av := [.ref (b 0), .int (nI (rs w ((rn w) - 1)))]) hK hP hJ hE)⟩ rfl rfl hl.1 rfl (lv_room (Nat.le_of_ble_eq_true rfl)) dX12_end_22 ⟨Nat.le_of_ble_eq_true rfl, Nat.le_of_ble_eq_true rfl⟩)) (fun r7 hr7 => ?_)
    have hau7 := gg_dst (a := a) (s := (rs w ((rn w) - 1))) (by assumption) (by first | assumption | omega)
    subst hr7
    exact W.iret (v := nI (dst a (rs w ((rn w) - 1)))) hx hb hr (fun t ht hW => ⟨nI (dst a (rs w ((rn w) - 1))), rfl, (by congr 1; first | exact (vend_0 (by omega)).symm | exact (vend_s (by omega)).symm), ht⟩) (fun _ h => absurd h List.not_mem_nil) dX12_end_25
  · have c4 := (b_eq (nI_toInt (n := rn w) (by omega)) (show Int32.toInt 0 = 0 from rfl)).mp c4
    refine lv_aload_n hx hb dX12_end_6 rfl (lv_at hl 1 rfl) ?_
    refine lv_iconst (v := 0) hx hb dX12_end_7 (by decide) ?_
    refine r_iald (j := j) (k := 0) (n := 200) (x := nI (rb w)) hx hb hK hP (by omega) (rE_row (by omega)) (by decide) (by decide) (by rw [hAj]; exact pg_b hp1) dX12_end_8 ?_
    refine lv_goto (tgt := 25) hx hb dX12_end_9 (by decide) ?_
    exact W.iret (v := nI (rb w)) hx hb hr (fun t ht hW => ⟨nI (rb w), rfl, (by congr 1; first | exact (vend_0 (by omega)).symm | exact (vend_s (by omega)).symm), ht⟩) (fun _ h => absurd h List.not_mem_nil) dX12_end_25

set_option maxHeartbeats 4000000 in
set_option maxRecDepth 100000 in
theorem r_X12_single (l : Launch) (dC : Nat → ClassId) (dI : Nat → Nat → Nat) (sz : Nat) (cs : Nat → ClassId) (b : Nat → Nat) (u : RS) (a : Nat → Int32) (hA1 : rA u 1 = a) (j : Nat) (hjr : 3 ≤ j ∧ j ≤ 14) (w : Nat → Int32) (hAj : rA u j = w) (v : Nat) (x : Int32) (hp0 : GG a) (hp1 : v < vN a) : Met l yX12_single [.code yX12_single cX12_single 3 none] ({ frames := 0, cells := 0, slots := 0, locals := 0 }) (PR [.ref (b j), .int (nI v), .int x] sz dC dI cs b u) (va_Qv (fun (u' : RS) => (PG a (rA u' j)) ∧ (rn (rA u' j) = 0) ∧ (rb (rA u' j) = v) ∧ (vend a (rA u' j) = v) ∧ ((rA u' j) 2 = x) ∧ FR [j] [] false u u') (BR dC dI cs b) (AR b sz)) 0 0 (AR b sz) := by
  refine Met.ofW (cc := cX12_single) (maxL := 3) (ret := none) (by decide) rfl ?_
  intro p e s m args below meth c s₁ B hml hv
  obtain ⟨rfl, hsz, hP, hK, hJ, hE⟩ := hv
  have hx := B.exec
  have hb := B.bytes
  have hr := B.returns
  have hown : s.vm.findClass RX12 = some m.cls := findClass_of_methodNamed B.named
  have hlocks := B.notSynchronized
  subst hsz
  have hAL : ∀ i, i < 108 → AR b s.heap.size (b i) := fun i h => Or.inl ⟨i, h, rfl⟩
  have hA : ∀ q : Nat, s.heap.size ≤ q → AR b s.heap.size q := fun q h => Or.inr h
  have hS : va_S (AR b s.heap.size) s.heap s.heap [] := va_S.rf
  have hfr : FR [j] [] false u u := FR.refl
  have hl := lv_entry ([.ref (b j), .int (nI v), .int x]) (n := 3) (Nat.le_of_ble_eq_true rfl)
  rw [lg_entry_eq]
  generalize (lg_sl ([.ref (b j), .int (nI v), .int x]) ++ List.replicate (3 - (lg_sl ([.ref (b j), .int (nI v), .int x])).length) Slot.unset).toArray = ls at hl ⊢
  have hl : lv_has ls 3 [(0, .ref (b j)), (1, .int (nI v)), (2, .int x)] := hl
  have hG := hp0
  have ha1 := gg_le hp0
  refine lv_aload_n hx hb dX12_single_0 rfl (lv_at hl 0 rfl) ?_
  refine lv_iconst (v := 0) hx hb dX12_single_1 (by decide) ?_
  refine lv_iload_n hx hb dX12_single_2 rfl (lv_at hl 1 rfl) ?_
  refine r_iast (j := j) (k := 0) (n := 200) (x := nI v) hx hb hK hP hJ hAL hS (by omega) (fun _ => (rE_row (by omega))) hAj (by decide) (by decide) dX12_single_3 (fun u3 H locs hs3 hq3 hP hS => ?_)
  obtain ⟨w3, hw3⟩ : ∃ g, g = upd w 0 (nI v) := ⟨_, rfl⟩
  rw [← hw3] at hs3
  have hA4 := (hq3.1 1 (by simp only [List.mem_cons, List.not_mem_nil, or_false, not_or]; omega)).trans hA1
  have hfr := FR.step hfr hq3 (by simp) (fun _ h => absurd h List.not_mem_nil) (fun h => rfl)
  refine lv_aload_n hx hb dX12_single_4 rfl (lv_at hl 0 rfl) ?_
  refine lv_iconst (v := 1) hx hb dX12_single_5 (by decide) ?_
  refine lv_iconst (v := 0) hx hb dX12_single_6 (by decide) ?_
  refine r_iast (j := j) (k := 1) (n := 200) (x := 0) hx hb hK hP hJ hAL hS (by omega) (fun _ => (rE_row (by omega))) hs3 (by decide) (by decide) dX12_single_7 (fun u5 H locs hs5 hq5 hP hS => ?_)
  obtain ⟨w5, hw5⟩ : ∃ g, g = upd w3 1 0 := ⟨_, rfl⟩
  rw [← hw5] at hs5
  have hA6 := (hq5.1 1 (by simp only [List.mem_cons, List.not_mem_nil, or_false, not_or]; omega)).trans hA4
  have hfr := FR.step hfr hq5 (by simp) (fun _ h => absurd h List.not_mem_nil) (fun h => rfl)
  refine lv_aload_n hx hb dX12_single_8 rfl (lv_at hl 0 rfl) ?_
  refine lv_iconst (v := 2) hx hb dX12_single_9 (by decide) ?_
  refine lv_iload_n hx hb dX12_single_10 rfl (lv_at hl 2 rfl) ?_
  refine r_iast (j := j) (k := 2) (n := 200) (x := x) hx hb hK hP hJ hAL hS (by omega) (fun _ => (rE_row (by omega))) hs5 (by decide) (by decide) dX12_single_11 (fun u7 H locs hs7 hq7 hP hS => ?_)
  obtain ⟨w7, hw7⟩ : ∃ g, g = upd w5 2 x := ⟨_, rfl⟩
  rw [← hw7] at hs7
  have hA8 := (hq7.1 1 (by simp only [List.mem_cons, List.not_mem_nil, or_false, not_or]; omega)).trans hA6
  have hfr := FR.step hfr hq7 (by simp) (fun _ h => absurd h List.not_mem_nil) (fun h => rfl)
  obtain ⟨s1, s2, s3, s4⟩ := pg_single (a := a) (w := w7) hp1 (by omega) (by rw [hw7, hw5, hw3]; rfl) (by rw [hw7, hw5, hw3]; rfl)
  have s5 : w7 2 = x := by rw [hw7, hw5, hw3]; rfl
  exact W.vret hx hb hr (fun t ht hW => ⟨⟨u7, rfl, ⟨(by first | (rw [hs7]; done) | (rw [hs7]; first | assumption | omega | rfl | (congr 1; omega))), (by first | (rw [hs7]; done) | (rw [hs7]; first | assumption | omega | rfl | (congr 1; omega))), (by first | (rw [hs7]; done) | (rw [hs7]; first | assumption | omega | rfl | (congr 1; omega))), (by first | (rw [hs7]; done) | (rw [hs7]; first | assumption | omega | rfl | (congr 1; omega))), (by first | (rw [hs7]; done) | (rw [hs7]; first | assumption | omega | rfl | (congr 1; omega))), hfr⟩, (show va_P (dC, dI) vwCl (rW cs b u7) t.heap by rw [ht]; exact hP)⟩, hS.F ht⟩) hS.2.2 dX12_single_12

set_option maxHeartbeats 4000000 in
set_option maxRecDepth 100000 in
theorem r_X12_goes (l : Launch) (dC : Nat → ClassId) (dI : Nat → Nat → Nat) (sz : Nat) (cs : Nat → ClassId) (b : Nat → Nat) (u : RS) (a : Nat → Int32) (hA1 : rA u 1 = a) (j : Nat) (hjr : 3 ≤ j ∧ j ≤ 14) (w : Nat → Int32) (hAj : rA u j = w) (sx : Nat) (x : Int32) (hp0 : GG a) (hp1 : PG a w) (hp2 : rn w ≤ 97) (hp3 : sx < 2 * eN a) (hp4 : src a sx = vend a w) : Met l yX12_goes [.code yX12_goes cX12_goes 3 none] ({ frames := 0, cells := 0, slots := 0, locals := 0 }) (PR [.ref (b j), .int (nI sx), .int x] sz dC dI cs b u) (va_Qv (fun (u' : RS) => (PG a (rA u' j)) ∧ (rn (rA u' j) = rn w + 1) ∧ (rb (rA u' j) = rb w) ∧ (vend a (rA u' j) = dst a sx) ∧ ((rA u' j) (2 + 2 * (rn w + 1)) = x) ∧ (∀ k, k ≤ 2 + 2 * rn w → k ≠ 1 → (rA u' j) k = w k) ∧ (∀ i, i < rn w → rs (rA u' j) i = rs w i) ∧ (rs (rA u' j) (rn w) = sx) ∧ FR [j] [] false u u') (BR dC dI cs b) (AR b sz)) 0 0 (AR b sz) := by
  refine Met.ofW (cc := cX12_goes) (maxL := 3) (ret := none) (by decide) rfl ?_
  intro p e s m args below meth c s₁ B hml hv
  obtain ⟨rfl, hsz, hP, hK, hJ, hE⟩ := hv
  have hx := B.exec
  have hb := B.bytes
  have hr := B.returns
  have hown : s.vm.findClass RX12 = some m.cls := findClass_of_methodNamed B.named
  have hlocks := B.notSynchronized
  subst hsz
  have hAL : ∀ i, i < 108 → AR b s.heap.size (b i) := fun i h => Or.inl ⟨i, h, rfl⟩
  have hA : ∀ q : Nat, s.heap.size ≤ q → AR b s.heap.size q := fun q h => Or.inr h
  have hS : va_S (AR b s.heap.size) s.heap s.heap [] := va_S.rf
  have hfr : FR [j] [] false u u := FR.refl
  have hl := lv_entry ([.ref (b j), .int (nI sx), .int x]) (n := 3) (Nat.le_of_ble_eq_true rfl)
  rw [lg_entry_eq]
  generalize (lg_sl ([.ref (b j), .int (nI sx), .int x]) ++ List.replicate (3 - (lg_sl ([.ref (b j), .int (nI sx), .int x])).length) Slot.unset).toArray = ls at hl ⊢
  have hl : lv_has ls 3 [(0, .ref (b j)), (1, .int (nI sx)), (2, .int x)] := hl
  have hG := hp0
  have ha1 := gg_le hp0
  have ha2 := pg_le hp1
  refine lv_aload_n hx hb dX12_goes_0 rfl (lv_at hl 0 rfl) ?_
  refine lv_iconst (v := 3) hx hb dX12_goes_1 (by decide) ?_
  refine lv_iconst (v := 2) hx hb dX12_goes_2 (by decide) ?_
  refine lv_aload_n hx hb dX12_goes_3 rfl (lv_at hl 0 rfl) ?_
  refine lv_iconst (v := 1) hx hb dX12_goes_4 (by decide) ?_
  refine r_iald (j := j) (k := 1) (n := 200) (x := nI (rn w)) hx hb hK hP (by omega) (rE_row (by omega)) (by decide) (by decide) (by rw [hAj]; exact pg_n hp1) dX12_goes_5 ?_
  refine lv_imul hx hb dX12_goes_6 ?_
  refine W.eq (g2 := F0 m 7 ls [.int (nI (2 * (rn w))), .int 3, .ref (b j)]) (congrArg (fun z : Int32 => F0 m 7 ls (.int z :: [.int 3, .ref (b j)])) (pk_mul 2 (rn w))) ?_
  refine lv_iadd hx hb dX12_goes_7 ?_
  refine W.eq (g2 := F0 m 8 ls [.int (nI (3 + (2 * (rn w)))), .ref (b j)]) (congrArg (fun z : Int32 => F0 m 8 ls (.int z :: [.ref (b j)])) (nI_add 3 (2 * (rn w)))) ?_
  refine lv_iload_n hx hb dX12_goes_8 rfl (lv_at hl 1 rfl) ?_
  refine r_iast (j := j) (k := 3 + (2 * (rn w))) (n := 200) (x := nI sx) hx hb hK hP hJ hAL hS (by omega) (fun _ => (rE_row (by omega))) hAj (by omega) (by decide) dX12_goes_9 (fun u7 H locs hs7 hq7 hP hS => ?_)
  obtain ⟨w7, hw7⟩ : ∃ g, g = upd w (3 + (2 * (rn w))) (nI sx) := ⟨_, rfl⟩
  rw [← hw7] at hs7
  have hA8 := (hq7.1 1 (by simp only [List.mem_cons, List.not_mem_nil, or_false, not_or]; omega)).trans hA1
  have hfr := FR.step hfr hq7 (by simp) (fun _ h => absurd h List.not_mem_nil) (fun h => rfl)
  have k1 := hw7
  refine lv_aload_n hx hb dX12_goes_10 rfl (lv_at hl 0 rfl) ?_
  refine lv_iconst (v := 1) hx hb dX12_goes_11 (by decide) ?_
  refine lv_dup2_11 hx hb dX12_goes_12 rfl rfl ?_
  refine r_iald (j := j) (k := 1) (n := 200) (x := nI (rn w)) hx hb hK hP (by omega) (rE_row (by omega)) (by decide) (by decide) (by rw [hs7]; exact (by rw [hw7, pk_un (by omega)]; exact pg_n hp1)) dX12_goes_13 ?_
  refine lv_iconst (v := 1) hx hb dX12_goes_14 (by decide) ?_
  refine lv_iadd hx hb dX12_goes_15 ?_
  refine W.eq (g2 := F0 m 16 ls [.int (nI ((rn w) + 1)), .int 1, .ref (b j)]) (congrArg (fun z : Int32 => F0 m 16 ls (.int z :: [.int 1, .ref (b j)])) (nI_add (rn w) 1)) ?_
  refine r_iast (j := j) (k := 1) (n := 200) (x := nI ((rn w) + 1)) hx hb hK hP hJ hAL hS (by omega) (fun _ => (rE_row (by omega))) hs7 (by decide) (by decide) dX12_goes_16 (fun u10 H locs hs10 hq10 hP hS => ?_)
  obtain ⟨w10, hw10⟩ : ∃ g, g = upd w7 1 (nI ((rn w) + 1)) := ⟨_, rfl⟩
  rw [← hw10] at hs10
  have hA11 := (hq10.1 1 (by simp only [List.mem_cons, List.not_mem_nil, or_false, not_or]; omega)).trans hA8
  have hfr := FR.step hfr hq10 (by simp) (fun _ h => absurd h List.not_mem_nil) (fun h => rfl)
  have k2 := hw10
  refine lv_aload_n hx hb dX12_goes_17 rfl (lv_at hl 0 rfl) ?_
  refine lv_iconst (v := 2) hx hb dX12_goes_18 (by decide) ?_
  refine lv_iconst (v := 2) hx hb dX12_goes_19 (by decide) ?_
  refine lv_aload_n hx hb dX12_goes_20 rfl (lv_at hl 0 rfl) ?_
  refine lv_iconst (v := 1) hx hb dX12_goes_21 (by decide) ?_
  refine r_iald (j := j) (k := 1) (n := 200) (x := nI ((rn w) + 1)) hx hb hK hP (by omega) (rE_row (by omega)) (by decide) (by decide) (by rw [hs10]; exact (by rw [hw10]; exact pk_us)) dX12_goes_22 ?_
  refine lv_imul hx hb dX12_goes_23 ?_
  refine W.eq (g2 := F0 m 24 ls [.int (nI (2 * ((rn w) + 1))), .int 2, .ref (b j)]) (congrArg (fun z : Int32 => F0 m 24 ls (.int z :: [.int 2, .ref (b j)])) (pk_mul 2 ((rn w) + 1))) ?_
  refine lv_iadd hx hb dX12_goes_24 ?_
  refine W.eq (g2 := F0 m 25 ls [.int (nI (2 + (2 * ((rn w) + 1)))), .ref (b j)]) (congrArg (fun z : Int32 => F0 m 25 ls (.int z :: [.ref (b j)])) (nI_add 2 (2 * ((rn w) + 1)))) ?_
  refine lv_iload_n hx hb dX12_goes_25 rfl (lv_at hl 2 rfl) ?_
  refine r_iast (j := j) (k := 2 + (2 * ((rn w) + 1))) (n := 200) (x := x) hx hb hK hP hJ hAL hS (by omega) (fun _ => (rE_row (by omega))) hs10 (by omega) (by decide) dX12_goes_26 (fun u13 H locs hs13 hq13 hP hS => ?_)
  obtain ⟨w13, hw13⟩ : ∃ g, g = upd w10 (2 + (2 * ((rn w) + 1))) x := ⟨_, rfl⟩
  rw [← hw13] at hs13
  have hA14 := (hq13.1 1 (by simp only [List.mem_cons, List.not_mem_nil, or_false, not_or]; omega)).trans hA11
  have hfr := FR.step hfr hq13 (by simp) (fun _ h => absurd h List.not_mem_nil) (fun h => rfl)
  have k3 := hw13
  have q0 : ∀ k, k ≤ 2 + 2 * rn w → k ≠ 1 → w13 k = w k := fun k h1 h2 => by rw [k3, pk_un (by omega), k2, pk_un (by omega), k1, pk_un (by omega)]
  have q1 : w13 (2 + 2 * (rn w + 1)) = x := by rw [k3]; exact pk_us
  obtain ⟨s1, s2, s3, s4, s5, s6⟩ := pg_goes (n := rn w) (w := w) (w' := w13) (s := sx) hp1 rfl hp2 hp3 (by omega) hp4 (q0 0 (by omega) (by omega)) (by rw [k3, pk_un (by omega), k2]; exact pk_us) (by rw [k3, pk_un (by omega), k2, pk_un (by omega), k1]; exact pk_us) (fun i hi => q0 _ (by omega) (by omega))
  exact W.vret hx hb hr (fun t ht hW => ⟨⟨u13, rfl, ⟨(by first | (rw [hs13]; done) | (rw [hs13]; first | assumption | omega | rfl | (congr 1; omega))), (by first | (rw [hs13]; done) | (rw [hs13]; first | assumption | omega | rfl | (congr 1; omega))), (by first | (rw [hs13]; done) | (rw [hs13]; first | assumption | omega | rfl | (congr 1; omega))), (by first | (rw [hs13]; done) | (rw [hs13]; first | assumption | omega | rfl | (congr 1; omega))), (by first | (rw [hs13]; done) | (rw [hs13]; first | assumption | omega | rfl | (congr 1; omega))), (by first | (rw [hs13]; done) | (rw [hs13]; first | assumption | omega | rfl | (congr 1; omega))), (by first | (rw [hs13]; done) | (rw [hs13]; first | assumption | omega | rfl | (congr 1; omega))), (by first | (rw [hs13]; done) | (rw [hs13]; first | assumption | omega | rfl | (congr 1; omega))), hfr⟩, (show va_P (dC, dI) vwCl (rW cs b u13) t.heap by rw [ht]; exact hP)⟩, hS.F ht⟩) hS.2.2 dX12_goes_27

set_option maxHeartbeats 4000000 in
set_option maxRecDepth 100000 in
theorem r_X12_takes (l : Launch) (dC : Nat → ClassId) (dI : Nat → Nat → Nat) (sz : Nat) (cs : Nat → ClassId) (b : Nat → Nat) (u : RS) (a : Nat → Int32) (hA1 : rA u 1 = a) (wd : Nat) (j : Nat) (hjr : 3 ≤ j ∧ j ≤ 14) (g : Nat → Int32) (hAj : rA u j = g) (hp0 : BG a) (hp1 : wd < wN a) : Met l yX12_takes [.code yX12_takes cX12_takes 4 none] ({ frames := 1, cells := 0, slots := 0, locals := 40 }) (PR [.ref (b 0), .int (nI wd), .ref (b j)] sz dC dI cs b u) (va_Qv (fun (u' : RS) => (PG a (rA u' j)) ∧ (LG a (rA u' j)) ∧ (rn (rA u' j) ≤ 24) ∧ (rn (rA u' j) = rn (row a wd)) ∧ (rb (rA u' j) = rb (row a wd)) ∧ (vend a (rA u' j) = vend a (row a wd)) ∧ FR [j] [] false u u') (BR dC dI cs b) (AR b sz)) 0 0 (AR b sz) := by
  refine Met.ofW (cc := cX12_takes) (maxL := 4) (ret := none) (by decide) rfl ?_
  intro p e s m args below meth c s₁ B hml hv
  obtain ⟨rfl, hsz, hP, hK, hJ, hE⟩ := hv
  have hx := B.exec
  have hb := B.bytes
  have hr := B.returns
  have hown : s.vm.findClass RX12 = some m.cls := findClass_of_methodNamed B.named
  have hlocks := B.notSynchronized
  subst hsz
  have hAL : ∀ i, i < 108 → AR b s.heap.size (b i) := fun i h => Or.inl ⟨i, h, rfl⟩
  have hA : ∀ q : Nat, s.heap.size ≤ q → AR b s.heap.size q := fun q h => Or.inr h
  have hS : va_S (AR b s.heap.size) s.heap s.heap [] := va_S.rf
  have hfr : FR [j] [] false u u := FR.refl
  have hl := lv_entry ([.ref (b 0), .int (nI wd), .ref (b j)]) (n := 4) (Nat.le_of_ble_eq_true rfl)
  rw [lg_entry_eq]
  generalize (lg_sl ([.ref (b 0), .int (nI wd), .ref (b j)]) ++ List.replicate (4 - (lg_sl ([.ref (b 0), .int (nI wd), .ref (b j)])).length) Slot.unset).toArray = ls at hl ⊢
  have hl : lv_has ls 4 [(0, .ref (b 0)), (1, .int (nI wd)), (2, .ref (b j))] := hl
  have hB := hp0
  have hG := bg_g hp0
  have ha1 := gg_le hG
  have ha1b := bg_w hp0
  obtain ⟨hr1, hr2, hr3⟩ := bg_row hB hp1
  refine lv_iconst (v := 0) hx hb dX12_takes_0 (by decide) ?_
  refine lv_istore_n (lv' := [(3, .int 0), (0, .ref (b 0)), (1, .int (nI wd)), (2, .ref (b j))]) hx hb dX12_takes_1 rfl hl (by decide) rfl (fun ls hl => ?_)
  refine r_ind (I := fun n u_ H locs ls => va_P (dC, dI) vwCl (rW cs b u_) H ∧ va_S (AR b s.heap.size) s.heap H locs ∧ FR [j] [] false u u_ ∧ ∃ (k_3 : Nat) (g1_3 : Nat → Int32), n = 52 - k_3 ∧ (k_3 ≤ 52) ∧ (∀ q, q < k_3 → g1_3 q = row a wd q) ∧ (rA u_ j = g1_3) ∧ lv_has ls 4 [(0, .ref (b 0)), (1, .int (nI wd)), (2, .ref (b j)), (3, .int (nI k_3))]) (fun n u3 H locs ls hI ih3 => ?_) _ u _ _ _ ⟨hP, hS, hfr, 0, g, rfl, (by first | assumption | omega | rfl | (congr 1; omega)), (by intro q hq; omega), hAj, lv_sub hl [1, 2, 3, 0] rfl⟩
  obtain ⟨hP, hS, hfr, k_3, g1_3, hmu3, hL3_0, hL3_1, hL3_2, hl⟩ := hI
  have hA4 := (hfr.1 1 (by simp only [List.mem_cons, List.not_mem_nil, or_false, not_or]; omega)).trans hA1
  subst hmu3
  refine lv_iload_n hx hb dX12_takes_2 rfl (lv_at hl 3 rfl) ?_
  refine lv_bipush (v := 52) hx hb dX12_takes_3 (by decide) ?_
  refine lv_icmp_ge (tgt := 30) hx hb dX12_takes_5 (by decide) (fun c5 => ?_) (fun c5 => ?_)
  · have c5 := (b_le (show Int32.toInt 52 = 52 from rfl) (nI_toInt (n := k_3) (by omega))).mp c5
    have q0 : ∀ k, k ≤ 2 + 2 * rn (row a wd) → g1_3 k = row a wd k := fun k hk => hL3_1 k (by omega)
    obtain ⟨s1, s2, s3, s4⟩ := pg_same (a := a) q0 hr1
    have s5 := lg_same q0 hr1 hr2
    exact W.vret hx hb hr (fun t ht hW => ⟨⟨u3, rfl, ⟨(by first | (rw [hL3_2]; done) | (rw [hL3_2]; first | assumption | omega | rfl | (congr 1; omega))), (by first | (rw [hL3_2]; done) | (rw [hL3_2]; first | assumption | omega | rfl | (congr 1; omega))), (by first | (rw [hL3_2]; done) | (rw [hL3_2]; first | assumption | omega | rfl | (congr 1; omega))), (by first | (rw [hL3_2]; done) | (rw [hL3_2]; first | assumption | omega | rfl | (congr 1; omega))), (by first | (rw [hL3_2]; done) | (rw [hL3_2]; first | assumption | omega | rfl | (congr 1; omega))), (by first | (rw [hL3_2]; done) | (rw [hL3_2]; first | assumption | omega | rfl | (congr 1; omega))), hfr⟩, (show va_P (dC, dI) vwCl (rW cs b u3) t.heap by rw [ht]; exact hP)⟩, hS.F ht⟩) hS.2.2 dX12_takes_30
  · have c5 := mt (b_le (show Int32.toInt 52 = 52 from rfl) (nI_toInt (n := k_3) (by omega))).mpr c5
    refine lv_aload_n hx hb dX12_takes_8 rfl (lv_at hl 2 rfl) ?_
    refine lv_iload_n hx hb dX12_takes_9 rfl (lv_at hl 3 rfl) ?_
    refine lv_aload_n hx hb dX12_takes_10 rfl (lv_at hl 0 rfl) ?_
    refine lv_bipush (v := 34) hx hb dX12_takes_11 (by decide) ?_
    refine lv_bipush (v := 52) hx hb dX12_takes_13 (by decide) ?_
    refine lv_iload_n hx hb dX12_takes_15 rfl (lv_at hl 1 rfl) ?_
    refine lv_imul hx hb dX12_takes_16 ?_
    refine W.eq (g2 := F0 m 17 ls [.int (nI (52 * wd)), .int 34, .ref (b 0), .int (nI k_3), .ref (b j)]) (congrArg (fun z : Int32 => F0 m 17 ls (.int z :: [.int 34, .ref (b 0), .int (nI k_3), .ref (b j)])) (pk_mul 52 wd)) ?_
    refine lv_iadd hx hb dX12_takes_17 ?_
    refine W.eq (g2 := F0 m 18 ls [.int (nI (34 + (52 * wd))), .ref (b 0), .int (nI k_3), .ref (b j)]) (congrArg (fun z : Int32 => F0 m 18 ls (.int z :: [.ref (b 0), .int (nI k_3), .ref (b j)])) (nI_add 34 (52 * wd))) ?_
    refine lv_iload_n hx hb dX12_takes_18 rfl (lv_at hl 3 rfl) ?_
    refine lv_iadd hx hb dX12_takes_19 ?_
    refine W.eq (g2 := F0 m 20 ls [.int (nI ((34 + (52 * wd)) + k_3)), .ref (b 0), .int (nI k_3), .ref (b j)]) (congrArg (fun z : Int32 => F0 m 20 ls (.int z :: [.ref (b 0), .int (nI k_3), .ref (b j)])) (nI_add (34 + (52 * wd)) k_3)) ?_
    refine vp_callSi (va_Run.run (va_runV (As := [.int (nI ((34 + (52 * wd)) + k_3))]) (rest := [.int (nI k_3), .ref (b j)]) ⟨hx, hb, hml, hown, noTs⟩ (r_X12_of l dC dI H.size cs b u3 a hA4 ((34 + (52 * wd)) + k_3) (by first | assumption | omega | rfl | (congr 1; omega))) ⟨cbE 1 (wd_1536 hE) (wd_126 hE) (wd_1533 hE) rfl rfl (by decide +kernel) ⟨Nat.le_of_ble_eq_true rfl, Nat.le_of_ble_eq_true rfl⟩, (wd_1535 hE), (wd_61 hE)⟩ ⟨PR.blind, r_recv hK hP rfl, (r_pre (av := [.ref (b 0), .int (nI ((34 + (52 * wd)) + k_3))]) hK hP hJ hE)⟩ rfl rfl hl.1 rfl (lv_room (Nat.le_of_ble_eq_true rfl)) dX12_takes_20 ⟨Nat.le_of_ble_eq_true rfl, Nat.le_of_ble_eq_true rfl⟩)) (fun r6 hr6 => ?_)
    have hv1 := hr6
    refine r_iast (j := j) (k := k_3) (n := 200) (x := r6) hx hb hK hP hJ hAL hS (by omega) (fun _ => (rE_row (by omega))) hL3_2 (by omega) (by decide) dX12_takes_23 (fun u7 H locs hs7 hq7 hP hS => ?_)
    obtain ⟨w7, hw7⟩ : ∃ g, g = upd g1_3 k_3 r6 := ⟨_, rfl⟩
    rw [← hw7] at hs7
    have hA8 := (hq7.1 1 (by simp only [List.mem_cons, List.not_mem_nil, or_false, not_or]; omega)).trans hA4
    have hfr := FR.step hfr hq7 (by simp) (fun _ h => absurd h List.not_mem_nil) (fun h => rfl)
    have k1 := hw7
    refine lv_iinc (v := nI (k_3 + 1)) (lv' := [(3, .int (nI (k_3 + 1))), (0, .ref (b 0)), (1, .int (nI wd)), (2, .ref (b j))]) hx hb dX12_takes_24 hl (k := 3) rfl (nI_1 k_3) (by decide) rfl (fun ls hl => ?_)
    refine lv_goto (tgt := 2) hx hb dX12_takes_27 (by decide) ?_
    exact ih3 _ u7 _ _ _ (by omega) ⟨hP, hS, hfr, (k_3 + 1), w7, rfl, (by first | assumption | omega | rfl | (congr 1; omega)), (by exact upd_lt k1 hv1 hL3_1), hs7, lv_sub hl [1, 2, 3, 0] rfl⟩

set_option maxHeartbeats 4000000 in
set_option maxRecDepth 100000 in
theorem r_X12_lays (l : Launch) (dC : Nat → ClassId) (dI : Nat → Nat → Nat) (sz : Nat) (cs : Nat → ClassId) (b : Nat → Nat) (u : RS) (a : Nat → Int32) (hA1 : rA u 1 = a) (j : Nat) (hjr : 3 ≤ j ∧ j ≤ 14) (w : Nat → Int32) (hAj : rA u j = w) (jt : Nat) (hjtr : 3 ≤ jt ∧ jt ≤ 14) (g : Nat → Int32) (hAjt : rA u jt = g) (hp0 : PG a w) (hp1 : LG a w) (hp2 : j ≠ jt) : Met l yX12_lays [.code yX12_lays cX12_lays 3 none] ({ frames := 0, cells := 0, slots := 0, locals := 0 }) (PR [.ref (b j), .ref (b jt)] sz dC dI cs b u) (va_Qv (fun (u' : RS) => (PG a (rA u' jt)) ∧ (LG a (rA u' jt)) ∧ (rn (rA u' jt) = rn w) ∧ (rb (rA u' jt) = rb w) ∧ (vend a (rA u' jt) = vend a w) ∧ (∀ k, k < 200 → (rA u' jt) k = w k) ∧ FR [jt] [] false u u') (BR dC dI cs b) (AR b sz)) 0 0 (AR b sz) := by
  refine Met.ofW (cc := cX12_lays) (maxL := 3) (ret := none) (by decide) rfl ?_
  intro p e s m args below meth c s₁ B hml hv
  obtain ⟨rfl, hsz, hP, hK, hJ, hE⟩ := hv
  have hx := B.exec
  have hb := B.bytes
  have hr := B.returns
  have hown : s.vm.findClass RX12 = some m.cls := findClass_of_methodNamed B.named
  have hlocks := B.notSynchronized
  subst hsz
  have hAL : ∀ i, i < 108 → AR b s.heap.size (b i) := fun i h => Or.inl ⟨i, h, rfl⟩
  have hA : ∀ q : Nat, s.heap.size ≤ q → AR b s.heap.size q := fun q h => Or.inr h
  have hS : va_S (AR b s.heap.size) s.heap s.heap [] := va_S.rf
  have hfr : FR [jt] [] false u u := FR.refl
  have hl := lv_entry ([.ref (b j), .ref (b jt)]) (n := 3) (Nat.le_of_ble_eq_true rfl)
  rw [lg_entry_eq]
  generalize (lg_sl ([.ref (b j), .ref (b jt)]) ++ List.replicate (3 - (lg_sl ([.ref (b j), .ref (b jt)])).length) Slot.unset).toArray = ls at hl ⊢
  have hl : lv_has ls 3 [(0, .ref (b j)), (1, .ref (b jt))] := hl
  have ha1 := pg_le hp0
  refine lv_iconst (v := 0) hx hb dX12_lays_0 (by decide) ?_
  refine lv_istore_n (lv' := [(2, .int 0), (0, .ref (b j)), (1, .ref (b jt))]) hx hb dX12_lays_1 rfl hl (by decide) rfl (fun ls hl => ?_)
  refine r_ind (I := fun n u_ H locs ls => va_P (dC, dI) vwCl (rW cs b u_) H ∧ va_S (AR b s.heap.size) s.heap H locs ∧ FR [jt] [] false u u_ ∧ ∃ (k_4 : Nat) (g1_4 : Nat → Int32), n = 200 - k_4 ∧ (k_4 ≤ 200) ∧ (∀ q, q < k_4 → g1_4 q = w q) ∧ (rA u_ jt = g1_4) ∧ lv_has ls 3 [(0, .ref (b j)), (1, .ref (b jt)), (2, .int (nI k_4))]) (fun n u4 H locs ls hI ih4 => ?_) _ u _ _ _ ⟨hP, hS, hfr, 0, g, rfl, (by first | assumption | omega | rfl | (congr 1; omega)), (by intro q hq; omega), hAjt, lv_sub hl [1, 2, 0] rfl⟩
  obtain ⟨hP, hS, hfr, k_4, g1_4, hmu4, hL4_0, hL4_1, hL4_2, hl⟩ := hI
  have hA5 := (hfr.1 1 (by simp only [List.mem_cons, List.not_mem_nil, or_false, not_or]; omega)).trans hA1
  have hA6 := (hfr.1 j (by simp only [List.mem_cons, List.not_mem_nil, or_false, not_or]; omega)).trans hAj
  subst hmu4
  refine lv_iload_n hx hb dX12_lays_2 rfl (lv_at hl 2 rfl) ?_
  refine lv_aload_n hx hb dX12_lays_3 rfl (lv_at hl 0 rfl) ?_
  refine r_alen (j := j) (t0 := 0) (v := 200) hx hb hK hP (by omega) (rE_row (by omega)) rfl rfl dX12_lays_4 ?_
  refine lv_icmp_ge (tgt := 20) hx hb dX12_lays_5 (by decide) (fun c7 => ?_) (fun c7 => ?_)
  · have c7 := (b_le (show Int32.toInt 200 = 200 from rfl) (nI_toInt (n := k_4) (by omega))).mp c7
    have q9 : ∀ k, k < 200 → g1_4 k = w k := fun k hk => hL4_1 k (by omega)
    have q0 : ∀ k, k ≤ 2 + 2 * rn w → g1_4 k = w k := fun k hk => q9 k (by omega)
    obtain ⟨s1, s2, s3, s4⟩ := pg_same (a := a) q0 hp0
    have s5 := lg_same q0 hp0 hp1
    exact W.vret hx hb hr (fun t ht hW => ⟨⟨u4, rfl, ⟨(by first | (rw [hL4_2]; done) | (rw [hL4_2]; first | assumption | omega | rfl | (congr 1; omega))), (by first | (rw [hL4_2]; done) | (rw [hL4_2]; first | assumption | omega | rfl | (congr 1; omega))), (by first | (rw [hL4_2]; done) | (rw [hL4_2]; first | assumption | omega | rfl | (congr 1; omega))), (by first | (rw [hL4_2]; done) | (rw [hL4_2]; first | assumption | omega | rfl | (congr 1; omega))), (by first | (rw [hL4_2]; done) | (rw [hL4_2]; first | assumption | omega | rfl | (congr 1; omega))), (by first | (rw [hL4_2]; done) | (rw [hL4_2]; first | assumption | omega | rfl | (congr 1; omega))), hfr⟩, (show va_P (dC, dI) vwCl (rW cs b u4) t.heap by rw [ht]; exact hP)⟩, hS.F ht⟩) hS.2.2 dX12_lays_20
  · have c7 := mt (b_le (show Int32.toInt 200 = 200 from rfl) (nI_toInt (n := k_4) (by omega))).mpr c7
    refine lv_aload_n hx hb dX12_lays_8 rfl (lv_at hl 1 rfl) ?_
    refine lv_iload_n hx hb dX12_lays_9 rfl (lv_at hl 2 rfl) ?_
    refine lv_aload_n hx hb dX12_lays_10 rfl (lv_at hl 0 rfl) ?_
    refine lv_iload_n hx hb dX12_lays_11 rfl (lv_at hl 2 rfl) ?_
    refine r_iald (j := j) (k := k_4) (n := 200) (x := w k_4) hx hb hK hP (by omega) (rE_row (by omega)) (by omega) (by decide) (by rw [hA6]) dX12_lays_12 ?_
    refine lv_topi (fun x9 ex9 => ?_)
    have hv1 := ex9
    refine r_iast (j := jt) (k := k_4) (n := 200) (x := x9) hx hb hK hP hJ hAL hS (by omega) (fun _ => (rE_row (by omega))) hL4_2 (by omega) (by decide) dX12_lays_13 (fun u10 H locs hs10 hq10 hP hS => ?_)
    obtain ⟨w10, hw10⟩ : ∃ g, g = upd g1_4 k_4 x9 := ⟨_, rfl⟩
    rw [← hw10] at hs10
    have hA11 := (hq10.1 1 (by simp only [List.mem_cons, List.not_mem_nil, or_false, not_or]; omega)).trans hA5
    have hA12 := (hq10.1 j (by simp only [List.mem_cons, List.not_mem_nil, or_false, not_or]; omega)).trans hA6
    have hfr := FR.step hfr hq10 (by simp) (fun _ h => absurd h List.not_mem_nil) (fun h => rfl)
    have k1 := hw10
    refine lv_iinc (v := nI (k_4 + 1)) (lv' := [(2, .int (nI (k_4 + 1))), (0, .ref (b j)), (1, .ref (b jt))]) hx hb dX12_lays_14 hl (k := 2) rfl (nI_1 k_4) (by decide) rfl (fun ls hl => ?_)
    refine lv_goto (tgt := 2) hx hb dX12_lays_17 (by decide) ?_
    exact ih4 _ u10 _ _ _ (by omega) ⟨hP, hS, hfr, (k_4 + 1), w10, rfl, (by first | assumption | omega | rfl | (congr 1; omega)), (by exact upd_lt k1 hv1 hL4_1), hs10, lv_sub hl [1, 2, 0] rfl⟩

set_option maxHeartbeats 4000000 in
set_option maxRecDepth 100000 in
theorem r_X12_isLike (l : Launch) (dC : Nat → ClassId) (dI : Nat → Nat → Nat) (sz : Nat) (cs : Nat → ClassId) (b : Nat → Nat) (u : RS) (a : Nat → Int32) (hA1 : rA u 1 = a) (j : Nat) (hjr : 3 ≤ j ∧ j ≤ 14) (w : Nat → Int32) (hAj : rA u j = w) (jt : Nat) (hjtr : 3 ≤ jt ∧ jt ≤ 14) (g : Nat → Int32) (hAjt : rA u jt = g) (hp0 : PG a w) (hp1 : GG a) : Met l yX12_isLike [.code yX12_isLike cX12_isLike 4 (some .boolean)] ({ frames := 0, cells := 0, slots := 0, locals := 0 }) (PR [.ref (b j), .ref (b jt)] sz dC dI cs b u) (vp_Si (fun (r : Int32) => (r = 1 ∧ (True)) ∨ (r = 0 ∧ (True)))) 0 0 (fun _ => False) := by
  refine Met.ofW (cc := cX12_isLike) (maxL := 4) (ret := (some .boolean)) (by decide) rfl ?_
  intro p e s m args below meth c s₁ B hml hv
  obtain ⟨rfl, hsz, hP, hK, hJ, hE⟩ := hv
  have hx := B.exec
  have hb := B.bytes
  have hr := B.returns
  have hown : s.vm.findClass RX12 = some m.cls := findClass_of_methodNamed B.named
  have hlocks := B.notSynchronized
  subst hsz
  have hl := lv_entry ([.ref (b j), .ref (b jt)]) (n := 4) (Nat.le_of_ble_eq_true rfl)
  rw [lg_entry_eq]
  generalize (lg_sl ([.ref (b j), .ref (b jt)]) ++ List.replicate (4 - (lg_sl ([.ref (b j), .ref (b jt)])).length) Slot.unset).toArray = ls at hl ⊢
  have hl : lv_has ls 4 [(0, .ref (b j)), (1, .ref (b jt))] := hl
  have ha1 := pg_le hp0
  have hG := hp1
  have ha2 := gg_le hp1
  refine lv_aload_n hx hb dX12_isLike_0 rfl (lv_at hl 0 rfl) ?_
  refine lv_iconst (v := 0) hx hb dX12_isLike_1 (by decide) ?_
  refine r_iald (j := j) (k := 0) (n := 200) (x := nI (rb w)) hx hb hK hP (by omega) (rE_row (by omega)) (by decide) (by decide) (by rw [hAj]; exact pg_b hp0) dX12_isLike_2 ?_
  refine lv_aload_n hx hb dX12_isLike_3 rfl (lv_at hl 1 rfl) ?_
  refine lv_iconst (v := 0) hx hb dX12_isLike_4 (by decide) ?_
  refine r_iald (j := jt) (k := 0) (n := 200) (x := g 0) hx hb hK hP (by omega) (rE_row (by omega)) (by decide) (by decide) (by rw [hAjt]) dX12_isLike_5 ?_
  refine lv_topi (fun x5 ex5 => ?_)
  refine lv_icmp_ne (tgt := 22) hx hb dX12_isLike_6 (by decide) (fun c6 => ?_) (fun c6 => ?_)
  · have c6 := mt (b_eq (nI_toInt (n := rb w) (by omega)) (rfl : Int32.toInt x5 = _)).mpr c6
    refine lv_iconst (v := 0) hx hb dX12_isLike_22 (by decide) ?_
    refine lv_istore_n (lv' := [(2, .int 0), (0, .ref (b j)), (1, .ref (b jt))]) hx hb dX12_isLike_23 rfl hl (by decide) rfl (fun ls hl => ?_)
    refine lv_iconst (v := 0) hx hb dX12_isLike_24 (by decide) ?_
    refine lv_istore_n (lv' := [(3, .int 0), (2, .int 0), (0, .ref (b j)), (1, .ref (b jt))]) hx hb dX12_isLike_25 rfl hl (by decide) rfl (fun ls hl => ?_)
    refine r_indP (I := fun n ls => ∃ (k_7 : Nat) (x_7 : Int32), n = 2 * rn w + 1 - k_7 ∧ (k_7 ≤ 2 * rn w + 1) ∧ (x_7 = 0 ∨ x_7 = 1) ∧ lv_has ls 4 [(0, .ref (b j)), (1, .ref (b jt)), (2, .int x_7), (3, .int (nI k_7))]) (fun n ls hI ih7 => ?_) _ _ ⟨0, 0, rfl, (by first | assumption | omega | rfl | (congr 1; omega)), (by decide), lv_sub hl [2, 3, 1, 0] rfl⟩
    obtain ⟨k_7, x_7, hmu7, hL7_0, hL7_1, hl⟩ := hI
    subst hmu7
    refine lv_iload_n hx hb dX12_isLike_26 rfl (lv_at hl 3 rfl) ?_
    refine lv_iconst (v := 2) hx hb dX12_isLike_27 (by decide) ?_
    refine lv_aload_n hx hb dX12_isLike_28 rfl (lv_at hl 0 rfl) ?_
    refine lv_iconst (v := 1) hx hb dX12_isLike_29 (by decide) ?_
    refine r_iald (j := j) (k := 1) (n := 200) (x := nI (rn w)) hx hb hK hP (by omega) (rE_row (by omega)) (by decide) (by decide) (by rw [hAj]; exact pg_n hp0) dX12_isLike_30 ?_
    refine lv_imul hx hb dX12_isLike_31 ?_
    refine W.eq (g2 := F0 m 32 ls [.int (nI (2 * (rn w))), .int (nI k_7)]) (congrArg (fun z : Int32 => F0 m 32 ls (.int z :: [.int (nI k_7)])) (pk_mul 2 (rn w))) ?_
    refine lv_icmp_gt (tgt := 64) hx hb dX12_isLike_32 (by decide) (fun c9 => ?_) (fun c9 => ?_)
    · have c9 := (b_lt (nI_toInt (n := 2 * (rn w)) (by omega)) (nI_toInt (n := k_7) (by omega))).mp c9
      refine lv_iload_n hx hb dX12_isLike_64 rfl (lv_at hl 2 rfl) ?_
      exact W.zret (v := x_7) hx hb hr (z_fit hL7_1) (fun t ht hW => ⟨x_7, rfl, (by rcases hL7_1 with h | h <;> simp [h]), ht⟩) (fun _ h => absurd h List.not_mem_nil) dX12_isLike_65
    · have c9 := mt (b_lt (nI_toInt (n := 2 * (rn w)) (by omega)) (nI_toInt (n := k_7) (by omega))).mpr c9
      refine lv_iload_n hx hb dX12_isLike_35 rfl (lv_at hl 2 rfl) ?_
      refine lv_if_eq (tgt := 64) hx hb dX12_isLike_36 (by decide) (fun c10 => ?_) (fun c10 => ?_)
      · have c10 := (b_eq (rfl : Int32.toInt x_7 = _) (show Int32.toInt 0 = 0 from rfl)).mp c10
        refine lv_iload_n hx hb dX12_isLike_64 rfl (lv_at hl 2 rfl) ?_
        exact W.zret (v := x_7) hx hb hr (z_fit hL7_1) (fun t ht hW => ⟨x_7, rfl, (by rcases hL7_1 with h | h <;> simp [h]), ht⟩) (fun _ h => absurd h List.not_mem_nil) dX12_isLike_65
      · have c10 := mt (b_eq (rfl : Int32.toInt x_7 = _) (show Int32.toInt 0 = 0 from rfl)).mpr c10
        refine lv_aload_n hx hb dX12_isLike_39 rfl (lv_at hl 0 rfl) ?_
        refine lv_iconst (v := 2) hx hb dX12_isLike_40 (by decide) ?_
        refine lv_iload_n hx hb dX12_isLike_41 rfl (lv_at hl 3 rfl) ?_
        refine lv_iadd hx hb dX12_isLike_42 ?_
        refine W.eq (g2 := F0 m 43 ls [.int (nI (2 + k_7)), .ref (b j)]) (congrArg (fun z : Int32 => F0 m 43 ls (.int z :: [.ref (b j)])) (nI_add 2 k_7)) ?_
        refine r_iald (j := j) (k := 2 + k_7) (n := 200) (x := w (2 + k_7)) hx hb hK hP (by omega) (rE_row (by omega)) (by omega) (by decide) (by rw [hAj]) dX12_isLike_43 ?_
        refine lv_topi (fun x12 ex12 => ?_)
        refine lv_aload_n hx hb dX12_isLike_44 rfl (lv_at hl 1 rfl) ?_
        refine lv_iconst (v := 2) hx hb dX12_isLike_45 (by decide) ?_
        refine lv_iload_n hx hb dX12_isLike_46 rfl (lv_at hl 3 rfl) ?_
        refine lv_iadd hx hb dX12_isLike_47 ?_
        refine W.eq (g2 := F0 m 48 ls [.int (nI (2 + k_7)), .ref (b jt), .int x12]) (congrArg (fun z : Int32 => F0 m 48 ls (.int z :: [.ref (b jt), .int x12])) (nI_add 2 k_7)) ?_
        refine r_iald (j := jt) (k := 2 + k_7) (n := 200) (x := g (2 + k_7)) hx hb hK hP (by omega) (rE_row (by omega)) (by omega) (by decide) (by rw [hAjt]) dX12_isLike_48 ?_
        refine lv_topi (fun x14 ex14 => ?_)
        refine lv_icmp_ne (tgt := 56) hx hb dX12_isLike_49 (by decide) (fun c15 => ?_) (fun c15 => ?_)
        · have c15 := mt (b_eq (rfl : Int32.toInt x12 = _) (rfl : Int32.toInt x14 = _)).mpr c15
          refine lv_iconst (v := 0) hx hb dX12_isLike_56 (by decide) ?_
          refine lv_istore_n (lv' := [(2, .int 0), (0, .ref (b j)), (1, .ref (b jt)), (3, .int (nI k_7))]) hx hb dX12_isLike_57 rfl hl (by decide) rfl (fun ls hl => ?_)
          refine lv_iinc (v := nI (k_7 + 1)) (lv' := [(3, .int (nI (k_7 + 1))), (2, .int 0), (0, .ref (b j)), (1, .ref (b jt))]) hx hb dX12_isLike_58 hl (k := 3) rfl (nI_1 k_7) (by decide) rfl (fun ls hl => ?_)
          refine lv_goto (tgt := 26) hx hb dX12_isLike_61 (by decide) ?_
          exact ih7 _ _ (by omega) ⟨(k_7 + 1), 0, rfl, (by first | assumption | omega | rfl | (congr 1; omega)), (by decide), lv_sub hl [2, 3, 1, 0] rfl⟩
        · have c15 := (b_eq (rfl : Int32.toInt x12 = _) (rfl : Int32.toInt x14 = _)).mp c15
          refine lv_iconst (v := 1) hx hb dX12_isLike_52 (by decide) ?_
          refine lv_goto (tgt := 57) hx hb dX12_isLike_53 (by decide) ?_
          refine lv_istore_n (lv' := [(2, .int 1), (0, .ref (b j)), (1, .ref (b jt)), (3, .int (nI k_7))]) hx hb dX12_isLike_57 rfl hl (by decide) rfl (fun ls hl => ?_)
          refine lv_iinc (v := nI (k_7 + 1)) (lv' := [(3, .int (nI (k_7 + 1))), (2, .int 1), (0, .ref (b j)), (1, .ref (b jt))]) hx hb dX12_isLike_58 hl (k := 3) rfl (nI_1 k_7) (by decide) rfl (fun ls hl => ?_)
          refine lv_goto (tgt := 26) hx hb dX12_isLike_61 (by decide) ?_
          exact ih7 _ _ (by omega) ⟨(k_7 + 1), 1, rfl, (by first | assumption | omega | rfl | (congr 1; omega)), (by decide), lv_sub hl [2, 3, 1, 0] rfl⟩
  · have c6 := (b_eq (nI_toInt (n := rb w) (by omega)) (rfl : Int32.toInt x5 = _)).mp c6
    refine lv_aload_n hx hb dX12_isLike_9 rfl (lv_at hl 0 rfl) ?_
    refine lv_iconst (v := 1) hx hb dX12_isLike_10 (by decide) ?_
    refine r_iald (j := j) (k := 1) (n := 200) (x := nI (rn w)) hx hb hK hP (by omega) (rE_row (by omega)) (by decide) (by decide) (by rw [hAj]; exact pg_n hp0) dX12_isLike_11 ?_
    refine lv_aload_n hx hb dX12_isLike_12 rfl (lv_at hl 1 rfl) ?_
    refine lv_iconst (v := 1) hx hb dX12_isLike_13 (by decide) ?_
    refine r_iald (j := jt) (k := 1) (n := 200) (x := g 1) hx hb hK hP (by omega) (rE_row (by omega)) (by decide) (by decide) (by rw [hAjt]) dX12_isLike_14 ?_
    refine lv_topi (fun x18 ex18 => ?_)
    refine lv_icmp_ne (tgt := 22) hx hb dX12_isLike_15 (by decide) (fun c19 => ?_) (fun c19 => ?_)
    · have c19 := mt (b_eq (nI_toInt (n := rn w) (by omega)) (rfl : Int32.toInt x18 = _)).mpr c19
      refine lv_iconst (v := 0) hx hb dX12_isLike_22 (by decide) ?_
      refine lv_istore_n (lv' := [(2, .int 0), (0, .ref (b j)), (1, .ref (b jt))]) hx hb dX12_isLike_23 rfl hl (by decide) rfl (fun ls hl => ?_)
      refine lv_iconst (v := 0) hx hb dX12_isLike_24 (by decide) ?_
      refine lv_istore_n (lv' := [(3, .int 0), (2, .int 0), (0, .ref (b j)), (1, .ref (b jt))]) hx hb dX12_isLike_25 rfl hl (by decide) rfl (fun ls hl => ?_)
      refine r_indP (I := fun n ls => ∃ (k_20 : Nat) (x_20 : Int32), n = 2 * rn w + 1 - k_20 ∧ (k_20 ≤ 2 * rn w + 1) ∧ (x_20 = 0 ∨ x_20 = 1) ∧ lv_has ls 4 [(0, .ref (b j)), (1, .ref (b jt)), (2, .int x_20), (3, .int (nI k_20))]) (fun n ls hI ih20 => ?_) _ _ ⟨0, 0, rfl, (by first | assumption | omega | rfl | (congr 1; omega)), (by decide), lv_sub hl [2, 3, 1, 0] rfl⟩
      obtain ⟨k_20, x_20, hmu20, hL20_0, hL20_1, hl⟩ := hI
      subst hmu20
      refine lv_iload_n hx hb dX12_isLike_26 rfl (lv_at hl 3 rfl) ?_
      refine lv_iconst (v := 2) hx hb dX12_isLike_27 (by decide) ?_
      refine lv_aload_n hx hb dX12_isLike_28 rfl (lv_at hl 0 rfl) ?_
      refine lv_iconst (v := 1) hx hb dX12_isLike_29 (by decide) ?_
      refine r_iald (j := j) (k := 1) (n := 200) (x := nI (rn w)) hx hb hK hP (by omega) (rE_row (by omega)) (by decide) (by decide) (by rw [hAj]; exact pg_n hp0) dX12_isLike_30 ?_
      refine lv_imul hx hb dX12_isLike_31 ?_
      refine W.eq (g2 := F0 m 32 ls [.int (nI (2 * (rn w))), .int (nI k_20)]) (congrArg (fun z : Int32 => F0 m 32 ls (.int z :: [.int (nI k_20)])) (pk_mul 2 (rn w))) ?_
      refine lv_icmp_gt (tgt := 64) hx hb dX12_isLike_32 (by decide) (fun c22 => ?_) (fun c22 => ?_)
      · have c22 := (b_lt (nI_toInt (n := 2 * (rn w)) (by omega)) (nI_toInt (n := k_20) (by omega))).mp c22
        refine lv_iload_n hx hb dX12_isLike_64 rfl (lv_at hl 2 rfl) ?_
        exact W.zret (v := x_20) hx hb hr (z_fit hL20_1) (fun t ht hW => ⟨x_20, rfl, (by rcases hL20_1 with h | h <;> simp [h]), ht⟩) (fun _ h => absurd h List.not_mem_nil) dX12_isLike_65
      · have c22 := mt (b_lt (nI_toInt (n := 2 * (rn w)) (by omega)) (nI_toInt (n := k_20) (by omega))).mpr c22
        refine lv_iload_n hx hb dX12_isLike_35 rfl (lv_at hl 2 rfl) ?_
        refine lv_if_eq (tgt := 64) hx hb dX12_isLike_36 (by decide) (fun c23 => ?_) (fun c23 => ?_)
        · have c23 := (b_eq (rfl : Int32.toInt x_20 = _) (show Int32.toInt 0 = 0 from rfl)).mp c23
          refine lv_iload_n hx hb dX12_isLike_64 rfl (lv_at hl 2 rfl) ?_
          exact W.zret (v := x_20) hx hb hr (z_fit hL20_1) (fun t ht hW => ⟨x_20, rfl, (by rcases hL20_1 with h | h <;> simp [h]), ht⟩) (fun _ h => absurd h List.not_mem_nil) dX12_isLike_65
        · have c23 := mt (b_eq (rfl : Int32.toInt x_20 = _) (show Int32.toInt 0 = 0 from rfl)).mpr c23
          refine lv_aload_n hx hb dX12_isLike_39 rfl (lv_at hl 0 rfl) ?_
          refine lv_iconst (v := 2) hx hb dX12_isLike_40 (by decide) ?_
          refine lv_iload_n hx hb dX12_isLike_41 rfl (lv_at hl 3 rfl) ?_
          refine lv_iadd hx hb dX12_isLike_42 ?_
          refine W.eq (g2 := F0 m 43 ls [.int (nI (2 + k_20)), .ref (b j)]) (congrArg (fun z : Int32 => F0 m 43 ls (.int z :: [.ref (b j)])) (nI_add 2 k_20)) ?_
          refine r_iald (j := j) (k := 2 + k_20) (n := 200) (x := w (2 + k_20)) hx hb hK hP (by omega) (rE_row (by omega)) (by omega) (by decide) (by rw [hAj]) dX12_isLike_43 ?_
          refine lv_topi (fun x25 ex25 => ?_)
          refine lv_aload_n hx hb dX12_isLike_44 rfl (lv_at hl 1 rfl) ?_
          refine lv_iconst (v := 2) hx hb dX12_isLike_45 (by decide) ?_
          refine lv_iload_n hx hb dX12_isLike_46 rfl (lv_at hl 3 rfl) ?_
          refine lv_iadd hx hb dX12_isLike_47 ?_
          refine W.eq (g2 := F0 m 48 ls [.int (nI (2 + k_20)), .ref (b jt), .int x25]) (congrArg (fun z : Int32 => F0 m 48 ls (.int z :: [.ref (b jt), .int x25])) (nI_add 2 k_20)) ?_
          refine r_iald (j := jt) (k := 2 + k_20) (n := 200) (x := g (2 + k_20)) hx hb hK hP (by omega) (rE_row (by omega)) (by omega) (by decide) (by rw [hAjt]) dX12_isLike_48 ?_
          refine lv_topi (fun x27 ex27 => ?_)
          refine lv_icmp_ne (tgt := 56) hx hb dX12_isLike_49 (by decide) (fun c28 => ?_) (fun c28 => ?_)
          · have c28 := mt (b_eq (rfl : Int32.toInt x25 = _) (rfl : Int32.toInt x27 = _)).mpr c28
            refine lv_iconst (v := 0) hx hb dX12_isLike_56 (by decide) ?_
            refine lv_istore_n (lv' := [(2, .int 0), (0, .ref (b j)), (1, .ref (b jt)), (3, .int (nI k_20))]) hx hb dX12_isLike_57 rfl hl (by decide) rfl (fun ls hl => ?_)
            refine lv_iinc (v := nI (k_20 + 1)) (lv' := [(3, .int (nI (k_20 + 1))), (2, .int 0), (0, .ref (b j)), (1, .ref (b jt))]) hx hb dX12_isLike_58 hl (k := 3) rfl (nI_1 k_20) (by decide) rfl (fun ls hl => ?_)
            refine lv_goto (tgt := 26) hx hb dX12_isLike_61 (by decide) ?_
            exact ih20 _ _ (by omega) ⟨(k_20 + 1), 0, rfl, (by first | assumption | omega | rfl | (congr 1; omega)), (by decide), lv_sub hl [2, 3, 1, 0] rfl⟩
          · have c28 := (b_eq (rfl : Int32.toInt x25 = _) (rfl : Int32.toInt x27 = _)).mp c28
            refine lv_iconst (v := 1) hx hb dX12_isLike_52 (by decide) ?_
            refine lv_goto (tgt := 57) hx hb dX12_isLike_53 (by decide) ?_
            refine lv_istore_n (lv' := [(2, .int 1), (0, .ref (b j)), (1, .ref (b jt)), (3, .int (nI k_20))]) hx hb dX12_isLike_57 rfl hl (by decide) rfl (fun ls hl => ?_)
            refine lv_iinc (v := nI (k_20 + 1)) (lv' := [(3, .int (nI (k_20 + 1))), (2, .int 1), (0, .ref (b j)), (1, .ref (b jt))]) hx hb dX12_isLike_58 hl (k := 3) rfl (nI_1 k_20) (by decide) rfl (fun ls hl => ?_)
            refine lv_goto (tgt := 26) hx hb dX12_isLike_61 (by decide) ?_
            exact ih20 _ _ (by omega) ⟨(k_20 + 1), 1, rfl, (by first | assumption | omega | rfl | (congr 1; omega)), (by decide), lv_sub hl [2, 3, 1, 0] rfl⟩
    · have c19 := (b_eq (nI_toInt (n := rn w) (by omega)) (rfl : Int32.toInt x18 = _)).mp c19
      refine lv_iconst (v := 1) hx hb dX12_isLike_18 (by decide) ?_
      refine lv_goto (tgt := 23) hx hb dX12_isLike_19 (by decide) ?_
      refine lv_istore_n (lv' := [(2, .int 1), (0, .ref (b j)), (1, .ref (b jt))]) hx hb dX12_isLike_23 rfl hl (by decide) rfl (fun ls hl => ?_)
      refine lv_iconst (v := 0) hx hb dX12_isLike_24 (by decide) ?_
      refine lv_istore_n (lv' := [(3, .int 0), (2, .int 1), (0, .ref (b j)), (1, .ref (b jt))]) hx hb dX12_isLike_25 rfl hl (by decide) rfl (fun ls hl => ?_)
      refine r_indP (I := fun n ls => ∃ (k_29 : Nat) (x_29 : Int32), n = 2 * rn w + 1 - k_29 ∧ (k_29 ≤ 2 * rn w + 1) ∧ (x_29 = 0 ∨ x_29 = 1) ∧ lv_has ls 4 [(0, .ref (b j)), (1, .ref (b jt)), (2, .int x_29), (3, .int (nI k_29))]) (fun n ls hI ih29 => ?_) _ _ ⟨0, 1, rfl, (by first | assumption | omega | rfl | (congr 1; omega)), (by decide), lv_sub hl [2, 3, 1, 0] rfl⟩
      obtain ⟨k_29, x_29, hmu29, hL29_0, hL29_1, hl⟩ := hI
      subst hmu29
      refine lv_iload_n hx hb dX12_isLike_26 rfl (lv_at hl 3 rfl) ?_
      refine lv_iconst (v := 2) hx hb dX12_isLike_27 (by decide) ?_
      refine lv_aload_n hx hb dX12_isLike_28 rfl (lv_at hl 0 rfl) ?_
      refine lv_iconst (v := 1) hx hb dX12_isLike_29 (by decide) ?_
      refine r_iald (j := j) (k := 1) (n := 200) (x := nI (rn w)) hx hb hK hP (by omega) (rE_row (by omega)) (by decide) (by decide) (by rw [hAj]; exact pg_n hp0) dX12_isLike_30 ?_
      refine lv_imul hx hb dX12_isLike_31 ?_
      refine W.eq (g2 := F0 m 32 ls [.int (nI (2 * (rn w))), .int (nI k_29)]) (congrArg (fun z : Int32 => F0 m 32 ls (.int z :: [.int (nI k_29)])) (pk_mul 2 (rn w))) ?_
      refine lv_icmp_gt (tgt := 64) hx hb dX12_isLike_32 (by decide) (fun c31 => ?_) (fun c31 => ?_)
      · have c31 := (b_lt (nI_toInt (n := 2 * (rn w)) (by omega)) (nI_toInt (n := k_29) (by omega))).mp c31
        refine lv_iload_n hx hb dX12_isLike_64 rfl (lv_at hl 2 rfl) ?_
        exact W.zret (v := x_29) hx hb hr (z_fit hL29_1) (fun t ht hW => ⟨x_29, rfl, (by rcases hL29_1 with h | h <;> simp [h]), ht⟩) (fun _ h => absurd h List.not_mem_nil) dX12_isLike_65
      · have c31 := mt (b_lt (nI_toInt (n := 2 * (rn w)) (by omega)) (nI_toInt (n := k_29) (by omega))).mpr c31
        refine lv_iload_n hx hb dX12_isLike_35 rfl (lv_at hl 2 rfl) ?_
        refine lv_if_eq (tgt := 64) hx hb dX12_isLike_36 (by decide) (fun c32 => ?_) (fun c32 => ?_)
        · have c32 := (b_eq (rfl : Int32.toInt x_29 = _) (show Int32.toInt 0 = 0 from rfl)).mp c32
          refine lv_iload_n hx hb dX12_isLike_64 rfl (lv_at hl 2 rfl) ?_
          exact W.zret (v := x_29) hx hb hr (z_fit hL29_1) (fun t ht hW => ⟨x_29, rfl, (by rcases hL29_1 with h | h <;> simp [h]), ht⟩) (fun _ h => absurd h List.not_mem_nil) dX12_isLike_65
        · have c32 := mt (b_eq (rfl : Int32.toInt x_29 = _) (show Int32.toInt 0 = 0 from rfl)).mpr c32
          refine lv_aload_n hx hb dX12_isLike_39 rfl (lv_at hl 0 rfl) ?_
          refine lv_iconst (v := 2) hx hb dX12_isLike_40 (by decide) ?_
          refine lv_iload_n hx hb dX12_isLike_41 rfl (lv_at hl 3 rfl) ?_
          refine lv_iadd hx hb dX12_isLike_42 ?_
          refine W.eq (g2 := F0 m 43 ls [.int (nI (2 + k_29)), .ref (b j)]) (congrArg (fun z : Int32 => F0 m 43 ls (.int z :: [.ref (b j)])) (nI_add 2 k_29)) ?_
          refine r_iald (j := j) (k := 2 + k_29) (n := 200) (x := w (2 + k_29)) hx hb hK hP (by omega) (rE_row (by omega)) (by omega) (by decide) (by rw [hAj]) dX12_isLike_43 ?_
          refine lv_topi (fun x34 ex34 => ?_)
          refine lv_aload_n hx hb dX12_isLike_44 rfl (lv_at hl 1 rfl) ?_
          refine lv_iconst (v := 2) hx hb dX12_isLike_45 (by decide) ?_
          refine lv_iload_n hx hb dX12_isLike_46 rfl (lv_at hl 3 rfl) ?_
          refine lv_iadd hx hb dX12_isLike_47 ?_
          refine W.eq (g2 := F0 m 48 ls [.int (nI (2 + k_29)), .ref (b jt), .int x34]) (congrArg (fun z : Int32 => F0 m 48 ls (.int z :: [.ref (b jt), .int x34])) (nI_add 2 k_29)) ?_
          refine r_iald (j := jt) (k := 2 + k_29) (n := 200) (x := g (2 + k_29)) hx hb hK hP (by omega) (rE_row (by omega)) (by omega) (by decide) (by rw [hAjt]) dX12_isLike_48 ?_
          refine lv_topi (fun x36 ex36 => ?_)
          refine lv_icmp_ne (tgt := 56) hx hb dX12_isLike_49 (by decide) (fun c37 => ?_) (fun c37 => ?_)
          · have c37 := mt (b_eq (rfl : Int32.toInt x34 = _) (rfl : Int32.toInt x36 = _)).mpr c37
            refine lv_iconst (v := 0) hx hb dX12_isLike_56 (by decide) ?_
            refine lv_istore_n (lv' := [(2, .int 0), (0, .ref (b j)), (1, .ref (b jt)), (3, .int (nI k_29))]) hx hb dX12_isLike_57 rfl hl (by decide) rfl (fun ls hl => ?_)
            refine lv_iinc (v := nI (k_29 + 1)) (lv' := [(3, .int (nI (k_29 + 1))), (2, .int 0), (0, .ref (b j)), (1, .ref (b jt))]) hx hb dX12_isLike_58 hl (k := 3) rfl (nI_1 k_29) (by decide) rfl (fun ls hl => ?_)
            refine lv_goto (tgt := 26) hx hb dX12_isLike_61 (by decide) ?_
            exact ih29 _ _ (by omega) ⟨(k_29 + 1), 0, rfl, (by first | assumption | omega | rfl | (congr 1; omega)), (by decide), lv_sub hl [2, 3, 1, 0] rfl⟩
          · have c37 := (b_eq (rfl : Int32.toInt x34 = _) (rfl : Int32.toInt x36 = _)).mp c37
            refine lv_iconst (v := 1) hx hb dX12_isLike_52 (by decide) ?_
            refine lv_goto (tgt := 57) hx hb dX12_isLike_53 (by decide) ?_
            refine lv_istore_n (lv' := [(2, .int 1), (0, .ref (b j)), (1, .ref (b jt)), (3, .int (nI k_29))]) hx hb dX12_isLike_57 rfl hl (by decide) rfl (fun ls hl => ?_)
            refine lv_iinc (v := nI (k_29 + 1)) (lv' := [(3, .int (nI (k_29 + 1))), (2, .int 1), (0, .ref (b j)), (1, .ref (b jt))]) hx hb dX12_isLike_58 hl (k := 3) rfl (nI_1 k_29) (by decide) rfl (fun ls hl => ?_)
            refine lv_goto (tgt := 26) hx hb dX12_isLike_61 (by decide) ?_
            exact ih29 _ _ (by omega) ⟨(k_29 + 1), 1, rfl, (by first | assumption | omega | rfl | (congr 1; omega)), (by decide), lv_sub hl [2, 3, 1, 0] rfl⟩
