set_option maxHeartbeats 4000000 in
set_option maxRecDepth 100000 in
theorem q_X9_byteAt (l : Launch) (dC : Nat → ClassId) (dI : Nat → Nat → Nat) (sz : Nat) (cs : Nat → ClassId) (b : Nat → Nat) (u : RS) (tx : Nat → Int32) (hAc5 : rA u 5 = tx) (k : Nat) (sz1 : Nat) (hF14 : rF u 14 = 1) (hF15 : rF u 15 = nI sz1) (hp0 : BY tx) (hp1 : sz1 ≤ 700) (hp2 : k < 100000) : Met l yX9_byteAt [.code yX9_byteAt cX9_byteAt 2 (some .int)] ({ frames := 0, cells := 0, slots := 0, locals := 0 }) (PQ [.ref (b 1), .int (nI k)] sz dC dI cs b u) (vp_Si (fun (r : Int32) => r = sB tx sz1 k)) 0 0 (fun _ => False) := by
  refine Met.ofW (cc := cX9_byteAt) (maxL := 2) (ret := (some .int)) (by decide) rfl ?_
  intro p e s m args below meth c s₁ B hml hv
  obtain ⟨rfl, hsz, hP, hK, hJ, hE⟩ := hv
  have hx := B.exec
  have hb := B.bytes
  have hr := B.returns
  have hown : s.vm.findClass RX9 = some m.cls := findClass_of_methodNamed B.named
  have hlocks := B.notSynchronized
  subst hsz
  have hl := lv_entry ([.ref (b 1), .int (nI k)]) (n := 2) (Nat.le_of_ble_eq_true rfl)
  rw [lg_entry_eq]
  generalize (lg_sl ([.ref (b 1), .int (nI k)]) ++ List.replicate (2 - (lg_sl ([.ref (b 1), .int (nI k)])).length) Slot.unset).toArray = ls at hl ⊢
  have hl : lv_has ls 2 [(0, .ref (b 1)), (1, .int (nI k))] := hl
  refine lv_iload_n hx hb dX9_byteAt_0 rfl (lv_at hl 1 rfl) ?_
  refine lv_if_lt (tgt := 21) hx hb dX9_byteAt_1 (by decide) (fun c4 => False.elim (by have c4 := (b_lt (nI_toInt (n := k) (by omega)) (show Int32.toInt 0 = 0 from rfl)).mp c4; omega)) (fun c4 => ?_)
  have c4 := mt (b_lt (nI_toInt (n := k) (by omega)) (show Int32.toInt 0 = 0 from rfl)).mpr c4
  refine lv_iload_n hx hb dX9_byteAt_4 rfl (lv_at hl 1 rfl) ?_
  refine lv_aload_n hx hb dX9_byteAt_5 rfl (lv_at hl 0 rfl) ?_
  refine q_get (v := .int (nI sz1)) hx hb 1 (by decide) rfl (ly_X9 hE) hown hK hP rfl 5 (by decide) (wd_191 hE) (fun _ h9 => h9) (congrArg (fun z : Int32 => some (Value.int z)) hF15) dX9_byteAt_6 ?_
  refine lv_icmp_ge (tgt := 21) hx hb dX9_byteAt_9 (by decide) (fun c5 => ?_) (fun c5 => ?_)
  · have c5 := (b_le (nI_toInt (n := sz1) (by omega)) (nI_toInt (n := k) (by omega))).mp c5
    refine lv_iconst (v := -1) hx hb dX9_byteAt_21 (by decide) ?_
    refine lv_goto (tgt := 31) hx hb dX9_byteAt_22 (by decide) ?_
    exact W.iret (v := -1) hx hb hr (fun t ht hW => ⟨-1, rfl, (by unfold sB; first | (rw [if_pos (by omega)]; assumption) | (rw [if_neg (by omega)])), ht⟩) (fun _ h => absurd h List.not_mem_nil) dX9_byteAt_31
  · have c5 := mt (b_le (nI_toInt (n := sz1) (by omega)) (nI_toInt (n := k) (by omega))).mpr c5
    refine lv_iload_n hx hb dX9_byteAt_12 rfl (lv_at hl 1 rfl) ?_
    refine lv_aload_n hx hb dX9_byteAt_13 rfl (lv_at hl 0 rfl) ?_
    refine q_get (v := .ref (b 5)) hx hb 1 (by decide) rfl (ly_X9 hE) hown hK hP rfl 4 (by decide) (wd_190 hE) (fun _ h9 => h9) (congrArg (fun z : Nat => some (Value.ref z)) (if_pos hF14)) dX9_byteAt_14 ?_
    refine q_alen (j := 5) (t0 := 1) (v := 700) hx hb hK hP (by decide) rfl rfl rfl dX9_byteAt_17 ?_
    refine lv_icmp_lt (tgt := 25) hx hb dX9_byteAt_18 (by decide) (fun c6 => ?_) (fun c6 => False.elim (by have c6 := mt (b_lt (nI_toInt (n := k) (by omega)) (show Int32.toInt 700 = 700 from rfl)).mpr c6; omega))
    have c6 := (b_lt (nI_toInt (n := k) (by omega)) (show Int32.toInt 700 = 700 from rfl)).mp c6
    refine lv_aload_n hx hb dX9_byteAt_25 rfl (lv_at hl 0 rfl) ?_
    refine q_get (v := .ref (b 5)) hx hb 1 (by decide) rfl (ly_X9 hE) hown hK hP rfl 4 (by decide) (wd_190 hE) (fun _ h9 => h9) (congrArg (fun z : Nat => some (Value.ref z)) (if_pos hF14)) dX9_byteAt_26 ?_
    refine lv_iload_n hx hb dX9_byteAt_29 rfl (lv_at hl 1 rfl) ?_
    refine q_bald (j := 5) (k := k) (n := 700) (x := tx k) hx hb hK hP (by decide) rfl (by omega) (by decide) (by rw [hAc5]) dX9_byteAt_30 ?_
    refine lv_topi (fun x8 ex8 => ?_)
    exact W.iret (v := x8) hx hb hr (fun t ht hW => ⟨x8, rfl, (by unfold sB; first | (rw [if_pos (by omega)]; assumption) | (rw [if_neg (by omega)])), ht⟩) (fun _ h => absurd h List.not_mem_nil) dX9_byteAt_31
set_option maxHeartbeats 4000000 in
set_option maxRecDepth 100000 in
theorem q_X9_isLetter (l : Launch) (dC : Nat → ClassId) (dI : Nat → Nat → Nat) (sz : Nat) (cs : Nat → ClassId) (b : Nat → Nat) (u : RS) (x : Int32) : Met l yX9_isLetter [.code yX9_isLetter cX9_isLetter 1 (some .boolean)] ({ frames := 0, cells := 0, slots := 0, locals := 0 }) (PQ [.int x] sz dC dI cs b u) (vp_Si (fun (r : Int32) => (r = 1 ∧ (97 ≤ x.toInt ∧ x.toInt ≤ 122)) ∨ (r = 0 ∧ (x.toInt < 97 ∨ 122 < x.toInt)))) 0 0 (fun _ => False) := by
  refine Met.ofW (cc := cX9_isLetter) (maxL := 1) (ret := (some .boolean)) (by decide) rfl ?_
  intro p e s m args below meth c s₁ B hml hv
  obtain ⟨rfl, hsz, hP, hK, hJ, hE⟩ := hv
  have hx := B.exec
  have hb := B.bytes
  have hr := B.returns
  have hown : s.vm.findClass RX9 = some m.cls := findClass_of_methodNamed B.named
  have hlocks := B.notSynchronized
  subst hsz
  have hl := lv_entry ([.int x]) (n := 1) (Nat.le_of_ble_eq_true rfl)
  rw [lg_entry_eq]
  generalize (lg_sl ([.int x]) ++ List.replicate (1 - (lg_sl ([.int x])).length) Slot.unset).toArray = ls at hl ⊢
  have hl : lv_has ls 1 [(0, .int x)] := hl
  refine lv_iload_n hx hb dX9_isLetter_0 rfl (lv_at hl 0 rfl) ?_
  refine lv_bipush (v := 97) hx hb dX9_isLetter_1 (by decide) ?_
  refine lv_icmp_lt (tgt := 16) hx hb dX9_isLetter_3 (by decide) (fun c1 => ?_) (fun c1 => ?_)
  · have c1 := (b_lt (rfl : Int32.toInt x = _) (show Int32.toInt 97 = 97 from rfl)).mp c1
    refine lv_iconst (v := 0) hx hb dX9_isLetter_16 (by decide) ?_
    exact W.zret (v := 0) hx hb hr rfl (fun t ht hW => ⟨0, rfl, Or.inr ⟨rfl, by first | assumption | omega | rfl | (congr 1; omega)⟩, ht⟩) (fun _ h => absurd h List.not_mem_nil) dX9_isLetter_17
  · have c1 := mt (b_lt (rfl : Int32.toInt x = _) (show Int32.toInt 97 = 97 from rfl)).mpr c1
    refine lv_iload_n hx hb dX9_isLetter_6 rfl (lv_at hl 0 rfl) ?_
    refine lv_bipush (v := 122) hx hb dX9_isLetter_7 (by decide) ?_
    refine lv_icmp_gt (tgt := 16) hx hb dX9_isLetter_9 (by decide) (fun c2 => ?_) (fun c2 => ?_)
    · have c2 := (b_lt (show Int32.toInt 122 = 122 from rfl) (rfl : Int32.toInt x = _)).mp c2
      refine lv_iconst (v := 0) hx hb dX9_isLetter_16 (by decide) ?_
      exact W.zret (v := 0) hx hb hr rfl (fun t ht hW => ⟨0, rfl, Or.inr ⟨rfl, by first | assumption | omega | rfl | (congr 1; omega)⟩, ht⟩) (fun _ h => absurd h List.not_mem_nil) dX9_isLetter_17
    · have c2 := mt (b_lt (show Int32.toInt 122 = 122 from rfl) (rfl : Int32.toInt x = _)).mpr c2
      refine lv_iconst (v := 1) hx hb dX9_isLetter_12 (by decide) ?_
      refine lv_goto (tgt := 17) hx hb dX9_isLetter_13 (by decide) ?_
      exact W.zret (v := 1) hx hb hr rfl (fun t ht hW => ⟨1, rfl, Or.inl ⟨rfl, by first | assumption | omega | rfl | (congr 1; omega)⟩, ht⟩) (fun _ h => absurd h List.not_mem_nil) dX9_isLetter_17
set_option maxHeartbeats 4000000 in
set_option maxRecDepth 100000 in
theorem q_X9_isDigit (l : Launch) (dC : Nat → ClassId) (dI : Nat → Nat → Nat) (sz : Nat) (cs : Nat → ClassId) (b : Nat → Nat) (u : RS) (x : Int32) : Met l yX9_isDigit [.code yX9_isDigit cX9_isDigit 1 (some .boolean)] ({ frames := 0, cells := 0, slots := 0, locals := 0 }) (PQ [.int x] sz dC dI cs b u) (vp_Si (fun (r : Int32) => (r = 1 ∧ (48 ≤ x.toInt ∧ x.toInt ≤ 57)) ∨ (r = 0 ∧ (x.toInt < 48 ∨ 57 < x.toInt)))) 0 0 (fun _ => False) := by
  refine Met.ofW (cc := cX9_isDigit) (maxL := 1) (ret := (some .boolean)) (by decide) rfl ?_
  intro p e s m args below meth c s₁ B hml hv
  obtain ⟨rfl, hsz, hP, hK, hJ, hE⟩ := hv
  have hx := B.exec
  have hb := B.bytes
  have hr := B.returns
  have hown : s.vm.findClass RX9 = some m.cls := findClass_of_methodNamed B.named
  have hlocks := B.notSynchronized
  subst hsz
  have hl := lv_entry ([.int x]) (n := 1) (Nat.le_of_ble_eq_true rfl)
  rw [lg_entry_eq]
  generalize (lg_sl ([.int x]) ++ List.replicate (1 - (lg_sl ([.int x])).length) Slot.unset).toArray = ls at hl ⊢
  have hl : lv_has ls 1 [(0, .int x)] := hl
  refine lv_iload_n hx hb dX9_isDigit_0 rfl (lv_at hl 0 rfl) ?_
  refine lv_bipush (v := 48) hx hb dX9_isDigit_1 (by decide) ?_
  refine lv_icmp_lt (tgt := 16) hx hb dX9_isDigit_3 (by decide) (fun c1 => ?_) (fun c1 => ?_)
  · have c1 := (b_lt (rfl : Int32.toInt x = _) (show Int32.toInt 48 = 48 from rfl)).mp c1
    refine lv_iconst (v := 0) hx hb dX9_isDigit_16 (by decide) ?_
    exact W.zret (v := 0) hx hb hr rfl (fun t ht hW => ⟨0, rfl, Or.inr ⟨rfl, by first | assumption | omega | rfl | (congr 1; omega)⟩, ht⟩) (fun _ h => absurd h List.not_mem_nil) dX9_isDigit_17
  · have c1 := mt (b_lt (rfl : Int32.toInt x = _) (show Int32.toInt 48 = 48 from rfl)).mpr c1
    refine lv_iload_n hx hb dX9_isDigit_6 rfl (lv_at hl 0 rfl) ?_
    refine lv_bipush (v := 57) hx hb dX9_isDigit_7 (by decide) ?_
    refine lv_icmp_gt (tgt := 16) hx hb dX9_isDigit_9 (by decide) (fun c2 => ?_) (fun c2 => ?_)
    · have c2 := (b_lt (show Int32.toInt 57 = 57 from rfl) (rfl : Int32.toInt x = _)).mp c2
      refine lv_iconst (v := 0) hx hb dX9_isDigit_16 (by decide) ?_
      exact W.zret (v := 0) hx hb hr rfl (fun t ht hW => ⟨0, rfl, Or.inr ⟨rfl, by first | assumption | omega | rfl | (congr 1; omega)⟩, ht⟩) (fun _ h => absurd h List.not_mem_nil) dX9_isDigit_17
    · have c2 := mt (b_lt (show Int32.toInt 57 = 57 from rfl) (rfl : Int32.toInt x = _)).mpr c2
      refine lv_iconst (v := 1) hx hb dX9_isDigit_12 (by decide) ?_
      refine lv_goto (tgt := 17) hx hb dX9_isDigit_13 (by decide) ?_
      exact W.zret (v := 1) hx hb hr rfl (fun t ht hW => ⟨1, rfl, Or.inl ⟨rfl, by first | assumption | omega | rfl | (congr 1; omega)⟩, ht⟩) (fun _ h => absurd h List.not_mem_nil) dX9_isDigit_17
set_option maxHeartbeats 4000000 in
set_option maxRecDepth 100000 in
theorem q_X9_endOfToken (l : Launch) (dC : Nat → ClassId) (dI : Nat → Nat → Nat) (sz : Nat) (cs : Nat → ClassId) (b : Nat → Nat) (u : RS) (tx : Nat → Int32) (hAc5 : rA u 5 = tx) (k : Nat) (sz1 : Nat) (hF14 : rF u 14 = 1) (hF15 : rF u 15 = nI sz1) (hp0 : BY tx) (hp1 : sz1 ≤ 700) (hp2 : k < sz1) : Met l yX9_endOfToken [.code yX9_endOfToken cX9_endOfToken 3 (some .int)] ({ frames := 1, cells := 0, slots := 0, locals := 40 }) (PQ [.ref (b 1), .int (nI k)] sz dC dI cs b u) (vp_Si (fun (r : Int32) => r = nI (tnd tx sz1 k))) 0 0 (fun _ => False) := by
  refine Met.ofW (cc := cX9_endOfToken) (maxL := 3) (ret := (some .int)) (by decide) rfl ?_
  intro p e s m args below meth c s₁ B hml hv
  obtain ⟨rfl, hsz, hP, hK, hJ, hE⟩ := hv
  have hx := B.exec
  have hb := B.bytes
  have hr := B.returns
  have hown : s.vm.findClass RX9 = some m.cls := findClass_of_methodNamed B.named
  have hlocks := B.notSynchronized
  subst hsz
  have hl := lv_entry ([.ref (b 1), .int (nI k)]) (n := 3) (Nat.le_of_ble_eq_true rfl)
  rw [lg_entry_eq]
  generalize (lg_sl ([.ref (b 1), .int (nI k)]) ++ List.replicate (3 - (lg_sl ([.ref (b 1), .int (nI k)])).length) Slot.unset).toArray = ls at hl ⊢
  have hl : lv_has ls 3 [(0, .ref (b 1)), (1, .int (nI k))] := hl
  refine lv_iload_n hx hb dX9_endOfToken_0 rfl (lv_at hl 1 rfl) ?_
  refine lv_iconst (v := 1) hx hb dX9_endOfToken_1 (by decide) ?_
  refine lv_iadd hx hb dX9_endOfToken_2 ?_
  refine W.eq (g2 := F0 m 3 ls [.int (nI (k + 1))]) (congrArg (fun z : Int32 => F0 m 3 ls (.int z :: [])) (nI_add k 1)) ?_
  refine lv_istore_n (lv' := [(2, .int (nI (k + 1))), (0, .ref (b 1)), (1, .int (nI k))]) hx hb dX9_endOfToken_3 rfl hl (by decide) rfl (fun ls hl => ?_)
  refine lv_aload_n hx hb dX9_endOfToken_4 rfl (lv_at hl 1 rfl) ?_
  refine lv_iload_n hx hb dX9_endOfToken_5 rfl (lv_at hl 2 rfl) ?_
  refine vp_callSi (va_Run.run (va_runV (As := [.int (nI k)]) (rest := []) ⟨hx, hb, hml, hown, noTs⟩ (q_X9_byteAt l dC dI s.heap.size cs b u tx hAc5 k sz1 hF14 hF15 (by first | assumption | omega | rfl | (congr 1; omega)) (by first | assumption | omega | rfl | (congr 1; omega)) (by first | assumption | omega | rfl | (congr 1; omega))) ⟨cbE 1 (wd_458 hE) (wd_119 hE) (wd_455 hE) rfl rfl (by decide +kernel) ⟨Nat.le_of_ble_eq_true rfl, Nat.le_of_ble_eq_true rfl⟩, (wd_457 hE), (wd_2 hE)⟩ ⟨PQ.blind, q_recv 1 (by decide) rfl hK hP rfl, (q_pre (av := [.ref (b 1), .int (nI k)]) hK hP hJ hE)⟩ rfl rfl hl.1 rfl (lv_room (Nat.le_of_ble_eq_true rfl)) dX9_endOfToken_6 ⟨Nat.le_of_ble_eq_true rfl, Nat.le_of_ble_eq_true rfl⟩)) (fun r4 hr4 => ?_)
  subst hr4
  have htf4 := sB_f (f := tx) (by assumption) sz1 k
  refine vp_callSi (va_Run.run (va_runS (As := [.int (sB tx sz1 k)]) (rest := []) ⟨hx, hb, hml, hown, noTs⟩ (q_X9_isLetter l dC dI s.heap.size cs b u (sB tx sz1 k)) ⟨cbE 1 (wd_465 hE) (wd_119 hE) (wd_463 hE) rfl rfl (by decide +kernel) ⟨Nat.le_of_ble_eq_true rfl, Nat.le_of_ble_eq_true rfl⟩, (wd_464 hE)⟩ ⟨PQ.blind, (q_pre (av := [.int (sB tx sz1 k)]) hK hP hJ hE)⟩ rfl rfl hl.1 rfl (lv_room (Nat.le_of_ble_eq_true rfl)) dX9_endOfToken_9 ⟨Nat.le_of_ble_eq_true rfl, Nat.le_of_ble_eq_true rfl⟩)) (fun r5 hr5 => ?_)
  rcases hr5 with ⟨rfl, hb5⟩ | ⟨rfl, hb5⟩
  · have LT1 := tn_let (tx := tx) (n := sz1) (p := k) (by omega)
    refine lv_if_eq (tgt := 40) hx hb dX9_endOfToken_12 (by decide) (fun c6 => absurd c6 (by decide)) (fun c6 => ?_)
    refine r_indP (I := fun n ls => ∃ (e2_7 : Nat), n = sz1 - e2_7 ∧ (k + 1 ≤ e2_7) ∧ (e2_7 ≤ sz1) ∧ (sc isLet tx sz1 e2_7 = tnd tx sz1 k) ∧ lv_has ls 3 [(0, .ref (b 1)), (1, .int (nI k)), (2, .int (nI e2_7))]) (fun n ls hI ih7 => ?_) _ _ ⟨(k + 1), rfl, (by first | assumption | omega | rfl | (congr 1; omega)), (by first | assumption | omega | rfl | (congr 1; omega)), (by exact LT1), lv_sub hl [1, 2, 0] rfl⟩
    obtain ⟨e2_7, hmu7, hL7_0, hL7_1, hL7_2, hl⟩ := hI
    subst hmu7
    refine lv_iload_n hx hb dX9_endOfToken_15 rfl (lv_at hl 2 rfl) ?_
    refine lv_aload_n hx hb dX9_endOfToken_16 rfl (lv_at hl 0 rfl) ?_
    refine q_get (v := .int (nI sz1)) hx hb 1 (by decide) rfl (ly_X9 hE) hown hK hP rfl 5 (by decide) (wd_191 hE) (fun _ h9 => h9) (congrArg (fun z : Int32 => some (Value.int z)) hF15) dX9_endOfToken_17 ?_
    refine lv_icmp_ge (tgt := 76) hx hb dX9_endOfToken_20 (by decide) (fun c8 => ?_) (fun c8 => ?_)
    · have c8 := (b_le (nI_toInt (n := sz1) (by omega)) (nI_toInt (n := e2_7) (by omega))).mp c8
      have RT := (sc_st let0 (isLet_f.mpr (by have := bA_f tx sz1 e2_7; omega))).symm.trans hL7_2
      refine lv_iload_n hx hb dX9_endOfToken_76 rfl (lv_at hl 2 rfl) ?_
      exact W.iret (v := nI e2_7) hx hb hr (fun t ht hW => ⟨nI e2_7, rfl, (by exact congrArg nI RT), ht⟩) (fun _ h => absurd h List.not_mem_nil) dX9_endOfToken_77
    · have c8 := mt (b_le (nI_toInt (n := sz1) (by omega)) (nI_toInt (n := e2_7) (by omega))).mpr c8
      refine lv_aload_n hx hb dX9_endOfToken_23 rfl (lv_at hl 0 rfl) ?_
      refine lv_iload_n hx hb dX9_endOfToken_24 rfl (lv_at hl 2 rfl) ?_
      refine vp_callSi (va_Run.run (va_runV (As := [.int (nI e2_7)]) (rest := []) ⟨hx, hb, hml, hown, noTs⟩ (q_X9_byteAt l dC dI s.heap.size cs b u tx hAc5 e2_7 sz1 hF14 hF15 (by first | assumption | omega | rfl | (congr 1; omega)) (by first | assumption | omega | rfl | (congr 1; omega)) (by first | assumption | omega | rfl | (congr 1; omega))) ⟨cbE 1 (wd_458 hE) (wd_119 hE) (wd_455 hE) rfl rfl (by decide +kernel) ⟨Nat.le_of_ble_eq_true rfl, Nat.le_of_ble_eq_true rfl⟩, (wd_457 hE), (wd_2 hE)⟩ ⟨PQ.blind, q_recv 1 (by decide) rfl hK hP rfl, (q_pre (av := [.ref (b 1), .int (nI e2_7)]) hK hP hJ hE)⟩ rfl rfl hl.1 rfl (lv_room (Nat.le_of_ble_eq_true rfl)) dX9_endOfToken_25 ⟨Nat.le_of_ble_eq_true rfl, Nat.le_of_ble_eq_true rfl⟩)) (fun r9 hr9 => ?_)
      subst hr9
      have htf9 := sB_f (f := tx) (by assumption) sz1 e2_7
      refine vp_callSi (va_Run.run (va_runS (As := [.int (sB tx sz1 e2_7)]) (rest := []) ⟨hx, hb, hml, hown, noTs⟩ (q_X9_isLetter l dC dI s.heap.size cs b u (sB tx sz1 e2_7)) ⟨cbE 1 (wd_465 hE) (wd_119 hE) (wd_463 hE) rfl rfl (by decide +kernel) ⟨Nat.le_of_ble_eq_true rfl, Nat.le_of_ble_eq_true rfl⟩, (wd_464 hE)⟩ ⟨PQ.blind, (q_pre (av := [.int (sB tx sz1 e2_7)]) hK hP hJ hE)⟩ rfl rfl hl.1 rfl (lv_room (Nat.le_of_ble_eq_true rfl)) dX9_endOfToken_28 ⟨Nat.le_of_ble_eq_true rfl, Nat.le_of_ble_eq_true rfl⟩)) (fun r10 hr10 => ?_)
      rcases hr10 with ⟨rfl, hb10⟩ | ⟨rfl, hb10⟩
      · refine lv_if_eq (tgt := 76) hx hb dX9_endOfToken_31 (by decide) (fun c11 => absurd c11 (by decide)) (fun c11 => ?_)
        refine lv_iinc (v := nI (e2_7 + 1)) (lv' := [(2, .int (nI (e2_7 + 1))), (0, .ref (b 1)), (1, .int (nI k))]) hx hb dX9_endOfToken_34 hl (k := 2) rfl (nI_1 e2_7) (by decide) rfl (fun ls hl => ?_)
        refine lv_goto (tgt := 15) hx hb dX9_endOfToken_37 (by decide) ?_
        exact ih7 _ _ (by omega) ⟨(e2_7 + 1), rfl, (by first | assumption | omega | rfl | (congr 1; omega)), (by first | assumption | omega | rfl | (congr 1; omega)), (by exact (sc_go let0 (isLet_t.mpr (by omega))).symm.trans hL7_2), lv_sub hl [1, 2, 0] rfl⟩
      · have RT := (sc_st let0 (isLet_f.mpr (by have := bA_f tx sz1 e2_7; omega))).symm.trans hL7_2
        refine lv_if_eq (tgt := 76) hx hb dX9_endOfToken_31 (by decide) (fun c12 => ?_) (fun c12 => absurd c12 (by decide))
        refine lv_iload_n hx hb dX9_endOfToken_76 rfl (lv_at hl 2 rfl) ?_
        exact W.iret (v := nI e2_7) hx hb hr (fun t ht hW => ⟨nI e2_7, rfl, (by exact congrArg nI RT), ht⟩) (fun _ h => absurd h List.not_mem_nil) dX9_endOfToken_77
  · refine lv_if_eq (tgt := 40) hx hb dX9_endOfToken_12 (by decide) (fun c13 => ?_) (fun c13 => absurd c13 (by decide))
    refine lv_aload_n hx hb dX9_endOfToken_40 rfl (lv_at hl 1 rfl) ?_
    refine lv_iload_n hx hb dX9_endOfToken_41 rfl (lv_at hl 2 rfl) ?_
    refine vp_callSi (va_Run.run (va_runV (As := [.int (nI k)]) (rest := []) ⟨hx, hb, hml, hown, noTs⟩ (q_X9_byteAt l dC dI s.heap.size cs b u tx hAc5 k sz1 hF14 hF15 (by first | assumption | omega | rfl | (congr 1; omega)) (by first | assumption | omega | rfl | (congr 1; omega)) (by first | assumption | omega | rfl | (congr 1; omega))) ⟨cbE 1 (wd_458 hE) (wd_119 hE) (wd_455 hE) rfl rfl (by decide +kernel) ⟨Nat.le_of_ble_eq_true rfl, Nat.le_of_ble_eq_true rfl⟩, (wd_457 hE), (wd_2 hE)⟩ ⟨PQ.blind, q_recv 1 (by decide) rfl hK hP rfl, (q_pre (av := [.ref (b 1), .int (nI k)]) hK hP hJ hE)⟩ rfl rfl hl.1 rfl (lv_room (Nat.le_of_ble_eq_true rfl)) dX9_endOfToken_42 ⟨Nat.le_of_ble_eq_true rfl, Nat.le_of_ble_eq_true rfl⟩)) (fun r14 hr14 => ?_)
    subst hr14
    have htf14 := sB_f (f := tx) (by assumption) sz1 k
    refine vp_callSi (va_Run.run (va_runS (As := [.int (sB tx sz1 k)]) (rest := []) ⟨hx, hb, hml, hown, noTs⟩ (q_X9_isDigit l dC dI s.heap.size cs b u (sB tx sz1 k)) ⟨cbE 1 (wd_468 hE) (wd_119 hE) (wd_466 hE) rfl rfl (by decide +kernel) ⟨Nat.le_of_ble_eq_true rfl, Nat.le_of_ble_eq_true rfl⟩, (wd_467 hE)⟩ ⟨PQ.blind, (q_pre (av := [.int (sB tx sz1 k)]) hK hP hJ hE)⟩ rfl rfl hl.1 rfl (lv_room (Nat.le_of_ble_eq_true rfl)) dX9_endOfToken_45 ⟨Nat.le_of_ble_eq_true rfl, Nat.le_of_ble_eq_true rfl⟩)) (fun r15 hr15 => ?_)
    rcases hr15 with ⟨rfl, hb15⟩ | ⟨rfl, hb15⟩
    · have DG1 := tn_dig (tx := tx) (n := sz1) (p := k) (by omega)
      refine lv_if_eq (tgt := 76) hx hb dX9_endOfToken_48 (by decide) (fun c16 => absurd c16 (by decide)) (fun c16 => ?_)
      refine r_indP (I := fun n ls => ∃ (e2_17 : Nat), n = sz1 - e2_17 ∧ (k + 1 ≤ e2_17) ∧ (e2_17 ≤ sz1) ∧ (sc isDig tx sz1 e2_17 = tnd tx sz1 k) ∧ lv_has ls 3 [(0, .ref (b 1)), (1, .int (nI k)), (2, .int (nI e2_17))]) (fun n ls hI ih17 => ?_) _ _ ⟨(k + 1), rfl, (by first | assumption | omega | rfl | (congr 1; omega)), (by first | assumption | omega | rfl | (congr 1; omega)), (by exact DG1), lv_sub hl [1, 2, 0] rfl⟩
      obtain ⟨e2_17, hmu17, hL17_0, hL17_1, hL17_2, hl⟩ := hI
      subst hmu17
      refine lv_iload_n hx hb dX9_endOfToken_51 rfl (lv_at hl 2 rfl) ?_
      refine lv_aload_n hx hb dX9_endOfToken_52 rfl (lv_at hl 0 rfl) ?_
      refine q_get (v := .int (nI sz1)) hx hb 1 (by decide) rfl (ly_X9 hE) hown hK hP rfl 5 (by decide) (wd_191 hE) (fun _ h9 => h9) (congrArg (fun z : Int32 => some (Value.int z)) hF15) dX9_endOfToken_53 ?_
      refine lv_icmp_ge (tgt := 76) hx hb dX9_endOfToken_56 (by decide) (fun c18 => ?_) (fun c18 => ?_)
      · have c18 := (b_le (nI_toInt (n := sz1) (by omega)) (nI_toInt (n := e2_17) (by omega))).mp c18
        have RT := (sc_st dig0 (isDig_f.mpr (by have := bA_f tx sz1 e2_17; omega))).symm.trans hL17_2
        refine lv_iload_n hx hb dX9_endOfToken_76 rfl (lv_at hl 2 rfl) ?_
        exact W.iret (v := nI e2_17) hx hb hr (fun t ht hW => ⟨nI e2_17, rfl, (by exact congrArg nI RT), ht⟩) (fun _ h => absurd h List.not_mem_nil) dX9_endOfToken_77
      · have c18 := mt (b_le (nI_toInt (n := sz1) (by omega)) (nI_toInt (n := e2_17) (by omega))).mpr c18
        refine lv_aload_n hx hb dX9_endOfToken_59 rfl (lv_at hl 0 rfl) ?_
        refine lv_iload_n hx hb dX9_endOfToken_60 rfl (lv_at hl 2 rfl) ?_
        refine vp_callSi (va_Run.run (va_runV (As := [.int (nI e2_17)]) (rest := []) ⟨hx, hb, hml, hown, noTs⟩ (q_X9_byteAt l dC dI s.heap.size cs b u tx hAc5 e2_17 sz1 hF14 hF15 (by first | assumption | omega | rfl | (congr 1; omega)) (by first | assumption | omega | rfl | (congr 1; omega)) (by first | assumption | omega | rfl | (congr 1; omega))) ⟨cbE 1 (wd_458 hE) (wd_119 hE) (wd_455 hE) rfl rfl (by decide +kernel) ⟨Nat.le_of_ble_eq_true rfl, Nat.le_of_ble_eq_true rfl⟩, (wd_457 hE), (wd_2 hE)⟩ ⟨PQ.blind, q_recv 1 (by decide) rfl hK hP rfl, (q_pre (av := [.ref (b 1), .int (nI e2_17)]) hK hP hJ hE)⟩ rfl rfl hl.1 rfl (lv_room (Nat.le_of_ble_eq_true rfl)) dX9_endOfToken_61 ⟨Nat.le_of_ble_eq_true rfl, Nat.le_of_ble_eq_true rfl⟩)) (fun r19 hr19 => ?_)
        subst hr19
        have htf19 := sB_f (f := tx) (by assumption) sz1 e2_17
        refine vp_callSi (va_Run.run (va_runS (As := [.int (sB tx sz1 e2_17)]) (rest := []) ⟨hx, hb, hml, hown, noTs⟩ (q_X9_isDigit l dC dI s.heap.size cs b u (sB tx sz1 e2_17)) ⟨cbE 1 (wd_468 hE) (wd_119 hE) (wd_466 hE) rfl rfl (by decide +kernel) ⟨Nat.le_of_ble_eq_true rfl, Nat.le_of_ble_eq_true rfl⟩, (wd_467 hE)⟩ ⟨PQ.blind, (q_pre (av := [.int (sB tx sz1 e2_17)]) hK hP hJ hE)⟩ rfl rfl hl.1 rfl (lv_room (Nat.le_of_ble_eq_true rfl)) dX9_endOfToken_64 ⟨Nat.le_of_ble_eq_true rfl, Nat.le_of_ble_eq_true rfl⟩)) (fun r20 hr20 => ?_)
        rcases hr20 with ⟨rfl, hb20⟩ | ⟨rfl, hb20⟩
        · refine lv_if_eq (tgt := 76) hx hb dX9_endOfToken_67 (by decide) (fun c21 => absurd c21 (by decide)) (fun c21 => ?_)
          refine lv_iinc (v := nI (e2_17 + 1)) (lv' := [(2, .int (nI (e2_17 + 1))), (0, .ref (b 1)), (1, .int (nI k))]) hx hb dX9_endOfToken_70 hl (k := 2) rfl (nI_1 e2_17) (by decide) rfl (fun ls hl => ?_)
          refine lv_goto (tgt := 51) hx hb dX9_endOfToken_73 (by decide) ?_
          exact ih17 _ _ (by omega) ⟨(e2_17 + 1), rfl, (by first | assumption | omega | rfl | (congr 1; omega)), (by first | assumption | omega | rfl | (congr 1; omega)), (by exact (sc_go dig0 (isDig_t.mpr (by omega))).symm.trans hL17_2), lv_sub hl [1, 2, 0] rfl⟩
        · have RT := (sc_st dig0 (isDig_f.mpr (by have := bA_f tx sz1 e2_17; omega))).symm.trans hL17_2
          refine lv_if_eq (tgt := 76) hx hb dX9_endOfToken_67 (by decide) (fun c22 => ?_) (fun c22 => absurd c22 (by decide))
          refine lv_iload_n hx hb dX9_endOfToken_76 rfl (lv_at hl 2 rfl) ?_
          exact W.iret (v := nI e2_17) hx hb hr (fun t ht hW => ⟨nI e2_17, rfl, (by exact congrArg nI RT), ht⟩) (fun _ h => absurd h List.not_mem_nil) dX9_endOfToken_77
    · have RT : k + 1 = tnd tx sz1 k := (tnd_sgn (tx := tx) (n := sz1) (p := k) (by omega) (by omega) (by omega)).symm
      refine lv_if_eq (tgt := 76) hx hb dX9_endOfToken_48 (by decide) (fun c23 => ?_) (fun c23 => absurd c23 (by decide))
      refine lv_iload_n hx hb dX9_endOfToken_76 rfl (lv_at hl 0 rfl) ?_
      exact W.iret (v := nI (k + 1)) hx hb hr (fun t ht hW => ⟨nI (k + 1), rfl, (by exact congrArg nI RT), ht⟩) (fun _ h => absurd h List.not_mem_nil) dX9_endOfToken_77
set_option maxHeartbeats 4000000 in
set_option maxRecDepth 100000 in
theorem q_X9_signOf (l : Launch) (dC : Nat → ClassId) (dI : Nat → Nat → Nat) (sz : Nat) (cs : Nat → ClassId) (b : Nat → Nat) (u : RS) (x : Int32) : Met l yX9_signOf [.code yX9_signOf cX9_signOf 1 (some .int)] ({ frames := 0, cells := 0, slots := 0, locals := 0 }) (PQ [.int x] sz dC dI cs b u) (vp_Si (fun (r : Int32) => r = nI (sgv x))) 0 0 (fun _ => False) := by
  refine Met.ofW (cc := cX9_signOf) (maxL := 1) (ret := (some .int)) (by decide) rfl ?_
  intro p e s m args below meth c s₁ B hml hv
  obtain ⟨rfl, hsz, hP, hK, hJ, hE⟩ := hv
  have hx := B.exec
  have hb := B.bytes
  have hr := B.returns
  have hown : s.vm.findClass RX9 = some m.cls := findClass_of_methodNamed B.named
  have hlocks := B.notSynchronized
  subst hsz
  have hl := lv_entry ([.int x]) (n := 1) (Nat.le_of_ble_eq_true rfl)
  rw [lg_entry_eq]
  generalize (lg_sl ([.int x]) ++ List.replicate (1 - (lg_sl ([.int x])).length) Slot.unset).toArray = ls at hl ⊢
  have hl : lv_has ls 1 [(0, .int x)] := hl
  refine lv_iload_n hx hb dX9_signOf_0 rfl (lv_at hl 0 rfl) ?_
  by_cases t1 : x = 59
  · refine lv_tableIn (tgt := 38) hx hb dX9_signOf_1 (by rw [t1]; decide) (by rw [t1]; decide) (by rw [t1]; rfl) (by decide) ?_
    have ht1i : Int32.toInt x = 59 := by rw [t1]; rfl
    refine lv_bipush (v := 9) hx hb dX9_signOf_38 (by decide) ?_
    exact W.iret (v := 9) hx hb hr (fun t ht hW => ⟨9, rfl, (by unfold sgv; rw [if_neg (by omega), if_neg (by omega), if_pos (by omega)]; rfl), ht⟩) (fun _ h => absurd h List.not_mem_nil) dX9_signOf_40
  by_cases t2 : x = 60
  · refine lv_tableIn (tgt := 35) hx hb dX9_signOf_1 (by rw [t2]; decide) (by rw [t2]; decide) (by rw [t2]; rfl) (by decide) ?_
    have ht2i : Int32.toInt x = 60 := by rw [t2]; rfl
    refine lv_bipush (v := 8) hx hb dX9_signOf_35 (by decide) ?_
    exact W.iret (v := 8) hx hb hr (fun t ht hW => ⟨8, rfl, (by unfold sgv; rw [if_neg (by omega), if_pos (by omega)]; rfl), ht⟩) (fun _ h => absurd h List.not_mem_nil) dX9_signOf_37
  by_cases t3 : x = 61
  · refine lv_tableIn (tgt := 41) hx hb dX9_signOf_1 (by rw [t3]; decide) (by rw [t3]; decide) (by rw [t3]; rfl) (by decide) ?_
    have ht3i : Int32.toInt x = 61 := by rw [t3]; rfl
    refine lv_iconst (v := 1) hx hb dX9_signOf_41 (by decide) ?_
    exact W.iret (v := 1) hx hb hr (fun t ht hW => ⟨1, rfl, (by unfold sgv; rw [if_neg (by omega), if_neg (by omega), if_neg (by omega)]; rfl), ht⟩) (fun _ h => absurd h List.not_mem_nil) dX9_signOf_42
  by_cases t4 : x = 62
  · refine lv_tableIn (tgt := 32) hx hb dX9_signOf_1 (by rw [t4]; decide) (by rw [t4]; decide) (by rw [t4]; rfl) (by decide) ?_
    have ht4i : Int32.toInt x = 62 := by rw [t4]; rfl
    refine lv_bipush (v := 7) hx hb dX9_signOf_32 (by decide) ?_
    exact W.iret (v := 7) hx hb hr (fun t ht hW => ⟨7, rfl, (by unfold sgv; rw [if_pos (by omega)]; rfl), ht⟩) (fun _ h => absurd h List.not_mem_nil) dX9_signOf_34
  have t1 := mt (b_eq (rfl : Int32.toInt x = _) (show Int32.toInt 59 = 59 from rfl)).mpr t1
  have t2 := mt (b_eq (rfl : Int32.toInt x = _) (show Int32.toInt 60 = 60 from rfl)).mpr t2
  have t3 := mt (b_eq (rfl : Int32.toInt x = _) (show Int32.toInt 61 = 61 from rfl)).mpr t3
  have t4 := mt (b_eq (rfl : Int32.toInt x = _) (show Int32.toInt 62 = 62 from rfl)).mpr t4
  have hT5 : x.toInt < 59 ∨ 62 < x.toInt := by omega
  refine lv_tableOut (tgt := 41) hx hb dX9_signOf_1 hT5 (by decide) ?_
  refine lv_iconst (v := 1) hx hb dX9_signOf_41 (by decide) ?_
  exact W.iret (v := 1) hx hb hr (fun t ht hW => ⟨1, rfl, (by unfold sgv; rw [if_neg (by omega), if_neg (by omega), if_neg (by omega)]; rfl), ht⟩) (fun _ h => absurd h List.not_mem_nil) dX9_signOf_42
set_option maxHeartbeats 4000000 in
set_option maxRecDepth 100000 in
theorem q_X9_isText_0 (l : Launch) (dC : Nat → ClassId) (dI : Nat → Nat → Nat) (sz : Nat) (cs : Nat → ClassId) (b : Nat → Nat) (u : RS) (adK adV : Nat → Nat) (tx : Nat → Int32) (hAc5 : rA u 5 = tx) (k : Nat) (e1 : Nat) (sz1 : Nat) (hF14 : rF u 14 = 1) (hF15 : rF u 15 = nI sz1) (hp0 : BY tx) (hp1 : sz1 ≤ 700) (hp2 : k < sz1) (hp3 : e1 = tnd tx sz1 k) : Met l yX9_isText [.code yX9_isText cX9_isText 5 (some .boolean)] ({ frames := 4, cells := 0, slots := 0, locals := 160 }) (PQX [.ref (b 1), .int (nI k), .int (nI e1), .ref (adK 0)] sz dC dI cs b u adK adV) (vp_Si (fun (r : Int32) => (r = 1 ∧ (eqw tx sz1 wVx k = true)) ∨ (r = 0 ∧ (eqw tx sz1 wVx k = false)))) 0 0 (fun _ => False) := by
  refine Met.ofW (cc := cX9_isText) (maxL := 5) (ret := (some .boolean)) (by decide) rfl ?_
  intro p e s m args below meth c s₁ B hml hv
  obtain ⟨rfl, hsz, hP, hK, hJ, hE, hX, hZ0, hZ1, hZ2⟩ := hv
  have hx := B.exec
  have hb := B.bytes
  have hr := B.returns
  have hown : s.vm.findClass RX9 = some m.cls := findClass_of_methodNamed B.named
  have hlocks := B.notSynchronized
  subst hsz
  have hS : va_S (AQ b s.heap.size) s.heap s.heap [] := va_S.rf
  have hl := lv_entry ([.ref (b 1), .int (nI k), .int (nI e1), .ref (adK 0)]) (n := 5) (Nat.le_of_ble_eq_true rfl)
  rw [lg_entry_eq]
  generalize (lg_sl ([.ref (b 1), .int (nI k), .int (nI e1), .ref (adK 0)]) ++ List.replicate (5 - (lg_sl ([.ref (b 1), .int (nI k), .int (nI e1), .ref (adK 0)])).length) Slot.unset).toArray = ls at hl ⊢
  have hl : lv_has ls 5 [(0, .ref (b 1)), (1, .int (nI k)), (2, .int (nI e1)), (3, .ref (adK 0))] := hl
  have tg := tnd_gt (tx := tx) hp2
  have tl := tnd_le (tx := tx) (Nat.le_of_lt hp2)
  refine lv_iload_n hx hb dX9_isText_0 rfl (lv_at hl 2 rfl) ?_
  refine lv_iload_n hx hb dX9_isText_1 rfl (lv_at hl 1 rfl) ?_
  refine lv_isub hx hb dX9_isText_2 ?_
  refine W.eq (g2 := F0 m 3 ls [.int (nI (e1 - k))]) (congrArg (fun z : Int32 => F0 m 3 ls (.int z :: [])) (pk_sub (a := e1) (b := k) (by omega))) ?_
  refine lv_aload_n hx hb dX9_isText_3 rfl (lv_at hl 3 rfl) ?_
  refine vp_callSi (va_Run.run (va_runV (As := []) (rest := [.int (nI (e1 - k))]) ⟨hx, hb, hml, hown, noTs⟩ (s_J0_length l adK adV 0 (by decide)) ⟨cbE 0 (wd_488 hE) (wd_129 hE) (wd_485 hE) rfl rfl (by decide +kernel) ⟨Nat.le_of_ble_eq_true rfl, Nat.le_of_ble_eq_true rfl⟩, (wd_486 hE), (wd_487 hE)⟩ ⟨PS.blind, vk_recv hX.1 (by decide) hS, ps_pre (av := [.ref (adK 0)]) hX hS hE⟩ rfl rfl hl.1 rfl (lv_room (Nat.le_of_ble_eq_true rfl)) dX9_isText_4 ⟨Nat.le_of_ble_eq_true rfl, Nat.le_of_ble_eq_true rfl⟩)) (fun r5 hr5 => ?_)
  have hr5 : r5 = 6 := hr5
  subst hr5
  refine lv_icmp_eq (tgt := 12) hx hb dX9_isText_7 (by decide) (fun c6 => ?_) (fun c6 => ?_)
  · have c6 := (b_eq (nI_toInt (n := e1 - k) (by omega)) (show Int32.toInt 6 = 6 from rfl)).mp c6
    refine lv_iconst (v := 0) hx hb dX9_isText_12 (by decide) ?_
    refine lv_istore (lv' := [(4, .int 0), (0, .ref (b 1)), (1, .int (nI k)), (2, .int (nI e1)), (3, .ref (adK 0))]) hx hb dX9_isText_13 hl (by decide) rfl (fun ls hl => ?_)
    refine r_indP (I := fun n ls => ∃ (i_7 : Nat), n = 6 - i_7 ∧ (i_7 ≤ 6) ∧ (∀ q, q < i_7 → bA tx sz1 (k + q) = wVx.getD q 0) ∧ lv_has ls 5 [(0, .ref (b 1)), (1, .int (nI k)), (2, .int (nI e1)), (3, .ref (adK 0)), (4, .int (nI i_7))]) (fun n ls hI ih7 => ?_) _ _ ⟨0, rfl, (by first | assumption | omega | rfl | (congr 1; omega)), (by intro q hq; omega), lv_sub hl [1, 2, 3, 4, 0] rfl⟩
    obtain ⟨i_7, hmu7, hL7_0, hL7_1, hl⟩ := hI
    subst hmu7
    refine lv_iload hx hb dX9_isText_15 (lv_at hl 4 rfl) ?_
    refine lv_aload_n hx hb dX9_isText_17 rfl (lv_at hl 3 rfl) ?_
    refine vp_callSi (va_Run.run (va_runV (As := []) (rest := [.int (nI i_7)]) ⟨hx, hb, hml, hown, noTs⟩ (s_J0_length l adK adV 0 (by decide)) ⟨cbE 0 (wd_488 hE) (wd_129 hE) (wd_485 hE) rfl rfl (by decide +kernel) ⟨Nat.le_of_ble_eq_true rfl, Nat.le_of_ble_eq_true rfl⟩, (wd_486 hE), (wd_487 hE)⟩ ⟨PS.blind, vk_recv hX.1 (by decide) hS, ps_pre (av := [.ref (adK 0)]) hX hS hE⟩ rfl rfl hl.1 rfl (lv_room (Nat.le_of_ble_eq_true rfl)) dX9_isText_18 ⟨Nat.le_of_ble_eq_true rfl, Nat.le_of_ble_eq_true rfl⟩)) (fun r8 hr8 => ?_)
    have hr8 : r8 = 6 := hr8
    subst hr8
    refine lv_icmp_ge (tgt := 49) hx hb dX9_isText_21 (by decide) (fun c9 => ?_) (fun c9 => ?_)
    · have c9 := (b_le (show Int32.toInt 6 = 6 from rfl) (nI_toInt (n := i_7) (by omega))).mp c9
      refine lv_iconst (v := 1) hx hb dX9_isText_49 (by decide) ?_
      exact W.zret (v := 1) hx hb hr rfl (fun t ht hW => ⟨1, rfl, Or.inl ⟨rfl, by exact eqw_t.mpr ⟨by show _ = 6; omega, fun q hq => hL7_1 q (by have hq : q < 6 := hq; omega)⟩⟩, ht⟩) (fun _ h => absurd h List.not_mem_nil) dX9_isText_50
    · have c9 := mt (b_le (show Int32.toInt 6 = 6 from rfl) (nI_toInt (n := i_7) (by omega))).mpr c9
      refine lv_aload_n hx hb dX9_isText_24 rfl (lv_at hl 0 rfl) ?_
      refine lv_iload_n hx hb dX9_isText_25 rfl (lv_at hl 1 rfl) ?_
      refine lv_iload hx hb dX9_isText_26 (lv_at hl 4 rfl) ?_
      refine lv_iadd hx hb dX9_isText_28 ?_
      refine W.eq (g2 := F0 m 29 ls [.int (nI (k + i_7)), .ref (b 1)]) (congrArg (fun z : Int32 => F0 m 29 ls (.int z :: [.ref (b 1)])) (nI_add k i_7)) ?_
      refine vp_callSi (va_Run.run (va_runV (As := [.int (nI (k + i_7))]) (rest := []) ⟨hx, hb, hml, hown, noTs⟩ (q_X9_byteAt l dC dI s.heap.size cs b u tx hAc5 (k + i_7) sz1 hF14 hF15 (by first | assumption | omega | rfl | (congr 1; omega)) (by first | assumption | omega | rfl | (congr 1; omega)) (by first | assumption | omega | rfl | (congr 1; omega))) ⟨cbE 1 (wd_458 hE) (wd_119 hE) (wd_455 hE) rfl rfl (by decide +kernel) ⟨Nat.le_of_ble_eq_true rfl, Nat.le_of_ble_eq_true rfl⟩, (wd_457 hE), (wd_2 hE)⟩ ⟨PQ.blind, q_recv 1 (by decide) rfl hK hP rfl, (q_pre (av := [.ref (b 1), .int (nI (k + i_7))]) hK hP hJ hE)⟩ rfl rfl hl.1 rfl (lv_room (Nat.le_of_ble_eq_true rfl)) dX9_isText_29 ⟨Nat.le_of_ble_eq_true rfl, Nat.le_of_ble_eq_true rfl⟩)) (fun r10 hr10 => ?_)
      subst hr10
      have htf10 := sB_f (f := tx) (by assumption) sz1 (k + i_7)
      refine lv_aload_n hx hb dX9_isText_32 rfl (lv_at hl 3 rfl) ?_
      refine lv_iload hx hb dX9_isText_33 (lv_at hl 4 rfl) ?_
      refine vp_callSi (va_Run.run (va_runV (As := [.int (nI i_7)]) (rest := [.int (sB tx sz1 (k + i_7))]) ⟨hx, hb, hml, hown, noTs⟩ (s_J0_charAt l adK adV 0 i_7 (by decide) (by show _ < 6; omega)) ⟨cbE 1 (wd_498 hE) (wd_129 hE) (wd_495 hE) rfl rfl (by decide +kernel) ⟨Nat.le_of_ble_eq_true rfl, Nat.le_of_ble_eq_true rfl⟩, (wd_496 hE), (wd_497 hE)⟩ ⟨PS.blind, vk_recv hX.1 (by decide) hS, ps_pre (av := [.ref (adK 0), .int (nI i_7)]) hX hS hE⟩ rfl rfl hl.1 rfl (lv_room (Nat.le_of_ble_eq_true rfl)) dX9_isText_35 ⟨Nat.le_of_ble_eq_true rfl, Nat.le_of_ble_eq_true rfl⟩)) (fun r11 hr11 => ?_)
      have HRC := hr11
      have CHQ := chq_0 i_7 (by omega)
      refine lv_icmp_eq (tgt := 43) hx hb dX9_isText_38 (by decide) (fun c12 => ?_) (fun c12 => ?_)
      · have c12 := (b_eq (rfl : Int32.toInt (sB tx sz1 (k + i_7)) = _) (rfl : Int32.toInt r11 = _)).mp c12
        have EQ : bA tx sz1 (k + i_7) = wVx.getD i_7 0 := Int32.toInt_inj.mp (by rw [← CHQ.1, ← HRC]; rw [← CHQ.1, ← HRC] at CHQ; omega)
        refine lv_iinc (v := nI (i_7 + 1)) (lv' := [(4, .int (nI (i_7 + 1))), (0, .ref (b 1)), (1, .int (nI k)), (2, .int (nI e1)), (3, .ref (adK 0))]) hx hb dX9_isText_43 hl (k := 4) rfl (nI_1 i_7) (by decide) rfl (fun ls hl => ?_)
        refine lv_goto (tgt := 15) hx hb dX9_isText_46 (by decide) ?_
        exact ih7 _ _ (by omega) ⟨(i_7 + 1), rfl, (by first | assumption | omega | rfl | (congr 1; omega)), (by intro q hq; rcases Nat.lt_or_ge q i_7 with h | h; (exact hL7_1 q h); (obtain rfl : q = i_7 := by omega); exact EQ), lv_sub hl [1, 2, 3, 4, 0] rfl⟩
      · have c12 := mt (b_eq (rfl : Int32.toInt (sB tx sz1 (k + i_7)) = _) (rfl : Int32.toInt r11 = _)).mpr c12
        have NE : bA tx sz1 (k + i_7) ≠ wVx.getD i_7 0 := fun e => by have e2 := congrArg Int32.toInt e; rw [← CHQ.1, ← HRC] at e2 CHQ; omega
        refine lv_iconst (v := 0) hx hb dX9_isText_41 (by decide) ?_
        exact W.zret (v := 0) hx hb hr rfl (fun t ht hW => ⟨0, rfl, Or.inr ⟨rfl, by exact eqw_at (w := wVx) (by show i_7 < 6; omega) NE⟩, ht⟩) (fun _ h => absurd h List.not_mem_nil) dX9_isText_42
  · have c6 := mt (b_eq (nI_toInt (n := e1 - k) (by omega)) (show Int32.toInt 6 = 6 from rfl)).mpr c6
    refine lv_iconst (v := 0) hx hb dX9_isText_10 (by decide) ?_
    exact W.zret (v := 0) hx hb hr rfl (fun t ht hW => ⟨0, rfl, Or.inr ⟨rfl, by exact eqw_len (w := wVx) (l := 6) rfl (by omega)⟩, ht⟩) (fun _ h => absurd h List.not_mem_nil) dX9_isText_11
set_option maxHeartbeats 4000000 in
set_option maxRecDepth 100000 in
theorem q_X9_isText_1 (l : Launch) (dC : Nat → ClassId) (dI : Nat → Nat → Nat) (sz : Nat) (cs : Nat → ClassId) (b : Nat → Nat) (u : RS) (adK adV : Nat → Nat) (tx : Nat → Int32) (hAc5 : rA u 5 = tx) (k : Nat) (e1 : Nat) (sz1 : Nat) (hF14 : rF u 14 = 1) (hF15 : rF u 15 = nI sz1) (hp0 : BY tx) (hp1 : sz1 ≤ 700) (hp2 : k < sz1) (hp3 : e1 = tnd tx sz1 k) : Met l yX9_isText [.code yX9_isText cX9_isText 5 (some .boolean)] ({ frames := 4, cells := 0, slots := 0, locals := 160 }) (PQX [.ref (b 1), .int (nI k), .int (nI e1), .ref (adK 1)] sz dC dI cs b u adK adV) (vp_Si (fun (r : Int32) => (r = 1 ∧ (eqw tx sz1 wEd k = true)) ∨ (r = 0 ∧ (eqw tx sz1 wEd k = false)))) 0 0 (fun _ => False) := by
  refine Met.ofW (cc := cX9_isText) (maxL := 5) (ret := (some .boolean)) (by decide) rfl ?_
  intro p e s m args below meth c s₁ B hml hv
  obtain ⟨rfl, hsz, hP, hK, hJ, hE, hX, hZ0, hZ1, hZ2⟩ := hv
  have hx := B.exec
  have hb := B.bytes
  have hr := B.returns
  have hown : s.vm.findClass RX9 = some m.cls := findClass_of_methodNamed B.named
  have hlocks := B.notSynchronized
  subst hsz
  have hS : va_S (AQ b s.heap.size) s.heap s.heap [] := va_S.rf
  have hl := lv_entry ([.ref (b 1), .int (nI k), .int (nI e1), .ref (adK 1)]) (n := 5) (Nat.le_of_ble_eq_true rfl)
  rw [lg_entry_eq]
  generalize (lg_sl ([.ref (b 1), .int (nI k), .int (nI e1), .ref (adK 1)]) ++ List.replicate (5 - (lg_sl ([.ref (b 1), .int (nI k), .int (nI e1), .ref (adK 1)])).length) Slot.unset).toArray = ls at hl ⊢
  have hl : lv_has ls 5 [(0, .ref (b 1)), (1, .int (nI k)), (2, .int (nI e1)), (3, .ref (adK 1))] := hl
  have tg := tnd_gt (tx := tx) hp2
  have tl := tnd_le (tx := tx) (Nat.le_of_lt hp2)
  refine lv_iload_n hx hb dX9_isText_0 rfl (lv_at hl 2 rfl) ?_
  refine lv_iload_n hx hb dX9_isText_1 rfl (lv_at hl 1 rfl) ?_
  refine lv_isub hx hb dX9_isText_2 ?_
  refine W.eq (g2 := F0 m 3 ls [.int (nI (e1 - k))]) (congrArg (fun z : Int32 => F0 m 3 ls (.int z :: [])) (pk_sub (a := e1) (b := k) (by omega))) ?_
  refine lv_aload_n hx hb dX9_isText_3 rfl (lv_at hl 3 rfl) ?_
  refine vp_callSi (va_Run.run (va_runV (As := []) (rest := [.int (nI (e1 - k))]) ⟨hx, hb, hml, hown, noTs⟩ (s_J0_length l adK adV 1 (by decide)) ⟨cbE 0 (wd_488 hE) (wd_129 hE) (wd_485 hE) rfl rfl (by decide +kernel) ⟨Nat.le_of_ble_eq_true rfl, Nat.le_of_ble_eq_true rfl⟩, (wd_486 hE), (wd_487 hE)⟩ ⟨PS.blind, vk_recv hX.1 (by decide) hS, ps_pre (av := [.ref (adK 1)]) hX hS hE⟩ rfl rfl hl.1 rfl (lv_room (Nat.le_of_ble_eq_true rfl)) dX9_isText_4 ⟨Nat.le_of_ble_eq_true rfl, Nat.le_of_ble_eq_true rfl⟩)) (fun r5 hr5 => ?_)
  have hr5 : r5 = 4 := hr5
  subst hr5
  refine lv_icmp_eq (tgt := 12) hx hb dX9_isText_7 (by decide) (fun c6 => ?_) (fun c6 => ?_)
  · have c6 := (b_eq (nI_toInt (n := e1 - k) (by omega)) (show Int32.toInt 4 = 4 from rfl)).mp c6
    refine lv_iconst (v := 0) hx hb dX9_isText_12 (by decide) ?_
    refine lv_istore (lv' := [(4, .int 0), (0, .ref (b 1)), (1, .int (nI k)), (2, .int (nI e1)), (3, .ref (adK 1))]) hx hb dX9_isText_13 hl (by decide) rfl (fun ls hl => ?_)
    refine r_indP (I := fun n ls => ∃ (i_7 : Nat), n = 4 - i_7 ∧ (i_7 ≤ 4) ∧ (∀ q, q < i_7 → bA tx sz1 (k + q) = wEd.getD q 0) ∧ lv_has ls 5 [(0, .ref (b 1)), (1, .int (nI k)), (2, .int (nI e1)), (3, .ref (adK 1)), (4, .int (nI i_7))]) (fun n ls hI ih7 => ?_) _ _ ⟨0, rfl, (by first | assumption | omega | rfl | (congr 1; omega)), (by intro q hq; omega), lv_sub hl [1, 2, 3, 4, 0] rfl⟩
    obtain ⟨i_7, hmu7, hL7_0, hL7_1, hl⟩ := hI
    subst hmu7
    refine lv_iload hx hb dX9_isText_15 (lv_at hl 4 rfl) ?_
    refine lv_aload_n hx hb dX9_isText_17 rfl (lv_at hl 3 rfl) ?_
    refine vp_callSi (va_Run.run (va_runV (As := []) (rest := [.int (nI i_7)]) ⟨hx, hb, hml, hown, noTs⟩ (s_J0_length l adK adV 1 (by decide)) ⟨cbE 0 (wd_488 hE) (wd_129 hE) (wd_485 hE) rfl rfl (by decide +kernel) ⟨Nat.le_of_ble_eq_true rfl, Nat.le_of_ble_eq_true rfl⟩, (wd_486 hE), (wd_487 hE)⟩ ⟨PS.blind, vk_recv hX.1 (by decide) hS, ps_pre (av := [.ref (adK 1)]) hX hS hE⟩ rfl rfl hl.1 rfl (lv_room (Nat.le_of_ble_eq_true rfl)) dX9_isText_18 ⟨Nat.le_of_ble_eq_true rfl, Nat.le_of_ble_eq_true rfl⟩)) (fun r8 hr8 => ?_)
    have hr8 : r8 = 4 := hr8
    subst hr8
    refine lv_icmp_ge (tgt := 49) hx hb dX9_isText_21 (by decide) (fun c9 => ?_) (fun c9 => ?_)
    · have c9 := (b_le (show Int32.toInt 4 = 4 from rfl) (nI_toInt (n := i_7) (by omega))).mp c9
      refine lv_iconst (v := 1) hx hb dX9_isText_49 (by decide) ?_
      exact W.zret (v := 1) hx hb hr rfl (fun t ht hW => ⟨1, rfl, Or.inl ⟨rfl, by exact eqw_t.mpr ⟨by show _ = 4; omega, fun q hq => hL7_1 q (by have hq : q < 4 := hq; omega)⟩⟩, ht⟩) (fun _ h => absurd h List.not_mem_nil) dX9_isText_50
    · have c9 := mt (b_le (show Int32.toInt 4 = 4 from rfl) (nI_toInt (n := i_7) (by omega))).mpr c9
      refine lv_aload_n hx hb dX9_isText_24 rfl (lv_at hl 0 rfl) ?_
      refine lv_iload_n hx hb dX9_isText_25 rfl (lv_at hl 1 rfl) ?_
      refine lv_iload hx hb dX9_isText_26 (lv_at hl 4 rfl) ?_
      refine lv_iadd hx hb dX9_isText_28 ?_
      refine W.eq (g2 := F0 m 29 ls [.int (nI (k + i_7)), .ref (b 1)]) (congrArg (fun z : Int32 => F0 m 29 ls (.int z :: [.ref (b 1)])) (nI_add k i_7)) ?_
      refine vp_callSi (va_Run.run (va_runV (As := [.int (nI (k + i_7))]) (rest := []) ⟨hx, hb, hml, hown, noTs⟩ (q_X9_byteAt l dC dI s.heap.size cs b u tx hAc5 (k + i_7) sz1 hF14 hF15 (by first | assumption | omega | rfl | (congr 1; omega)) (by first | assumption | omega | rfl | (congr 1; omega)) (by first | assumption | omega | rfl | (congr 1; omega))) ⟨cbE 1 (wd_458 hE) (wd_119 hE) (wd_455 hE) rfl rfl (by decide +kernel) ⟨Nat.le_of_ble_eq_true rfl, Nat.le_of_ble_eq_true rfl⟩, (wd_457 hE), (wd_2 hE)⟩ ⟨PQ.blind, q_recv 1 (by decide) rfl hK hP rfl, (q_pre (av := [.ref (b 1), .int (nI (k + i_7))]) hK hP hJ hE)⟩ rfl rfl hl.1 rfl (lv_room (Nat.le_of_ble_eq_true rfl)) dX9_isText_29 ⟨Nat.le_of_ble_eq_true rfl, Nat.le_of_ble_eq_true rfl⟩)) (fun r10 hr10 => ?_)
      subst hr10
      have htf10 := sB_f (f := tx) (by assumption) sz1 (k + i_7)
      refine lv_aload_n hx hb dX9_isText_32 rfl (lv_at hl 3 rfl) ?_
      refine lv_iload hx hb dX9_isText_33 (lv_at hl 4 rfl) ?_
      refine vp_callSi (va_Run.run (va_runV (As := [.int (nI i_7)]) (rest := [.int (sB tx sz1 (k + i_7))]) ⟨hx, hb, hml, hown, noTs⟩ (s_J0_charAt l adK adV 1 i_7 (by decide) (by show _ < 4; omega)) ⟨cbE 1 (wd_498 hE) (wd_129 hE) (wd_495 hE) rfl rfl (by decide +kernel) ⟨Nat.le_of_ble_eq_true rfl, Nat.le_of_ble_eq_true rfl⟩, (wd_496 hE), (wd_497 hE)⟩ ⟨PS.blind, vk_recv hX.1 (by decide) hS, ps_pre (av := [.ref (adK 1), .int (nI i_7)]) hX hS hE⟩ rfl rfl hl.1 rfl (lv_room (Nat.le_of_ble_eq_true rfl)) dX9_isText_35 ⟨Nat.le_of_ble_eq_true rfl, Nat.le_of_ble_eq_true rfl⟩)) (fun r11 hr11 => ?_)
      have HRC := hr11
      have CHQ := chq_1 i_7 (by omega)
      refine lv_icmp_eq (tgt := 43) hx hb dX9_isText_38 (by decide) (fun c12 => ?_) (fun c12 => ?_)
      · have c12 := (b_eq (rfl : Int32.toInt (sB tx sz1 (k + i_7)) = _) (rfl : Int32.toInt r11 = _)).mp c12
        have EQ : bA tx sz1 (k + i_7) = wEd.getD i_7 0 := Int32.toInt_inj.mp (by rw [← CHQ.1, ← HRC]; rw [← CHQ.1, ← HRC] at CHQ; omega)
        refine lv_iinc (v := nI (i_7 + 1)) (lv' := [(4, .int (nI (i_7 + 1))), (0, .ref (b 1)), (1, .int (nI k)), (2, .int (nI e1)), (3, .ref (adK 1))]) hx hb dX9_isText_43 hl (k := 4) rfl (nI_1 i_7) (by decide) rfl (fun ls hl => ?_)
        refine lv_goto (tgt := 15) hx hb dX9_isText_46 (by decide) ?_
        exact ih7 _ _ (by omega) ⟨(i_7 + 1), rfl, (by first | assumption | omega | rfl | (congr 1; omega)), (by intro q hq; rcases Nat.lt_or_ge q i_7 with h | h; (exact hL7_1 q h); (obtain rfl : q = i_7 := by omega); exact EQ), lv_sub hl [1, 2, 3, 4, 0] rfl⟩
      · have c12 := mt (b_eq (rfl : Int32.toInt (sB tx sz1 (k + i_7)) = _) (rfl : Int32.toInt r11 = _)).mpr c12
        have NE : bA tx sz1 (k + i_7) ≠ wEd.getD i_7 0 := fun e => by have e2 := congrArg Int32.toInt e; rw [← CHQ.1, ← HRC] at e2 CHQ; omega
        refine lv_iconst (v := 0) hx hb dX9_isText_41 (by decide) ?_
        exact W.zret (v := 0) hx hb hr rfl (fun t ht hW => ⟨0, rfl, Or.inr ⟨rfl, by exact eqw_at (w := wEd) (by show i_7 < 4; omega) NE⟩, ht⟩) (fun _ h => absurd h List.not_mem_nil) dX9_isText_42
  · have c6 := mt (b_eq (nI_toInt (n := e1 - k) (by omega)) (show Int32.toInt 4 = 4 from rfl)).mpr c6
    refine lv_iconst (v := 0) hx hb dX9_isText_10 (by decide) ?_
    exact W.zret (v := 0) hx hb hr rfl (fun t ht hW => ⟨0, rfl, Or.inr ⟨rfl, by exact eqw_len (w := wEd) (l := 4) rfl (by omega)⟩, ht⟩) (fun _ h => absurd h List.not_mem_nil) dX9_isText_11
set_option maxHeartbeats 4000000 in
set_option maxRecDepth 100000 in
theorem q_X9_isText_2 (l : Launch) (dC : Nat → ClassId) (dI : Nat → Nat → Nat) (sz : Nat) (cs : Nat → ClassId) (b : Nat → Nat) (u : RS) (adK adV : Nat → Nat) (tx : Nat → Int32) (hAc5 : rA u 5 = tx) (k : Nat) (e1 : Nat) (sz1 : Nat) (hF14 : rF u 14 = 1) (hF15 : rF u 15 = nI sz1) (hp0 : BY tx) (hp1 : sz1 ≤ 700) (hp2 : k < sz1) (hp3 : e1 = tnd tx sz1 k) : Met l yX9_isText [.code yX9_isText cX9_isText 5 (some .boolean)] ({ frames := 4, cells := 0, slots := 0, locals := 160 }) (PQX [.ref (b 1), .int (nI k), .int (nI e1), .ref (adK 2)] sz dC dI cs b u adK adV) (vp_Si (fun (r : Int32) => (r = 1 ∧ (eqw tx sz1 wWo k = true)) ∨ (r = 0 ∧ (eqw tx sz1 wWo k = false)))) 0 0 (fun _ => False) := by
  refine Met.ofW (cc := cX9_isText) (maxL := 5) (ret := (some .boolean)) (by decide) rfl ?_
  intro p e s m args below meth c s₁ B hml hv
  obtain ⟨rfl, hsz, hP, hK, hJ, hE, hX, hZ0, hZ1, hZ2⟩ := hv
  have hx := B.exec
  have hb := B.bytes
  have hr := B.returns
  have hown : s.vm.findClass RX9 = some m.cls := findClass_of_methodNamed B.named
  have hlocks := B.notSynchronized
  subst hsz
  have hS : va_S (AQ b s.heap.size) s.heap s.heap [] := va_S.rf
  have hl := lv_entry ([.ref (b 1), .int (nI k), .int (nI e1), .ref (adK 2)]) (n := 5) (Nat.le_of_ble_eq_true rfl)
  rw [lg_entry_eq]
  generalize (lg_sl ([.ref (b 1), .int (nI k), .int (nI e1), .ref (adK 2)]) ++ List.replicate (5 - (lg_sl ([.ref (b 1), .int (nI k), .int (nI e1), .ref (adK 2)])).length) Slot.unset).toArray = ls at hl ⊢
  have hl : lv_has ls 5 [(0, .ref (b 1)), (1, .int (nI k)), (2, .int (nI e1)), (3, .ref (adK 2))] := hl
  have tg := tnd_gt (tx := tx) hp2
  have tl := tnd_le (tx := tx) (Nat.le_of_lt hp2)
  refine lv_iload_n hx hb dX9_isText_0 rfl (lv_at hl 2 rfl) ?_
  refine lv_iload_n hx hb dX9_isText_1 rfl (lv_at hl 1 rfl) ?_
  refine lv_isub hx hb dX9_isText_2 ?_
  refine W.eq (g2 := F0 m 3 ls [.int (nI (e1 - k))]) (congrArg (fun z : Int32 => F0 m 3 ls (.int z :: [])) (pk_sub (a := e1) (b := k) (by omega))) ?_
  refine lv_aload_n hx hb dX9_isText_3 rfl (lv_at hl 3 rfl) ?_
  refine vp_callSi (va_Run.run (va_runV (As := []) (rest := [.int (nI (e1 - k))]) ⟨hx, hb, hml, hown, noTs⟩ (s_J0_length l adK adV 2 (by decide)) ⟨cbE 0 (wd_488 hE) (wd_129 hE) (wd_485 hE) rfl rfl (by decide +kernel) ⟨Nat.le_of_ble_eq_true rfl, Nat.le_of_ble_eq_true rfl⟩, (wd_486 hE), (wd_487 hE)⟩ ⟨PS.blind, vk_recv hX.1 (by decide) hS, ps_pre (av := [.ref (adK 2)]) hX hS hE⟩ rfl rfl hl.1 rfl (lv_room (Nat.le_of_ble_eq_true rfl)) dX9_isText_4 ⟨Nat.le_of_ble_eq_true rfl, Nat.le_of_ble_eq_true rfl⟩)) (fun r5 hr5 => ?_)
  have hr5 : r5 = 4 := hr5
  subst hr5
  refine lv_icmp_eq (tgt := 12) hx hb dX9_isText_7 (by decide) (fun c6 => ?_) (fun c6 => ?_)
  · have c6 := (b_eq (nI_toInt (n := e1 - k) (by omega)) (show Int32.toInt 4 = 4 from rfl)).mp c6
    refine lv_iconst (v := 0) hx hb dX9_isText_12 (by decide) ?_
    refine lv_istore (lv' := [(4, .int 0), (0, .ref (b 1)), (1, .int (nI k)), (2, .int (nI e1)), (3, .ref (adK 2))]) hx hb dX9_isText_13 hl (by decide) rfl (fun ls hl => ?_)
    refine r_indP (I := fun n ls => ∃ (i_7 : Nat), n = 4 - i_7 ∧ (i_7 ≤ 4) ∧ (∀ q, q < i_7 → bA tx sz1 (k + q) = wWo.getD q 0) ∧ lv_has ls 5 [(0, .ref (b 1)), (1, .int (nI k)), (2, .int (nI e1)), (3, .ref (adK 2)), (4, .int (nI i_7))]) (fun n ls hI ih7 => ?_) _ _ ⟨0, rfl, (by first | assumption | omega | rfl | (congr 1; omega)), (by intro q hq; omega), lv_sub hl [1, 2, 3, 4, 0] rfl⟩
    obtain ⟨i_7, hmu7, hL7_0, hL7_1, hl⟩ := hI
    subst hmu7
    refine lv_iload hx hb dX9_isText_15 (lv_at hl 4 rfl) ?_
    refine lv_aload_n hx hb dX9_isText_17 rfl (lv_at hl 3 rfl) ?_
    refine vp_callSi (va_Run.run (va_runV (As := []) (rest := [.int (nI i_7)]) ⟨hx, hb, hml, hown, noTs⟩ (s_J0_length l adK adV 2 (by decide)) ⟨cbE 0 (wd_488 hE) (wd_129 hE) (wd_485 hE) rfl rfl (by decide +kernel) ⟨Nat.le_of_ble_eq_true rfl, Nat.le_of_ble_eq_true rfl⟩, (wd_486 hE), (wd_487 hE)⟩ ⟨PS.blind, vk_recv hX.1 (by decide) hS, ps_pre (av := [.ref (adK 2)]) hX hS hE⟩ rfl rfl hl.1 rfl (lv_room (Nat.le_of_ble_eq_true rfl)) dX9_isText_18 ⟨Nat.le_of_ble_eq_true rfl, Nat.le_of_ble_eq_true rfl⟩)) (fun r8 hr8 => ?_)
    have hr8 : r8 = 4 := hr8
    subst hr8
    refine lv_icmp_ge (tgt := 49) hx hb dX9_isText_21 (by decide) (fun c9 => ?_) (fun c9 => ?_)
    · have c9 := (b_le (show Int32.toInt 4 = 4 from rfl) (nI_toInt (n := i_7) (by omega))).mp c9
      refine lv_iconst (v := 1) hx hb dX9_isText_49 (by decide) ?_
      exact W.zret (v := 1) hx hb hr rfl (fun t ht hW => ⟨1, rfl, Or.inl ⟨rfl, by exact eqw_t.mpr ⟨by show _ = 4; omega, fun q hq => hL7_1 q (by have hq : q < 4 := hq; omega)⟩⟩, ht⟩) (fun _ h => absurd h List.not_mem_nil) dX9_isText_50
    · have c9 := mt (b_le (show Int32.toInt 4 = 4 from rfl) (nI_toInt (n := i_7) (by omega))).mpr c9
      refine lv_aload_n hx hb dX9_isText_24 rfl (lv_at hl 0 rfl) ?_
      refine lv_iload_n hx hb dX9_isText_25 rfl (lv_at hl 1 rfl) ?_
      refine lv_iload hx hb dX9_isText_26 (lv_at hl 4 rfl) ?_
      refine lv_iadd hx hb dX9_isText_28 ?_
      refine W.eq (g2 := F0 m 29 ls [.int (nI (k + i_7)), .ref (b 1)]) (congrArg (fun z : Int32 => F0 m 29 ls (.int z :: [.ref (b 1)])) (nI_add k i_7)) ?_
      refine vp_callSi (va_Run.run (va_runV (As := [.int (nI (k + i_7))]) (rest := []) ⟨hx, hb, hml, hown, noTs⟩ (q_X9_byteAt l dC dI s.heap.size cs b u tx hAc5 (k + i_7) sz1 hF14 hF15 (by first | assumption | omega | rfl | (congr 1; omega)) (by first | assumption | omega | rfl | (congr 1; omega)) (by first | assumption | omega | rfl | (congr 1; omega))) ⟨cbE 1 (wd_458 hE) (wd_119 hE) (wd_455 hE) rfl rfl (by decide +kernel) ⟨Nat.le_of_ble_eq_true rfl, Nat.le_of_ble_eq_true rfl⟩, (wd_457 hE), (wd_2 hE)⟩ ⟨PQ.blind, q_recv 1 (by decide) rfl hK hP rfl, (q_pre (av := [.ref (b 1), .int (nI (k + i_7))]) hK hP hJ hE)⟩ rfl rfl hl.1 rfl (lv_room (Nat.le_of_ble_eq_true rfl)) dX9_isText_29 ⟨Nat.le_of_ble_eq_true rfl, Nat.le_of_ble_eq_true rfl⟩)) (fun r10 hr10 => ?_)
      subst hr10
      have htf10 := sB_f (f := tx) (by assumption) sz1 (k + i_7)
      refine lv_aload_n hx hb dX9_isText_32 rfl (lv_at hl 3 rfl) ?_
      refine lv_iload hx hb dX9_isText_33 (lv_at hl 4 rfl) ?_
      refine vp_callSi (va_Run.run (va_runV (As := [.int (nI i_7)]) (rest := [.int (sB tx sz1 (k + i_7))]) ⟨hx, hb, hml, hown, noTs⟩ (s_J0_charAt l adK adV 2 i_7 (by decide) (by show _ < 4; omega)) ⟨cbE 1 (wd_498 hE) (wd_129 hE) (wd_495 hE) rfl rfl (by decide +kernel) ⟨Nat.le_of_ble_eq_true rfl, Nat.le_of_ble_eq_true rfl⟩, (wd_496 hE), (wd_497 hE)⟩ ⟨PS.blind, vk_recv hX.1 (by decide) hS, ps_pre (av := [.ref (adK 2), .int (nI i_7)]) hX hS hE⟩ rfl rfl hl.1 rfl (lv_room (Nat.le_of_ble_eq_true rfl)) dX9_isText_35 ⟨Nat.le_of_ble_eq_true rfl, Nat.le_of_ble_eq_true rfl⟩)) (fun r11 hr11 => ?_)
      have HRC := hr11
      have CHQ := chq_2 i_7 (by omega)
      refine lv_icmp_eq (tgt := 43) hx hb dX9_isText_38 (by decide) (fun c12 => ?_) (fun c12 => ?_)
      · have c12 := (b_eq (rfl : Int32.toInt (sB tx sz1 (k + i_7)) = _) (rfl : Int32.toInt r11 = _)).mp c12
        have EQ : bA tx sz1 (k + i_7) = wWo.getD i_7 0 := Int32.toInt_inj.mp (by rw [← CHQ.1, ← HRC]; rw [← CHQ.1, ← HRC] at CHQ; omega)
        refine lv_iinc (v := nI (i_7 + 1)) (lv' := [(4, .int (nI (i_7 + 1))), (0, .ref (b 1)), (1, .int (nI k)), (2, .int (nI e1)), (3, .ref (adK 2))]) hx hb dX9_isText_43 hl (k := 4) rfl (nI_1 i_7) (by decide) rfl (fun ls hl => ?_)
        refine lv_goto (tgt := 15) hx hb dX9_isText_46 (by decide) ?_
        exact ih7 _ _ (by omega) ⟨(i_7 + 1), rfl, (by first | assumption | omega | rfl | (congr 1; omega)), (by intro q hq; rcases Nat.lt_or_ge q i_7 with h | h; (exact hL7_1 q h); (obtain rfl : q = i_7 := by omega); exact EQ), lv_sub hl [1, 2, 3, 4, 0] rfl⟩
      · have c12 := mt (b_eq (rfl : Int32.toInt (sB tx sz1 (k + i_7)) = _) (rfl : Int32.toInt r11 = _)).mpr c12
        have NE : bA tx sz1 (k + i_7) ≠ wWo.getD i_7 0 := fun e => by have e2 := congrArg Int32.toInt e; rw [← CHQ.1, ← HRC] at e2 CHQ; omega
        refine lv_iconst (v := 0) hx hb dX9_isText_41 (by decide) ?_
        exact W.zret (v := 0) hx hb hr rfl (fun t ht hW => ⟨0, rfl, Or.inr ⟨rfl, by exact eqw_at (w := wWo) (by show i_7 < 4; omega) NE⟩, ht⟩) (fun _ h => absurd h List.not_mem_nil) dX9_isText_42
  · have c6 := mt (b_eq (nI_toInt (n := e1 - k) (by omega)) (show Int32.toInt 4 = 4 from rfl)).mpr c6
    refine lv_iconst (v := 0) hx hb dX9_isText_10 (by decide) ?_
    exact W.zret (v := 0) hx hb hr rfl (fun t ht hW => ⟨0, rfl, Or.inr ⟨rfl, by exact eqw_len (w := wWo) (l := 4) rfl (by omega)⟩, ht⟩) (fun _ h => absurd h List.not_mem_nil) dX9_isText_11
set_option maxHeartbeats 4000000 in
set_option maxRecDepth 100000 in
theorem q_X9_numberIn (l : Launch) (dC : Nat → ClassId) (dI : Nat → Nat → Nat) (sz : Nat) (cs : Nat → ClassId) (b : Nat → Nat) (u : RS) (tx : Nat → Int32) (hAc5 : rA u 5 = tx) (k : Nat) (e1 : Nat) (sz1 : Nat) (hF14 : rF u 14 = 1) (hF15 : rF u 15 = nI sz1) (hp0 : BY tx) (hp1 : sz1 ≤ 700) (hp2 : k ≤ e1) (hp3 : e1 ≤ k + 3) (hp4 : e1 ≤ sz1) (hp5 : ∀ q, k ≤ q → q < e1 → 48 ≤ (bA tx sz1 q).toInt ∧ (bA tx sz1 q).toInt ≤ 57) : Met l yX9_numberIn [.code yX9_numberIn cX9_numberIn 5 (some .int)] ({ frames := 1, cells := 0, slots := 0, locals := 40 }) (PQ [.ref (b 1), .int (nI k), .int (nI e1)] sz dC dI cs b u) (vp_Si (fun (r : Int32) => r = nI (vln tx sz1 k (e1 - k)))) 0 0 (fun _ => False) := by
  refine Met.ofW (cc := cX9_numberIn) (maxL := 5) (ret := (some .int)) (by decide) rfl ?_
  intro p e s m args below meth c s₁ B hml hv
  obtain ⟨rfl, hsz, hP, hK, hJ, hE⟩ := hv
  have hx := B.exec
  have hb := B.bytes
  have hr := B.returns
  have hown : s.vm.findClass RX9 = some m.cls := findClass_of_methodNamed B.named
  have hlocks := B.notSynchronized
  subst hsz
  have hl := lv_entry ([.ref (b 1), .int (nI k), .int (nI e1)]) (n := 5) (Nat.le_of_ble_eq_true rfl)
  rw [lg_entry_eq]
  generalize (lg_sl ([.ref (b 1), .int (nI k), .int (nI e1)]) ++ List.replicate (5 - (lg_sl ([.ref (b 1), .int (nI k), .int (nI e1)])).length) Slot.unset).toArray = ls at hl ⊢
  have hl : lv_has ls 5 [(0, .ref (b 1)), (1, .int (nI k)), (2, .int (nI e1))] := hl
  refine lv_iconst (v := 0) hx hb dX9_numberIn_0 (by decide) ?_
  refine lv_istore_n (lv' := [(3, .int 0), (0, .ref (b 1)), (1, .int (nI k)), (2, .int (nI e1))]) hx hb dX9_numberIn_1 rfl hl (by decide) rfl (fun ls hl => ?_)
  refine lv_iload_n hx hb dX9_numberIn_2 rfl (lv_at hl 2 rfl) ?_
  refine lv_istore (lv' := [(4, .int (nI k)), (3, .int 0), (0, .ref (b 1)), (1, .int (nI k)), (2, .int (nI e1))]) hx hb dX9_numberIn_3 hl (by decide) rfl (fun ls hl => ?_)
  refine r_indP (I := fun n ls => ∃ (j_7 : Nat) (v1_7 : Nat), n = e1 - j_7 ∧ (k ≤ j_7) ∧ (j_7 ≤ e1) ∧ (v1_7 = vln tx sz1 k (j_7 - k)) ∧ (j_7 ≤ k → v1_7 = 0) ∧ (j_7 ≤ k + 1 → v1_7 ≤ 9) ∧ (j_7 ≤ k + 2 → v1_7 ≤ 99) ∧ lv_has ls 5 [(0, .ref (b 1)), (1, .int (nI k)), (2, .int (nI e1)), (3, .int (nI v1_7)), (4, .int (nI j_7))]) (fun n ls hI ih7 => ?_) _ _ ⟨k, 0, rfl, (by first | assumption | omega | rfl | (congr 1; omega)), (by first | assumption | omega | rfl | (congr 1; omega)), (by rw [Nat.sub_self]; rfl), (by first | assumption | omega | rfl | (congr 1; omega)), (by first | assumption | omega | rfl | (congr 1; omega)), (by first | assumption | omega | rfl | (congr 1; omega)), lv_sub hl [2, 3, 4, 1, 0] rfl⟩
  obtain ⟨j_7, v1_7, hmu7, hL7_0, hL7_1, hL7_2, hL7_3, hL7_4, hL7_5, hl⟩ := hI
  subst hmu7
  refine lv_iload hx hb dX9_numberIn_5 (lv_at hl 4 rfl) ?_
  refine lv_iload_n hx hb dX9_numberIn_7 rfl (lv_at hl 2 rfl) ?_
  refine lv_icmp_ge (tgt := 32) hx hb dX9_numberIn_8 (by decide) (fun c8 => ?_) (fun c8 => ?_)
  · have c8 := (b_le (nI_toInt (n := e1) (by omega)) (nI_toInt (n := j_7) (by omega))).mp c8
    refine lv_iload_n hx hb dX9_numberIn_32 rfl (lv_at hl 3 rfl) ?_
    exact W.iret (v := nI v1_7) hx hb hr (fun t ht hW => ⟨nI v1_7, rfl, (by rw [show e1 = j_7 by omega, ← hL7_2]), ht⟩) (fun _ h => absurd h List.not_mem_nil) dX9_numberIn_33
  · have c8 := mt (b_le (nI_toInt (n := e1) (by omega)) (nI_toInt (n := j_7) (by omega))).mpr c8
    refine lv_bipush (v := 10) hx hb dX9_numberIn_11 (by decide) ?_
    refine lv_iload_n hx hb dX9_numberIn_13 rfl (lv_at hl 3 rfl) ?_
    refine lv_imul hx hb dX9_numberIn_14 ?_
    refine W.eq (g2 := F0 m 15 ls [.int (nI (10 * v1_7))]) (congrArg (fun z : Int32 => F0 m 15 ls (.int z :: [])) (pk_mul 10 v1_7)) ?_
    refine lv_aload_n hx hb dX9_numberIn_15 rfl (lv_at hl 0 rfl) ?_
    refine lv_iload hx hb dX9_numberIn_16 (lv_at hl 4 rfl) ?_
    refine vp_callSi (va_Run.run (va_runV (As := [.int (nI j_7)]) (rest := [.int (nI (10 * v1_7))]) ⟨hx, hb, hml, hown, noTs⟩ (q_X9_byteAt l dC dI s.heap.size cs b u tx hAc5 j_7 sz1 hF14 hF15 (by first | assumption | omega | rfl | (congr 1; omega)) (by first | assumption | omega | rfl | (congr 1; omega)) (by first | assumption | omega | rfl | (congr 1; omega))) ⟨cbE 1 (wd_458 hE) (wd_119 hE) (wd_455 hE) rfl rfl (by decide +kernel) ⟨Nat.le_of_ble_eq_true rfl, Nat.le_of_ble_eq_true rfl⟩, (wd_457 hE), (wd_2 hE)⟩ ⟨PQ.blind, q_recv 1 (by decide) rfl hK hP rfl, (q_pre (av := [.ref (b 1), .int (nI j_7)]) hK hP hJ hE)⟩ rfl rfl hl.1 rfl (lv_room (Nat.le_of_ble_eq_true rfl)) dX9_numberIn_18 ⟨Nat.le_of_ble_eq_true rfl, Nat.le_of_ble_eq_true rfl⟩)) (fun r9 hr9 => ?_)
    have DGT := hp5 j_7 (by omega) (by omega)
    subst hr9
    have htf9 := sB_f (f := tx) (by assumption) sz1 j_7
    refine lv_iadd hx hb dX9_numberIn_21 ?_
    refine lv_topi (fun x10 ex10 => ?_)
    have hz11 : x10.toInt = ((10 * v1_7 : Nat) : Int) + (sB tx sz1 j_7).toInt := by rw [ex10]; exact z_add (nI_toInt (n := 10 * v1_7) (by omega)) (rfl : Int32.toInt (sB tx sz1 j_7) = _) (by omega) (by omega)
    refine lv_bipush (v := 48) hx hb dX9_numberIn_22 (by decide) ?_
    refine lv_isub hx hb dX9_numberIn_24 ?_
    refine lv_topi (fun x12 ex12 => ?_)
    have hz13 : x12.toInt = ((10 * v1_7 : Nat) : Int) + (sB tx sz1 j_7).toInt - (48 : Int) := by rw [ex12]; exact z_sub hz11 (show Int32.toInt 48 = 48 from rfl) (by omega) (by omega)
    obtain ⟨nx14, hi14, hj14⟩ := z_ex (x := x12) (n := 1000) (by omega) (by omega)
    subst hi14
    have hti15 := nI_toInt (n := nx14) (by omega)
    refine lv_istore_n (lv' := [(3, .int (nI nx14)), (0, .ref (b 1)), (1, .int (nI k)), (2, .int (nI e1)), (4, .int (nI j_7))]) hx hb dX9_numberIn_25 rfl hl (by decide) rfl (fun ls hl => ?_)
    refine lv_iinc (v := nI (j_7 + 1)) (lv' := [(4, .int (nI (j_7 + 1))), (3, .int (nI nx14)), (0, .ref (b 1)), (1, .int (nI k)), (2, .int (nI e1))]) hx hb dX9_numberIn_26 hl (k := 4) rfl (nI_1 j_7) (by decide) rfl (fun ls hl => ?_)
    refine lv_goto (tgt := 5) hx hb dX9_numberIn_29 (by decide) ?_
    exact ih7 _ _ (by omega) ⟨(j_7 + 1), nx14, rfl, (by first | assumption | omega | rfl | (congr 1; omega)), (by first | assumption | omega | rfl | (congr 1; omega)), (by rw [vln_s (by omega), ← hL7_2]; omega), (by first | assumption | omega | rfl | (congr 1; omega)), (by first | assumption | omega | rfl | (congr 1; omega)), (by first | assumption | omega | rfl | (congr 1; omega)), lv_sub hl [2, 3, 4, 1, 0] rfl⟩
set_option maxHeartbeats 4000000 in
set_option maxRecDepth 100000 in
theorem q_X9_kindOf (l : Launch) (dC : Nat → ClassId) (dI : Nat → Nat → Nat) (sz : Nat) (cs : Nat → ClassId) (b : Nat → Nat) (u : RS) (adK adV : Nat → Nat) (tx : Nat → Int32) (hAc5 : rA u 5 = tx) (k : Nat) (e1 : Nat) (sz1 : Nat) (hF14 : rF u 14 = 1) (hF15 : rF u 15 = nI sz1) (hp0 : BY tx) (hp1 : sz1 ≤ 700) (hp2 : k < sz1) (hp3 : e1 = tnd tx sz1 k) : Met l yX9_kindOf [.code yX9_kindOf cX9_kindOf 4 (some .int)] ({ frames := 5, cells := 0, slots := 0, locals := 200 }) (PQX [.ref (b 1), .int (nI k), .int (nI e1)] sz dC dI cs b u adK adV) (vp_Si (fun (r : Int32) => r = nI (kd tx sz1 k))) 0 0 (fun _ => False) := by
  refine Met.ofW (cc := cX9_kindOf) (maxL := 4) (ret := (some .int)) (by decide) rfl ?_
  intro p e s m args below meth c s₁ B hml hv
  obtain ⟨rfl, hsz, hP, hK, hJ, hE, hX, hZ0, hZ1, hZ2⟩ := hv
  have hx := B.exec
  have hb := B.bytes
  have hr := B.returns
  have hown : s.vm.findClass RX9 = some m.cls := findClass_of_methodNamed B.named
  have hlocks := B.notSynchronized
  subst hsz
  have hS : va_S (AQ b s.heap.size) s.heap s.heap [] := va_S.rf
  have hl := lv_entry ([.ref (b 1), .int (nI k), .int (nI e1)]) (n := 4) (Nat.le_of_ble_eq_true rfl)
  rw [lg_entry_eq]
  generalize (lg_sl ([.ref (b 1), .int (nI k), .int (nI e1)]) ++ List.replicate (4 - (lg_sl ([.ref (b 1), .int (nI k), .int (nI e1)])).length) Slot.unset).toArray = ls at hl ⊢
  have hl : lv_has ls 4 [(0, .ref (b 1)), (1, .int (nI k)), (2, .int (nI e1))] := hl
  have tg := tnd_gt (tx := tx) hp2
  have tl := tnd_le (tx := tx) (Nat.le_of_lt hp2)
  refine lv_aload_n hx hb dX9_kindOf_0 rfl (lv_at hl 0 rfl) ?_
  refine lv_iload_n hx hb dX9_kindOf_1 rfl (lv_at hl 1 rfl) ?_
  refine vp_callSi (va_Run.run (va_runV (As := [.int (nI k)]) (rest := []) ⟨hx, hb, hml, hown, noTs⟩ (q_X9_byteAt l dC dI s.heap.size cs b u tx hAc5 k sz1 hF14 hF15 (by first | assumption | omega | rfl | (congr 1; omega)) (by first | assumption | omega | rfl | (congr 1; omega)) (by first | assumption | omega | rfl | (congr 1; omega))) ⟨cbE 1 (wd_458 hE) (wd_119 hE) (wd_455 hE) rfl rfl (by decide +kernel) ⟨Nat.le_of_ble_eq_true rfl, Nat.le_of_ble_eq_true rfl⟩, (wd_457 hE), (wd_2 hE)⟩ ⟨PQ.blind, q_recv 1 (by decide) rfl hK hP rfl, (q_pre (av := [.ref (b 1), .int (nI k)]) hK hP hJ hE)⟩ rfl rfl hl.1 rfl (lv_room (Nat.le_of_ble_eq_true rfl)) dX9_kindOf_2 ⟨Nat.le_of_ble_eq_true rfl, Nat.le_of_ble_eq_true rfl⟩)) (fun r5 hr5 => ?_)
  subst hr5
  have htf5 := sB_f (f := tx) (by assumption) sz1 k
  refine lv_istore_n (lv' := [(3, .int (sB tx sz1 k)), (0, .ref (b 1)), (1, .int (nI k)), (2, .int (nI e1))]) hx hb dX9_kindOf_5 rfl hl (by decide) rfl (fun ls hl => ?_)
  refine lv_iload_n hx hb dX9_kindOf_6 rfl (lv_at hl 0 rfl) ?_
  refine vp_callSi (va_Run.run (va_runS (As := [.int (sB tx sz1 k)]) (rest := []) ⟨hx, hb, hml, hown, noTs⟩ (q_X9_isDigit l dC dI s.heap.size cs b u (sB tx sz1 k)) ⟨cbE 1 (wd_468 hE) (wd_119 hE) (wd_466 hE) rfl rfl (by decide +kernel) ⟨Nat.le_of_ble_eq_true rfl, Nat.le_of_ble_eq_true rfl⟩, (wd_467 hE)⟩ ⟨PQ.blind, (q_pre (av := [.int (sB tx sz1 k)]) hK hP hJ hE)⟩ rfl rfl hl.1 rfl (lv_room (Nat.le_of_ble_eq_true rfl)) dX9_kindOf_7 ⟨Nat.le_of_ble_eq_true rfl, Nat.le_of_ble_eq_true rfl⟩)) (fun r6 hr6 => ?_)
  rcases hr6 with ⟨rfl, hb6⟩ | ⟨rfl, hb6⟩
  · refine lv_if_eq (tgt := 27) hx hb dX9_kindOf_10 (by decide) (fun c7 => absurd c7 (by decide)) (fun c7 => ?_)
    refine lv_iload_n hx hb dX9_kindOf_13 rfl (lv_at hl 3 rfl) ?_
    refine lv_iload_n hx hb dX9_kindOf_14 rfl (lv_at hl 2 rfl) ?_
    refine lv_isub hx hb dX9_kindOf_15 ?_
    refine W.eq (g2 := F0 m 16 ls [.int (nI (e1 - k))]) (congrArg (fun z : Int32 => F0 m 16 ls (.int z :: [])) (pk_sub (a := e1) (b := k) (by omega))) ?_
    refine lv_iconst (v := 3) hx hb dX9_kindOf_16 (by decide) ?_
    refine lv_icmp_le (tgt := 24) hx hb dX9_kindOf_17 (by decide) (fun c8 => ?_) (fun c8 => ?_)
    · have c8 := (b_le (nI_toInt (n := e1 - k) (by omega)) (show Int32.toInt 3 = 3 from rfl)).mp c8
      refine lv_bipush (v := 6) hx hb dX9_kindOf_24 (by decide) ?_
      exact W.iret (v := 6) hx hb hr (fun t ht hW => ⟨6, rfl, (by rw [kd_dig (by omega), ← hp3]; first | (rw [if_pos (by omega)]; rfl) | (rw [if_neg (by omega)]; rfl)), ht⟩) (fun _ h => absurd h List.not_mem_nil) dX9_kindOf_26
    · have c8 := mt (b_le (nI_toInt (n := e1 - k) (by omega)) (show Int32.toInt 3 = 3 from rfl)).mpr c8
      refine lv_iconst (v := 1) hx hb dX9_kindOf_20 (by decide) ?_
      refine lv_goto (tgt := 26) hx hb dX9_kindOf_21 (by decide) ?_
      exact W.iret (v := 1) hx hb hr (fun t ht hW => ⟨1, rfl, (by rw [kd_dig (by omega), ← hp3]; first | (rw [if_pos (by omega)]; rfl) | (rw [if_neg (by omega)]; rfl)), ht⟩) (fun _ h => absurd h List.not_mem_nil) dX9_kindOf_26
  · refine lv_if_eq (tgt := 27) hx hb dX9_kindOf_10 (by decide) (fun c9 => ?_) (fun c9 => absurd c9 (by decide))
    refine lv_iload_n hx hb dX9_kindOf_27 rfl (lv_at hl 0 rfl) ?_
    refine vp_callSi (va_Run.run (va_runS (As := [.int (sB tx sz1 k)]) (rest := []) ⟨hx, hb, hml, hown, noTs⟩ (q_X9_isLetter l dC dI s.heap.size cs b u (sB tx sz1 k)) ⟨cbE 1 (wd_465 hE) (wd_119 hE) (wd_463 hE) rfl rfl (by decide +kernel) ⟨Nat.le_of_ble_eq_true rfl, Nat.le_of_ble_eq_true rfl⟩, (wd_464 hE)⟩ ⟨PQ.blind, (q_pre (av := [.int (sB tx sz1 k)]) hK hP hJ hE)⟩ rfl rfl hl.1 rfl (lv_room (Nat.le_of_ble_eq_true rfl)) dX9_kindOf_28 ⟨Nat.le_of_ble_eq_true rfl, Nat.le_of_ble_eq_true rfl⟩)) (fun r10 hr10 => ?_)
    rcases hr10 with ⟨rfl, hb10⟩ | ⟨rfl, hb10⟩
    · refine lv_if_ne (tgt := 39) hx hb dX9_kindOf_31 (by decide) (fun c11 => ?_) (fun c11 => absurd c11 (by decide))
      refine lv_aload_n hx hb dX9_kindOf_39 rfl (lv_at hl 1 rfl) ?_
      refine lv_iload_n hx hb dX9_kindOf_40 rfl (lv_at hl 2 rfl) ?_
      refine lv_iload_n hx hb dX9_kindOf_41 rfl (lv_at hl 3 rfl) ?_
      refine va_ldcS hx hb hown hZ0 dX9_kindOf_42 ?_
      refine vp_callSi (va_Run.run (va_runV (As := [.int (nI k), .int (nI e1), .ref (adK 0)]) (rest := []) ⟨hx, hb, hml, hown, noTs⟩ (q_X9_isText_0 l dC dI s.heap.size cs b u adK adV tx hAc5 k e1 sz1 hF14 hF15 (by first | assumption | omega | rfl | (congr 1; omega)) (by first | assumption | omega | rfl | (congr 1; omega)) (by first | assumption | omega | rfl | (congr 1; omega)) (by first | assumption | omega | rfl | (congr 1; omega))) ⟨cbE 3 (wd_484 hE) (wd_119 hE) (wd_481 hE) rfl rfl (by decide +kernel) ⟨Nat.le_of_ble_eq_true rfl, Nat.le_of_ble_eq_true rfl⟩, (wd_483 hE), (wd_6 hE)⟩ ⟨PQX.blind, q_recv 1 (by decide) rfl hK hP rfl, (qx_pre (av := [.ref (b 1), .int (nI k), .int (nI e1), .ref (adK 0)]) hK hP hJ hE hX hZ0 hZ1 hZ2 hS)⟩ rfl rfl hl.1 rfl (lv_room (Nat.le_of_ble_eq_true rfl)) dX9_kindOf_44 ⟨Nat.le_of_ble_eq_true rfl, Nat.le_of_ble_eq_true rfl⟩)) (fun r12 hr12 => ?_)
      rcases hr12 with ⟨rfl, hb12⟩ | ⟨rfl, hb12⟩
      · have EW0 := hb12
        refine lv_if_eq (tgt := 52) hx hb dX9_kindOf_47 (by decide) (fun c13 => absurd c13 (by decide)) (fun c13 => ?_)
        refine lv_iconst (v := 3) hx hb dX9_kindOf_50 (by decide) ?_
        exact W.iret (v := 3) hx hb hr (fun t ht hW => ⟨3, rfl, (by rw [kd_word (kd_let (tx := tx) (n := sz1) (p := k) (by omega)), if_pos EW0]; rfl), ht⟩) (fun _ h => absurd h List.not_mem_nil) dX9_kindOf_51
      · have EW0 := hb12
        refine lv_if_eq (tgt := 52) hx hb dX9_kindOf_47 (by decide) (fun c14 => ?_) (fun c14 => absurd c14 (by decide))
        refine lv_aload_n hx hb dX9_kindOf_52 rfl (lv_at hl 1 rfl) ?_
        refine lv_iload_n hx hb dX9_kindOf_53 rfl (lv_at hl 2 rfl) ?_
        refine lv_iload_n hx hb dX9_kindOf_54 rfl (lv_at hl 3 rfl) ?_
        refine va_ldcS hx hb hown hZ1 dX9_kindOf_55 ?_
        refine vp_callSi (va_Run.run (va_runV (As := [.int (nI k), .int (nI e1), .ref (adK 1)]) (rest := []) ⟨hx, hb, hml, hown, noTs⟩ (q_X9_isText_1 l dC dI s.heap.size cs b u adK adV tx hAc5 k e1 sz1 hF14 hF15 (by first | assumption | omega | rfl | (congr 1; omega)) (by first | assumption | omega | rfl | (congr 1; omega)) (by first | assumption | omega | rfl | (congr 1; omega)) (by first | assumption | omega | rfl | (congr 1; omega))) ⟨cbE 3 (wd_484 hE) (wd_119 hE) (wd_481 hE) rfl rfl (by decide +kernel) ⟨Nat.le_of_ble_eq_true rfl, Nat.le_of_ble_eq_true rfl⟩, (wd_483 hE), (wd_6 hE)⟩ ⟨PQX.blind, q_recv 1 (by decide) rfl hK hP rfl, (qx_pre (av := [.ref (b 1), .int (nI k), .int (nI e1), .ref (adK 1)]) hK hP hJ hE hX hZ0 hZ1 hZ2 hS)⟩ rfl rfl hl.1 rfl (lv_room (Nat.le_of_ble_eq_true rfl)) dX9_kindOf_57 ⟨Nat.le_of_ble_eq_true rfl, Nat.le_of_ble_eq_true rfl⟩)) (fun r15 hr15 => ?_)
        rcases hr15 with ⟨rfl, hb15⟩ | ⟨rfl, hb15⟩
        · have EW1 := hb15
          refine lv_if_eq (tgt := 65) hx hb dX9_kindOf_60 (by decide) (fun c16 => absurd c16 (by decide)) (fun c16 => ?_)
          refine lv_iconst (v := 4) hx hb dX9_kindOf_63 (by decide) ?_
          exact W.iret (v := 4) hx hb hr (fun t ht hW => ⟨4, rfl, (by rw [kd_word (kd_let (tx := tx) (n := sz1) (p := k) (by omega)), if_neg (by rw [EW0]; decide), if_pos EW1]; rfl), ht⟩) (fun _ h => absurd h List.not_mem_nil) dX9_kindOf_64
        · have EW1 := hb15
          refine lv_if_eq (tgt := 65) hx hb dX9_kindOf_60 (by decide) (fun c17 => ?_) (fun c17 => absurd c17 (by decide))
          refine lv_aload_n hx hb dX9_kindOf_65 rfl (lv_at hl 1 rfl) ?_
          refine lv_iload_n hx hb dX9_kindOf_66 rfl (lv_at hl 2 rfl) ?_
          refine lv_iload_n hx hb dX9_kindOf_67 rfl (lv_at hl 3 rfl) ?_
          refine va_ldcS hx hb hown hZ2 dX9_kindOf_68 ?_
          refine vp_callSi (va_Run.run (va_runV (As := [.int (nI k), .int (nI e1), .ref (adK 2)]) (rest := []) ⟨hx, hb, hml, hown, noTs⟩ (q_X9_isText_2 l dC dI s.heap.size cs b u adK adV tx hAc5 k e1 sz1 hF14 hF15 (by first | assumption | omega | rfl | (congr 1; omega)) (by first | assumption | omega | rfl | (congr 1; omega)) (by first | assumption | omega | rfl | (congr 1; omega)) (by first | assumption | omega | rfl | (congr 1; omega))) ⟨cbE 3 (wd_484 hE) (wd_119 hE) (wd_481 hE) rfl rfl (by decide +kernel) ⟨Nat.le_of_ble_eq_true rfl, Nat.le_of_ble_eq_true rfl⟩, (wd_483 hE), (wd_6 hE)⟩ ⟨PQX.blind, q_recv 1 (by decide) rfl hK hP rfl, (qx_pre (av := [.ref (b 1), .int (nI k), .int (nI e1), .ref (adK 2)]) hK hP hJ hE hX hZ0 hZ1 hZ2 hS)⟩ rfl rfl hl.1 rfl (lv_room (Nat.le_of_ble_eq_true rfl)) dX9_kindOf_70 ⟨Nat.le_of_ble_eq_true rfl, Nat.le_of_ble_eq_true rfl⟩)) (fun r18 hr18 => ?_)
          rcases hr18 with ⟨rfl, hb18⟩ | ⟨rfl, hb18⟩
          · have EW2 := hb18
            refine lv_if_eq (tgt := 80) hx hb dX9_kindOf_73 (by decide) (fun c19 => absurd c19 (by decide)) (fun c19 => ?_)
            refine lv_iconst (v := 5) hx hb dX9_kindOf_76 (by decide) ?_
            refine lv_goto (tgt := 81) hx hb dX9_kindOf_77 (by decide) ?_
            exact W.iret (v := 5) hx hb hr (fun t ht hW => ⟨5, rfl, (by rw [kd_word (kd_let (tx := tx) (n := sz1) (p := k) (by omega)), if_neg (by rw [EW0]; decide), if_neg (by rw [EW1]; decide)]; first | (rw [if_pos EW2]; rfl) | (rw [if_neg (by rw [EW2]; decide)]; rfl)), ht⟩) (fun _ h => absurd h List.not_mem_nil) dX9_kindOf_81
          · have EW2 := hb18
            refine lv_if_eq (tgt := 80) hx hb dX9_kindOf_73 (by decide) (fun c20 => ?_) (fun c20 => absurd c20 (by decide))
            refine lv_iconst (v := 2) hx hb dX9_kindOf_80 (by decide) ?_
            exact W.iret (v := 2) hx hb hr (fun t ht hW => ⟨2, rfl, (by rw [kd_word (kd_let (tx := tx) (n := sz1) (p := k) (by omega)), if_neg (by rw [EW0]; decide), if_neg (by rw [EW1]; decide)]; first | (rw [if_pos EW2]; rfl) | (rw [if_neg (by rw [EW2]; decide)]; rfl)), ht⟩) (fun _ h => absurd h List.not_mem_nil) dX9_kindOf_81
    · refine lv_if_ne (tgt := 39) hx hb dX9_kindOf_31 (by decide) (fun c21 => absurd c21 (by decide)) (fun c21 => ?_)
      refine lv_iload_n hx hb dX9_kindOf_34 rfl (lv_at hl 0 rfl) ?_
      refine vp_callSi (va_Run.run (va_runS (As := [.int (sB tx sz1 k)]) (rest := []) ⟨hx, hb, hml, hown, noTs⟩ (q_X9_signOf l dC dI s.heap.size cs b u (sB tx sz1 k)) ⟨cbE 1 (wd_479 hE) (wd_119 hE) (wd_477 hE) rfl rfl (by decide +kernel) ⟨Nat.le_of_ble_eq_true rfl, Nat.le_of_ble_eq_true rfl⟩, (wd_478 hE)⟩ ⟨PQ.blind, (q_pre (av := [.int (sB tx sz1 k)]) hK hP hJ hE)⟩ rfl rfl hl.1 rfl (lv_room (Nat.le_of_ble_eq_true rfl)) dX9_kindOf_35 ⟨Nat.le_of_ble_eq_true rfl, Nat.le_of_ble_eq_true rfl⟩)) (fun r22 hr22 => ?_)
      subst hr22
      exact W.iret (v := nI (sgv (sB tx sz1 k))) hx hb hr (fun t ht hW => ⟨nI (sgv (sB tx sz1 k)), rfl, (by rw [kd_sgn (by omega) (by omega) (by omega)]; congr 1; unfold sgv; (repeat' split) <;> omega), ht⟩) (fun _ h => absurd h List.not_mem_nil) dX9_kindOf_38
set_option maxHeartbeats 4000000 in
set_option maxRecDepth 100000 in
theorem q_X9_add (l : Launch) (dC : Nat → ClassId) (dI : Nat → Nat → Nat) (sz : Nat) (cs : Nat → ClassId) (b : Nat → Nat) (u : RS) (adK adV : Nat → Nat) (tx : Nat → Int32) (hAc5 : rA u 5 = tx) (k2 : Nat → Int32) (hAc2 : rA u 2 = k2) (k3 : Nat → Int32) (hAc3 : rA u 3 = k3) (k4 : Nat → Int32) (hAc4 : rA u 4 = k4) (k : Nat) (e1 : Nat) (sz1 : Nat) (c1 : Nat) (hF14 : rF u 14 = 1) (hF15 : rF u 15 = nI sz1) (hF13 : rF u 13 = nI c1) (hp0 : BY tx) (hp1 : sz1 ≤ 700) (hp2 : k < sz1) (hp3 : e1 = tnd tx sz1 k) (hp4 : c1 ≤ 699) : Met l yX9_add [.code yX9_add cX9_add 3 none] ({ frames := 6, cells := 0, slots := 0, locals := 240 }) (PQX [.ref (b 1), .int (nI k), .int (nI e1)] sz dC dI cs b u adK adV) (va_Qv (fun (u' : RS) => ((rA u' 2) = upd k2 c1 (nI (kd tx sz1 k))) ∧ ((rA u' 3) = upd k3 c1 (nI k)) ∧ ((rA u' 4) = upd k4 c1 (nI (vv tx sz1 k))) ∧ (rF u' 13 = nI (c1 + 1)) ∧ FR [2, 3, 4] [13] false u u') (BQ dC dI cs b) (AQ b sz)) 0 0 (AQ b sz) := by
  refine Met.ofW (cc := cX9_add) (maxL := 3) (ret := none) (by decide) rfl ?_
  intro p e s m args below meth c s₁ B hml hv
  obtain ⟨rfl, hsz, hP, hK, hJ, hE, hX, hZ0, hZ1, hZ2⟩ := hv
  have hx := B.exec
  have hb := B.bytes
  have hr := B.returns
  have hown : s.vm.findClass RX9 = some m.cls := findClass_of_methodNamed B.named
  have hlocks := B.notSynchronized
  subst hsz
  have hAL : ∀ i, i < 12 → AQ b s.heap.size (b i) := fun i h => Or.inl ⟨i, h, rfl⟩
  have hA : ∀ q : Nat, s.heap.size ≤ q → AQ b s.heap.size q := fun q h => Or.inr h
  have hS : va_S (AQ b s.heap.size) s.heap s.heap [] := va_S.rf
  have hfr : FR [2, 3, 4] [13] false u u := FR.refl
  have hl := lv_entry ([.ref (b 1), .int (nI k), .int (nI e1)]) (n := 3) (Nat.le_of_ble_eq_true rfl)
  rw [lg_entry_eq]
  generalize (lg_sl ([.ref (b 1), .int (nI k), .int (nI e1)]) ++ List.replicate (3 - (lg_sl ([.ref (b 1), .int (nI k), .int (nI e1)])).length) Slot.unset).toArray = ls at hl ⊢
  have hl : lv_has ls 3 [(0, .ref (b 1)), (1, .int (nI k)), (2, .int (nI e1))] := hl
  have kl := kd_le (tx := tx) (n := sz1) (p := k)
  have tg := tnd_gt (tx := tx) hp2
  have tl := tnd_le (tx := tx) (Nat.le_of_lt hp2)
  refine lv_aload_n hx hb dX9_add_0 rfl (lv_at hl 0 rfl) ?_
  refine q_get (v := .int (nI c1)) hx hb 1 (by decide) rfl (ly_X9 hE) hown hK hP rfl 3 (by decide) (wd_189 hE) (fun _ h9 => h9) (congrArg (fun z : Int32 => some (Value.int z)) hF13) dX9_add_1 ?_
  refine lv_if_lt (tgt := 43) hx hb dX9_add_4 (by decide) (fun c6 => False.elim (by have c6 := (b_lt (nI_toInt (n := c1) (by omega)) (show Int32.toInt 0 = 0 from rfl)).mp c6; omega)) (fun c6 => ?_)
  have c6 := mt (b_lt (nI_toInt (n := c1) (by omega)) (show Int32.toInt 0 = 0 from rfl)).mpr c6
  refine lv_aload_n hx hb dX9_add_7 rfl (lv_at hl 0 rfl) ?_
  refine q_get (v := .int (nI c1)) hx hb 1 (by decide) rfl (ly_X9 hE) hown hK hP rfl 3 (by decide) (wd_189 hE) (fun _ h9 => h9) (congrArg (fun z : Int32 => some (Value.int z)) hF13) dX9_add_8 ?_
  refine lv_aload_n hx hb dX9_add_11 rfl (lv_at hl 0 rfl) ?_
  refine q_get (v := .ref (b 2)) hx hb 1 (by decide) rfl (ly_X9 hE) hown hK hP rfl 0 (by decide) (wd_186 hE) (fun _ h9 => h9) rfl dX9_add_12 ?_
  refine q_alen (j := 2) (t0 := 0) (v := 701) hx hb hK hP (by decide) rfl rfl rfl dX9_add_15 ?_
  refine lv_icmp_ge (tgt := 43) hx hb dX9_add_16 (by decide) (fun c7 => False.elim (by have c7 := (b_le (show Int32.toInt 701 = 701 from rfl) (nI_toInt (n := c1) (by omega))).mp c7; omega)) (fun c7 => ?_)
  have c7 := mt (b_le (show Int32.toInt 701 = 701 from rfl) (nI_toInt (n := c1) (by omega))).mpr c7
  refine lv_aload_n hx hb dX9_add_19 rfl (lv_at hl 0 rfl) ?_
  refine q_get (v := .int (nI c1)) hx hb 1 (by decide) rfl (ly_X9 hE) hown hK hP rfl 3 (by decide) (wd_189 hE) (fun _ h9 => h9) (congrArg (fun z : Int32 => some (Value.int z)) hF13) dX9_add_20 ?_
  refine lv_aload_n hx hb dX9_add_23 rfl (lv_at hl 0 rfl) ?_
  refine q_get (v := .ref (b 3)) hx hb 1 (by decide) rfl (ly_X9 hE) hown hK hP rfl 1 (by decide) (wd_187 hE) (fun _ h9 => h9) rfl dX9_add_24 ?_
  refine q_alen (j := 3) (t0 := 0) (v := 701) hx hb hK hP (by decide) rfl rfl rfl dX9_add_27 ?_
  refine lv_icmp_ge (tgt := 43) hx hb dX9_add_28 (by decide) (fun c8 => False.elim (by have c8 := (b_le (show Int32.toInt 701 = 701 from rfl) (nI_toInt (n := c1) (by omega))).mp c8; omega)) (fun c8 => ?_)
  have c8 := mt (b_le (show Int32.toInt 701 = 701 from rfl) (nI_toInt (n := c1) (by omega))).mpr c8
  refine lv_aload_n hx hb dX9_add_31 rfl (lv_at hl 0 rfl) ?_
  refine q_get (v := .int (nI c1)) hx hb 1 (by decide) rfl (ly_X9 hE) hown hK hP rfl 3 (by decide) (wd_189 hE) (fun _ h9 => h9) (congrArg (fun z : Int32 => some (Value.int z)) hF13) dX9_add_32 ?_
  refine lv_aload_n hx hb dX9_add_35 rfl (lv_at hl 0 rfl) ?_
  refine q_get (v := .ref (b 4)) hx hb 1 (by decide) rfl (ly_X9 hE) hown hK hP rfl 2 (by decide) (wd_188 hE) (fun _ h9 => h9) rfl dX9_add_36 ?_
  refine q_alen (j := 4) (t0 := 0) (v := 701) hx hb hK hP (by decide) rfl rfl rfl dX9_add_39 ?_
  refine lv_icmp_lt (tgt := 44) hx hb dX9_add_40 (by decide) (fun c9 => ?_) (fun c9 => False.elim (by have c9 := mt (b_lt (nI_toInt (n := c1) (by omega)) (show Int32.toInt 701 = 701 from rfl)).mpr c9; omega))
  have c9 := (b_lt (nI_toInt (n := c1) (by omega)) (show Int32.toInt 701 = 701 from rfl)).mp c9
  refine lv_aload_n hx hb dX9_add_44 rfl (lv_at hl 0 rfl) ?_
  refine q_get (v := .ref (b 2)) hx hb 1 (by decide) rfl (ly_X9 hE) hown hK hP rfl 0 (by decide) (wd_186 hE) (fun _ h9 => h9) rfl dX9_add_45 ?_
  refine lv_aload_n hx hb dX9_add_48 rfl (lv_at hl 0 rfl) ?_
  refine q_get (v := .int (nI c1)) hx hb 1 (by decide) rfl (ly_X9 hE) hown hK hP rfl 3 (by decide) (wd_189 hE) (fun _ h9 => h9) (congrArg (fun z : Int32 => some (Value.int z)) hF13) dX9_add_49 ?_
  refine lv_aload_n hx hb dX9_add_52 rfl (lv_at hl 0 rfl) ?_
  refine lv_iload_n hx hb dX9_add_53 rfl (lv_at hl 1 rfl) ?_
  refine lv_iload_n hx hb dX9_add_54 rfl (lv_at hl 2 rfl) ?_
  refine vp_callSi (va_Run.run (va_runV (As := [.int (nI k), .int (nI e1)]) (rest := [.int (nI c1), .ref (b 2)]) ⟨hx, hb, hml, hown, noTs⟩ (q_X9_kindOf l dC dI s.heap.size cs b u adK adV tx hAc5 k e1 sz1 hF14 hF15 (by first | assumption | omega | rfl | (congr 1; omega)) (by first | assumption | omega | rfl | (congr 1; omega)) (by first | assumption | omega | rfl | (congr 1; omega)) (by first | assumption | omega | rfl | (congr 1; omega))) ⟨cbE 2 (wd_476 hE) (wd_119 hE) (wd_473 hE) rfl rfl (by decide +kernel) ⟨Nat.le_of_ble_eq_true rfl, Nat.le_of_ble_eq_true rfl⟩, (wd_475 hE), (wd_5 hE)⟩ ⟨PQX.blind, q_recv 1 (by decide) rfl hK hP rfl, (qx_pre (av := [.ref (b 1), .int (nI k), .int (nI e1)]) hK hP hJ hE hX hZ0 hZ1 hZ2 hS)⟩ rfl rfl hl.1 rfl (lv_room (Nat.le_of_ble_eq_true rfl)) dX9_add_55 ⟨Nat.le_of_ble_eq_true rfl, Nat.le_of_ble_eq_true rfl⟩)) (fun r10 hr10 => ?_)
  subst hr10
  refine q_iast (j := 2) (k := c1) (n := 701) (x := nI (kd tx sz1 k)) hx hb hK hP hJ hAL hS (by decide) (fun _ => rfl) hAc2 (by omega) (by decide) dX9_add_58 (fun u11 H locs hs11 hq11 hP hS => ?_)
  obtain ⟨w11, hw11⟩ : ∃ g, g = upd k2 c1 (nI (kd tx sz1 k)) := ⟨_, rfl⟩
  rw [← hw11] at hs11
  have hA12 := (hq11.1 5 (by decide)).trans hAc5
  have hA13 := (hq11.1 3 (by decide)).trans hAc3
  have hA14 := (hq11.1 4 (by decide)).trans hAc4
  have hF15x := (hq11.2.1 14 List.not_mem_nil).trans hF14
  have hF16x := (hq11.2.1 15 List.not_mem_nil).trans hF15
  have hF17x := (hq11.2.1 13 List.not_mem_nil).trans hF13
  have hfr := FR.step hfr hq11 (by decide) (fun _ h => absurd h List.not_mem_nil) (fun h => rfl)
  have W2 := hw11
  refine lv_aload_n hx hb dX9_add_59 rfl (lv_at hl 0 rfl) ?_
  refine q_get (v := .ref (b 3)) hx hb 1 (by decide) rfl (ly_X9 hE) hown hK hP rfl 1 (by decide) (wd_187 hE) (fun _ h9 => h9) rfl dX9_add_60 ?_
  refine lv_aload_n hx hb dX9_add_63 rfl (lv_at hl 0 rfl) ?_
  refine q_get (v := .int (nI c1)) hx hb 1 (by decide) rfl (ly_X9 hE) hown hK hP rfl 3 (by decide) (wd_189 hE) (fun _ h9 => h9) (congrArg (fun z : Int32 => some (Value.int z)) hF17x) dX9_add_64 ?_
  refine lv_iload_n hx hb dX9_add_67 rfl (lv_at hl 1 rfl) ?_
  refine q_iast (j := 3) (k := c1) (n := 701) (x := nI k) hx hb hK hP hJ hAL hS (by decide) (fun _ => rfl) hA13 (by omega) (by decide) dX9_add_68 (fun u18 H locs hs18 hq18 hP hS => ?_)
  obtain ⟨w18, hw18⟩ : ∃ g, g = upd k3 c1 (nI k) := ⟨_, rfl⟩
  rw [← hw18] at hs18
  have hA19 := (hq18.1 5 (by decide)).trans hA12
  have hA20 := (hq18.1 4 (by decide)).trans hA14
  have hA21 := (hq18.1 2 (by decide)).trans hs11
  have hF22x := (hq18.2.1 14 List.not_mem_nil).trans hF15x
  have hF23x := (hq18.2.1 15 List.not_mem_nil).trans hF16x
  have hF24x := (hq18.2.1 13 List.not_mem_nil).trans hF17x
  have hfr := FR.step hfr hq18 (by decide) (fun _ h => absurd h List.not_mem_nil) (fun h => rfl)
  have W3 := hw18
  refine lv_aload_n hx hb dX9_add_69 rfl (lv_at hl 0 rfl) ?_
  refine q_get (v := .ref (b 4)) hx hb 1 (by decide) rfl (ly_X9 hE) hown hK hP rfl 2 (by decide) (wd_188 hE) (fun _ h9 => h9) rfl dX9_add_70 ?_
  refine lv_aload_n hx hb dX9_add_73 rfl (lv_at hl 0 rfl) ?_
  refine q_get (v := .int (nI c1)) hx hb 1 (by decide) rfl (ly_X9 hE) hown hK hP rfl 3 (by decide) (wd_189 hE) (fun _ h9 => h9) (congrArg (fun z : Int32 => some (Value.int z)) hF24x) dX9_add_74 ?_
  refine lv_aload_n hx hb dX9_add_77 rfl (lv_at hl 0 rfl) ?_
  refine q_get (v := .ref (b 2)) hx hb 1 (by decide) rfl (ly_X9 hE) hown hK hP rfl 0 (by decide) (wd_186 hE) (fun _ h9 => h9) rfl dX9_add_78 ?_
  refine lv_aload_n hx hb dX9_add_81 rfl (lv_at hl 0 rfl) ?_
  refine q_get (v := .int (nI c1)) hx hb 1 (by decide) rfl (ly_X9 hE) hown hK hP rfl 3 (by decide) (wd_189 hE) (fun _ h9 => h9) (congrArg (fun z : Int32 => some (Value.int z)) hF24x) dX9_add_82 ?_
  refine q_iald (j := 2) (k := c1) (n := 701) (x := nI (kd tx sz1 k)) hx hb hK hP (by decide) rfl (by omega) (by decide) (by rw [hA21]; exact (by rw [hw11]; exact pk_us)) dX9_add_85 ?_
  refine lv_bipush (v := 6) hx hb dX9_add_86 (by decide) ?_
  refine lv_icmp_ne (tgt := 100) hx hb dX9_add_88 (by decide) (fun c26 => ?_) (fun c26 => ?_)
  · have c26 := mt (b_eq (nI_toInt (n := kd tx sz1 k) (by omega)) (show Int32.toInt 6 = 6 from rfl)).mpr c26
    refine lv_iconst (v := 0) hx hb dX9_add_100 (by decide) ?_
    refine q_iast (j := 4) (k := c1) (n := 701) (x := 0) hx hb hK hP hJ hAL hS (by decide) (fun _ => rfl) hA20 (by omega) (by decide) dX9_add_101 (fun u27 H locs hs27 hq27 hP hS => ?_)
    obtain ⟨w27, hw27⟩ : ∃ g, g = upd k4 c1 0 := ⟨_, rfl⟩
    rw [← hw27] at hs27
    have hA28 := (hq27.1 5 (by decide)).trans hA19
    have hA29 := (hq27.1 2 (by decide)).trans hA21
    have hA30 := (hq27.1 3 (by decide)).trans hs18
    have hF31x := (hq27.2.1 14 List.not_mem_nil).trans hF22x
    have hF32x := (hq27.2.1 15 List.not_mem_nil).trans hF23x
    have hF33x := (hq27.2.1 13 List.not_mem_nil).trans hF24x
    have hfr := FR.step hfr hq27 (by decide) (fun _ h => absurd h List.not_mem_nil) (fun h => rfl)
    have W4 := hw27
    refine lv_aload_n hx hb dX9_add_102 rfl (lv_at hl 0 rfl) ?_
    refine lv_dup hx hb dX9_add_103 rfl ?_
    refine q_get (v := .int (nI c1)) hx hb 1 (by decide) rfl (ly_X9 hE) hown hK hP rfl 3 (by decide) (wd_189 hE) (fun _ h9 => h9) (congrArg (fun z : Int32 => some (Value.int z)) hF33x) dX9_add_104 ?_
    refine lv_iconst (v := 1) hx hb dX9_add_107 (by decide) ?_
    refine lv_iadd hx hb dX9_add_108 ?_
    refine W.eq (g2 := F0 m 109 ls [.int (nI (c1 + 1)), .ref (b 1)]) (congrArg (fun z : Int32 => F0 m 109 ls (.int z :: [.ref (b 1)])) (nI_add c1 1)) ?_
    refine q_put (v := nI (c1 + 1)) (ty := .int) hx hb 1 13 (by decide) (ly_X9 hE) tyX9 tyX9_ok nmX9 hown hK hP hJ hAL hS rfl 3 (by decide) (wd_189 hE) (fun _ h9 => h9) rfl (by decide +kernel) rfl rfl rfl rfl (qE_put1 (by decide) (by decide)) (Nat.le_of_ble_eq_true rfl) dX9_add_109 (fun u34 H locs hf34 hq34 hP hS => ?_)
    have hA35 := (hq34.1 5 List.not_mem_nil).trans hA28
    have hA36 := (hq34.1 2 List.not_mem_nil).trans hA29
    have hA37 := (hq34.1 3 List.not_mem_nil).trans hA30
    have hA38 := (hq34.1 4 List.not_mem_nil).trans hs27
    have hF39x := (hq34.2.1 14 (by decide)).trans hF31x
    have hF40x := (hq34.2.1 15 (by decide)).trans hF32x
    have hfr := FR.step hfr hq34 (fun _ h => absurd h List.not_mem_nil) (by decide) (fun h => rfl)
    exact W.vret hx hb hr (fun t ht hW => ⟨⟨u34, rfl, ⟨(by first | (rw [hA36]; done) | (rw [hA36]; exact W2)), (by first | (rw [hA37]; done) | (rw [hA37]; exact W3)), (by first | (rw [hA38]; done) | (rw [hA38]; rw [W4]; congr 1; unfold vv; first | (rw [if_pos (by omega)]; unfold vl; rw [← hp3]) | (rw [if_neg (by omega)]; rfl))), (by first | (rw [hf34]; done) | (rw [hf34]; first | assumption | omega | rfl | (congr 1; omega))), hfr⟩, (show va_P (dC, dI) vwCl (qW cs b u34) t.heap by rw [ht]; exact hP)⟩, hS.F ht⟩) hS.2.2 dX9_add_112
  · have c26 := (b_eq (nI_toInt (n := kd tx sz1 k) (by omega)) (show Int32.toInt 6 = 6 from rfl)).mp c26
    refine lv_aload_n hx hb dX9_add_91 rfl (lv_at hl 0 rfl) ?_
    refine lv_iload_n hx hb dX9_add_92 rfl (lv_at hl 1 rfl) ?_
    refine lv_iload_n hx hb dX9_add_93 rfl (lv_at hl 2 rfl) ?_
    have K6 := kd6 (tx := tx) (n := sz1) (p := k) (by omega)
    refine vp_callSi (va_Run.run (va_runV (As := [.int (nI k), .int (nI e1)]) (rest := [.int (nI c1), .ref (b 4)]) ⟨hx, hb, hml, hown, noTs⟩ (q_X9_numberIn l dC dI H.size cs b u18 tx hA19 k e1 sz1 hF22x hF23x (by first | assumption | omega | rfl | (congr 1; omega)) (by first | assumption | omega | rfl | (congr 1; omega)) (by first | assumption | omega | rfl | (congr 1; omega)) (by first | assumption | omega | rfl | (congr 1; omega)) (by first | assumption | omega | rfl | (congr 1; omega)) (by exact fun q a b => K6.2.2 q a (by omega))) ⟨cbE 2 (wd_538 hE) (wd_119 hE) (wd_535 hE) rfl rfl (by decide +kernel) ⟨Nat.le_of_ble_eq_true rfl, Nat.le_of_ble_eq_true rfl⟩, (wd_537 hE), (wd_7 hE)⟩ ⟨PQ.blind, q_recv 1 (by decide) rfl hK hP rfl, (q_pre (av := [.ref (b 1), .int (nI k), .int (nI e1)]) hK hP hJ hE)⟩ rfl rfl hl.1 rfl (lv_room (Nat.le_of_ble_eq_true rfl)) dX9_add_94 ⟨Nat.le_of_ble_eq_true rfl, Nat.le_of_ble_eq_true rfl⟩)) (fun r41 hr41 => ?_)
    subst hr41
    refine lv_goto (tgt := 101) hx hb dX9_add_97 (by decide) ?_
    refine q_iast (j := 4) (k := c1) (n := 701) (x := nI (vln tx sz1 k (e1 - k))) hx hb hK hP hJ hAL hS (by decide) (fun _ => rfl) hA20 (by omega) (by decide) dX9_add_101 (fun u42 H locs hs42 hq42 hP hS => ?_)
    obtain ⟨w42, hw42⟩ : ∃ g, g = upd k4 c1 (nI (vln tx sz1 k (e1 - k))) := ⟨_, rfl⟩
    rw [← hw42] at hs42
    have hA43 := (hq42.1 5 (by decide)).trans hA19
    have hA44 := (hq42.1 2 (by decide)).trans hA21
    have hA45 := (hq42.1 3 (by decide)).trans hs18
    have hF46x := (hq42.2.1 14 List.not_mem_nil).trans hF22x
    have hF47x := (hq42.2.1 15 List.not_mem_nil).trans hF23x
    have hF48x := (hq42.2.1 13 List.not_mem_nil).trans hF24x
    have hfr := FR.step hfr hq42 (by decide) (fun _ h => absurd h List.not_mem_nil) (fun h => rfl)
    have W4 := hw42
    refine lv_aload_n hx hb dX9_add_102 rfl (lv_at hl 0 rfl) ?_
    refine lv_dup hx hb dX9_add_103 rfl ?_
    refine q_get (v := .int (nI c1)) hx hb 1 (by decide) rfl (ly_X9 hE) hown hK hP rfl 3 (by decide) (wd_189 hE) (fun _ h9 => h9) (congrArg (fun z : Int32 => some (Value.int z)) hF48x) dX9_add_104 ?_
    refine lv_iconst (v := 1) hx hb dX9_add_107 (by decide) ?_
    refine lv_iadd hx hb dX9_add_108 ?_
    refine W.eq (g2 := F0 m 109 ls [.int (nI (c1 + 1)), .ref (b 1)]) (congrArg (fun z : Int32 => F0 m 109 ls (.int z :: [.ref (b 1)])) (nI_add c1 1)) ?_
    refine q_put (v := nI (c1 + 1)) (ty := .int) hx hb 1 13 (by decide) (ly_X9 hE) tyX9 tyX9_ok nmX9 hown hK hP hJ hAL hS rfl 3 (by decide) (wd_189 hE) (fun _ h9 => h9) rfl (by decide +kernel) rfl rfl rfl rfl (qE_put1 (by decide) (by decide)) (Nat.le_of_ble_eq_true rfl) dX9_add_109 (fun u49 H locs hf49 hq49 hP hS => ?_)
    have hA50 := (hq49.1 5 List.not_mem_nil).trans hA43
    have hA51 := (hq49.1 2 List.not_mem_nil).trans hA44
    have hA52 := (hq49.1 3 List.not_mem_nil).trans hA45
    have hA53 := (hq49.1 4 List.not_mem_nil).trans hs42
    have hF54x := (hq49.2.1 14 (by decide)).trans hF46x
    have hF55x := (hq49.2.1 15 (by decide)).trans hF47x
    have hfr := FR.step hfr hq49 (fun _ h => absurd h List.not_mem_nil) (by decide) (fun h => rfl)
    exact W.vret hx hb hr (fun t ht hW => ⟨⟨u49, rfl, ⟨(by first | (rw [hA51]; done) | (rw [hA51]; exact W2)), (by first | (rw [hA52]; done) | (rw [hA52]; exact W3)), (by first | (rw [hA53]; done) | (rw [hA53]; rw [W4]; congr 1; unfold vv; first | (rw [if_pos (by omega)]; unfold vl; rw [← hp3]) | (rw [if_neg (by omega)]; rfl))), (by first | (rw [hf49]; done) | (rw [hf49]; first | assumption | omega | rfl | (congr 1; omega))), hfr⟩, (show va_P (dC, dI) vwCl (qW cs b u49) t.heap by rw [ht]; exact hP)⟩, hS.F ht⟩) hS.2.2 dX9_add_112
set_option maxHeartbeats 4000000 in
set_option maxRecDepth 100000 in
theorem q_X9_kindAt (l : Launch) (dC : Nat → ClassId) (dI : Nat → Nat → Nat) (sz : Nat) (cs : Nat → ClassId) (b : Nat → Nat) (u : RS) (tx : Nat → Int32) (hAc5 : rA u 5 = tx) (k2 : Nat → Int32) (hAc2 : rA u 2 = k2) (k3 : Nat → Int32) (hAc3 : rA u 3 = k3) (k4 : Nat → Int32) (hAc4 : rA u 4 = k4) (i : Nat) (sz1 : Nat) (c1 : Nat) (hF14 : rF u 14 = 1) (hF15 : rF u 15 = nI sz1) (hF13 : rF u 13 = nI c1) (hp0 : BY tx) (hp1 : sz1 ≤ 700) (hp2 : QTK k2 k3 k4 tx sz1 c1) (hp3 : i < 100000) : Met l yX9_kindAt [.code yX9_kindAt cX9_kindAt 2 (some .int)] ({ frames := 0, cells := 0, slots := 0, locals := 0 }) (PQ [.ref (b 1), .int (nI i)] sz dC dI cs b u) (vp_Si (fun (r : Int32) => r = nI (kd tx sz1 (bgi tx sz1 i)))) 0 0 (fun _ => False) := by
  refine Met.ofW (cc := cX9_kindAt) (maxL := 2) (ret := (some .int)) (by decide) rfl ?_
  intro p e s m args below meth c s₁ B hml hv
  obtain ⟨rfl, hsz, hP, hK, hJ, hE⟩ := hv
  have hx := B.exec
  have hb := B.bytes
  have hr := B.returns
  have hown : s.vm.findClass RX9 = some m.cls := findClass_of_methodNamed B.named
  have hlocks := B.notSynchronized
  subst hsz
  have hl := lv_entry ([.ref (b 1), .int (nI i)]) (n := 2) (Nat.le_of_ble_eq_true rfl)
  rw [lg_entry_eq]
  generalize (lg_sl ([.ref (b 1), .int (nI i)]) ++ List.replicate (2 - (lg_sl ([.ref (b 1), .int (nI i)])).length) Slot.unset).toArray = ls at hl ⊢
  have hl : lv_has ls 2 [(0, .ref (b 1)), (1, .int (nI i))] := hl
  have hq7 := hp2.1
  refine lv_iload_n hx hb dX9_kindAt_0 rfl (lv_at hl 1 rfl) ?_
  refine lv_if_lt (tgt := 21) hx hb dX9_kindAt_1 (by decide) (fun c5 => False.elim (by have c5 := (b_lt (nI_toInt (n := i) (by omega)) (show Int32.toInt 0 = 0 from rfl)).mp c5; omega)) (fun c5 => ?_)
  have c5 := mt (b_lt (nI_toInt (n := i) (by omega)) (show Int32.toInt 0 = 0 from rfl)).mpr c5
  refine lv_iload_n hx hb dX9_kindAt_4 rfl (lv_at hl 1 rfl) ?_
  refine lv_aload_n hx hb dX9_kindAt_5 rfl (lv_at hl 0 rfl) ?_
  refine q_get (v := .int (nI c1)) hx hb 1 (by decide) rfl (ly_X9 hE) hown hK hP rfl 3 (by decide) (wd_189 hE) (fun _ h9 => h9) (congrArg (fun z : Int32 => some (Value.int z)) hF13) dX9_kindAt_6 ?_
  refine lv_icmp_ge (tgt := 21) hx hb dX9_kindAt_9 (by decide) (fun c6 => ?_) (fun c6 => ?_)
  · have c6 := (b_le (nI_toInt (n := c1) (by omega)) (nI_toInt (n := i) (by omega))).mp c6
    have QE := qtk_end hp2 (i := i) (by omega)
    refine lv_iconst (v := 0) hx hb dX9_kindAt_21 (by decide) ?_
    refine lv_goto (tgt := 31) hx hb dX9_kindAt_22 (by decide) ?_
    exact W.iret (v := 0) hx hb hr (fun t ht hW => ⟨0, rfl, (by first | rfl | (rw [QE]; rw [kd_end (Nat.le_refl _)]; rfl)), ht⟩) (fun _ h => absurd h List.not_mem_nil) dX9_kindAt_31
  · have c6 := mt (b_le (nI_toInt (n := c1) (by omega)) (nI_toInt (n := i) (by omega))).mpr c6
    refine lv_iload_n hx hb dX9_kindAt_12 rfl (lv_at hl 1 rfl) ?_
    refine lv_aload_n hx hb dX9_kindAt_13 rfl (lv_at hl 0 rfl) ?_
    refine q_get (v := .ref (b 2)) hx hb 1 (by decide) rfl (ly_X9 hE) hown hK hP rfl 0 (by decide) (wd_186 hE) (fun _ h9 => h9) rfl dX9_kindAt_14 ?_
    refine q_alen (j := 2) (t0 := 0) (v := 701) hx hb hK hP (by decide) rfl rfl rfl dX9_kindAt_17 ?_
    refine lv_icmp_lt (tgt := 25) hx hb dX9_kindAt_18 (by decide) (fun c7 => ?_) (fun c7 => False.elim (by have c7 := mt (b_lt (nI_toInt (n := i) (by omega)) (show Int32.toInt 701 = 701 from rfl)).mpr c7; omega))
    have c7 := (b_lt (nI_toInt (n := i) (by omega)) (show Int32.toInt 701 = 701 from rfl)).mp c7
    refine lv_aload_n hx hb dX9_kindAt_25 rfl (lv_at hl 0 rfl) ?_
    refine q_get (v := .ref (b 2)) hx hb 1 (by decide) rfl (ly_X9 hE) hown hK hP rfl 0 (by decide) (wd_186 hE) (fun _ h9 => h9) rfl dX9_kindAt_26 ?_
    refine lv_iload_n hx hb dX9_kindAt_29 rfl (lv_at hl 1 rfl) ?_
    refine q_iald (j := 2) (k := i) (n := 701) (x := nI (kd tx sz1 (bgi tx sz1 i))) hx hb hK hP (by decide) rfl (by omega) (by decide) (by rw [hAc2]; exact (hp2.2.2 i (by omega)).2.1) dX9_kindAt_30 ?_
    exact W.iret (v := nI (kd tx sz1 (bgi tx sz1 i))) hx hb hr (fun t ht hW => ⟨nI (kd tx sz1 (bgi tx sz1 i)), rfl, (by first | rfl | (rw [QE]; rw [kd_end (Nat.le_refl _)]; rfl)), ht⟩) (fun _ h => absurd h List.not_mem_nil) dX9_kindAt_31
set_option maxHeartbeats 4000000 in
set_option maxRecDepth 100000 in
theorem q_X9_placeAt (l : Launch) (dC : Nat → ClassId) (dI : Nat → Nat → Nat) (sz : Nat) (cs : Nat → ClassId) (b : Nat → Nat) (u : RS) (tx : Nat → Int32) (hAc5 : rA u 5 = tx) (k2 : Nat → Int32) (hAc2 : rA u 2 = k2) (k3 : Nat → Int32) (hAc3 : rA u 3 = k3) (k4 : Nat → Int32) (hAc4 : rA u 4 = k4) (i : Nat) (sz1 : Nat) (c1 : Nat) (hF14 : rF u 14 = 1) (hF15 : rF u 15 = nI sz1) (hF13 : rF u 13 = nI c1) (hp0 : BY tx) (hp1 : sz1 ≤ 700) (hp2 : QTK k2 k3 k4 tx sz1 c1) (hp3 : i < 100000) : Met l yX9_placeAt [.code yX9_placeAt cX9_placeAt 2 (some .int)] ({ frames := 0, cells := 0, slots := 0, locals := 0 }) (PQ [.ref (b 1), .int (nI i)] sz dC dI cs b u) (vp_Si (fun (r : Int32) => r = nI (bgi tx sz1 i))) 0 0 (fun _ => False) := by
  refine Met.ofW (cc := cX9_placeAt) (maxL := 2) (ret := (some .int)) (by decide) rfl ?_
  intro p e s m args below meth c s₁ B hml hv
  obtain ⟨rfl, hsz, hP, hK, hJ, hE⟩ := hv
  have hx := B.exec
  have hb := B.bytes
  have hr := B.returns
  have hown : s.vm.findClass RX9 = some m.cls := findClass_of_methodNamed B.named
  have hlocks := B.notSynchronized
  subst hsz
  have hl := lv_entry ([.ref (b 1), .int (nI i)]) (n := 2) (Nat.le_of_ble_eq_true rfl)
  rw [lg_entry_eq]
  generalize (lg_sl ([.ref (b 1), .int (nI i)]) ++ List.replicate (2 - (lg_sl ([.ref (b 1), .int (nI i)])).length) Slot.unset).toArray = ls at hl ⊢
  have hl : lv_has ls 2 [(0, .ref (b 1)), (1, .int (nI i))] := hl
  have hq7 := hp2.1
  refine lv_iload_n hx hb dX9_placeAt_0 rfl (lv_at hl 1 rfl) ?_
  refine lv_if_lt (tgt := 21) hx hb dX9_placeAt_1 (by decide) (fun c5 => False.elim (by have c5 := (b_lt (nI_toInt (n := i) (by omega)) (show Int32.toInt 0 = 0 from rfl)).mp c5; omega)) (fun c5 => ?_)
  have c5 := mt (b_lt (nI_toInt (n := i) (by omega)) (show Int32.toInt 0 = 0 from rfl)).mpr c5
  refine lv_iload_n hx hb dX9_placeAt_4 rfl (lv_at hl 1 rfl) ?_
  refine lv_aload_n hx hb dX9_placeAt_5 rfl (lv_at hl 0 rfl) ?_
  refine q_get (v := .int (nI c1)) hx hb 1 (by decide) rfl (ly_X9 hE) hown hK hP rfl 3 (by decide) (wd_189 hE) (fun _ h9 => h9) (congrArg (fun z : Int32 => some (Value.int z)) hF13) dX9_placeAt_6 ?_
  refine lv_icmp_ge (tgt := 21) hx hb dX9_placeAt_9 (by decide) (fun c6 => ?_) (fun c6 => ?_)
  · have c6 := (b_le (nI_toInt (n := c1) (by omega)) (nI_toInt (n := i) (by omega))).mp c6
    have QE := qtk_end hp2 (i := i) (by omega)
    refine lv_aload_n hx hb dX9_placeAt_21 rfl (lv_at hl 0 rfl) ?_
    refine q_get (v := .int (nI sz1)) hx hb 1 (by decide) rfl (ly_X9 hE) hown hK hP rfl 5 (by decide) (wd_191 hE) (fun _ h9 => h9) (congrArg (fun z : Int32 => some (Value.int z)) hF15) dX9_placeAt_22 ?_
    refine lv_goto (tgt := 34) hx hb dX9_placeAt_25 (by decide) ?_
    exact W.iret (v := nI sz1) hx hb hr (fun t ht hW => ⟨nI sz1, rfl, (by first | rfl | (rw [QE]; done)), ht⟩) (fun _ h => absurd h List.not_mem_nil) dX9_placeAt_34
  · have c6 := mt (b_le (nI_toInt (n := c1) (by omega)) (nI_toInt (n := i) (by omega))).mpr c6
    refine lv_iload_n hx hb dX9_placeAt_12 rfl (lv_at hl 1 rfl) ?_
    refine lv_aload_n hx hb dX9_placeAt_13 rfl (lv_at hl 0 rfl) ?_
    refine q_get (v := .ref (b 3)) hx hb 1 (by decide) rfl (ly_X9 hE) hown hK hP rfl 1 (by decide) (wd_187 hE) (fun _ h9 => h9) rfl dX9_placeAt_14 ?_
    refine q_alen (j := 3) (t0 := 0) (v := 701) hx hb hK hP (by decide) rfl rfl rfl dX9_placeAt_17 ?_
    refine lv_icmp_lt (tgt := 28) hx hb dX9_placeAt_18 (by decide) (fun c7 => ?_) (fun c7 => False.elim (by have c7 := mt (b_lt (nI_toInt (n := i) (by omega)) (show Int32.toInt 701 = 701 from rfl)).mpr c7; omega))
    have c7 := (b_lt (nI_toInt (n := i) (by omega)) (show Int32.toInt 701 = 701 from rfl)).mp c7
    refine lv_aload_n hx hb dX9_placeAt_28 rfl (lv_at hl 0 rfl) ?_
    refine q_get (v := .ref (b 3)) hx hb 1 (by decide) rfl (ly_X9 hE) hown hK hP rfl 1 (by decide) (wd_187 hE) (fun _ h9 => h9) rfl dX9_placeAt_29 ?_
    refine lv_iload_n hx hb dX9_placeAt_32 rfl (lv_at hl 1 rfl) ?_
    refine q_iald (j := 3) (k := i) (n := 701) (x := nI (bgi tx sz1 i)) hx hb hK hP (by decide) rfl (by omega) (by decide) (by rw [hAc3]; exact (hp2.2.2 i (by omega)).2.2.1) dX9_placeAt_33 ?_
    exact W.iret (v := nI (bgi tx sz1 i)) hx hb hr (fun t ht hW => ⟨nI (bgi tx sz1 i), rfl, (by first | rfl | (rw [QE]; done)), ht⟩) (fun _ h => absurd h List.not_mem_nil) dX9_placeAt_34
