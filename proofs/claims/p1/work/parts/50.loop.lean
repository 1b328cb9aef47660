set_option maxHeartbeats 4000000 in
set_option maxRecDepth 100000 in
theorem law_loop {p : Program} {e : Env} {s : State} {m : MethodId} {below : List Frame} {meth : Method} {c : Code} (l : Launch) {b : Nat} {xs : Nat → Int32} {L : Nat} (hL : L ≤ 6) (C0 : lw_At p s m meth c b L xs) (dC : Nat → ClassId) (dI : Nat → Nat → Nat) (hE : EX s) (h1 h2 : Nat) (u1 u2 : (Nat → Nat) × (Nat → ClassId)) (H : Heap) (locs : List Loc) (ls : Array Slot) (hK : va_K (dC, dI) vwCl [(u1.2 0, .int), (u1.2 1, .object "GluedWords$Store"), (u1.2 2, .int), (u1.2 3, .object "GluedWords$Store"), (u1.2 4, .object "GluedWords$History"), (u1.2 5, .byte), (u1.2 6, .int), (u1.2 7, .int), (u1.2 8, .int), (u2.2 0, .int), (u2.2 1, .byte)] s) (hP : va_P (dC, dI) vwCl [(h1, .inr (10, [.ref (u1.1 0), .ref (u1.1 2), .ref (u1.1 6), .ref (u1.1 7), .int 0, .int 0, .ref (u1.1 8), .int 0, .ref (u1.1 9), .ref (u1.1 13), .ref (u1.1 19), .ref (u1.1 20), .ref (u1.1 21), .ref (u1.1 22), .ref (u1.1 23), .ref (u1.1 24), .ref (u1.1 25), .ref (u1.1 14), .ref (u1.1 26)])), (u1.1 0, .inr (6, [.ref (u1.1 1)])), (u1.1 1, .inl (u1.2 0, 543, .inl (fun _ => 0))), (u1.1 2, .inr (2, [.ref (u1.1 3), .int 0, .int 0])), (u1.1 3, .inl (u1.2 1, 8, .inr (.inr (.inr (.inr (va_up (va_up (va_up (va_up (va_up (va_up (va_up (va_up (fun _ => none) 0 (some (u1.1 4))) 1 (some (u1.1 27))) 2 (some (u1.1 28))) 3 (some (u1.1 29))) 4 (some (u1.1 30))) 5 (some (u1.1 31))) 6 (some (u1.1 32))) 7 (some (u1.1 33)))))))), (u1.1 4, .inr (6, [.ref (u1.1 5)])), (u1.1 5, .inl (u1.2 2, 543, .inl (fun _ => 0))), (u1.1 6, .inl (u1.2 3, 3, .inr (.inr (.inr (.inr (va_up (va_up (va_up (fun _ => none) 0 (some (u1.1 16))) 1 (some (u1.1 34))) 2 (some (u1.1 35)))))))), (u1.1 7, .inl (u1.2 4, 3, .inr (.inr (.inr (.inr (va_up (va_up (va_up (fun _ => none) 0 (some (u1.1 18))) 1 (some (u1.1 36))) 2 (some (u1.1 37)))))))), (u1.1 8, .inl (u1.2 5, 700, .inl (fun _ => 0))), (u1.1 9, .inr (4, [.ref (u1.1 10), .ref (u1.1 11), .ref (u1.1 38), .int 0, .int 0, .int (-1), .int 0, .int 0, .int (-1), .int (-1)])), (u1.1 10, .inr (8, [.ref (u1.1 39), .ref (u1.1 40), .ref (u1.1 41), .int 0, .ref (u1.1 42), .int 0])), (u1.1 11, .inr (6, [.ref (u1.1 12)])), (u1.1 12, .inl (u1.2 6, 543, .inl (fun _ => 0))), (u1.1 13, .inr (7, [.ref (u1.1 43), .int 0])), (u1.1 14, .inr (5, [.ref (u1.1 15), .long 0, .long 1])), (u1.1 15, .inl (u1.2 7, 6, .inl (fun _ => 0))), (u1.1 16, .inr (6, [.ref (u1.1 17)])), (u1.1 17, .inl (u1.2 8, 543, .inl (fun _ => 0))), (u1.1 18, .inr (2, [.ref (u1.1 44), .int 0, .int 0])), (h2, .inr (11, [.ref (u2.1 0), .int 0, .int 0, .int 0, .ref (u2.1 2), .int 0, .ref (u2.1 3), .ref (u2.1 4), .ref (u2.1 1), .ref (u2.1 5), .int 0, .int 0, .int 0, .int 0, .int 0, .int 0, .int 0, .int (-1), .int (-1), .int (-1), .int 0, .int 0, .int 0, .ref (u2.1 6), .ref (u2.1 7), .ref (u2.1 8), .ref (u2.1 9), .ref (u2.1 10), .ref (u2.1 11), .ref (u2.1 12), .int 0])), (u2.1 0, .inl (u2.2 0, 7202, .inl (fun _ => 0))), (u2.1 1, .inl (u2.2 1, 700, .inl (fun _ => 0)))] H) (hD : va_D (fun q : Nat => s.heap.size ≤ q) [(h1, .inr (10, [.ref (u1.1 0), .ref (u1.1 2), .ref (u1.1 6), .ref (u1.1 7), .int 0, .int 0, .ref (u1.1 8), .int 0, .ref (u1.1 9), .ref (u1.1 13), .ref (u1.1 19), .ref (u1.1 20), .ref (u1.1 21), .ref (u1.1 22), .ref (u1.1 23), .ref (u1.1 24), .ref (u1.1 25), .ref (u1.1 14), .ref (u1.1 26)])), (u1.1 0, .inr (6, [.ref (u1.1 1)])), (u1.1 1, .inl (u1.2 0, 543, .inl (fun _ => 0))), (u1.1 2, .inr (2, [.ref (u1.1 3), .int 0, .int 0])), (u1.1 3, .inl (u1.2 1, 8, .inr (.inr (.inr (.inr (va_up (va_up (va_up (va_up (va_up (va_up (va_up (va_up (fun _ => none) 0 (some (u1.1 4))) 1 (some (u1.1 27))) 2 (some (u1.1 28))) 3 (some (u1.1 29))) 4 (some (u1.1 30))) 5 (some (u1.1 31))) 6 (some (u1.1 32))) 7 (some (u1.1 33)))))))), (u1.1 4, .inr (6, [.ref (u1.1 5)])), (u1.1 5, .inl (u1.2 2, 543, .inl (fun _ => 0))), (u1.1 6, .inl (u1.2 3, 3, .inr (.inr (.inr (.inr (va_up (va_up (va_up (fun _ => none) 0 (some (u1.1 16))) 1 (some (u1.1 34))) 2 (some (u1.1 35)))))))), (u1.1 7, .inl (u1.2 4, 3, .inr (.inr (.inr (.inr (va_up (va_up (va_up (fun _ => none) 0 (some (u1.1 18))) 1 (some (u1.1 36))) 2 (some (u1.1 37)))))))), (u1.1 8, .inl (u1.2 5, 700, .inl (fun _ => 0))), (u1.1 9, .inr (4, [.ref (u1.1 10), .ref (u1.1 11), .ref (u1.1 38), .int 0, .int 0, .int (-1), .int 0, .int 0, .int (-1), .int (-1)])), (u1.1 10, .inr (8, [.ref (u1.1 39), .ref (u1.1 40), .ref (u1.1 41), .int 0, .ref (u1.1 42), .int 0])), (u1.1 11, .inr (6, [.ref (u1.1 12)])), (u1.1 12, .inl (u1.2 6, 543, .inl (fun _ => 0))), (u1.1 13, .inr (7, [.ref (u1.1 43), .int 0])), (u1.1 14, .inr (5, [.ref (u1.1 15), .long 0, .long 1])), (u1.1 15, .inl (u1.2 7, 6, .inl (fun _ => 0))), (u1.1 16, .inr (6, [.ref (u1.1 17)])), (u1.1 17, .inl (u1.2 8, 543, .inl (fun _ => 0))), (u1.1 18, .inr (2, [.ref (u1.1 44), .int 0, .int 0])), (h2, .inr (11, [.ref (u2.1 0), .int 0, .int 0, .int 0, .ref (u2.1 2), .int 0, .ref (u2.1 3), .ref (u2.1 4), .ref (u2.1 1), .ref (u2.1 5), .int 0, .int 0, .int 0, .int 0, .int 0, .int 0, .int 0, .int (-1), .int (-1), .int (-1), .int 0, .int 0, .int 0, .ref (u2.1 6), .ref (u2.1 7), .ref (u2.1 8), .ref (u2.1 9), .ref (u2.1 10), .ref (u2.1 11), .ref (u2.1 12), .int 0])), (u2.1 0, .inl (u2.2 0, 7202, .inl (fun _ => 0))), (u2.1 1, .inl (u2.2 1, 700, .inl (fun _ => 0)))]) (hS : va_S (fun q : Nat => s.heap.size ≤ q) s.heap H locs) (hl : lv_has ls 4 [(0, .ref b), (1, .ref h1), (2, .ref h2), (3, .int 0)]) : W p l e room_1 s m #[Value.ref b] below meth c H locs 252 99905 (lw_Z below #[Value.ref b] s) (F0 m 18 ls []) := by
  obtain ⟨hx, hb, hr, hml, hown, hts, hX, hbl, hlocks, hgv⟩ := id C0
  have hA : ∀ q : Nat, s.heap.size ≤ q → (fun q : Nat => s.heap.size ≤ q) q := fun _ h => h
  have hbA : ¬ (fun q : Nat => s.heap.size ≤ q) b := Nat.not_le.mpr hbl
  refine lv_iload_n hx hb dL_law_18 rfl (lv_at hl 3 rfl) ?_
  refine lv_aload_n hx hb dL_law_19 rfl (lv_at hl 0 rfl) ?_
  refine va_slen hx hb hX hbl hbA hS dL_law_20 ?_
  refine lv_bipush (v := 6) hx hb dL_law_21 (by decide) ?_
  refine lv_isub hx hb dL_law_23 ?_
  rcases (show L = 0 ∨ L = 1 ∨ L = 2 ∨ L = 3 ∨ L = 4 ∨ L = 5 ∨ L = 6 by omega) with rfl | rfl | rfl | rfl | rfl | rfl | rfl
  · exact lv_icmp_gt (tgt := 1641) hx hb dL_law_24 (by decide) (fun _ => law_exit l C0 hS (Nat.le_of_ble_eq_true rfl) (Nat.le_of_ble_eq_true rfl)) (fun h => absurd (by decide) h)
  · exact lv_icmp_gt (tgt := 1641) hx hb dL_law_24 (by decide) (fun _ => law_exit l C0 hS (Nat.le_of_ble_eq_true rfl) (Nat.le_of_ble_eq_true rfl)) (fun h => absurd (by decide) h)
  · exact lv_icmp_gt (tgt := 1641) hx hb dL_law_24 (by decide) (fun _ => law_exit l C0 hS (Nat.le_of_ble_eq_true rfl) (Nat.le_of_ble_eq_true rfl)) (fun h => absurd (by decide) h)
  · exact lv_icmp_gt (tgt := 1641) hx hb dL_law_24 (by decide) (fun _ => law_exit l C0 hS (Nat.le_of_ble_eq_true rfl) (Nat.le_of_ble_eq_true rfl)) (fun h => absurd (by decide) h)
  · exact lv_icmp_gt (tgt := 1641) hx hb dL_law_24 (by decide) (fun _ => law_exit l C0 hS (Nat.le_of_ble_eq_true rfl) (Nat.le_of_ble_eq_true rfl)) (fun h => absurd (by decide) h)
  · exact lv_icmp_gt (tgt := 1641) hx hb dL_law_24 (by decide) (fun _ => law_exit l C0 hS (Nat.le_of_ble_eq_true rfl) (Nat.le_of_ble_eq_true rfl)) (fun h => absurd (by decide) h)
  refine lv_icmp_gt (tgt := 1641) hx hb dL_law_24 (by decide) (fun h => absurd h (by decide)) (fun _ => ?_)
  refine lv_aload_n hx hb dL_law_27 rfl (lv_at hl 0 rfl) ?_
  refine lv_iload_n hx hb dL_law_28 rfl (lv_at hl 3 rfl) ?_
  refine va_sld hx hb hX hbl hbA hS (by unfold vp_in; decide) dL_law_29 ?_
  refine lv_bipush (v := 63) hx hb dL_law_30 (by decide) ?_
  refine lv_iand hx hb dL_law_32 ?_
  refine lv_topi (fun y ey => ?_)
  obtain ⟨j, hj, ej⟩ := pk_andE (xs (Int32.toNatClampNeg 0)) (m := 63) 6 (by decide)
  obtain rfl : y = nI j := ey.trans ej
  rcases Nat.lt_or_ge j 49 with h49 | h49
  · match j, h49 with
    | 0, _ => exact lv_tableIn (tgt := 244) hx hb dL_law_33 (by decide) (by decide) rfl (by decide) (law_0 l C0 dC dI hE h1 h2 u1 u2 H locs ls hK hP hD hS hl)
    | 1, _ => exact lv_tableIn (tgt := 257) hx hb dL_law_33 (by decide) (by decide) rfl (by decide) (law_1 l C0 dC dI hE h1 h2 u1 u2 H locs ls hK hP hD hS hl)
    | 2, _ => exact lv_tableIn (tgt := 320) hx hb dL_law_33 (by decide) (by decide) rfl (by decide) (law_2 l C0 dC dI hE h1 h2 u1 u2 H locs ls hK hP hD hS hl)
    | 3, _ => exact lv_tableIn (tgt := 343) hx hb dL_law_33 (by decide) (by decide) rfl (by decide) (law_3 l C0 dC dI hE h1 h2 u1 u2 H locs ls hK hP hD hS hl)
    | 4, _ => exact lv_tableIn (tgt := 366) hx hb dL_law_33 (by decide) (by decide) rfl (by decide) (law_4 l C0 dC dI hE h1 h2 u1 u2 H locs ls hK hP hD hS hl)
    | 5, _ => exact lv_tableIn (tgt := 389) hx hb dL_law_33 (by decide) (by decide) rfl (by decide) (law_5 l C0 dC dI hE h1 h2 u1 u2 H locs ls hK hP hD hS hl)
    | 6, _ => exact lv_tableIn (tgt := 412) hx hb dL_law_33 (by decide) (by decide) rfl (by decide) (law_6 l C0 dC dI hE h1 h2 u1 u2 H locs ls hK hP hD hS hl)
    | 7, _ => exact lv_tableIn (tgt := 445) hx hb dL_law_33 (by decide) (by decide) rfl (by decide) (law_7 l C0 dC dI hE h1 h2 u1 u2 H locs ls hK hP hD hS hl)
    | 8, _ => exact lv_tableIn (tgt := 478) hx hb dL_law_33 (by decide) (by decide) rfl (by decide) (law_8 l C0 dC dI hE h1 h2 u1 u2 H locs ls hK hP hD hS hl)
    | 9, _ => exact lv_tableIn (tgt := 511) hx hb dL_law_33 (by decide) (by decide) rfl (by decide) (law_9 l C0 dC dI hE h1 h2 u1 u2 H locs ls hK hP hD hS hl)
    | 10, _ => exact lv_tableIn (tgt := 544) hx hb dL_law_33 (by decide) (by decide) rfl (by decide) (law_10 l C0 dC dI hE h1 h2 u1 u2 H locs ls hK hP hD hS hl)
    | 11, _ => exact lv_tableIn (tgt := 577) hx hb dL_law_33 (by decide) (by decide) rfl (by decide) (law_11 l C0 dC dI hE h1 h2 u1 u2 H locs ls hK hP hD hS hl)
    | 12, _ => exact lv_tableIn (tgt := 600) hx hb dL_law_33 (by decide) (by decide) rfl (by decide) (law_12 l C0 dC dI hE h1 h2 u1 u2 H locs ls hK hP hD hS hl)
    | 13, _ => exact lv_tableIn (tgt := 633) hx hb dL_law_33 (by decide) (by decide) rfl (by decide) (law_13 l C0 dC dI hE h1 h2 u1 u2 H locs ls hK hP hD hS hl)
    | 14, _ => exact lv_tableIn (tgt := 656) hx hb dL_law_33 (by decide) (by decide) rfl (by decide) (law_14 l C0 dC dI hE h1 h2 u1 u2 H locs ls hK hP hD hS hl)
    | 15, _ => exact lv_tableIn (tgt := 689) hx hb dL_law_33 (by decide) (by decide) rfl (by decide) (law_15 l C0 dC dI hE h1 h2 u1 u2 H locs ls hK hP hD hS hl)
    | 16, _ => exact lv_tableIn (tgt := 712) hx hb dL_law_33 (by decide) (by decide) rfl (by decide) (law_16 l C0 dC dI hE h1 h2 u1 u2 H locs ls hK hP hD hS hl)
    | 17, _ => exact lv_tableIn (tgt := 755) hx hb dL_law_33 (by decide) (by decide) rfl (by decide) (law_17 l C0 dC dI hE h1 h2 u1 u2 H locs ls hK hP hD hS hl)
    | 18, _ => exact lv_tableIn (tgt := 778) hx hb dL_law_33 (by decide) (by decide) rfl (by decide) (law_18 l C0 dC dI hE h1 h2 u1 u2 H locs ls hK hP hD hS hl)
    | 19, _ => exact lv_tableIn (tgt := 791) hx hb dL_law_33 (by decide) (by decide) rfl (by decide) (law_19 l C0 dC dI hE h1 h2 u1 u2 H locs ls hK hP hD hS hl)
    | 20, _ => exact lv_tableIn (tgt := 804) hx hb dL_law_33 (by decide) (by decide) rfl (by decide) (law_20 l C0 dC dI hE h1 h2 u1 u2 H locs ls hK hP hD hS hl)
    | 21, _ => exact lv_tableIn (tgt := 817) hx hb dL_law_33 (by decide) (by decide) rfl (by decide) (law_21 l C0 dC dI hE h1 h2 u1 u2 H locs ls hK hP hD hS hl)
    | 22, _ => exact lv_tableIn (tgt := 850) hx hb dL_law_33 (by decide) (by decide) rfl (by decide) (law_22 l C0 dC dI hE h1 h2 u1 u2 H locs ls hK hP hD hS hl)
    | 23, _ => exact lv_tableIn (tgt := 873) hx hb dL_law_33 (by decide) (by decide) rfl (by decide) (law_23 l C0 dC dI hE h1 h2 u1 u2 H locs ls hK hP hD hS hl)
    | 24, _ => exact lv_tableIn (tgt := 896) hx hb dL_law_33 (by decide) (by decide) rfl (by decide) (law_24 l C0 dC dI hE h1 h2 u1 u2 H locs ls hK hP hD hS hl)
    | 25, _ => exact lv_tableIn (tgt := 919) hx hb dL_law_33 (by decide) (by decide) rfl (by decide) (law_25 l C0 dC dI hE h1 h2 u1 u2 H locs ls hK hP hD hS hl)
    | 26, _ => exact lv_tableIn (tgt := 952) hx hb dL_law_33 (by decide) (by decide) rfl (by decide) (law_26 l C0 dC dI hE h1 h2 u1 u2 H locs ls hK hP hD hS hl)
    | 27, _ => exact lv_tableIn (tgt := 995) hx hb dL_law_33 (by decide) (by decide) rfl (by decide) (law_27 l C0 dC dI hE h1 h2 u1 u2 H locs ls hK hP hD hS hl)
    | 28, _ => exact lv_tableIn (tgt := 1018) hx hb dL_law_33 (by decide) (by decide) rfl (by decide) (law_28 l C0 dC dI hE h1 h2 u1 u2 H locs ls hK hP hD hS hl)
    | 29, _ => exact lv_tableIn (tgt := 1051) hx hb dL_law_33 (by decide) (by decide) rfl (by decide) (law_29 l C0 dC dI hE h1 h2 u1 u2 H locs ls hK hP hD hS hl)
    | 30, _ => exact lv_tableIn (tgt := 1084) hx hb dL_law_33 (by decide) (by decide) rfl (by decide) (law_30 l C0 dC dI hE h1 h2 u1 u2 H locs ls hK hP hD hS hl)
    | 31, _ => exact lv_tableIn (tgt := 1107) hx hb dL_law_33 (by decide) (by decide) rfl (by decide) (law_31 l C0 dC dI hE h1 h2 u1 u2 H locs ls hK hP hD hS hl)
    | 32, _ => exact lv_tableIn (tgt := 1140) hx hb dL_law_33 (by decide) (by decide) rfl (by decide) (law_32 l C0 dC dI hE h1 h2 u1 u2 H locs ls hK hP hD hS hl)
    | 33, _ => exact lv_tableIn (tgt := 1163) hx hb dL_law_33 (by decide) (by decide) rfl (by decide) (law_33 l C0 dC dI hE h1 h2 u1 u2 H locs ls hK hP hD hS hl)
    | 34, _ => exact lv_tableIn (tgt := 1196) hx hb dL_law_33 (by decide) (by decide) rfl (by decide) (law_34 l C0 dC dI hE h1 h2 u1 u2 H locs ls hK hP hD hS hl)
    | 35, _ => exact lv_tableIn (tgt := 1219) hx hb dL_law_33 (by decide) (by decide) rfl (by decide) (law_35 l C0 dC dI hE h1 h2 u1 u2 H locs ls hK hP hD hS hl)
    | 36, _ => exact lv_tableIn (tgt := 1242) hx hb dL_law_33 (by decide) (by decide) rfl (by decide) (law_36 l C0 dC dI hE h1 h2 u1 u2 H locs ls hK hP hD hS hl)
    | 37, _ => exact lv_tableIn (tgt := 1275) hx hb dL_law_33 (by decide) (by decide) rfl (by decide) (law_37 l C0 dC dI hE h1 h2 u1 u2 H locs ls hK hP hD hS hl)
    | 38, _ => exact lv_tableIn (tgt := 1308) hx hb dL_law_33 (by decide) (by decide) rfl (by decide) (law_38 l C0 dC dI hE h1 h2 u1 u2 H locs ls hK hP hD hS hl)
    | 39, _ => exact lv_tableIn (tgt := 1351) hx hb dL_law_33 (by decide) (by decide) rfl (by decide) (law_39 l C0 dC dI hE h1 h2 u1 u2 H locs ls hK hP hD hS hl)
    | 40, _ => exact lv_tableIn (tgt := 1385) hx hb dL_law_33 (by decide) (by decide) rfl (by decide) (law_40 l C0 dC dI hE h1 h2 u1 u2 H locs ls hK hP hD hS hl)
    | 41, _ => exact lv_tableIn (tgt := 1418) hx hb dL_law_33 (by decide) (by decide) rfl (by decide) (law_41 l C0 dC dI hE h1 h2 u1 u2 H locs ls hK hP hD hS hl)
    | 42, _ => exact lv_tableIn (tgt := 1452) hx hb dL_law_33 (by decide) (by decide) rfl (by decide) (law_42 l C0 dC dI hE h1 h2 u1 u2 H locs ls hK hP hD hS hl)
    | 43, _ => exact lv_tableIn (tgt := 1486) hx hb dL_law_33 (by decide) (by decide) rfl (by decide) (law_43 l C0 dC dI hE h1 h2 u1 u2 H locs ls hK hP hD hS hl)
    | 44, _ => exact lv_tableIn (tgt := 1510) hx hb dL_law_33 (by decide) (by decide) rfl (by decide) (law_44 l C0 dC dI hE h1 h2 u1 u2 H locs ls hK hP hD hS hl)
    | 45, _ => exact lv_tableIn (tgt := 1543) hx hb dL_law_33 (by decide) (by decide) rfl (by decide) (law_45 l C0 dC dI hE h1 h2 u1 u2 H locs ls hK hP hD hS hl)
    | 46, _ => exact lv_tableIn (tgt := 1566) hx hb dL_law_33 (by decide) (by decide) rfl (by decide) (law_46 l C0 dC dI hE h1 h2 u1 u2 H locs ls hK hP hD hS hl)
    | 47, _ => exact lv_tableIn (tgt := 1589) hx hb dL_law_33 (by decide) (by decide) rfl (by decide) (law_47 l C0 dC dI hE h1 h2 u1 u2 H locs ls hK hP hD hS hl)
    | 48, _ => exact lv_tableIn (tgt := 1612) hx hb dL_law_33 (by decide) (by decide) rfl (by decide) (law_48 l C0 dC dI hE h1 h2 u1 u2 H locs ls hK hP hD hS hl)
    | n + 49, h => exact absurd h (by omega)
  · exact lv_tableOut (tgt := 1635) hx hb dL_law_33 (by rw [nI_toInt (by omega)]; omega) (by decide) (law_end l C0 hS (Nat.le_of_ble_eq_true rfl) (Nat.le_of_ble_eq_true rfl) (lv_sub hl [0, 3] rfl))
