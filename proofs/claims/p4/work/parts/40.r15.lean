set_option maxHeartbeats 4000000 in
set_option maxRecDepth 100000 in
theorem r_X12_forgets (l : Launch) (dC : Nat → ClassId) (dI : Nat → Nat → Nat) (sz : Nat) (cs : Nat → ClassId) (b : Nat → Nat) (u : RS) : Met l yX12_forgets [.code yX12_forgets cX12_forgets 4 none] ({ frames := 0, cells := 0, slots := 0, locals := 0 }) (PR [.ref (b 0)] sz dC dI cs b u) (va_Qv (fun (u' : RS) => (∀ v k q, v < 6 → k < 13 → q < 13 → rL u' (28 + 13 * v + k) q = -1) ∧ FR [] [] true u u') (BR dC dI cs b) (AR b sz)) 0 0 (AR b sz) := by
  refine Met.ofW (cc := cX12_forgets) (maxL := 4) (ret := none) (by decide) rfl ?_
  intro p e s m args below meth c s₁ B hml hv
  obtain ⟨rfl, hsz, hP, hK, hJ, hE⟩ := hv
  have hx := B.exec
  have hb := B.bytes
  have hr := B.returns
  have hown : s.vm.findClass RX12 = some m.cls := findClass_of_methodNamed B.named
  have hlocks := B.notSynchronized
  subst hsz
  have hAL : ∀ i, i < 108 → AR b s.heap.size (b i) := fun i h => Or.inl ⟨i, h, rfl⟩
  have hA : ∀ q : Nat, s.heap.size ≤ q → AR b s.heap.size q := fun q h => Or.inr h
  have hS : va_S (AR b s.heap.size) s.heap s.heap [] := va_S.rf
  have hfr : FR [] [] true u u := FR.refl
  have hl := lv_entry ([.ref (b 0)]) (n := 4) (Nat.le_of_ble_eq_true rfl)
  rw [lg_entry_eq]
  generalize (lg_sl ([.ref (b 0)]) ++ List.replicate (4 - (lg_sl ([.ref (b 0)])).length) Slot.unset).toArray = ls at hl ⊢
  have hl : lv_has ls 4 [(0, .ref (b 0))] := hl
  refine lv_iconst (v := 0) hx hb dX12_forgets_0 (by decide) ?_
  refine lv_istore_n (lv' := [(1, .int 0), (0, .ref (b 0))]) hx hb dX12_forgets_1 rfl hl (by decide) rfl (fun ls hl => ?_)
  refine r_ind (I := fun n u_ H locs ls => va_P (dC, dI) vwCl (rW cs b u_) H ∧ va_S (AR b s.heap.size) s.heap H locs ∧ FR [] [] true u u_ ∧ ∃ (i_1 : Nat), n = 6 - i_1 ∧ (i_1 ≤ 6) ∧ (∀ v k q, v < i_1 → k < 13 → q < 13 → rL u_ (28 + 13 * v + k) q = -1) ∧ lv_has ls 4 [(0, .ref (b 0)), (1, .int (nI i_1))]) (fun n u1 H locs ls hI ih1 => ?_) _ u _ _ _ ⟨hP, hS, hfr, 0, rfl, (by first | assumption | omega | rfl | (congr 1; omega)), (by intro v k q h; omega), lv_sub hl [1, 0] rfl⟩
  obtain ⟨hP, hS, hfr, i_1, hmu1, hL1_0, hL1_1, hl⟩ := hI
  subst hmu1
  refine lv_iload_n hx hb dX12_forgets_2 rfl (lv_at hl 1 rfl) ?_
  refine lv_bipush (v := 6) hx hb dX12_forgets_3 (by decide) ?_
  refine lv_icmp_ge (tgt := 55) hx hb dX12_forgets_5 (by decide) (fun c2 => ?_) (fun c2 => ?_)
  · have c2 := (b_le (show Int32.toInt 6 = 6 from rfl) (nI_toInt (n := i_1) (by omega))).mp c2
    exact W.vret hx hb hr (fun t ht hW => ⟨⟨u1, rfl, ⟨(by intro v' k' q' h1 h2 h3; exact hL1_1 v' k' q' (by omega) h2 h3), hfr⟩, (show va_P (dC, dI) vwCl (rW cs b u1) t.heap by rw [ht]; exact hP)⟩, hS.F ht⟩) hS.2.2 dX12_forgets_55
  · have c2 := mt (b_le (show Int32.toInt 6 = 6 from rfl) (nI_toInt (n := i_1) (by omega))).mpr c2
    refine lv_iconst (v := 0) hx hb dX12_forgets_8 (by decide) ?_
    refine lv_istore_n (lv' := [(2, .int 0), (0, .ref (b 0)), (1, .int (nI i_1))]) hx hb dX12_forgets_9 rfl hl (by decide) rfl (fun ls hl => ?_)
    refine r_ind (I := fun n u_ H locs ls => va_P (dC, dI) vwCl (rW cs b u_) H ∧ va_S (AR b s.heap.size) s.heap H locs ∧ FR [] [] true u u_ ∧ ∃ (j_3 : Nat), n = 13 - j_3 ∧ (j_3 ≤ 13) ∧ (∀ v k q, v < i_1 → k < 13 → q < 13 → rL u_ (28 + 13 * v + k) q = -1) ∧ (∀ k q, k < j_3 → q < 13 → rL u_ (28 + 13 * i_1 + k) q = -1) ∧ lv_has ls 4 [(0, .ref (b 0)), (1, .int (nI i_1)), (2, .int (nI j_3))]) (fun n u3 H locs ls hI ih3 => ?_) _ u1 _ _ _ ⟨hP, hS, hfr, 0, rfl, (by first | assumption | omega | rfl | (congr 1; omega)), (by exact hL1_1), (by intro k q h; omega), lv_sub hl [1, 2, 0] rfl⟩
    obtain ⟨hP, hS, hfr, j_3, hmu3, hL3_0, hL3_1, hL3_2, hl⟩ := hI
    subst hmu3
    refine lv_iload_n hx hb dX12_forgets_10 rfl (lv_at hl 2 rfl) ?_
    refine lv_bipush (v := 12) hx hb dX12_forgets_11 (by decide) ?_
    refine lv_icmp_gt (tgt := 49) hx hb dX12_forgets_13 (by decide) (fun c4 => ?_) (fun c4 => ?_)
    · have c4 := (b_lt (show Int32.toInt 12 = 12 from rfl) (nI_toInt (n := j_3) (by omega))).mp c4
      refine lv_iinc (v := nI (i_1 + 1)) (lv' := [(1, .int (nI (i_1 + 1))), (0, .ref (b 0)), (2, .int (nI j_3))]) hx hb dX12_forgets_49 hl (k := 1) rfl (nI_1 i_1) (by decide) rfl (fun ls hl => ?_)
      refine lv_goto (tgt := 2) hx hb dX12_forgets_52 (by decide) ?_
      exact ih1 _ u3 _ _ _ (by omega) ⟨hP, hS, hfr, (i_1 + 1), rfl, (by first | assumption | omega | rfl | (congr 1; omega)), (by intro v' k' q' h1 h2 h3; by_cases e : v' = i_1; (subst e; exact hL3_2 k' q' (by omega) h3); (exact hL3_1 v' k' q' (by omega) h2 h3)), lv_sub hl [1, 0] rfl⟩
    · have c4 := mt (b_lt (show Int32.toInt 12 = 12 from rfl) (nI_toInt (n := j_3) (by omega))).mpr c4
      refine lv_iconst (v := 0) hx hb dX12_forgets_16 (by decide) ?_
      refine lv_istore_n (lv' := [(3, .int 0), (0, .ref (b 0)), (1, .int (nI i_1)), (2, .int (nI j_3))]) hx hb dX12_forgets_17 rfl hl (by decide) rfl (fun ls hl => ?_)
      refine r_ind (I := fun n u_ H locs ls => va_P (dC, dI) vwCl (rW cs b u_) H ∧ va_S (AR b s.heap.size) s.heap H locs ∧ FR [] [] true u u_ ∧ ∃ (w_5 : Nat), n = 13 - w_5 ∧ (w_5 ≤ 13) ∧ (∀ v k q, v < i_1 → k < 13 → q < 13 → rL u_ (28 + 13 * v + k) q = -1) ∧ (∀ k q, k < j_3 → q < 13 → rL u_ (28 + 13 * i_1 + k) q = -1) ∧ (∀ q, q < w_5 → rL u_ (28 + 13 * i_1 + j_3) q = -1) ∧ lv_has ls 4 [(0, .ref (b 0)), (1, .int (nI i_1)), (2, .int (nI j_3)), (3, .int (nI w_5))]) (fun n u5 H locs ls hI ih5 => ?_) _ u3 _ _ _ ⟨hP, hS, hfr, 0, rfl, (by first | assumption | omega | rfl | (congr 1; omega)), (by exact hL3_1), (by exact hL3_2), (by intro q h; omega), lv_sub hl [1, 2, 3, 0] rfl⟩
      obtain ⟨hP, hS, hfr, w_5, hmu5, hL5_0, hL5_1, hL5_2, hL5_3, hl⟩ := hI
      subst hmu5
      refine lv_iload_n hx hb dX12_forgets_18 rfl (lv_at hl 3 rfl) ?_
      refine lv_bipush (v := 12) hx hb dX12_forgets_19 (by decide) ?_
      refine lv_icmp_gt (tgt := 43) hx hb dX12_forgets_21 (by decide) (fun c6 => ?_) (fun c6 => ?_)
      · have c6 := (b_lt (show Int32.toInt 12 = 12 from rfl) (nI_toInt (n := w_5) (by omega))).mp c6
        refine lv_iinc (v := nI (j_3 + 1)) (lv' := [(2, .int (nI (j_3 + 1))), (0, .ref (b 0)), (1, .int (nI i_1)), (3, .int (nI w_5))]) hx hb dX12_forgets_43 hl (k := 2) rfl (nI_1 j_3) (by decide) rfl (fun ls hl => ?_)
        refine lv_goto (tgt := 10) hx hb dX12_forgets_46 (by decide) ?_
        exact ih3 _ u5 _ _ _ (by omega) ⟨hP, hS, hfr, (j_3 + 1), rfl, (by first | assumption | omega | rfl | (congr 1; omega)), (by exact hL5_1), (by intro k' q' h1 h2; by_cases e : k' = j_3; (subst e; exact hL5_3 q' (by omega)); (exact hL5_2 k' q' (by omega) h2)), lv_sub hl [1, 2, 0] rfl⟩
      · have c6 := mt (b_lt (show Int32.toInt 12 = 12 from rfl) (nI_toInt (n := w_5) (by omega))).mpr c6
        refine lv_aload_n hx hb dX12_forgets_24 rfl (lv_at hl 0 rfl) ?_
        refine r_get (v := .ref (b 21)) hx hb (ly_X12 hE) hown hK hP rfl 27 (by decide) (wd_1408 hE) (fun _ h9 => h9) rfl dX12_forgets_25 ?_
        refine lv_iload_n hx hb dX12_forgets_28 rfl (lv_at hl 1 rfl) ?_
        refine r_aald (j := 21) (k := i_1) (n := 6) (t0 := 5) (j2 := 22 + i_1) hx hb hK hP (by decide) rfl rfl (by omega) (by decide) rfl dX12_forgets_29 ?_
        refine lv_iload_n hx hb dX12_forgets_30 rfl (lv_at hl 2 rfl) ?_
        refine r_aald (j := 22 + i_1) (k := j_3) (n := 13) (t0 := 6) (j2 := 28 + 13 * i_1 + j_3) hx hb hK hP (by omega) (rE_home1 (by omega)) rfl (by omega) (by decide) (by show some (b (28 + 13 * (22 + i_1 - 22) + j_3)) = _; rw [show 22 + i_1 - 22 = i_1 by omega]) dX12_forgets_31 ?_
        refine lv_iload_n hx hb dX12_forgets_32 rfl (lv_at hl 3 rfl) ?_
        refine lv_ldc2 (v := -1) hx hb hown (wd_1889 hE) dX12_forgets_33 ?_
        refine r_last (j := 28 + 13 * i_1 + j_3) (k := w_5) (n := 13) hx hb hK hP hJ hAL hS (by omega) (fun _ => (rE_home2 (by omega))) (by omega) (by decide) dX12_forgets_36 (fun u7 H locs hs7 ho7 hq7 hP hS => ?_)
        have hfr := FR.step hfr hq7 (fun _ h => absurd h List.not_mem_nil) (fun _ h => absurd h List.not_mem_nil) (fun h => h)
        have SS := hs7
        have OO := ho7
        refine lv_iinc (v := nI (w_5 + 1)) (lv' := [(3, .int (nI (w_5 + 1))), (0, .ref (b 0)), (1, .int (nI i_1)), (2, .int (nI j_3))]) hx hb dX12_forgets_37 hl (k := 3) rfl (nI_1 w_5) (by decide) rfl (fun ls hl => ?_)
        refine lv_goto (tgt := 18) hx hb dX12_forgets_40 (by decide) ?_
        exact ih5 _ u7 _ _ _ (by omega) ⟨hP, hS, hfr, (w_5 + 1), rfl, (by first | assumption | omega | rfl | (congr 1; omega)), (by intro v' k' q' h1 h2 h3; rw [OO _ (by omega)]; exact hL5_1 v' k' q' h1 h2 h3), (by intro k' q' h1 h2; rw [OO _ (by omega)]; exact hL5_2 k' q' h1 h2), (by intro q' h1; rw [SS]; by_cases e : q' = w_5; (subst e; exact pk_uLs); (rw [pk_uLn e]; exact hL5_3 q' (by omega))), lv_sub hl [1, 2, 3, 0] rfl⟩

set_option maxHeartbeats 4000000 in
set_option maxRecDepth 100000 in
theorem r_X12_heldFrom (l : Launch) (dC : Nat → ClassId) (dI : Nat → Nat → Nat) : ∀ (nn : Nat) (sz : Nat) (cs : Nat → ClassId) (b : Nat → Nat) (u : RS) (a : Nat → Int32) (hA1 : rA u 1 = a) (v : Nat) (k : Nat) (rr : Nat) (x : Int32) (cz : Nat) (hp0 : GG a) (hp1 : v < vN a) (hp2 : k < od a v) (hp3 : rr ≤ 12) (hp4 : x.toInt = (cz : Int) - 1) (hp5 : cz ≤ 12) (hnn : rr < nn), Met l yX12_heldFrom [.code yX12_heldFrom cX12_heldFrom 9 (some .long)] ({ frames := nn + 8, cells := 0, slots := 0, locals := 40 * (nn + 8) }) (PR [.ref (b 0), .int (nI v), .int (nI k), .int (nI rr), .int x] sz dC dI cs b u) (va_Ql (fun (r : Int64) (u' : RS) => (True) ∧ FR [] [] true u u') (BR dC dI cs b) (AR b sz)) 0 0 (AR b sz) := by
  intro nn
  induction nn with
  | zero => intro sz cs b u a hA1 v k rr x cz hp0 hp1 hp2 hp3 hp4 hp5 hnn; exact absurd hnn (Nat.not_lt_zero _)
  | succ nn ih =>
  intro sz cs b u a hA1 v k rr x cz hp0 hp1 hp2 hp3 hp4 hp5 hnn
  refine Met.ofW (cc := cX12_heldFrom) (maxL := 9) (ret := (some .long)) (by decide) rfl ?_
  intro p e s m args below meth c s₁ B hml hv
  obtain ⟨rfl, hsz, hP, hK, hJ, hE⟩ := hv
  have hx := B.exec
  have hb := B.bytes
  have hr := B.returns
  have hown : s.vm.findClass RX12 = some m.cls := findClass_of_methodNamed B.named
  have hlocks := B.notSynchronized
  subst hsz
  have hAL : ∀ i, i < 108 → AR b s.heap.size (b i) := fun i h => Or.inl ⟨i, h, rfl⟩
  have hA : ∀ q : Nat, s.heap.size ≤ q → AR b s.heap.size q := fun q h => Or.inr h
  have hS : va_S (AR b s.heap.size) s.heap s.heap [] := va_S.rf
  have hfr : FR [] [] true u u := FR.refl
  have hl := lv_entry ([.ref (b 0), .int (nI v), .int (nI k), .int (nI rr), .int x]) (n := 9) (Nat.le_of_ble_eq_true rfl)
  rw [lg_entry_eq]
  generalize (lg_sl ([.ref (b 0), .int (nI v), .int (nI k), .int (nI rr), .int x]) ++ List.replicate (9 - (lg_sl ([.ref (b 0), .int (nI v), .int (nI k), .int (nI rr), .int x])).length) Slot.unset).toArray = ls at hl ⊢
  have hl : lv_has ls 9 [(0, .ref (b 0)), (1, .int (nI v)), (2, .int (nI k)), (3, .int (nI rr)), (4, .int x)] := hl
  have hG := hp0
  have ha1 := gg_le hp0
  have hvo := gg_od hG hp1
  refine lv_iload_n hx hb dX12_heldFrom_0 rfl (lv_at hl 3 rfl) ?_
  refine lv_sipush (v := 360) hx hb dX12_heldFrom_1 (by decide) ?_
  refine lv_imul hx hb dX12_heldFrom_4 ?_
  refine W.eq (g2 := F0 m 5 ls [.int (nI (rr * 360))]) (congrArg (fun z : Int32 => F0 m 5 ls (.int z :: [])) (pk_mul rr 360)) ?_
  refine lv_bipush (v := 60) hx hb dX12_heldFrom_5 (by decide) ?_
  refine lv_iload_n hx hb dX12_heldFrom_7 rfl (lv_at hl 1 rfl) ?_
  refine lv_imul hx hb dX12_heldFrom_8 ?_
  refine W.eq (g2 := F0 m 9 ls [.int (nI (60 * v)), .int (nI (rr * 360))]) (congrArg (fun z : Int32 => F0 m 9 ls (.int z :: [.int (nI (rr * 360))])) (pk_mul 60 v)) ?_
  refine lv_iadd hx hb dX12_heldFrom_9 ?_
  refine W.eq (g2 := F0 m 10 ls [.int (nI ((rr * 360) + (60 * v)))]) (congrArg (fun z : Int32 => F0 m 10 ls (.int z :: [])) (nI_add (rr * 360) (60 * v))) ?_
  refine lv_iload_n hx hb dX12_heldFrom_10 rfl (lv_at hl 2 rfl) ?_
  refine lv_iadd hx hb dX12_heldFrom_11 ?_
  refine W.eq (g2 := F0 m 12 ls [.int (nI (((rr * 360) + (60 * v)) + k))]) (congrArg (fun z : Int32 => F0 m 12 ls (.int z :: [])) (nI_add ((rr * 360) + (60 * v)) k)) ?_
  refine lv_bipush (v := 13) hx hb dX12_heldFrom_12 (by decide) ?_
  refine lv_imul hx hb dX12_heldFrom_14 ?_
  refine W.eq (g2 := F0 m 15 ls [.int (nI ((((rr * 360) + (60 * v)) + k) * 13))]) (congrArg (fun z : Int32 => F0 m 15 ls (.int z :: [])) (pk_mul (((rr * 360) + (60 * v)) + k) 13)) ?_
  refine lv_iload hx hb dX12_heldFrom_15 (lv_at hl 4 rfl) ?_
  refine lv_iadd hx hb dX12_heldFrom_17 ?_
  refine lv_iconst (v := 1) hx hb dX12_heldFrom_18 (by decide) ?_
  refine lv_iadd hx hb dX12_heldFrom_19 ?_
  refine W.eq (g2 := F0 m 20 ls [.int (nI (((rr * 360 + 60 * v + k) * 13) + cz))]) (congrArg (fun z : Int32 => F0 m 20 ls (.int z :: [])) (came_ix hp4 (by omega) (by omega))) ?_
  refine lv_istore (lv' := [(5, .int (nI (((rr * 360 + 60 * v + k) * 13) + cz))), (0, .ref (b 0)), (1, .int (nI v)), (2, .int (nI k)), (3, .int (nI rr)), (4, .int x)]) hx hb dX12_heldFrom_20 hl (by decide) rfl (fun ls hl => ?_)
  refine lv_aload_n hx hb dX12_heldFrom_22 rfl (lv_at hl 1 rfl) ?_
  refine r_get (v := .ref (b 106)) hx hb (ly_X12 hE) hown hK hP rfl 28 (by decide) (wd_1409 hE) (fun _ h9 => h9) rfl dX12_heldFrom_23 ?_
  refine lv_iload hx hb dX12_heldFrom_26 (lv_at hl 0 rfl) ?_
  obtain ⟨y7, hy7⟩ : ∃ z : Int64, rL u 106 (((rr * 360 + 60 * v + k) * 13) + cz) = z := ⟨_, rfl⟩
  refine r_lald (j := 106) (k := ((rr * 360 + 60 * v + k) * 13) + cz) (n := 60840) (x := y7) hx hb hK hP (by decide) rfl (by omega) (by decide) hy7 dX12_heldFrom_28 ?_
  refine lv_lconst (v := 0) hx hb dX12_heldFrom_29 (by decide) ?_
  refine W.lcmp hx hb dX12_heldFrom_30 ?_
  refine lv_topi (fun x8 ex8 => ?_)
  refine lv_if_lt (tgt := 42) hx hb dX12_heldFrom_31 (by decide) (fun c10 => ?_) (fun c10 => ?_)
  · have c10 := (lc_lt ex8).mp c10
    refine lv_lconst (v := 1) hx hb dX12_heldFrom_42 (by decide) ?_
    refine lv_lstore (lv' := [(6, .long 1), (5, .int (nI (((rr * 360 + 60 * v + k) * 13) + cz))), (0, .ref (b 0)), (1, .int (nI v)), (2, .int (nI k)), (3, .int (nI rr)), (4, .int x)]) hx hb dX12_heldFrom_43 hl (by decide) rfl (fun ls hl => ?_)
    refine lv_iconst (v := 0) hx hb dX12_heldFrom_45 (by decide) ?_
    refine lv_istore (lv' := [(8, .int 0), (6, .long 1), (5, .int (nI (((rr * 360 + 60 * v + k) * 13) + cz))), (0, .ref (b 0)), (1, .int (nI v)), (2, .int (nI k)), (3, .int (nI rr)), (4, .int x)]) hx hb dX12_heldFrom_46 hl (by decide) rfl (fun ls hl => ?_)
    refine r_ind (I := fun n u_ H locs ls => va_P (dC, dI) vwCl (rW cs b u_) H ∧ va_S (AR b s.heap.size) s.heap H locs ∧ FR [] [] true u u_ ∧ ∃ (sq_11 : Nat) (n1_11 : Int64), n = 2 * eN a - sq_11 ∧ (sq_11 ≤ 2 * eN a) ∧ lv_has ls 9 [(0, .ref (b 0)), (1, .int (nI v)), (2, .int (nI k)), (3, .int (nI rr)), (4, .int x), (5, .int (nI (((rr * 360 + 60 * v + k) * 13) + cz))), (6, .long n1_11), (8, .int (nI sq_11))]) (fun n u11 H locs ls hI ih11 => ?_) _ u _ _ _ ⟨hP, hS, hfr, 0, 1, rfl, (by first | assumption | omega | rfl | (congr 1; omega)), lv_sub hl [3, 4, 5, 6, 7, 2, 1, 0] rfl⟩
    obtain ⟨hP, hS, hfr, sq_11, n1_11, hmu11, hL11_0, hl⟩ := hI
    have hA12 := (hfr.1 1 List.not_mem_nil).trans hA1
    subst hmu11
    refine lv_iload hx hb dX12_heldFrom_48 (lv_at hl 7 rfl) ?_
    refine lv_iconst (v := 2) hx hb dX12_heldFrom_50 (by decide) ?_
    refine lv_aload_n hx hb dX12_heldFrom_51 rfl (lv_at hl 0 rfl) ?_
    refine lv_iconst (v := 1) hx hb dX12_heldFrom_52 (by decide) ?_
    refine vp_callSi (va_Run.run (va_runV (As := [.int (nI 1)]) (rest := [.int 2, .int (nI sq_11)]) ⟨hx, hb, hml, hown, noTs⟩ (r_X12_of l dC dI H.size cs b u11 a hA12 1 (by first | assumption | omega | rfl | (congr 1; omega))) ⟨cbE 1 (wd_1536 hE) (wd_126 hE) (wd_1533 hE) rfl rfl (by decide +kernel) ⟨by show 0 + 1 ≤ nn + 1 + 8; omega, by show 8 + (2 + 11) + 0 ≤ 40 * (nn + 1 + 8); omega⟩, (wd_1535 hE), (wd_61 hE)⟩ ⟨PR.blind, r_recv hK hP rfl, (r_pre (av := [.ref (b 0), .int (nI 1)]) hK hP hJ hE)⟩ rfl rfl hl.1 rfl (lv_room (Nat.le_of_ble_eq_true rfl)) dX12_heldFrom_53 ⟨Nat.le_of_ble_eq_true rfl, Nat.le_of_ble_eq_true rfl⟩)) (fun r13 hr13 => ?_)
    have hr13 := hr13.trans (gg_e hG)
    subst hr13
    refine lv_imul hx hb dX12_heldFrom_56 ?_
    refine W.eq (g2 := F0 m 57 ls [.int (nI (2 * (eN a))), .int (nI sq_11)]) (congrArg (fun z : Int32 => F0 m 57 ls (.int z :: [.int (nI sq_11)])) (pk_mul 2 (eN a))) ?_
    refine lv_icmp_ge (tgt := 153) hx hb dX12_heldFrom_57 (by decide) (fun c14 => ?_) (fun c14 => ?_)
    · have c14 := (b_le (nI_toInt (n := 2 * (eN a)) (by omega)) (nI_toInt (n := sq_11) (by omega))).mp c14
      refine lv_aload_n hx hb dX12_heldFrom_153 rfl (lv_at hl 0 rfl) ?_
      refine r_get (v := .ref (b 106)) hx hb (ly_X12 hE) hown hK hP rfl 28 (by decide) (wd_1409 hE) (fun _ h9 => h9) rfl dX12_heldFrom_154 ?_
      refine lv_iload hx hb dX12_heldFrom_157 (lv_at hl 5 rfl) ?_
      refine lv_lload hx hb dX12_heldFrom_159 (lv_at hl 6 rfl) ?_
      refine r_last (j := 106) (k := ((rr * 360 + 60 * v + k) * 13) + cz) (n := 60840) hx hb hK hP hJ hAL hS (by decide) (fun _ => rfl) (by omega) (by decide) dX12_heldFrom_161 (fun u15 H locs hs15 ho15 hq15 hP hS => ?_)
      have hA16 := (hq15.1 1 List.not_mem_nil).trans hA12
      have hfr := FR.step hfr hq15 (fun _ h => absurd h List.not_mem_nil) (fun _ h => absurd h List.not_mem_nil) (fun h => h)
      refine lv_lload hx hb dX12_heldFrom_162 (lv_at hl 6 rfl) ?_
      exact W.lret (v := n1_11) hx hb hr (fun t ht hW => ⟨⟨n1_11, u15, rfl, ⟨trivial, hfr⟩, (show va_P (dC, dI) vwCl (rW cs b u15) t.heap by rw [ht]; exact hP)⟩, hS.F ht⟩) hS.2.2 dX12_heldFrom_164
    · have c14 := mt (b_le (nI_toInt (n := 2 * (eN a)) (by omega)) (nI_toInt (n := sq_11) (by omega))).mpr c14
      refine lv_iload_n hx hb dX12_heldFrom_60 rfl (lv_at hl 3 rfl) ?_
      refine lv_if_le (tgt := 153) hx hb dX12_heldFrom_61 (by decide) (fun c17 => ?_) (fun c17 => ?_)
      · have c17 := (b_le (nI_toInt (n := rr) (by omega)) (show Int32.toInt 0 = 0 from rfl)).mp c17
        refine lv_aload_n hx hb dX12_heldFrom_153 rfl (lv_at hl 0 rfl) ?_
        refine r_get (v := .ref (b 106)) hx hb (ly_X12 hE) hown hK hP rfl 28 (by decide) (wd_1409 hE) (fun _ h9 => h9) rfl dX12_heldFrom_154 ?_
        refine lv_iload hx hb dX12_heldFrom_157 (lv_at hl 5 rfl) ?_
        refine lv_lload hx hb dX12_heldFrom_159 (lv_at hl 6 rfl) ?_
        refine r_last (j := 106) (k := ((rr * 360 + 60 * v + k) * 13) + cz) (n := 60840) hx hb hK hP hJ hAL hS (by decide) (fun _ => rfl) (by omega) (by decide) dX12_heldFrom_161 (fun u18 H locs hs18 ho18 hq18 hP hS => ?_)
        have hA19 := (hq18.1 1 List.not_mem_nil).trans hA12
        have hfr := FR.step hfr hq18 (fun _ h => absurd h List.not_mem_nil) (fun _ h => absurd h List.not_mem_nil) (fun h => h)
        refine lv_lload hx hb dX12_heldFrom_162 (lv_at hl 6 rfl) ?_
        exact W.lret (v := n1_11) hx hb hr (fun t ht hW => ⟨⟨n1_11, u18, rfl, ⟨trivial, hfr⟩, (show va_P (dC, dI) vwCl (rW cs b u18) t.heap by rw [ht]; exact hP)⟩, hS.F ht⟩) hS.2.2 dX12_heldFrom_164
      · have c17 := mt (b_le (nI_toInt (n := rr) (by omega)) (show Int32.toInt 0 = 0 from rfl)).mpr c17
        refine lv_aload_n hx hb dX12_heldFrom_64 rfl (lv_at hl 0 rfl) ?_
        refine lv_iload hx hb dX12_heldFrom_65 (lv_at hl 7 rfl) ?_
        refine vp_callSi (va_Run.run (va_runV (As := [.int (nI sq_11)]) (rest := []) ⟨hx, hb, hml, hown, noTs⟩ (r_X12_from l dC dI H.size cs b u11 a hA12 sq_11 (by first | assumption | omega | rfl | (congr 1; omega)) (by first | assumption | omega | rfl | (congr 1; omega))) ⟨cbE 1 (wd_1591 hE) (wd_126 hE) (wd_1588 hE) rfl rfl (by decide +kernel) ⟨by show 2 + 1 ≤ nn + 1 + 8; omega, by show 8 + (2 + 11) + 80 ≤ 40 * (nn + 1 + 8); omega⟩, (wd_1590 hE), (wd_74 hE)⟩ ⟨PR.blind, r_recv hK hP rfl, (r_pre (av := [.ref (b 0), .int (nI sq_11)]) hK hP hJ hE)⟩ rfl rfl hl.1 rfl (lv_room (Nat.le_of_ble_eq_true rfl)) dX12_heldFrom_67 ⟨Nat.le_of_ble_eq_true rfl, Nat.le_of_ble_eq_true rfl⟩)) (fun r20 hr20 => ?_)
        have hau20 := gg_src (a := a) (s := sq_11) (by assumption) (by first | assumption | omega)
        subst hr20
        refine lv_iload_n hx hb dX12_heldFrom_70 rfl (lv_at hl 1 rfl) ?_
        refine lv_icmp_ne (tgt := 147) hx hb dX12_heldFrom_71 (by decide) (fun c21 => ?_) (fun c21 => ?_)
        · have c21 := mt (b_eq (nI_toInt (n := src a sq_11) (by omega)) (nI_toInt (n := v) (by omega))).mpr c21
          refine lv_iinc (v := nI (sq_11 + 1)) (lv' := [(8, .int (nI (sq_11 + 1))), (0, .ref (b 0)), (1, .int (nI v)), (2, .int (nI k)), (3, .int (nI rr)), (4, .int x), (5, .int (nI (((rr * 360 + 60 * v + k) * 13) + cz))), (6, .long n1_11)]) hx hb dX12_heldFrom_147 hl (k := 7) rfl (nI_1 sq_11) (by decide) rfl (fun ls hl => ?_)
          refine lv_goto (tgt := 48) hx hb dX12_heldFrom_150 (by decide) ?_
          exact ih11 _ u11 _ _ _ (by omega) ⟨hP, hS, hfr, (sq_11 + 1), n1_11, rfl, (by first | assumption | omega | rfl | (congr 1; omega)), lv_sub hl [1, 2, 3, 4, 5, 6, 7, 0] rfl⟩
        · have c21 := (b_eq (nI_toInt (n := src a sq_11) (by omega)) (nI_toInt (n := v) (by omega))).mp c21
          refine lv_iload_n hx hb dX12_heldFrom_74 rfl (lv_at hl 2 rfl) ?_
          refine lv_aload_n hx hb dX12_heldFrom_75 rfl (lv_at hl 0 rfl) ?_
          refine lv_iload hx hb dX12_heldFrom_76 (lv_at hl 7 rfl) ?_
          refine vp_callSi (va_Run.run (va_runV (As := [.int (nI sq_11)]) (rest := [.int (nI k)]) ⟨hx, hb, hml, hown, noTs⟩ (r_X12_by l dC dI H.size cs b u11 a hA12 sq_11 (by first | assumption | omega | rfl | (congr 1; omega)) (by first | assumption | omega | rfl | (congr 1; omega))) ⟨cbE 1 (wd_1668 hE) (wd_126 hE) (wd_1665 hE) rfl rfl (by decide +kernel) ⟨by show 2 + 1 ≤ nn + 1 + 8; omega, by show 8 + (2 + 11) + 80 ≤ 40 * (nn + 1 + 8); omega⟩, (wd_1667 hE), (wd_86 hE)⟩ ⟨PR.blind, r_recv hK hP rfl, (r_pre (av := [.ref (b 0), .int (nI sq_11)]) hK hP hJ hE)⟩ rfl rfl hl.1 rfl (lv_room (Nat.le_of_ble_eq_true rfl)) dX12_heldFrom_78 ⟨Nat.le_of_ble_eq_true rfl, Nat.le_of_ble_eq_true rfl⟩)) (fun r22 hr22 => ?_)
          have hau22 := gg_idx (a := a) (s := sq_11) (by assumption) (by first | assumption | omega)
          subst hr22
          refine lv_irem hx hb dX12_heldFrom_81 (nI_ne0 (n := idx a sq_11) (by omega) (by omega)) ?_
          refine W.eq (g2 := F0 m 82 ls [.int (nI (k % (idx a sq_11)))]) (congrArg (fun z : Int32 => F0 m 82 ls (.int z :: [])) (pk_rem (a := k) (d := idx a sq_11) (by omega) (by omega) (by omega))) ?_
          have hmd23 := Nat.mod_lt k (show 0 < idx a sq_11 by omega)
          refine lv_if_ne (tgt := 147) hx hb dX12_heldFrom_82 (by decide) (fun c24 => ?_) (fun c24 => ?_)
          · have c24 := mt (b_eq (nI_toInt (n := k % (idx a sq_11)) (by omega)) (show Int32.toInt 0 = 0 from rfl)).mpr c24
            refine lv_iinc (v := nI (sq_11 + 1)) (lv' := [(8, .int (nI (sq_11 + 1))), (0, .ref (b 0)), (1, .int (nI v)), (2, .int (nI k)), (3, .int (nI rr)), (4, .int x), (5, .int (nI (((rr * 360 + 60 * v + k) * 13) + cz))), (6, .long n1_11)]) hx hb dX12_heldFrom_147 hl (k := 7) rfl (nI_1 sq_11) (by decide) rfl (fun ls hl => ?_)
            refine lv_goto (tgt := 48) hx hb dX12_heldFrom_150 (by decide) ?_
            exact ih11 _ u11 _ _ _ (by omega) ⟨hP, hS, hfr, (sq_11 + 1), n1_11, rfl, (by first | assumption | omega | rfl | (congr 1; omega)), lv_sub hl [1, 2, 3, 4, 5, 6, 7, 0] rfl⟩
          · have c24 := (b_eq (nI_toInt (n := k % (idx a sq_11)) (by omega)) (show Int32.toInt 0 = 0 from rfl)).mp c24
            refine lv_aload_n hx hb dX12_heldFrom_85 rfl (lv_at hl 0 rfl) ?_
            refine lv_iload hx hb dX12_heldFrom_86 (lv_at hl 7 rfl) ?_
            refine lv_iload hx hb dX12_heldFrom_88 (lv_at hl 4 rfl) ?_
            refine vp_callSi (va_Run.run (va_runV (As := [.int (nI sq_11), .int x]) (rest := []) ⟨hx, hb, hml, hown, noTs⟩ (r_X12_choices l dC dI H.size cs b u11 a hA12 sq_11 x cz (by first | assumption | omega | rfl | (congr 1; omega)) (by first | assumption | omega | rfl | (congr 1; omega)) ((rfl : Int32.toInt x = _).trans (by omega)) (by first | assumption | omega | rfl | (congr 1; omega))) ⟨cbE 2 (wd_1897 hE) (wd_126 hE) (wd_1894 hE) rfl rfl (by decide +kernel) ⟨by show 3 + 1 ≤ nn + 1 + 8; omega, by show 8 + (3 + 11) + 120 ≤ 40 * (nn + 1 + 8); omega⟩, (wd_1896 hE), (wd_108 hE)⟩ ⟨PR.blind, r_recv hK hP rfl, (r_pre (av := [.ref (b 0), .int (nI sq_11), .int x]) hK hP hJ hE)⟩ rfl rfl hl.1 rfl (lv_room (Nat.le_of_ble_eq_true rfl)) dX12_heldFrom_90 ⟨Nat.le_of_ble_eq_true rfl, Nat.le_of_ble_eq_true rfl⟩)) (fun r25 hr25 => ?_)
            have hau25 := ch_le (a := a) (k := cz) (s := sq_11) (by assumption) (by first | assumption | omega)
            subst hr25
            refine lv_if_ne (tgt := 99) hx hb dX12_heldFrom_93 (by decide) (fun c26 => ?_) (fun c26 => ?_)
            · have c26 := mt (b_eq (nI_toInt (n := ch a sq_11 cz) (by omega)) (show Int32.toInt 0 = 0 from rfl)).mpr c26
              refine lv_lload hx hb dX12_heldFrom_99 (lv_at hl 6 rfl) ?_
              refine lv_aload_n hx hb dX12_heldFrom_101 rfl (lv_at hl 0 rfl) ?_
              refine lv_iload hx hb dX12_heldFrom_102 (lv_at hl 7 rfl) ?_
              refine lv_iload hx hb dX12_heldFrom_104 (lv_at hl 4 rfl) ?_
              refine vp_callSi (va_Run.run (va_runV (As := [.int (nI sq_11), .int x]) (rest := [.long n1_11]) ⟨hx, hb, hml, hown, noTs⟩ (r_X12_choices l dC dI H.size cs b u11 a hA12 sq_11 x cz (by first | assumption | omega | rfl | (congr 1; omega)) (by first | assumption | omega | rfl | (congr 1; omega)) ((rfl : Int32.toInt x = _).trans (by omega)) (by first | assumption | omega | rfl | (congr 1; omega))) ⟨cbE 2 (wd_1897 hE) (wd_126 hE) (wd_1894 hE) rfl rfl (by decide +kernel) ⟨by show 3 + 1 ≤ nn + 1 + 8; omega, by show 8 + (3 + 11) + 120 ≤ 40 * (nn + 1 + 8); omega⟩, (wd_1896 hE), (wd_108 hE)⟩ ⟨PR.blind, r_recv hK hP rfl, (r_pre (av := [.ref (b 0), .int (nI sq_11), .int x]) hK hP hJ hE)⟩ rfl rfl hl.1 rfl (lv_room (Nat.le_of_ble_eq_true rfl)) dX12_heldFrom_106 ⟨Nat.le_of_ble_eq_true rfl, Nat.le_of_ble_eq_true rfl⟩)) (fun r27 hr27 => ?_)
              have hau27 := ch_le (a := a) (k := cz) (s := sq_11) (by assumption) (by first | assumption | omega)
              subst hr27
              refine lv_i2l hx hb dX12_heldFrom_109 rfl ?_
              refine W.eq (g2 := F0 m 110 ls [.long (lN (ch a sq_11 cz)), .long n1_11]) (congrArg (fun z : Int64 => F0 m 110 ls (.long z :: [.long n1_11])) (nI_l (n := ch a sq_11 cz) (by omega))) ?_
              refine lv_aload_n hx hb dX12_heldFrom_110 rfl (lv_at hl 0 rfl) ?_
              have hca := gg_carry (a := a) hG (s := sq_11) (n := k) (by omega) (by rw [show src a sq_11 = v by omega]; omega)
              refine lv_aload_n hx hb dX12_heldFrom_111 rfl (lv_at hl 0 rfl) ?_
              refine lv_iload hx hb dX12_heldFrom_112 (lv_at hl 7 rfl) ?_
              refine vp_callSi (va_Run.run (va_runV (As := [.int (nI sq_11)]) (rest := [.ref (b 0), .long (lN (ch a sq_11 cz)), .long n1_11]) ⟨hx, hb, hml, hown, noTs⟩ (r_X12_to l dC dI H.size cs b u11 a hA12 sq_11 (by first | assumption | omega | rfl | (congr 1; omega)) (by first | assumption | omega | rfl | (congr 1; omega))) ⟨cbE 1 (wd_1606 hE) (wd_126 hE) (wd_1603 hE) rfl rfl (by decide +kernel) ⟨by show 3 + 1 ≤ nn + 1 + 8; omega, by show 8 + (2 + 11) + 120 ≤ 40 * (nn + 1 + 8); omega⟩, (wd_1605 hE), (wd_77 hE)⟩ ⟨PR.blind, r_recv hK hP rfl, (r_pre (av := [.ref (b 0), .int (nI sq_11)]) hK hP hJ hE)⟩ rfl rfl hl.1 rfl (lv_room (Nat.le_of_ble_eq_true rfl)) dX12_heldFrom_114 ⟨Nat.le_of_ble_eq_true rfl, Nat.le_of_ble_eq_true rfl⟩)) (fun r28 hr28 => ?_)
              have hau28 := gg_dst (a := a) (s := sq_11) (by assumption) (by first | assumption | omega)
              subst hr28
              refine lv_iload_n hx hb dX12_heldFrom_117 rfl (lv_at hl 2 rfl) ?_
              refine lv_aload_n hx hb dX12_heldFrom_118 rfl (lv_at hl 0 rfl) ?_
              refine lv_iload hx hb dX12_heldFrom_119 (lv_at hl 7 rfl) ?_
              refine vp_callSi (va_Run.run (va_runV (As := [.int (nI sq_11)]) (rest := [.int (nI k), .int (nI (dst a sq_11)), .ref (b 0), .long (lN (ch a sq_11 cz)), .long n1_11]) ⟨hx, hb, hml, hown, noTs⟩ (r_X12_by l dC dI H.size cs b u11 a hA12 sq_11 (by first | assumption | omega | rfl | (congr 1; omega)) (by first | assumption | omega | rfl | (congr 1; omega))) ⟨cbE 1 (wd_1668 hE) (wd_126 hE) (wd_1665 hE) rfl rfl (by decide +kernel) ⟨by show 2 + 1 ≤ nn + 1 + 8; omega, by show 8 + (2 + 11) + 80 ≤ 40 * (nn + 1 + 8); omega⟩, (wd_1667 hE), (wd_86 hE)⟩ ⟨PR.blind, r_recv hK hP rfl, (r_pre (av := [.ref (b 0), .int (nI sq_11)]) hK hP hJ hE)⟩ rfl rfl hl.1 rfl (lv_room (Nat.le_of_ble_eq_true rfl)) dX12_heldFrom_121 ⟨Nat.le_of_ble_eq_true rfl, Nat.le_of_ble_eq_true rfl⟩)) (fun r29 hr29 => ?_)
              have hau29 := gg_idx (a := a) (s := sq_11) (by assumption) (by first | assumption | omega)
              subst hr29
              refine lv_idiv hx hb dX12_heldFrom_124 (nI_ne0 (n := idx a sq_11) (by omega) (by omega)) ?_
              refine W.eq (g2 := F0 m 125 ls [.int (nI (k / (idx a sq_11))), .int (nI (dst a sq_11)), .ref (b 0), .long (lN (ch a sq_11 cz)), .long n1_11]) (congrArg (fun z : Int32 => F0 m 125 ls (.int z :: [.int (nI (dst a sq_11)), .ref (b 0), .long (lN (ch a sq_11 cz)), .long n1_11])) (pk_div (a := k) (d := idx a sq_11) (by omega) (by omega) (by omega))) ?_
              have hmd30 := Nat.div_le_self k (idx a sq_11)
              refine lv_aload_n hx hb dX12_heldFrom_125 rfl (lv_at hl 0 rfl) ?_
              refine lv_iload hx hb dX12_heldFrom_126 (lv_at hl 7 rfl) ?_
              refine vp_callSi (va_Run.run (va_runV (As := [.int (nI sq_11)]) (rest := [.int (nI (k / (idx a sq_11))), .int (nI (dst a sq_11)), .ref (b 0), .long (lN (ch a sq_11 cz)), .long n1_11]) ⟨hx, hb, hml, hown, noTs⟩ (r_X12_into l dC dI H.size cs b u11 a hA12 sq_11 (by first | assumption | omega | rfl | (congr 1; omega)) (by first | assumption | omega | rfl | (congr 1; omega))) ⟨cbE 1 (wd_1672 hE) (wd_126 hE) (wd_1669 hE) rfl rfl (by decide +kernel) ⟨by show 3 + 1 ≤ nn + 1 + 8; omega, by show 8 + (2 + 11) + 120 ≤ 40 * (nn + 1 + 8); omega⟩, (wd_1671 hE), (wd_87 hE)⟩ ⟨PR.blind, r_recv hK hP rfl, (r_pre (av := [.ref (b 0), .int (nI sq_11)]) hK hP hJ hE)⟩ rfl rfl hl.1 rfl (lv_room (Nat.le_of_ble_eq_true rfl)) dX12_heldFrom_128 ⟨Nat.le_of_ble_eq_true rfl, Nat.le_of_ble_eq_true rfl⟩)) (fun r31 hr31 => ?_)
              have hau31 := gg_jdx (a := a) (s := sq_11) (by assumption) (by first | assumption | omega)
              subst hr31
              refine lv_imul hx hb dX12_heldFrom_131 ?_
              refine W.eq (g2 := F0 m 132 ls [.int (nI ((k / (idx a sq_11)) * (jdx a sq_11))), .int (nI (dst a sq_11)), .ref (b 0), .long (lN (ch a sq_11 cz)), .long n1_11]) (congrArg (fun z : Int32 => F0 m 132 ls (.int z :: [.int (nI (dst a sq_11)), .ref (b 0), .long (lN (ch a sq_11 cz)), .long n1_11])) (pk_mul (k / (idx a sq_11)) (jdx a sq_11))) ?_
              refine lv_iload_n hx hb dX12_heldFrom_132 rfl (lv_at hl 3 rfl) ?_
              refine lv_iconst (v := 1) hx hb dX12_heldFrom_133 (by decide) ?_
              refine lv_isub hx hb dX12_heldFrom_134 ?_
              refine W.eq (g2 := F0 m 135 ls [.int (nI (rr - 1)), .int (nI ((k / (idx a sq_11)) * (jdx a sq_11))), .int (nI (dst a sq_11)), .ref (b 0), .long (lN (ch a sq_11 cz)), .long n1_11]) (congrArg (fun z : Int32 => F0 m 135 ls (.int z :: [.int (nI ((k / (idx a sq_11)) * (jdx a sq_11))), .int (nI (dst a sq_11)), .ref (b 0), .long (lN (ch a sq_11 cz)), .long n1_11])) (pk_sub (a := rr) (b := 1) (by omega))) ?_
              refine lv_iload hx hb dX12_heldFrom_135 (lv_at hl 7 rfl) ?_
              refine rc_l hAL hS hA (va_runV (As := [.int (nI (dst a sq_11)), .int (nI ((k / (idx a sq_11)) * (jdx a sq_11))), .int (nI (rr - 1)), .int (nI sq_11)]) (rest := [.long (lN (ch a sq_11 cz)), .long n1_11]) ⟨hx, hb, hml, hown, noTs⟩ (ih H.size cs b u11 a hA12 (dst a sq_11) ((k / (idx a sq_11)) * (jdx a sq_11)) (rr - 1) (nI sq_11) (sq_11 + 1) (by first | assumption | omega | rfl | (congr 1; omega)) (by first | assumption | omega | rfl | (congr 1; omega)) (by first | assumption | omega | rfl | (congr 1; omega)) (by first | assumption | omega | rfl | (congr 1; omega)) ((nI_toInt (n := sq_11) (by omega)).trans (by omega)) (by first | assumption | omega | rfl | (congr 1; omega)) (by omega)) ⟨cbE 4 (wd_1893 hE) (wd_126 hE) (wd_1890 hE) rfl rfl (by decide +kernel) ⟨by show nn + 8 + 1 ≤ nn + 1 + 8; omega, by show 8 + (9 + 11) + 40 * (nn + 8) ≤ 40 * (nn + 1 + 8); omega⟩, (wd_1892 hE), (wd_107 hE)⟩ ⟨PR.blind, r_recv hK hP rfl, (r_pre (av := [.ref (b 0), .int (nI (dst a sq_11)), .int (nI ((k / (idx a sq_11)) * (jdx a sq_11))), .int (nI (rr - 1)), .int (nI sq_11)]) hK hP hJ hE)⟩ rfl rfl hl.1 rfl (lv_room (Nat.le_of_ble_eq_true rfl)) dX12_heldFrom_137 ⟨Nat.le_of_ble_eq_true rfl, Nat.le_of_ble_eq_true rfl⟩) (fun r32 u32 H locs hpo32 hP hS => ?_)
              obtain ⟨hr32, hq32⟩ := hpo32
              have hA33 := (hq32.1 1 List.not_mem_nil).trans hA12
              have hfr := FR.step hfr hq32 (fun _ h => absurd h List.not_mem_nil) (fun _ h => absurd h List.not_mem_nil) (fun h => h)
              refine lv_lmul hx hb dX12_heldFrom_140 ?_
              refine lv_topl (fun x34 ex34 => ?_)
              refine lv_ladd hx hb dX12_heldFrom_141 ?_
              refine lv_topl (fun x35 ex35 => ?_)
              refine vp_callSl (va_Run.run (va_runS (As := [.long x35]) (rest := []) ⟨hx, hb, hml, hown, noTs⟩ (r_X12_held_any l dC dI H.size cs b u32 x35) ⟨cbE 1 (wd_1900 hE) (wd_126 hE) (wd_1898 hE) rfl rfl (by decide +kernel) ⟨by show 0 + 1 ≤ nn + 1 + 8; omega, by show 8 + (2 + 11) + 0 ≤ 40 * (nn + 1 + 8); omega⟩, (wd_1899 hE)⟩ ⟨PR.blind, (r_pre (av := [.long x35]) hK hP hJ hE)⟩ rfl rfl hl.1 rfl (lv_room (Nat.le_of_ble_eq_true rfl)) dX12_heldFrom_142 ⟨Nat.le_of_ble_eq_true rfl, Nat.le_of_ble_eq_true rfl⟩)) (fun r36 hr36 => ?_)
              refine lv_lstore (lv' := [(6, .long r36), (0, .ref (b 0)), (1, .int (nI v)), (2, .int (nI k)), (3, .int (nI rr)), (4, .int x), (5, .int (nI (((rr * 360 + 60 * v + k) * 13) + cz))), (8, .int (nI sq_11))]) hx hb dX12_heldFrom_145 hl (by decide) rfl (fun ls hl => ?_)
              refine lv_iinc (v := nI (sq_11 + 1)) (lv' := [(8, .int (nI (sq_11 + 1))), (6, .long r36), (0, .ref (b 0)), (1, .int (nI v)), (2, .int (nI k)), (3, .int (nI rr)), (4, .int x), (5, .int (nI (((rr * 360 + 60 * v + k) * 13) + cz)))]) hx hb dX12_heldFrom_147 hl (k := 7) rfl (nI_1 sq_11) (by decide) rfl (fun ls hl => ?_)
              refine lv_goto (tgt := 48) hx hb dX12_heldFrom_150 (by decide) ?_
              exact ih11 _ u32 _ _ _ (by omega) ⟨hP, hS, hfr, (sq_11 + 1), r36, rfl, (by first | assumption | omega | rfl | (congr 1; omega)), lv_sub hl [2, 3, 4, 5, 6, 7, 1, 0] rfl⟩
            · have c26 := (b_eq (nI_toInt (n := ch a sq_11 cz) (by omega)) (show Int32.toInt 0 = 0 from rfl)).mp c26
              refine lv_goto (tgt := 147) hx hb dX12_heldFrom_96 (by decide) ?_
              refine lv_iinc (v := nI (sq_11 + 1)) (lv' := [(8, .int (nI (sq_11 + 1))), (0, .ref (b 0)), (1, .int (nI v)), (2, .int (nI k)), (3, .int (nI rr)), (4, .int x), (5, .int (nI (((rr * 360 + 60 * v + k) * 13) + cz))), (6, .long n1_11)]) hx hb dX12_heldFrom_147 hl (k := 7) rfl (nI_1 sq_11) (by decide) rfl (fun ls hl => ?_)
              refine lv_goto (tgt := 48) hx hb dX12_heldFrom_150 (by decide) ?_
              exact ih11 _ u11 _ _ _ (by omega) ⟨hP, hS, hfr, (sq_11 + 1), n1_11, rfl, (by first | assumption | omega | rfl | (congr 1; omega)), lv_sub hl [1, 2, 3, 4, 5, 6, 7, 0] rfl⟩
  · have c10 := mt (lc_lt ex8).mpr c10
    refine lv_aload_n hx hb dX12_heldFrom_34 rfl (lv_at hl 1 rfl) ?_
    refine r_get (v := .ref (b 106)) hx hb (ly_X12 hE) hown hK hP rfl 28 (by decide) (wd_1409 hE) (fun _ h9 => h9) rfl dX12_heldFrom_35 ?_
    refine lv_iload hx hb dX12_heldFrom_38 (lv_at hl 0 rfl) ?_
    obtain ⟨y37, hy37⟩ : ∃ z : Int64, rL u 106 (((rr * 360 + 60 * v + k) * 13) + cz) = z := ⟨_, rfl⟩
    refine r_lald (j := 106) (k := ((rr * 360 + 60 * v + k) * 13) + cz) (n := 60840) (x := y37) hx hb hK hP (by decide) rfl (by omega) (by decide) hy37 dX12_heldFrom_40 ?_
    exact W.lret (v := y37) hx hb hr (fun t ht hW => ⟨⟨y37, u, rfl, ⟨trivial, hfr⟩, (show va_P (dC, dI) vwCl (rW cs b u) t.heap by rw [ht]; exact hP)⟩, hS.F ht⟩) hS.2.2 dX12_heldFrom_41

set_option maxHeartbeats 4000000 in
set_option maxRecDepth 100000 in
theorem r_X12_held0 (l : Launch) (dC : Nat → ClassId) (dI : Nat → Nat → Nat) (sz : Nat) (cs : Nat → ClassId) (b : Nat → Nat) (u : RS) (a : Nat → Int32) (hA1 : rA u 1 = a) (v : Nat) (k : Nat) (rr : Nat) (hp0 : GG a) (hp1 : v < vN a) (hp2 : k < od a v) (hp3 : rr ≤ 12) : Met l yX12_held0 [.code yX12_held0 cX12_held0 5 (some .long)] ({ frames := 22, cells := 0, slots := 0, locals := 880 }) (PR [.ref (b 0), .int (nI v), .int (nI k), .int (nI rr)] sz dC dI cs b u) (va_Ql (fun (r : Int64) (u' : RS) => (True) ∧ FR [] [] true u u') (BR dC dI cs b) (AR b sz)) 0 0 (AR b sz) := by
  refine Met.ofW (cc := cX12_held0) (maxL := 5) (ret := (some .long)) (by decide) rfl ?_
  intro p e s m args below meth c s₁ B hml hv
  obtain ⟨rfl, hsz, hP, hK, hJ, hE⟩ := hv
  have hx := B.exec
  have hb := B.bytes
  have hr := B.returns
  have hown : s.vm.findClass RX12 = some m.cls := findClass_of_methodNamed B.named
  have hlocks := B.notSynchronized
  subst hsz
  have hAL : ∀ i, i < 108 → AR b s.heap.size (b i) := fun i h => Or.inl ⟨i, h, rfl⟩
  have hA : ∀ q : Nat, s.heap.size ≤ q → AR b s.heap.size q := fun q h => Or.inr h
  have hS : va_S (AR b s.heap.size) s.heap s.heap [] := va_S.rf
  have hfr : FR [] [] true u u := FR.refl
  have hl := lv_entry ([.ref (b 0), .int (nI v), .int (nI k), .int (nI rr)]) (n := 5) (Nat.le_of_ble_eq_true rfl)
  rw [lg_entry_eq]
  generalize (lg_sl ([.ref (b 0), .int (nI v), .int (nI k), .int (nI rr)]) ++ List.replicate (5 - (lg_sl ([.ref (b 0), .int (nI v), .int (nI k), .int (nI rr)])).length) Slot.unset).toArray = ls at hl ⊢
  have hl : lv_has ls 5 [(0, .ref (b 0)), (1, .int (nI v)), (2, .int (nI k)), (3, .int (nI rr))] := hl
  have hG := hp0
  have ha1 := gg_le hp0
  refine lv_iconst (v := 0) hx hb dX12_held0_0 (by decide) ?_
  refine lv_istore (lv' := [(4, .int 0), (0, .ref (b 0)), (1, .int (nI v)), (2, .int (nI k)), (3, .int (nI rr))]) hx hb dX12_held0_1 hl (by decide) rfl (fun ls hl => ?_)
  refine r_ind (I := fun n u_ H locs ls => va_P (dC, dI) vwCl (rW cs b u_) H ∧ va_S (AR b s.heap.size) s.heap H locs ∧ FR [] [] true u u_ ∧ ∃ (i_5 : Nat), n = 60840 - i_5 ∧ (i_5 ≤ 60840) ∧ lv_has ls 5 [(0, .ref (b 0)), (1, .int (nI v)), (2, .int (nI k)), (3, .int (nI rr)), (4, .int (nI i_5))]) (fun n u5 H locs ls hI ih5 => ?_) _ u _ _ _ ⟨hP, hS, hfr, 0, rfl, (by first | assumption | omega | rfl | (congr 1; omega)), lv_sub hl [1, 2, 3, 4, 0] rfl⟩
  obtain ⟨hP, hS, hfr, i_5, hmu5, hL5_0, hl⟩ := hI
  have hA6 := (hfr.1 1 List.not_mem_nil).trans hA1
  subst hmu5
  refine lv_iload hx hb dX12_held0_3 (lv_at hl 4 rfl) ?_
  refine lv_aload_n hx hb dX12_held0_5 rfl (lv_at hl 0 rfl) ?_
  refine r_get (v := .ref (b 106)) hx hb (ly_X12 hE) hown hK hP rfl 28 (by decide) (wd_1409 hE) (fun _ h9 => h9) rfl dX12_held0_6 ?_
  refine r_alen (j := 106) (t0 := 2) (v := 60840) hx hb hK hP (by decide) rfl rfl rfl dX12_held0_9 ?_
  refine lv_icmp_ge (tgt := 29) hx hb dX12_held0_10 (by decide) (fun c7 => ?_) (fun c7 => ?_)
  · have c7 := (b_le (show Int32.toInt 60840 = 60840 from rfl) (nI_toInt (n := i_5) (by omega))).mp c7
    refine lv_aload_n hx hb dX12_held0_29 rfl (lv_at hl 0 rfl) ?_
    refine lv_iload_n hx hb dX12_held0_30 rfl (lv_at hl 1 rfl) ?_
    refine lv_iload_n hx hb dX12_held0_31 rfl (lv_at hl 2 rfl) ?_
    refine lv_iload_n hx hb dX12_held0_32 rfl (lv_at hl 3 rfl) ?_
    refine lv_iconst (v := -1) hx hb dX12_held0_33 (by decide) ?_
    refine rc_l hAL hS hA (va_runV (As := [.int (nI v), .int (nI k), .int (nI rr), .int (-1)]) (rest := []) ⟨hx, hb, hml, hown, noTs⟩ (r_X12_heldFrom l dC dI 13 H.size cs b u5 a hA6 v k rr (-1) 0 (by first | assumption | omega | rfl | (congr 1; omega)) (by first | assumption | omega | rfl | (congr 1; omega)) (by first | assumption | omega | rfl | (congr 1; omega)) (by first | assumption | omega | rfl | (congr 1; omega)) ((show Int32.toInt (-1) = -1 from rfl).trans (by omega)) (by first | assumption | omega | rfl | (congr 1; omega)) (by omega)) ⟨cbE 4 (wd_1893 hE) (wd_126 hE) (wd_1890 hE) rfl rfl (by decide +kernel) ⟨Nat.le_of_ble_eq_true rfl, Nat.le_of_ble_eq_true rfl⟩, (wd_1892 hE), (wd_107 hE)⟩ ⟨PR.blind, r_recv hK hP rfl, (r_pre (av := [.ref (b 0), .int (nI v), .int (nI k), .int (nI rr), .int (-1)]) hK hP hJ hE)⟩ rfl rfl hl.1 rfl (lv_room (Nat.le_of_ble_eq_true rfl)) dX12_held0_34 ⟨Nat.le_of_ble_eq_true rfl, Nat.le_of_ble_eq_true rfl⟩) (fun r8 u8 H locs hpo8 hP hS => ?_)
    obtain ⟨hr8, hq8⟩ := hpo8
    have hA9 := (hq8.1 1 List.not_mem_nil).trans hA6
    have hfr := FR.step hfr hq8 (fun _ h => absurd h List.not_mem_nil) (fun _ h => absurd h List.not_mem_nil) (fun h => h)
    exact W.lret (v := r8) hx hb hr (fun t ht hW => ⟨⟨r8, u8, rfl, ⟨trivial, hfr⟩, (show va_P (dC, dI) vwCl (rW cs b u8) t.heap by rw [ht]; exact hP)⟩, hS.F ht⟩) hS.2.2 dX12_held0_37
  · have c7 := mt (b_le (show Int32.toInt 60840 = 60840 from rfl) (nI_toInt (n := i_5) (by omega))).mpr c7
    refine lv_aload_n hx hb dX12_held0_13 rfl (lv_at hl 0 rfl) ?_
    refine r_get (v := .ref (b 106)) hx hb (ly_X12 hE) hown hK hP rfl 28 (by decide) (wd_1409 hE) (fun _ h9 => h9) rfl dX12_held0_14 ?_
    refine lv_iload hx hb dX12_held0_17 (lv_at hl 4 rfl) ?_
    refine lv_ldc2 (v := -1) hx hb hown (wd_1889 hE) dX12_held0_19 ?_
    refine r_last (j := 106) (k := i_5) (n := 60840) hx hb hK hP hJ hAL hS (by decide) (fun _ => rfl) (by omega) (by decide) dX12_held0_22 (fun u10 H locs hs10 ho10 hq10 hP hS => ?_)
    have hA11 := (hq10.1 1 List.not_mem_nil).trans hA6
    have hfr := FR.step hfr hq10 (fun _ h => absurd h List.not_mem_nil) (fun _ h => absurd h List.not_mem_nil) (fun h => h)
    refine lv_iinc (v := nI (i_5 + 1)) (lv' := [(4, .int (nI (i_5 + 1))), (0, .ref (b 0)), (1, .int (nI v)), (2, .int (nI k)), (3, .int (nI rr))]) hx hb dX12_held0_23 hl (k := 4) rfl (nI_1 i_5) (by decide) rfl (fun ls hl => ?_)
    refine lv_goto (tgt := 3) hx hb dX12_held0_26 (by decide) ?_
    exact ih5 _ u10 _ _ _ (by omega) ⟨hP, hS, hfr, (i_5 + 1), rfl, (by first | assumption | omega | rfl | (congr 1; omega)), lv_sub hl [1, 2, 3, 4, 0] rfl⟩

set_option maxHeartbeats 4000000 in
set_option maxRecDepth 100000 in
theorem r_X12_holds (l : Launch) (dC : Nat → ClassId) (dI : Nat → Nat → Nat) (sz : Nat) (cs : Nat → ClassId) (b : Nat → Nat) (u : RS) (a : Nat → Int32) (hA1 : rA u 1 = a) (x : Int32) (y : Int32) (hp0 : BG a) : Met l yX12_holds [.code yX12_holds cX12_holds 4 (some .long)] ({ frames := 23, cells := 0, slots := 0, locals := 920 }) (PR [.ref (b 0), .int x, .int y] sz dC dI cs b u) (va_Ql (fun (r : Int64) (u' : RS) => (True) ∧ FR [3, 4, 5, 6, 7, 8, 9, 10, 11, 12, 13, 14, 17, 18, 19, 20] [1, 5, 21, 22] true u u') (BR dC dI cs b) (AR b sz)) 0 0 (AR b sz) := by
  refine Met.ofW (cc := cX12_holds) (maxL := 4) (ret := (some .long)) (by decide) rfl ?_
  intro p e s m args below meth c s₁ B hml hv
  obtain ⟨rfl, hsz, hP, hK, hJ, hE⟩ := hv
  have hx := B.exec
  have hb := B.bytes
  have hr := B.returns
  have hown : s.vm.findClass RX12 = some m.cls := findClass_of_methodNamed B.named
  have hlocks := B.notSynchronized
  subst hsz
  have hAL : ∀ i, i < 108 → AR b s.heap.size (b i) := fun i h => Or.inl ⟨i, h, rfl⟩
  have hA : ∀ q : Nat, s.heap.size ≤ q → AR b s.heap.size q := fun q h => Or.inr h
  have hS : va_S (AR b s.heap.size) s.heap s.heap [] := va_S.rf
  have hfr : FR [3, 4, 5, 6, 7, 8, 9, 10, 11, 12, 13, 14, 17, 18, 19, 20] [1, 5, 21, 22] true u u := FR.refl
  have hl := lv_entry ([.ref (b 0), .int x, .int y]) (n := 4) (Nat.le_of_ble_eq_true rfl)
  rw [lg_entry_eq]
  generalize (lg_sl ([.ref (b 0), .int x, .int y]) ++ List.replicate (4 - (lg_sl ([.ref (b 0), .int x, .int y])).length) Slot.unset).toArray = ls at hl ⊢
  have hl : lv_has ls 4 [(0, .ref (b 0)), (1, .int x), (2, .int y)] := hl
  have hB := hp0
  have hG := bg_g hp0
  have ha1 := gg_le hG
  have ha1b := bg_w hp0
  refine lv_iload_n hx hb dX12_holds_0 rfl (lv_at hl 2 rfl) ?_
  refine lv_iconst (v := 0) hx hb dX12_holds_1 (by decide) ?_
  refine lv_bipush (v := 12) hx hb dX12_holds_2 (by decide) ?_
  refine vp_callSi (va_Run.run (va_runS (As := [.int y, .int 0, .int 12]) (rest := []) ⟨hx, hb, hml, hown, noTs⟩ (r_X12_isFrom l dC dI s.heap.size cs b u a hA1 y 0 12 ((0 : Int)) ((12 : Int)) (show Int32.toInt 0 = 0 from rfl) (show Int32.toInt 12 = 12 from rfl)) ⟨cbE 3 (wd_1494 hE) (wd_126 hE) (wd_1492 hE) rfl rfl (by decide +kernel) ⟨Nat.le_of_ble_eq_true rfl, Nat.le_of_ble_eq_true rfl⟩, (wd_1493 hE)⟩ ⟨PR.blind, (r_pre (av := [.int y, .int 0, .int 12]) hK hP hJ hE)⟩ rfl rfl hl.1 rfl (lv_room (Nat.le_of_ble_eq_true rfl)) dX12_holds_4 ⟨Nat.le_of_ble_eq_true rfl, Nat.le_of_ble_eq_true rfl⟩)) (fun r2 hr2 => ?_)
  rcases hr2 with ⟨rfl, hb2⟩ | ⟨rfl, hb2⟩
  · obtain ⟨nx3, hi3, hj3⟩ := z_ex (x := y) (n := 13) (by omega) (by omega)
    subst hi3
    have hti4 := nI_toInt (n := nx3) (by omega)
    refine lv_if_ne (tgt := 17) hx hb dX12_holds_7 (by decide) (fun c5 => ?_) (fun c5 => absurd c5 (by decide))
    refine lv_aload_n hx hb dX12_holds_17 rfl (lv_at hl 0 rfl) ?_
    refine lv_iload_n hx hb dX12_holds_18 rfl (lv_at hl 1 rfl) ?_
    refine rc_i hAL hS hA (va_runV (As := [.int x]) (rest := []) ⟨hx, hb, hml, hown, noTs⟩ (r_X12_wrongLoop l dC dI s.heap.size cs b u a hA1 x (by first | assumption | omega | rfl | (congr 1; omega))) ⟨cbE 1 (wd_1781 hE) (wd_126 hE) (wd_1778 hE) rfl rfl (by decide +kernel) ⟨Nat.le_of_ble_eq_true rfl, Nat.le_of_ble_eq_true rfl⟩, (wd_1780 hE), (wd_95 hE)⟩ ⟨PR.blind, r_recv hK hP rfl, (r_pre (av := [.ref (b 0), .int x]) hK hP hJ hE)⟩ rfl rfl hl.1 rfl (lv_room (Nat.le_of_ble_eq_true rfl)) dX12_holds_19 ⟨Nat.le_of_ble_eq_true rfl, Nat.le_of_ble_eq_true rfl⟩) (fun r6 u6 H locs hpo6 hP hS => ?_)
    obtain ⟨hr6, hq6⟩ := hpo6
    have hA7 := (hq6.1 1 (by decide)).trans hA1
    have hfr := FR.step hfr hq6 (by decide) (fun _ h => absurd h List.not_mem_nil) (fun h => rfl)
    rcases hr6 with ⟨rfl, hb6⟩ | ⟨rfl, hb6⟩ | ⟨rfl, hb6⟩
    · obtain ⟨n6, hbe6_1, hb6⟩ := hb6
      subst hbe6_1
      have hti8 := nI_toInt (n := n6) (by omega)
      refine lv_istore_n (lv' := [(3, .int 0), (0, .ref (b 0)), (1, .int (nI n6)), (2, .int (nI nx3))]) hx hb dX12_holds_22 rfl hl (by decide) rfl (fun ls hl => ?_)
      refine lv_iload_n hx hb dX12_holds_23 rfl (lv_at hl 0 rfl) ?_
      refine lv_if_le (tgt := 34) hx hb dX12_holds_24 (by decide) (fun c9 => ?_) (fun c9 => absurd c9 (by decide))
      refine lv_aload_n hx hb dX12_holds_34 rfl (lv_at hl 1 rfl) ?_
      refine lv_iload_n hx hb dX12_holds_35 rfl (lv_at hl 2 rfl) ?_
      refine lv_aload_n hx hb dX12_holds_36 rfl (lv_at hl 1 rfl) ?_
      refine r_get (v := .ref (b 2)) hx hb (ly_X12 hE) hown hK hP rfl 4 (by decide) (wd_1385 hE) (fun _ h9 => h9) rfl dX12_holds_37 ?_
      refine lv_iconst (v := 0) hx hb dX12_holds_40 (by decide) ?_
      refine r_aald (j := 2) (k := 0) (n := 10) (t0 := 4) (j2 := 3) hx hb hK hP (by decide) rfl rfl (by decide) (by decide) rfl dX12_holds_41 ?_
      obtain ⟨g10, hg10⟩ : ∃ g, rA u6 3 = g := ⟨_, rfl⟩
      refine rc_v hAL hS hA (va_runV (As := [.int (nI n6), .ref (b 3)]) (rest := []) ⟨hx, hb, hml, hown, noTs⟩ (r_X12_coreOf l dC dI H.size cs b u6 a hA7 n6 3 (by decide) g10 hg10 (by first | assumption | omega | rfl | (congr 1; omega)) (by first | assumption | omega | rfl | (congr 1; omega)) (by first | assumption | omega | rfl | (congr 1; omega)) (by first | assumption | omega | rfl | (congr 1; omega))) ⟨cbE 2 (wd_1733 hE) (wd_126 hE) (wd_1730 hE) rfl rfl (by decide +kernel) ⟨Nat.le_of_ble_eq_true rfl, Nat.le_of_ble_eq_true rfl⟩, (wd_1732 hE), (wd_92 hE)⟩ ⟨PR.blind, r_recv hK hP rfl, (r_pre (av := [.ref (b 0), .int (nI n6), .ref (b 3)]) hK hP hJ hE)⟩ rfl rfl hl.1 rfl (lv_room (Nat.le_of_ble_eq_true rfl)) dX12_holds_42 ⟨Nat.le_of_ble_eq_true rfl, Nat.le_of_ble_eq_true rfl⟩) (fun u11 H locs hpo11 hP hS => ?_)
      obtain ⟨h11_0, h11_1, h11_2, h11_3, hq11⟩ := hpo11
      obtain ⟨w12, hA12⟩ : ∃ g, rA u11 3 = g := ⟨_, rfl⟩
      rw [hA12] at h11_0 h11_1 h11_2 h11_3
      have hA13 := (hq11.1 1 (by decide)).trans hA7
      have hfr := FR.step hfr hq11 (by decide) (by decide) (fun h => rfl)
      have hl11_0 := pg_le h11_0
      have LGA := h11_1
      have hbo := gg_od hG (pg_le h11_0).1
      refine lv_aload_n hx hb dX12_holds_45 rfl (lv_at hl 1 rfl) ?_
      refine r_get (v := .ref (b 2)) hx hb (ly_X12 hE) hown hK hP rfl 4 (by decide) (wd_1385 hE) (fun _ h9 => h9) rfl dX12_holds_46 ?_
      refine lv_iconst (v := 0) hx hb dX12_holds_49 (by decide) ?_
      refine r_aald (j := 2) (k := 0) (n := 10) (t0 := 4) (j2 := 3) hx hb hK hP (by decide) rfl rfl (by decide) (by decide) rfl dX12_holds_50 ?_
      refine lv_iconst (v := 1) hx hb dX12_holds_51 (by decide) ?_
      refine r_iald (j := 3) (k := 1) (n := 200) (x := nI (rn w12)) hx hb hK hP (by decide) rfl (by decide) (by decide) (by rw [hA12]; exact pg_n h11_0) dX12_holds_52 ?_
      refine lv_if_le (tgt := 65) hx hb dX12_holds_53 (by decide) (fun c15 => ?_) (fun c15 => ?_)
      · have c15 := (b_le (nI_toInt (n := rn w12) (by omega)) (show Int32.toInt 0 = 0 from rfl)).mp c15
        refine lv_aload_n hx hb dX12_holds_65 rfl (lv_at hl 1 rfl) ?_
        refine lv_aload_n hx hb dX12_holds_66 rfl (lv_at hl 1 rfl) ?_
        refine lv_aload_n hx hb dX12_holds_67 rfl (lv_at hl 1 rfl) ?_
        refine r_get (v := .ref (b 2)) hx hb (ly_X12 hE) hown hK hP rfl 4 (by decide) (wd_1385 hE) (fun _ h9 => h9) rfl dX12_holds_68 ?_
        refine lv_iconst (v := 0) hx hb dX12_holds_71 (by decide) ?_
        refine r_aald (j := 2) (k := 0) (n := 10) (t0 := 4) (j2 := 3) hx hb hK hP (by decide) rfl rfl (by decide) (by decide) rfl dX12_holds_72 ?_
        refine lv_iconst (v := 0) hx hb dX12_holds_73 (by decide) ?_
        refine r_iald (j := 3) (k := 0) (n := 200) (x := nI (rb w12)) hx hb hK hP (by decide) rfl (by decide) (by decide) (by rw [hA12]; exact pg_b h11_0) dX12_holds_74 ?_
        refine lv_aload_n hx hb dX12_holds_75 rfl (lv_at hl 1 rfl) ?_
        refine r_get (v := .ref (b 2)) hx hb (ly_X12 hE) hown hK hP rfl 4 (by decide) (wd_1385 hE) (fun _ h9 => h9) rfl dX12_holds_76 ?_
        refine lv_iconst (v := 0) hx hb dX12_holds_79 (by decide) ?_
        refine r_aald (j := 2) (k := 0) (n := 10) (t0 := 4) (j2 := 3) hx hb hK hP (by decide) rfl rfl (by decide) (by decide) rfl dX12_holds_80 ?_
        refine lv_iconst (v := 0) hx hb dX12_holds_81 (by decide) ?_
        refine vp_callSi (va_Run.run (va_runS (As := [.ref (b 3), .int (nI 0)]) (rest := [.int (nI (rb w12)), .ref (b 0), .ref (b 0)]) ⟨hx, hb, hml, hown, noTs⟩ (r_X12_number l dC dI H.size cs b u11 a hA13 3 (by decide) w12 hA12 0 (by first | assumption | omega | rfl | (congr 1; omega))) ⟨cbE 2 (wd_1664 hE) (wd_126 hE) (wd_1662 hE) rfl rfl (by decide +kernel) ⟨Nat.le_of_ble_eq_true rfl, Nat.le_of_ble_eq_true rfl⟩, (wd_1663 hE)⟩ ⟨PR.blind, (r_pre (av := [.ref (b 3), .int (nI 0)]) hK hP hJ hE)⟩ rfl rfl hl.1 rfl (lv_room (Nat.le_of_ble_eq_true rfl)) dX12_holds_82 ⟨Nat.le_of_ble_eq_true rfl, Nat.le_of_ble_eq_true rfl⟩)) (fun r17 hr17 => ?_)
        have hln := lg_num LGA (by omega)
        rw [← (show r17 = w12 2 from hr17)] at hln
        obtain ⟨nx18, hi18, hj18⟩ := z_ex (x := r17) (n := od a (rb w12)) (by omega) (by omega)
        subst hi18
        have hti19 := nI_toInt (n := nx18) (by omega)
        refine lv_iload_n hx hb dX12_holds_85 rfl (lv_at hl 3 rfl) ?_
        refine rc_l hAL hS hA (va_runV (As := [.int (nI (rb w12)), .int (nI nx18), .int (nI nx3)]) (rest := [.ref (b 0)]) ⟨hx, hb, hml, hown, noTs⟩ (r_X12_held0 l dC dI H.size cs b u11 a hA13 (rb w12) nx18 nx3 (by first | assumption | omega | rfl | (congr 1; omega)) (by first | assumption | omega | rfl | (congr 1; omega)) (by first | assumption | omega | rfl | (congr 1; omega)) (by first | assumption | omega | rfl | (congr 1; omega))) ⟨cbE 3 (wd_1888 hE) (wd_126 hE) (wd_1885 hE) rfl rfl (by decide +kernel) ⟨Nat.le_of_ble_eq_true rfl, Nat.le_of_ble_eq_true rfl⟩, (wd_1887 hE), (wd_106 hE)⟩ ⟨PR.blind, r_recv hK hP rfl, (r_pre (av := [.ref (b 0), .int (nI (rb w12)), .int (nI nx18), .int (nI nx3)]) hK hP hJ hE)⟩ rfl rfl hl.1 rfl (lv_room (Nat.le_of_ble_eq_true rfl)) dX12_holds_86 ⟨Nat.le_of_ble_eq_true rfl, Nat.le_of_ble_eq_true rfl⟩) (fun r20 u20 H locs hpo20 hP hS => ?_)
        obtain ⟨hr20, hq20⟩ := hpo20
        have hA21 := (hq20.1 1 List.not_mem_nil).trans hA13
        have hA22 := (hq20.1 3 List.not_mem_nil).trans hA12
        have hfr := FR.step hfr hq20 (fun _ h => absurd h List.not_mem_nil) (fun _ h => absurd h List.not_mem_nil) (fun h => h)
        refine rc_l hAL hS hA (va_runV (As := [.long r20]) (rest := []) ⟨hx, hb, hml, hown, noTs⟩ (r_X12_gives_ l dC dI H.size cs b u20 a hA21 r20) ⟨cbE 1 (wd_1905 hE) (wd_126 hE) (wd_1902 hE) rfl rfl (by decide +kernel) ⟨Nat.le_of_ble_eq_true rfl, Nat.le_of_ble_eq_true rfl⟩, (wd_1904 hE), (wd_109 hE)⟩ ⟨PR.blind, r_recv hK hP rfl, (r_pre (av := [.ref (b 0), .long r20]) hK hP hJ hE)⟩ rfl rfl hl.1 rfl (lv_room (Nat.le_of_ble_eq_true rfl)) dX12_holds_89 ⟨Nat.le_of_ble_eq_true rfl, Nat.le_of_ble_eq_true rfl⟩) (fun r23 u23 H locs hpo23 hP hS => ?_)
        obtain ⟨hr23, hq23⟩ := hpo23
        have hA24 := (hq23.1 1 List.not_mem_nil).trans hA21
        have hA25 := (hq23.1 3 List.not_mem_nil).trans hA22
        have hfr := FR.step hfr hq23 (fun _ h => absurd h List.not_mem_nil) (by decide) (fun h => rfl)
        refine W.eq (g2 := F0 m 92 ls [.long r20]) (by rw [hr23]) ?_
        exact W.lret (v := r20) hx hb hr (fun t ht hW => ⟨⟨r20, u23, rfl, ⟨trivial, hfr⟩, (show va_P (dC, dI) vwCl (rW cs b u23) t.heap by rw [ht]; exact hP)⟩, hS.F ht⟩) hS.2.2 dX12_holds_92
      · have c15 := mt (b_le (nI_toInt (n := rn w12) (by omega)) (show Int32.toInt 0 = 0 from rfl)).mpr c15
        refine lv_aload_n hx hb dX12_holds_56 rfl (lv_at hl 1 rfl) ?_
        refine lv_iconst (v := 5) hx hb dX12_holds_57 (by decide) ?_
        refine rc_i hAL hS hA (va_runV (As := [.int 5]) (rest := []) ⟨hx, hb, hml, hown, noTs⟩ (r_X12_refuse l dC dI H.size cs b u11 a hA13 5) ⟨cbE 1 (wd_1498 hE) (wd_126 hE) (wd_1495 hE) rfl rfl (by decide +kernel) ⟨Nat.le_of_ble_eq_true rfl, Nat.le_of_ble_eq_true rfl⟩, (wd_1497 hE), (wd_54 hE)⟩ ⟨PR.blind, r_recv hK hP rfl, (r_pre (av := [.ref (b 0), .int 5]) hK hP hJ hE)⟩ rfl rfl hl.1 rfl (lv_room (Nat.le_of_ble_eq_true rfl)) dX12_holds_58 ⟨Nat.le_of_ble_eq_true rfl, Nat.le_of_ble_eq_true rfl⟩) (fun r26 u26 H locs hpo26 hP hS => ?_)
        obtain ⟨hr26, hq26⟩ := hpo26
        have hA27 := (hq26.1 1 List.not_mem_nil).trans hA13
        have hA28 := (hq26.1 3 List.not_mem_nil).trans hA12
        have hfr := FR.step hfr hq26 (fun _ h => absurd h List.not_mem_nil) (by decide) (fun h => rfl)
        subst hr26
        refine lv_i2l hx hb dX12_holds_61 rfl ?_
        refine lv_topl (fun x29 ex29 => ?_)
        refine lv_goto (tgt := 92) hx hb dX12_holds_62 (by decide) ?_
        exact W.lret (v := x29) hx hb hr (fun t ht hW => ⟨⟨x29, u26, rfl, ⟨trivial, hfr⟩, (show va_P (dC, dI) vwCl (rW cs b u26) t.heap by rw [ht]; exact hP)⟩, hS.F ht⟩) hS.2.2 dX12_holds_92
    · refine lv_istore_n (lv' := [(3, .int 2), (0, .ref (b 0)), (1, .int x), (2, .int (nI nx3))]) hx hb dX12_holds_22 rfl hl (by decide) rfl (fun ls hl => ?_)
      refine lv_iload_n hx hb dX12_holds_23 rfl (lv_at hl 0 rfl) ?_
      refine lv_if_le (tgt := 34) hx hb dX12_holds_24 (by decide) (fun c30 => absurd c30 (by decide)) (fun c30 => ?_)
      refine lv_aload_n hx hb dX12_holds_27 rfl (lv_at hl 1 rfl) ?_
      refine lv_iload_n hx hb dX12_holds_28 rfl (lv_at hl 0 rfl) ?_
      refine rc_i hAL hS hA (va_runV (As := [.int 2]) (rest := []) ⟨hx, hb, hml, hown, noTs⟩ (r_X12_refuse l dC dI H.size cs b u6 a hA7 2) ⟨cbE 1 (wd_1498 hE) (wd_126 hE) (wd_1495 hE) rfl rfl (by decide +kernel) ⟨Nat.le_of_ble_eq_true rfl, Nat.le_of_ble_eq_true rfl⟩, (wd_1497 hE), (wd_54 hE)⟩ ⟨PR.blind, r_recv hK hP rfl, (r_pre (av := [.ref (b 0), .int 2]) hK hP hJ hE)⟩ rfl rfl hl.1 rfl (lv_room (Nat.le_of_ble_eq_true rfl)) dX12_holds_29 ⟨Nat.le_of_ble_eq_true rfl, Nat.le_of_ble_eq_true rfl⟩) (fun r31 u31 H locs hpo31 hP hS => ?_)
      obtain ⟨hr31, hq31⟩ := hpo31
      have hA32 := (hq31.1 1 List.not_mem_nil).trans hA7
      have hfr := FR.step hfr hq31 (fun _ h => absurd h List.not_mem_nil) (by decide) (fun h => rfl)
      subst hr31
      refine lv_i2l hx hb dX12_holds_32 rfl ?_
      refine lv_topl (fun x33 ex33 => ?_)
      exact W.lret (v := x33) hx hb hr (fun t ht hW => ⟨⟨x33, u31, rfl, ⟨trivial, hfr⟩, (show va_P (dC, dI) vwCl (rW cs b u31) t.heap by rw [ht]; exact hP)⟩, hS.F ht⟩) hS.2.2 dX12_holds_33
    · refine lv_istore_n (lv' := [(3, .int 4), (0, .ref (b 0)), (1, .int x), (2, .int (nI nx3))]) hx hb dX12_holds_22 rfl hl (by decide) rfl (fun ls hl => ?_)
      refine lv_iload_n hx hb dX12_holds_23 rfl (lv_at hl 0 rfl) ?_
      refine lv_if_le (tgt := 34) hx hb dX12_holds_24 (by decide) (fun c34 => absurd c34 (by decide)) (fun c34 => ?_)
      refine lv_aload_n hx hb dX12_holds_27 rfl (lv_at hl 1 rfl) ?_
      refine lv_iload_n hx hb dX12_holds_28 rfl (lv_at hl 0 rfl) ?_
      refine rc_i hAL hS hA (va_runV (As := [.int 4]) (rest := []) ⟨hx, hb, hml, hown, noTs⟩ (r_X12_refuse l dC dI H.size cs b u6 a hA7 4) ⟨cbE 1 (wd_1498 hE) (wd_126 hE) (wd_1495 hE) rfl rfl (by decide +kernel) ⟨Nat.le_of_ble_eq_true rfl, Nat.le_of_ble_eq_true rfl⟩, (wd_1497 hE), (wd_54 hE)⟩ ⟨PR.blind, r_recv hK hP rfl, (r_pre (av := [.ref (b 0), .int 4]) hK hP hJ hE)⟩ rfl rfl hl.1 rfl (lv_room (Nat.le_of_ble_eq_true rfl)) dX12_holds_29 ⟨Nat.le_of_ble_eq_true rfl, Nat.le_of_ble_eq_true rfl⟩) (fun r35 u35 H locs hpo35 hP hS => ?_)
      obtain ⟨hr35, hq35⟩ := hpo35
      have hA36 := (hq35.1 1 List.not_mem_nil).trans hA7
      have hfr := FR.step hfr hq35 (fun _ h => absurd h List.not_mem_nil) (by decide) (fun h => rfl)
      subst hr35
      refine lv_i2l hx hb dX12_holds_32 rfl ?_
      refine lv_topl (fun x37 ex37 => ?_)
      exact W.lret (v := x37) hx hb hr (fun t ht hW => ⟨⟨x37, u35, rfl, ⟨trivial, hfr⟩, (show va_P (dC, dI) vwCl (rW cs b u35) t.heap by rw [ht]; exact hP)⟩, hS.F ht⟩) hS.2.2 dX12_holds_33
  · refine lv_if_ne (tgt := 17) hx hb dX12_holds_7 (by decide) (fun c38 => absurd c38 (by decide)) (fun c38 => ?_)
    refine lv_aload_n hx hb dX12_holds_10 rfl (lv_at hl 0 rfl) ?_
    refine lv_iconst (v := 1) hx hb dX12_holds_11 (by decide) ?_
    refine rc_i hAL hS hA (va_runV (As := [.int 1]) (rest := []) ⟨hx, hb, hml, hown, noTs⟩ (r_X12_refuse l dC dI s.heap.size cs b u a hA1 1) ⟨cbE 1 (wd_1498 hE) (wd_126 hE) (wd_1495 hE) rfl rfl (by decide +kernel) ⟨Nat.le_of_ble_eq_true rfl, Nat.le_of_ble_eq_true rfl⟩, (wd_1497 hE), (wd_54 hE)⟩ ⟨PR.blind, r_recv hK hP rfl, (r_pre (av := [.ref (b 0), .int 1]) hK hP hJ hE)⟩ rfl rfl hl.1 rfl (lv_room (Nat.le_of_ble_eq_true rfl)) dX12_holds_12 ⟨Nat.le_of_ble_eq_true rfl, Nat.le_of_ble_eq_true rfl⟩) (fun r39 u39 H locs hpo39 hP hS => ?_)
    obtain ⟨hr39, hq39⟩ := hpo39
    have hA40 := (hq39.1 1 List.not_mem_nil).trans hA1
    have hfr := FR.step hfr hq39 (fun _ h => absurd h List.not_mem_nil) (by decide) (fun h => rfl)
    subst hr39
    refine lv_i2l hx hb dX12_holds_15 rfl ?_
    refine lv_topl (fun x41 ex41 => ?_)
    exact W.lret (v := x41) hx hb hr (fun t ht hW => ⟨⟨x41, u39, rfl, ⟨trivial, hfr⟩, (show va_P (dC, dI) vwCl (rW cs b u39) t.heap by rw [ht]; exact hP)⟩, hS.F ht⟩) hS.2.2 dX12_holds_16

set_option maxHeartbeats 4000000 in
set_option maxRecDepth 100000 in
theorem r_X12_ball (l : Launch) (dC : Nat → ClassId) (dI : Nat → Nat → Nat) (sz : Nat) (cs : Nat → ClassId) (b : Nat → Nat) (u : RS) (a : Nat → Int32) (hA1 : rA u 1 = a) (x : Int32) (y : Int32) (hp0 : BG a) : Met l yX12_ball [.code yX12_ball cX12_ball 3 (some .long)] ({ frames := 23, cells := 0, slots := 0, locals := 920 }) (PR [.ref (b 0), .int x, .int y] sz dC dI cs b u) (va_Ql (fun (r : Int64) (u' : RS) => (True) ∧ FR [3, 4, 5, 6, 7, 8, 9, 10, 11, 12, 13, 14, 17, 18, 19, 20] [1, 5, 21, 22] true u u') (BR dC dI cs b) (AR b sz)) 0 0 (AR b sz) := by
  refine Met.ofW (cc := cX12_ball) (maxL := 3) (ret := (some .long)) (by decide) rfl ?_
  intro p e s m args below meth c s₁ B hml hv
  obtain ⟨rfl, hsz, hP, hK, hJ, hE⟩ := hv
  have hx := B.exec
  have hb := B.bytes
  have hr := B.returns
  have hown : s.vm.findClass RX12 = some m.cls := findClass_of_methodNamed B.named
  have hlocks := B.notSynchronized
  subst hsz
  have hAL : ∀ i, i < 108 → AR b s.heap.size (b i) := fun i h => Or.inl ⟨i, h, rfl⟩
  have hA : ∀ q : Nat, s.heap.size ≤ q → AR b s.heap.size q := fun q h => Or.inr h
  have hS : va_S (AR b s.heap.size) s.heap s.heap [] := va_S.rf
  have hfr : FR [3, 4, 5, 6, 7, 8, 9, 10, 11, 12, 13, 14, 17, 18, 19, 20] [1, 5, 21, 22] true u u := FR.refl
  have hl := lv_entry ([.ref (b 0), .int x, .int y]) (n := 3) (Nat.le_of_ble_eq_true rfl)
  rw [lg_entry_eq]
  generalize (lg_sl ([.ref (b 0), .int x, .int y]) ++ List.replicate (3 - (lg_sl ([.ref (b 0), .int x, .int y])).length) Slot.unset).toArray = ls at hl ⊢
  have hl : lv_has ls 3 [(0, .ref (b 0)), (1, .int x), (2, .int y)] := hl
  have hB := hp0
  have hG := bg_g hp0
  have ha1 := gg_le hG
  have ha1b := bg_w hp0
  refine lv_iload_n hx hb dX12_ball_0 rfl (lv_at hl 2 rfl) ?_
  refine lv_iconst (v := 0) hx hb dX12_ball_1 (by decide) ?_
  refine lv_bipush (v := 12) hx hb dX12_ball_2 (by decide) ?_
  refine vp_callSi (va_Run.run (va_runS (As := [.int y, .int 0, .int 12]) (rest := []) ⟨hx, hb, hml, hown, noTs⟩ (r_X12_isFrom l dC dI s.heap.size cs b u a hA1 y 0 12 ((0 : Int)) ((12 : Int)) (show Int32.toInt 0 = 0 from rfl) (show Int32.toInt 12 = 12 from rfl)) ⟨cbE 3 (wd_1494 hE) (wd_126 hE) (wd_1492 hE) rfl rfl (by decide +kernel) ⟨Nat.le_of_ble_eq_true rfl, Nat.le_of_ble_eq_true rfl⟩, (wd_1493 hE)⟩ ⟨PR.blind, (r_pre (av := [.int y, .int 0, .int 12]) hK hP hJ hE)⟩ rfl rfl hl.1 rfl (lv_room (Nat.le_of_ble_eq_true rfl)) dX12_ball_4 ⟨Nat.le_of_ble_eq_true rfl, Nat.le_of_ble_eq_true rfl⟩)) (fun r2 hr2 => ?_)
  rcases hr2 with ⟨rfl, hb2⟩ | ⟨rfl, hb2⟩
  · obtain ⟨nx3, hi3, hj3⟩ := z_ex (x := y) (n := 13) (by omega) (by omega)
    subst hi3
    have hti4 := nI_toInt (n := nx3) (by omega)
    refine lv_if_ne (tgt := 17) hx hb dX12_ball_7 (by decide) (fun c5 => ?_) (fun c5 => absurd c5 (by decide))
    refine lv_aload_n hx hb dX12_ball_17 rfl (lv_at hl 0 rfl) ?_
    refine lv_iload_n hx hb dX12_ball_18 rfl (lv_at hl 1 rfl) ?_
    refine vp_callSi (va_Run.run (va_runV (As := [.int x]) (rest := []) ⟨hx, hb, hml, hown, noTs⟩ (r_X12_isVertex l dC dI s.heap.size cs b u a hA1 x (by first | assumption | omega | rfl | (congr 1; omega))) ⟨cbE 1 (wd_1560 hE) (wd_126 hE) (wd_1557 hE) rfl rfl (by decide +kernel) ⟨Nat.le_of_ble_eq_true rfl, Nat.le_of_ble_eq_true rfl⟩, (wd_1559 hE), (wd_67 hE)⟩ ⟨PR.blind, r_recv hK hP rfl, (r_pre (av := [.ref (b 0), .int x]) hK hP hJ hE)⟩ rfl rfl hl.1 rfl (lv_room (Nat.le_of_ble_eq_true rfl)) dX12_ball_19 ⟨Nat.le_of_ble_eq_true rfl, Nat.le_of_ble_eq_true rfl⟩)) (fun r6 hr6 => ?_)
    rcases hr6 with ⟨rfl, hb6⟩ | ⟨rfl, hb6⟩
    · obtain ⟨n6, hbe6_1, hb6⟩ := hb6
      subst hbe6_1
      have hti7 := nI_toInt (n := n6) (by omega)
      refine lv_if_eq (tgt := 39) hx hb dX12_ball_22 (by decide) (fun c8 => absurd c8 (by decide)) (fun c8 => ?_)
      refine lv_aload_n hx hb dX12_ball_25 rfl (lv_at hl 0 rfl) ?_
      refine lv_aload_n hx hb dX12_ball_26 rfl (lv_at hl 0 rfl) ?_
      refine lv_iload_n hx hb dX12_ball_27 rfl (lv_at hl 1 rfl) ?_
      refine lv_iconst (v := 0) hx hb dX12_ball_28 (by decide) ?_
      refine lv_iload_n hx hb dX12_ball_29 rfl (lv_at hl 2 rfl) ?_
      refine rc_l hAL hS hA (va_runV (As := [.int (nI n6), .int (nI 0), .int (nI nx3)]) (rest := [.ref (b 0)]) ⟨hx, hb, hml, hown, noTs⟩ (r_X12_held0 l dC dI s.heap.size cs b u a hA1 n6 0 nx3 (by first | assumption | omega | rfl | (congr 1; omega)) (by first | assumption | omega | rfl | (congr 1; omega)) (by have hvo := gg_od hG (v := n6) (by omega); omega) (by first | assumption | omega | rfl | (congr 1; omega))) ⟨cbE 3 (wd_1888 hE) (wd_126 hE) (wd_1885 hE) rfl rfl (by decide +kernel) ⟨Nat.le_of_ble_eq_true rfl, Nat.le_of_ble_eq_true rfl⟩, (wd_1887 hE), (wd_106 hE)⟩ ⟨PR.blind, r_recv hK hP rfl, (r_pre (av := [.ref (b 0), .int (nI n6), .int (nI 0), .int (nI nx3)]) hK hP hJ hE)⟩ rfl rfl hl.1 rfl (lv_room (Nat.le_of_ble_eq_true rfl)) dX12_ball_30 ⟨Nat.le_of_ble_eq_true rfl, Nat.le_of_ble_eq_true rfl⟩) (fun r9 u9 H locs hpo9 hP hS => ?_)
      obtain ⟨hr9, hq9⟩ := hpo9
      have hA10 := (hq9.1 1 List.not_mem_nil).trans hA1
      have hfr := FR.step hfr hq9 (fun _ h => absurd h List.not_mem_nil) (fun _ h => absurd h List.not_mem_nil) (fun h => h)
      refine rc_l hAL hS hA (va_runV (As := [.long r9]) (rest := []) ⟨hx, hb, hml, hown, noTs⟩ (r_X12_gives_ l dC dI H.size cs b u9 a hA10 r9) ⟨cbE 1 (wd_1905 hE) (wd_126 hE) (wd_1902 hE) rfl rfl (by decide +kernel) ⟨Nat.le_of_ble_eq_true rfl, Nat.le_of_ble_eq_true rfl⟩, (wd_1904 hE), (wd_109 hE)⟩ ⟨PR.blind, r_recv hK hP rfl, (r_pre (av := [.ref (b 0), .long r9]) hK hP hJ hE)⟩ rfl rfl hl.1 rfl (lv_room (Nat.le_of_ble_eq_true rfl)) dX12_ball_33 ⟨Nat.le_of_ble_eq_true rfl, Nat.le_of_ble_eq_true rfl⟩) (fun r11 u11 H locs hpo11 hP hS => ?_)
      obtain ⟨hr11, hq11⟩ := hpo11
      have hA12 := (hq11.1 1 List.not_mem_nil).trans hA10
      have hfr := FR.step hfr hq11 (fun _ h => absurd h List.not_mem_nil) (by decide) (fun h => rfl)
      refine W.eq (g2 := F0 m 36 ls [.long r9]) (by rw [hr11]) ?_
      refine lv_goto (tgt := 45) hx hb dX12_ball_36 (by decide) ?_
      exact W.lret (v := r9) hx hb hr (fun t ht hW => ⟨⟨r9, u11, rfl, ⟨trivial, hfr⟩, (show va_P (dC, dI) vwCl (rW cs b u11) t.heap by rw [ht]; exact hP)⟩, hS.F ht⟩) hS.2.2 dX12_ball_45
    · refine lv_if_eq (tgt := 39) hx hb dX12_ball_22 (by decide) (fun c13 => ?_) (fun c13 => absurd c13 (by decide))
      refine lv_aload_n hx hb dX12_ball_39 rfl (lv_at hl 0 rfl) ?_
      refine lv_iconst (v := 2) hx hb dX12_ball_40 (by decide) ?_
      refine rc_i hAL hS hA (va_runV (As := [.int 2]) (rest := []) ⟨hx, hb, hml, hown, noTs⟩ (r_X12_refuse l dC dI s.heap.size cs b u a hA1 2) ⟨cbE 1 (wd_1498 hE) (wd_126 hE) (wd_1495 hE) rfl rfl (by decide +kernel) ⟨Nat.le_of_ble_eq_true rfl, Nat.le_of_ble_eq_true rfl⟩, (wd_1497 hE), (wd_54 hE)⟩ ⟨PR.blind, r_recv hK hP rfl, (r_pre (av := [.ref (b 0), .int 2]) hK hP hJ hE)⟩ rfl rfl hl.1 rfl (lv_room (Nat.le_of_ble_eq_true rfl)) dX12_ball_41 ⟨Nat.le_of_ble_eq_true rfl, Nat.le_of_ble_eq_true rfl⟩) (fun r14 u14 H locs hpo14 hP hS => ?_)
      obtain ⟨hr14, hq14⟩ := hpo14
      have hA15 := (hq14.1 1 List.not_mem_nil).trans hA1
      have hfr := FR.step hfr hq14 (fun _ h => absurd h List.not_mem_nil) (by decide) (fun h => rfl)
      subst hr14
      refine lv_i2l hx hb dX12_ball_44 rfl ?_
      refine lv_topl (fun x16 ex16 => ?_)
      exact W.lret (v := x16) hx hb hr (fun t ht hW => ⟨⟨x16, u14, rfl, ⟨trivial, hfr⟩, (show va_P (dC, dI) vwCl (rW cs b u14) t.heap by rw [ht]; exact hP)⟩, hS.F ht⟩) hS.2.2 dX12_ball_45
  · refine lv_if_ne (tgt := 17) hx hb dX12_ball_7 (by decide) (fun c17 => absurd c17 (by decide)) (fun c17 => ?_)
    refine lv_aload_n hx hb dX12_ball_10 rfl (lv_at hl 0 rfl) ?_
    refine lv_iconst (v := 1) hx hb dX12_ball_11 (by decide) ?_
    refine rc_i hAL hS hA (va_runV (As := [.int 1]) (rest := []) ⟨hx, hb, hml, hown, noTs⟩ (r_X12_refuse l dC dI s.heap.size cs b u a hA1 1) ⟨cbE 1 (wd_1498 hE) (wd_126 hE) (wd_1495 hE) rfl rfl (by decide +kernel) ⟨Nat.le_of_ble_eq_true rfl, Nat.le_of_ble_eq_true rfl⟩, (wd_1497 hE), (wd_54 hE)⟩ ⟨PR.blind, r_recv hK hP rfl, (r_pre (av := [.ref (b 0), .int 1]) hK hP hJ hE)⟩ rfl rfl hl.1 rfl (lv_room (Nat.le_of_ble_eq_true rfl)) dX12_ball_12 ⟨Nat.le_of_ble_eq_true rfl, Nat.le_of_ble_eq_true rfl⟩) (fun r18 u18 H locs hpo18 hP hS => ?_)
    obtain ⟨hr18, hq18⟩ := hpo18
    have hA19 := (hq18.1 1 List.not_mem_nil).trans hA1
    have hfr := FR.step hfr hq18 (fun _ h => absurd h List.not_mem_nil) (by decide) (fun h => rfl)
    subst hr18
    refine lv_i2l hx hb dX12_ball_15 rfl ?_
    refine lv_topl (fun x20 ex20 => ?_)
    exact W.lret (v := x20) hx hb hr (fun t ht hW => ⟨⟨x20, u18, rfl, ⟨trivial, hfr⟩, (show va_P (dC, dI) vwCl (rW cs b u18) t.heap by rw [ht]; exact hP)⟩, hS.F ht⟩) hS.2.2 dX12_ball_16

set_option maxHeartbeats 4000000 in
set_option maxRecDepth 100000 in
theorem r_X12_sphere (l : Launch) (dC : Nat → ClassId) (dI : Nat → Nat → Nat) (sz : Nat) (cs : Nat → ClassId) (b : Nat → Nat) (u : RS) (a : Nat → Int32) (hA1 : rA u 1 = a) (x : Int32) (y : Int32) (hp0 : BG a) : Met l yX12_sphere [.code yX12_sphere cX12_sphere 3 (some .long)] ({ frames := 22, cells := 0, slots := 0, locals := 880 }) (PR [.ref (b 0), .int x, .int y] sz dC dI cs b u) (va_Ql (fun (r : Int64) (u' : RS) => (True) ∧ FR [3, 4, 5, 6, 7, 8, 9, 10, 11, 12, 13, 14, 17, 18, 19, 20] [1, 5, 21, 22] true u u') (BR dC dI cs b) (AR b sz)) 0 0 (AR b sz) := by
  refine Met.ofW (cc := cX12_sphere) (maxL := 3) (ret := (some .long)) (by decide) rfl ?_
  intro p e s m args below meth c s₁ B hml hv
  obtain ⟨rfl, hsz, hP, hK, hJ, hE⟩ := hv
  have hx := B.exec
  have hb := B.bytes
  have hr := B.returns
  have hown : s.vm.findClass RX12 = some m.cls := findClass_of_methodNamed B.named
  have hlocks := B.notSynchronized
  subst hsz
  have hAL : ∀ i, i < 108 → AR b s.heap.size (b i) := fun i h => Or.inl ⟨i, h, rfl⟩
  have hA : ∀ q : Nat, s.heap.size ≤ q → AR b s.heap.size q := fun q h => Or.inr h
  have hS : va_S (AR b s.heap.size) s.heap s.heap [] := va_S.rf
  have hfr : FR [3, 4, 5, 6, 7, 8, 9, 10, 11, 12, 13, 14, 17, 18, 19, 20] [1, 5, 21, 22] true u u := FR.refl
  have hl := lv_entry ([.ref (b 0), .int x, .int y]) (n := 3) (Nat.le_of_ble_eq_true rfl)
  rw [lg_entry_eq]
  generalize (lg_sl ([.ref (b 0), .int x, .int y]) ++ List.replicate (3 - (lg_sl ([.ref (b 0), .int x, .int y])).length) Slot.unset).toArray = ls at hl ⊢
  have hl : lv_has ls 3 [(0, .ref (b 0)), (1, .int x), (2, .int y)] := hl
  have hB := hp0
  have hG := bg_g hp0
  have ha1 := gg_le hG
  have ha1b := bg_w hp0
  refine lv_iload_n hx hb dX12_sphere_0 rfl (lv_at hl 2 rfl) ?_
  refine lv_iconst (v := 0) hx hb dX12_sphere_1 (by decide) ?_
  refine lv_bipush (v := 12) hx hb dX12_sphere_2 (by decide) ?_
  refine vp_callSi (va_Run.run (va_runS (As := [.int y, .int 0, .int 12]) (rest := []) ⟨hx, hb, hml, hown, noTs⟩ (r_X12_isFrom l dC dI s.heap.size cs b u a hA1 y 0 12 ((0 : Int)) ((12 : Int)) (show Int32.toInt 0 = 0 from rfl) (show Int32.toInt 12 = 12 from rfl)) ⟨cbE 3 (wd_1494 hE) (wd_126 hE) (wd_1492 hE) rfl rfl (by decide +kernel) ⟨Nat.le_of_ble_eq_true rfl, Nat.le_of_ble_eq_true rfl⟩, (wd_1493 hE)⟩ ⟨PR.blind, (r_pre (av := [.int y, .int 0, .int 12]) hK hP hJ hE)⟩ rfl rfl hl.1 rfl (lv_room (Nat.le_of_ble_eq_true rfl)) dX12_sphere_4 ⟨Nat.le_of_ble_eq_true rfl, Nat.le_of_ble_eq_true rfl⟩)) (fun r2 hr2 => ?_)
  rcases hr2 with ⟨rfl, hb2⟩ | ⟨rfl, hb2⟩
  · obtain ⟨nx3, hi3, hj3⟩ := z_ex (x := y) (n := 13) (by omega) (by omega)
    subst hi3
    have hti4 := nI_toInt (n := nx3) (by omega)
    refine lv_if_ne (tgt := 17) hx hb dX12_sphere_7 (by decide) (fun c5 => ?_) (fun c5 => absurd c5 (by decide))
    refine lv_aload_n hx hb dX12_sphere_17 rfl (lv_at hl 0 rfl) ?_
    refine lv_iload_n hx hb dX12_sphere_18 rfl (lv_at hl 1 rfl) ?_
    refine vp_callSi (va_Run.run (va_runV (As := [.int x]) (rest := []) ⟨hx, hb, hml, hown, noTs⟩ (r_X12_isVertex l dC dI s.heap.size cs b u a hA1 x (by first | assumption | omega | rfl | (congr 1; omega))) ⟨cbE 1 (wd_1560 hE) (wd_126 hE) (wd_1557 hE) rfl rfl (by decide +kernel) ⟨Nat.le_of_ble_eq_true rfl, Nat.le_of_ble_eq_true rfl⟩, (wd_1559 hE), (wd_67 hE)⟩ ⟨PR.blind, r_recv hK hP rfl, (r_pre (av := [.ref (b 0), .int x]) hK hP hJ hE)⟩ rfl rfl hl.1 rfl (lv_room (Nat.le_of_ble_eq_true rfl)) dX12_sphere_19 ⟨Nat.le_of_ble_eq_true rfl, Nat.le_of_ble_eq_true rfl⟩)) (fun r6 hr6 => ?_)
    rcases hr6 with ⟨rfl, hb6⟩ | ⟨rfl, hb6⟩
    · obtain ⟨n6, hbe6_1, hb6⟩ := hb6
      subst hbe6_1
      have hti7 := nI_toInt (n := n6) (by omega)
      refine lv_if_ne (tgt := 32) hx hb dX12_sphere_22 (by decide) (fun c8 => ?_) (fun c8 => absurd c8 (by decide))
      refine lv_aload_n hx hb dX12_sphere_32 rfl (lv_at hl 0 rfl) ?_
      refine rc_v hAL hS hA (va_runV (As := []) (rest := []) ⟨hx, hb, hml, hown, noTs⟩ (r_X12_forgets l dC dI s.heap.size cs b u) ⟨cbE 0 (wd_1917 hE) (wd_126 hE) (wd_1914 hE) rfl rfl (by decide +kernel) ⟨Nat.le_of_ble_eq_true rfl, Nat.le_of_ble_eq_true rfl⟩, (wd_1916 hE), (wd_110 hE)⟩ ⟨PR.blind, r_recv hK hP rfl, (r_pre (av := [.ref (b 0)]) hK hP hJ hE)⟩ rfl rfl hl.1 rfl (lv_room (Nat.le_of_ble_eq_true rfl)) dX12_sphere_33 ⟨Nat.le_of_ble_eq_true rfl, Nat.le_of_ble_eq_true rfl⟩) (fun u9 H locs hpo9 hP hS => ?_)
      obtain ⟨h9_0, hq9⟩ := hpo9
      have hA10 := (hq9.1 1 List.not_mem_nil).trans hA1
      have hfr := FR.step hfr hq9 (fun _ h => absurd h List.not_mem_nil) (fun _ h => absurd h List.not_mem_nil) (fun h => h)
      have FG := h9_0
      refine lv_aload_n hx hb dX12_sphere_36 rfl (lv_at hl 0 rfl) ?_
      refine lv_aload_n hx hb dX12_sphere_37 rfl (lv_at hl 0 rfl) ?_
      refine lv_iload_n hx hb dX12_sphere_38 rfl (lv_at hl 1 rfl) ?_
      refine lv_iload_n hx hb dX12_sphere_39 rfl (lv_at hl 2 rfl) ?_
      refine lv_iconst (v := -1) hx hb dX12_sphere_40 (by decide) ?_
      refine lv_iload_n hx hb dX12_sphere_41 rfl (lv_at hl 1 rfl) ?_
      refine rc_l hAL hS hA (va_runV (As := [.int (nI n6), .int (nI nx3), .int (-1), .int (nI n6)]) (rest := [.ref (b 0)]) ⟨hx, hb, hml, hown, noTs⟩ (r_X12_homes l dC dI 13 H.size cs b u9 a hA10 n6 nx3 (-1) n6 0 (by first | assumption | omega | rfl | (congr 1; omega)) (by first | assumption | omega | rfl | (congr 1; omega)) (by first | assumption | omega | rfl | (congr 1; omega)) ((show Int32.toInt (-1) = -1 from rfl).trans (by omega)) (by first | assumption | omega | rfl | (congr 1; omega)) (by first | assumption | omega | rfl | (congr 1; omega)) (by exact fun v k q h1 h2 h3 => Or.inl (FG v k q h1 h2 h3)) (by omega)) ⟨cbE 4 (wd_1921 hE) (wd_126 hE) (wd_1918 hE) rfl rfl (by decide +kernel) ⟨Nat.le_of_ble_eq_true rfl, Nat.le_of_ble_eq_true rfl⟩, (wd_1920 hE), (wd_111 hE)⟩ ⟨PR.blind, r_recv hK hP rfl, (r_pre (av := [.ref (b 0), .int (nI n6), .int (nI nx3), .int (-1), .int (nI n6)]) hK hP hJ hE)⟩ rfl rfl hl.1 rfl (lv_room (Nat.le_of_ble_eq_true rfl)) dX12_sphere_42 ⟨Nat.le_of_ble_eq_true rfl, Nat.le_of_ble_eq_true rfl⟩) (fun r11 u11 H locs hpo11 hP hS => ?_)
      obtain ⟨hr11, h11_0, hq11⟩ := hpo11
      have hA12 := (hq11.1 1 List.not_mem_nil).trans hA10
      have hfr := FR.step hfr hq11 (fun _ h => absurd h List.not_mem_nil) (fun _ h => absurd h List.not_mem_nil) (fun h => h)
      subst hr11
      refine rc_l hAL hS hA (va_runV (As := [.long (lN (hM a n6 nx3 n6 0))]) (rest := []) ⟨hx, hb, hml, hown, noTs⟩ (r_X12_gives_ l dC dI H.size cs b u11 a hA12 (lN (hM a n6 nx3 n6 0))) ⟨cbE 1 (wd_1905 hE) (wd_126 hE) (wd_1902 hE) rfl rfl (by decide +kernel) ⟨Nat.le_of_ble_eq_true rfl, Nat.le_of_ble_eq_true rfl⟩, (wd_1904 hE), (wd_109 hE)⟩ ⟨PR.blind, r_recv hK hP rfl, (r_pre (av := [.ref (b 0), .long (lN (hM a n6 nx3 n6 0))]) hK hP hJ hE)⟩ rfl rfl hl.1 rfl (lv_room (Nat.le_of_ble_eq_true rfl)) dX12_sphere_45 ⟨Nat.le_of_ble_eq_true rfl, Nat.le_of_ble_eq_true rfl⟩) (fun r13 u13 H locs hpo13 hP hS => ?_)
      obtain ⟨hr13, hq13⟩ := hpo13
      have hA14 := (hq13.1 1 List.not_mem_nil).trans hA12
      have hfr := FR.step hfr hq13 (fun _ h => absurd h List.not_mem_nil) (by decide) (fun h => rfl)
      refine W.eq (g2 := F0 m 48 ls [.long (lN (hM a n6 nx3 n6 0))]) (by rw [hr13]) ?_
      exact W.lret (v := lN (hM a n6 nx3 n6 0)) hx hb hr (fun t ht hW => ⟨⟨lN (hM a n6 nx3 n6 0), u13, rfl, ⟨trivial, hfr⟩, (show va_P (dC, dI) vwCl (rW cs b u13) t.heap by rw [ht]; exact hP)⟩, hS.F ht⟩) hS.2.2 dX12_sphere_48
    · refine lv_if_ne (tgt := 32) hx hb dX12_sphere_22 (by decide) (fun c15 => absurd c15 (by decide)) (fun c15 => ?_)
      refine lv_aload_n hx hb dX12_sphere_25 rfl (lv_at hl 0 rfl) ?_
      refine lv_iconst (v := 2) hx hb dX12_sphere_26 (by decide) ?_
      refine rc_i hAL hS hA (va_runV (As := [.int 2]) (rest := []) ⟨hx, hb, hml, hown, noTs⟩ (r_X12_refuse l dC dI s.heap.size cs b u a hA1 2) ⟨cbE 1 (wd_1498 hE) (wd_126 hE) (wd_1495 hE) rfl rfl (by decide +kernel) ⟨Nat.le_of_ble_eq_true rfl, Nat.le_of_ble_eq_true rfl⟩, (wd_1497 hE), (wd_54 hE)⟩ ⟨PR.blind, r_recv hK hP rfl, (r_pre (av := [.ref (b 0), .int 2]) hK hP hJ hE)⟩ rfl rfl hl.1 rfl (lv_room (Nat.le_of_ble_eq_true rfl)) dX12_sphere_27 ⟨Nat.le_of_ble_eq_true rfl, Nat.le_of_ble_eq_true rfl⟩) (fun r16 u16 H locs hpo16 hP hS => ?_)
      obtain ⟨hr16, hq16⟩ := hpo16
      have hA17 := (hq16.1 1 List.not_mem_nil).trans hA1
      have hfr := FR.step hfr hq16 (fun _ h => absurd h List.not_mem_nil) (by decide) (fun h => rfl)
      subst hr16
      refine lv_i2l hx hb dX12_sphere_30 rfl ?_
      refine lv_topl (fun x18 ex18 => ?_)
      exact W.lret (v := x18) hx hb hr (fun t ht hW => ⟨⟨x18, u16, rfl, ⟨trivial, hfr⟩, (show va_P (dC, dI) vwCl (rW cs b u16) t.heap by rw [ht]; exact hP)⟩, hS.F ht⟩) hS.2.2 dX12_sphere_31
  · refine lv_if_ne (tgt := 17) hx hb dX12_sphere_7 (by decide) (fun c19 => absurd c19 (by decide)) (fun c19 => ?_)
    refine lv_aload_n hx hb dX12_sphere_10 rfl (lv_at hl 0 rfl) ?_
    refine lv_iconst (v := 1) hx hb dX12_sphere_11 (by decide) ?_
    refine rc_i hAL hS hA (va_runV (As := [.int 1]) (rest := []) ⟨hx, hb, hml, hown, noTs⟩ (r_X12_refuse l dC dI s.heap.size cs b u a hA1 1) ⟨cbE 1 (wd_1498 hE) (wd_126 hE) (wd_1495 hE) rfl rfl (by decide +kernel) ⟨Nat.le_of_ble_eq_true rfl, Nat.le_of_ble_eq_true rfl⟩, (wd_1497 hE), (wd_54 hE)⟩ ⟨PR.blind, r_recv hK hP rfl, (r_pre (av := [.ref (b 0), .int 1]) hK hP hJ hE)⟩ rfl rfl hl.1 rfl (lv_room (Nat.le_of_ble_eq_true rfl)) dX12_sphere_12 ⟨Nat.le_of_ble_eq_true rfl, Nat.le_of_ble_eq_true rfl⟩) (fun r20 u20 H locs hpo20 hP hS => ?_)
    obtain ⟨hr20, hq20⟩ := hpo20
    have hA21 := (hq20.1 1 List.not_mem_nil).trans hA1
    have hfr := FR.step hfr hq20 (fun _ h => absurd h List.not_mem_nil) (by decide) (fun h => rfl)
    subst hr20
    refine lv_i2l hx hb dX12_sphere_15 rfl ?_
    refine lv_topl (fun x22 ex22 => ?_)
    exact W.lret (v := x22) hx hb hr (fun t ht hW => ⟨⟨x22, u20, rfl, ⟨trivial, hfr⟩, (show va_P (dC, dI) vwCl (rW cs b u20) t.heap by rw [ht]; exact hP)⟩, hS.F ht⟩) hS.2.2 dX12_sphere_16

set_option maxHeartbeats 4000000 in
set_option maxRecDepth 100000 in
theorem r_X12_leastAhead (l : Launch) (dC : Nat → ClassId) (dI : Nat → Nat → Nat) (sz : Nat) (cs : Nat → ClassId) (b : Nat → Nat) (u : RS) (sx : Nat) (x : Int32) (cz : Nat) (hp0 : x.toInt = (cz : Int) - 1) (hp1 : cz ≤ 12) (hp2 : sx < 64) : Met l yX12_leastAhead [.code yX12_leastAhead cX12_leastAhead 2 (some .int)] ({ frames := 0, cells := 0, slots := 0, locals := 0 }) (PR [.int (nI sx), .int x] sz dC dI cs b u) (vp_Si (fun (r : Int32) => ∃ k : Nat, r = nI k ∧ k ≤ 1)) 0 0 (fun _ => False) := by
  refine Met.ofW (cc := cX12_leastAhead) (maxL := 2) (ret := (some .int)) (by decide) rfl ?_
  intro p e s m args below meth c s₁ B hml hv
  obtain ⟨rfl, hsz, hP, hK, hJ, hE⟩ := hv
  have hx := B.exec
  have hb := B.bytes
  have hr := B.returns
  have hown : s.vm.findClass RX12 = some m.cls := findClass_of_methodNamed B.named
  have hlocks := B.notSynchronized
  subst hsz
  have hl := lv_entry ([.int (nI sx), .int x]) (n := 2) (Nat.le_of_ble_eq_true rfl)
  rw [lg_entry_eq]
  generalize (lg_sl ([.int (nI sx), .int x]) ++ List.replicate (2 - (lg_sl ([.int (nI sx), .int x])).length) Slot.unset).toArray = ls at hl ⊢
  have hl : lv_has ls 2 [(0, .int (nI sx)), (1, .int x)] := hl
  refine lv_iload_n hx hb dX12_leastAhead_0 rfl (lv_at hl 1 rfl) ?_
  refine lv_if_lt (tgt := 15) hx hb dX12_leastAhead_1 (by decide) (fun c4 => ?_) (fun c4 => ?_)
  · have c4 := (b_lt (rfl : Int32.toInt x = _) (show Int32.toInt 0 = 0 from rfl)).mp c4
    refine lv_iconst (v := 0) hx hb dX12_leastAhead_15 (by decide) ?_
    exact W.iret (v := 0) hx hb hr (fun t ht hW => ⟨0, rfl, ⟨0, rfl, by first | assumption | omega | rfl | (congr 1; omega)⟩, ht⟩) (fun _ h => absurd h List.not_mem_nil) dX12_leastAhead_16
  · have c4 := mt (b_lt (rfl : Int32.toInt x = _) (show Int32.toInt 0 = 0 from rfl)).mpr c4
    have hi5 : x = nI (cz - 1) := z_nat hp0 (by omega)
    subst hi5
    have hti6 := nI_toInt (n := cz - 1) (by omega)
    refine lv_iload_n hx hb dX12_leastAhead_4 rfl (lv_at hl 0 rfl) ?_
    refine lv_iload_n hx hb dX12_leastAhead_5 rfl (lv_at hl 1 rfl) ?_
    refine lv_iconst (v := 1) hx hb dX12_leastAhead_6 (by decide) ?_
    refine lv_ixor hx hb dX12_leastAhead_7 ?_
    refine W.eq (g2 := F0 m 8 ls [.int (nI (fl (cz - 1))), .int (nI sx)]) (congrArg (fun z : Int32 => F0 m 8 ls (.int z :: [.int (nI sx)])) (nI_fl (s := cz - 1) (by omega))) ?_
    have hfa7 := fl_half (cz - 1)
    have hfb7 := fl_mod (cz - 1)
    refine lv_icmp_ne (tgt := 15) hx hb dX12_leastAhead_8 (by decide) (fun c8 => ?_) (fun c8 => ?_)
    · have c8 := mt (b_eq (nI_toInt (n := sx) (by omega)) (nI_toInt (n := fl (cz - 1)) (by omega))).mpr c8
      refine lv_iconst (v := 0) hx hb dX12_leastAhead_15 (by decide) ?_
      exact W.iret (v := 0) hx hb hr (fun t ht hW => ⟨0, rfl, ⟨0, rfl, by first | assumption | omega | rfl | (congr 1; omega)⟩, ht⟩) (fun _ h => absurd h List.not_mem_nil) dX12_leastAhead_16
    · have c8 := (b_eq (nI_toInt (n := sx) (by omega)) (nI_toInt (n := fl (cz - 1)) (by omega))).mp c8
      refine lv_iconst (v := 1) hx hb dX12_leastAhead_11 (by decide) ?_
      refine lv_goto (tgt := 16) hx hb dX12_leastAhead_12 (by decide) ?_
      exact W.iret (v := 1) hx hb hr (fun t ht hW => ⟨1, rfl, ⟨1, rfl, by first | assumption | omega | rfl | (congr 1; omega)⟩, ht⟩) (fun _ h => absurd h List.not_mem_nil) dX12_leastAhead_16
