set_option maxHeartbeats 4000000 in
set_option maxRecDepth 100000 in
theorem r_X12_copies (l : Launch) (dC : Nat → ClassId) (dI : Nat → Nat → Nat) (sz : Nat) (cs : Nat → ClassId) (b : Nat → Nat) (u : RS) (a : Nat → Int32) (hA1 : rA u 1 = a) (f0 : Nat) (t0 : Nat) (hp0 : f0 + 554 ≤ 7202) (hp1 : t0 + 554 ≤ 7202) (hp2 : f0 + 554 ≤ t0 ∨ t0 + 554 ≤ f0) : Met l yX12_copies [.code yX12_copies cX12_copies 4 none] ({ frames := 0, cells := 0, slots := 0, locals := 0 }) (PR [.ref (b 0), .int (nI f0), .int (nI t0)] sz dC dI cs b u) (va_Qv (fun (u' : RS) => (∀ k, k < 554 → (rA u' 1) (t0 + k) = a (f0 + k)) ∧ (∀ k, (k < t0 ∨ t0 + 554 ≤ k) → (rA u' 1) k = a k) ∧ FR [1] [] false u u') (BR dC dI cs b) (AR b sz)) 0 0 (AR b sz) := by
  refine Met.ofW (cc := cX12_copies) (maxL := 4) (ret := none) (by decide) rfl ?_
  intro p e s m args below meth c s₁ B hml hv
  obtain ⟨rfl, hsz, hP, hK, hJ, hE⟩ := hv
  have hx := B.exec
  have hb := B.bytes
  have hr := B.returns
  have hown : s.vm.findClass RX12 = some m.cls := findClass_of_methodNamed B.named
  have hlocks := B.notSynchronized
  subst hsz
  have hAL : ∀ i, i < 108 → AR b s.heap.size (b i) := fun i h => Or.inl ⟨i, h, rfl⟩
  have hA : ∀ q : Nat, s.heap.size ≤ q → AR b s.heap.size q := fun q h => Or.inr h
  have hS : va_S (AR b s.heap.size) s.heap s.heap [] := va_S.rf
  have hfr : FR [1] [] false u u := FR.refl
  have hl := lv_entry ([.ref (b 0), .int (nI f0), .int (nI t0)]) (n := 4) (Nat.le_of_ble_eq_true rfl)
  rw [lg_entry_eq]
  generalize (lg_sl ([.ref (b 0), .int (nI f0), .int (nI t0)]) ++ List.replicate (4 - (lg_sl ([.ref (b 0), .int (nI f0), .int (nI t0)])).length) Slot.unset).toArray = ls at hl ⊢
  have hl : lv_has ls 4 [(0, .ref (b 0)), (1, .int (nI f0)), (2, .int (nI t0))] := hl
  refine lv_iconst (v := 0) hx hb dX12_copies_0 (by decide) ?_
  refine lv_istore_n (lv' := [(3, .int 0), (0, .ref (b 0)), (1, .int (nI f0)), (2, .int (nI t0))]) hx hb dX12_copies_1 rfl hl (by decide) rfl (fun ls hl => ?_)
  refine r_ind (I := fun n u_ H locs ls => va_P (dC, dI) vwCl (rW cs b u_) H ∧ va_S (AR b s.heap.size) s.heap H locs ∧ FR [1] [] false u u_ ∧ ∃ (k_4 : Nat) (g_4 : Nat → Int32), n = 554 - k_4 ∧ (k_4 ≤ 554) ∧ (∀ q, q < k_4 → g_4 (t0 + q) = a (f0 + q)) ∧ (∀ q, (q < t0 ∨ t0 + k_4 ≤ q) → g_4 q = a q) ∧ (rA u_ 1 = g_4) ∧ lv_has ls 4 [(0, .ref (b 0)), (1, .int (nI f0)), (2, .int (nI t0)), (3, .int (nI k_4))]) (fun n u4 H locs ls hI ih4 => ?_) _ u _ _ _ ⟨hP, hS, hfr, 0, a, rfl, (by first | assumption | omega | rfl | (congr 1; omega)), (by intro q hq; omega), (by intro q _; rfl), hA1, lv_sub hl [1, 2, 3, 0] rfl⟩
  obtain ⟨hP, hS, hfr, k_4, g_4, hmu4, hL4_0, hL4_1, hL4_2, hL4_3, hl⟩ := hI
  subst hmu4
  refine lv_iload_n hx hb dX12_copies_2 rfl (lv_at hl 3 rfl) ?_
  refine lv_sipush (v := 554) hx hb dX12_copies_3 (by decide) ?_
  refine lv_icmp_ge (tgt := 31) hx hb dX12_copies_6 (by decide) (fun c5 => ?_) (fun c5 => ?_)
  · have c5 := (b_le (show Int32.toInt 554 = 554 from rfl) (nI_toInt (n := k_4) (by omega))).mp c5
    exact W.vret hx hb hr (fun t ht hW => ⟨⟨u4, rfl, ⟨(by first | (rw [hL4_3]; done) | (rw [hL4_3]; intro k hk; exact hL4_1 k (by omega))), (by first | (rw [hL4_3]; done) | (rw [hL4_3]; intro k hk; exact hL4_2 k (by omega))), hfr⟩, (show va_P (dC, dI) vwCl (rW cs b u4) t.heap by rw [ht]; exact hP)⟩, hS.F ht⟩) hS.2.2 dX12_copies_31
  · have c5 := mt (b_le (show Int32.toInt 554 = 554 from rfl) (nI_toInt (n := k_4) (by omega))).mpr c5
    refine lv_aload_n hx hb dX12_copies_9 rfl (lv_at hl 0 rfl) ?_
    refine r_get (v := .ref (b 1)) hx hb (ly_X12 hE) hown hK hP rfl 0 (by decide) (wd_1381 hE) (fun _ h9 => h9) rfl dX12_copies_10 ?_
    refine lv_iload_n hx hb dX12_copies_13 rfl (lv_at hl 2 rfl) ?_
    refine lv_iload_n hx hb dX12_copies_14 rfl (lv_at hl 3 rfl) ?_
    refine lv_iadd hx hb dX12_copies_15 ?_
    refine W.eq (g2 := F0 m 16 ls [.int (nI (t0 + k_4)), .ref (b 1)]) (congrArg (fun z : Int32 => F0 m 16 ls (.int z :: [.ref (b 1)])) (nI_add t0 k_4)) ?_
    refine lv_aload_n hx hb dX12_copies_16 rfl (lv_at hl 0 rfl) ?_
    refine r_get (v := .ref (b 1)) hx hb (ly_X12 hE) hown hK hP rfl 0 (by decide) (wd_1381 hE) (fun _ h9 => h9) rfl dX12_copies_17 ?_
    refine lv_iload_n hx hb dX12_copies_20 rfl (lv_at hl 1 rfl) ?_
    refine lv_iload_n hx hb dX12_copies_21 rfl (lv_at hl 3 rfl) ?_
    refine lv_iadd hx hb dX12_copies_22 ?_
    refine W.eq (g2 := F0 m 23 ls [.int (nI (f0 + k_4)), .ref (b 1), .int (nI (t0 + k_4)), .ref (b 1)]) (congrArg (fun z : Int32 => F0 m 23 ls (.int z :: [.ref (b 1), .int (nI (t0 + k_4)), .ref (b 1)])) (nI_add f0 k_4)) ?_
    refine r_iald (j := 1) (k := f0 + k_4) (n := 7202) (x := g_4 (f0 + k_4)) hx hb hK hP (by decide) rfl (by omega) (by decide) (by rw [hL4_3]) dX12_copies_23 ?_
    refine lv_topi (fun x7 ex7 => ?_)
    have hv1 := ex7
    refine r_iast (j := 1) (k := t0 + k_4) (n := 7202) (x := x7) hx hb hK hP hJ hAL hS (by decide) (fun _ => rfl) hL4_3 (by omega) (by decide) dX12_copies_24 (fun u8 H locs hs8 hq8 hP hS => ?_)
    obtain ⟨w8, hw8⟩ : ∃ g, g = upd g_4 (t0 + k_4) x7 := ⟨_, rfl⟩
    rw [← hw8] at hs8
    have hfr := FR.step hfr hq8 (by decide) (fun _ h => absurd h List.not_mem_nil) (fun h => rfl)
    have k1 := hw8
    refine lv_iinc (v := nI (k_4 + 1)) (lv' := [(3, .int (nI (k_4 + 1))), (0, .ref (b 0)), (1, .int (nI f0)), (2, .int (nI t0))]) hx hb dX12_copies_25 hl (k := 3) rfl (nI_1 k_4) (by decide) rfl (fun ls hl => ?_)
    refine lv_goto (tgt := 2) hx hb dX12_copies_28 (by decide) ?_
    exact ih4 _ u8 _ _ _ (by omega) ⟨hP, hS, hfr, (k_4 + 1), w8, rfl, (by first | assumption | omega | rfl | (congr 1; omega)), (by exact upd_at (R := fun k => a (f0 + k)) k1 (hv1.trans (hL4_2 _ (by omega))) hL4_1), (by intro q hq; rw [k1, pk_un (by omega)]; exact hL4_2 q (by omega)), hs8, lv_sub hl [1, 2, 3, 0] rfl⟩

set_option maxHeartbeats 4000000 in
set_option maxRecDepth 100000 in
theorem r_X12_acted (l : Launch) (dC : Nat → ClassId) (dI : Nat → Nat → Nat) (sz : Nat) (cs : Nat → ClassId) (b : Nat → Nat) (u : RS) (a : Nat → Int32) (hA1 : rA u 1 = a) (pl : Nat) (ac : Nat) (hF2 : rF u 2 = nI ac) (hp0 : AB a) (hp1 : ac ≤ 8) (hp2 : pl = 0 ∨ pl = 554) : Met l yX12_acted [.code yX12_acted cX12_acted 3 none] ({ frames := 1, cells := 0, slots := 0, locals := 40 }) (PR [.ref (b 0), .int (nI pl)] sz dC dI cs b u) (va_Qv (fun (u' : RS) => (AB (rA u' 1)) ∧ (∀ k, k < 1108 → (rA u' 1) k = a k) ∧ (∃ k : Nat, k ≤ 8 ∧ rF u' 2 = nI k) ∧ FR [1] [2] false u u') (BR dC dI cs b) (AR b sz)) 0 0 (AR b sz) := by
  refine Met.ofW (cc := cX12_acted) (maxL := 3) (ret := none) (by decide) rfl ?_
  intro p e s m args below meth c s₁ B hml hv
  obtain ⟨rfl, hsz, hP, hK, hJ, hE⟩ := hv
  have hx := B.exec
  have hb := B.bytes
  have hr := B.returns
  have hown : s.vm.findClass RX12 = some m.cls := findClass_of_methodNamed B.named
  have hlocks := B.notSynchronized
  subst hsz
  have hAL : ∀ i, i < 108 → AR b s.heap.size (b i) := fun i h => Or.inl ⟨i, h, rfl⟩
  have hA : ∀ q : Nat, s.heap.size ≤ q → AR b s.heap.size q := fun q h => Or.inr h
  have hS : va_S (AR b s.heap.size) s.heap s.heap [] := va_S.rf
  have hfr : FR [1] [2] false u u := FR.refl
  have hl := lv_entry ([.ref (b 0), .int (nI pl)]) (n := 3) (Nat.le_of_ble_eq_true rfl)
  rw [lg_entry_eq]
  generalize (lg_sl ([.ref (b 0), .int (nI pl)]) ++ List.replicate (3 - (lg_sl ([.ref (b 0), .int (nI pl)])).length) Slot.unset).toArray = ls at hl ⊢
  have hl : lv_has ls 3 [(0, .ref (b 0)), (1, .int (nI pl))] := hl
  have hB := ab_0 hp0
  have hG := bg_g hB
  have ha2 := gg_le hG
  have ha2b := bg_w hB
  refine lv_aload_n hx hb dX12_acted_0 rfl (lv_at hl 0 rfl) ?_
  refine r_get (v := .int (nI ac)) hx hb (ly_X12 hE) hown hK hP rfl 2 (by decide) (wd_1383 hE) (fun _ h9 => h9) (congrArg (fun z : Int32 => some (Value.int z)) hF2) dX12_acted_1 ?_
  refine lv_bipush (v := 8) hx hb dX12_acted_4 (by decide) ?_
  refine lv_icmp_ne (tgt := 57) hx hb dX12_acted_6 (by decide) (fun c5 => ?_) (fun c5 => ?_)
  · have c5 := mt (b_eq (nI_toInt (n := ac) (by omega)) (show Int32.toInt 8 = 8 from rfl)).mpr c5
    have a8 : ac < 8 := by omega
    have abg := hp0
    have abo : ∀ k, k < 1108 → a k = a k := fun _ _ => rfl
    refine lv_aload_n hx hb dX12_acted_57 rfl (lv_at hl 0 rfl) ?_
    refine lv_iload_n hx hb dX12_acted_58 rfl (lv_at hl 1 rfl) ?_
    refine lv_sipush (v := 1108) hx hb dX12_acted_59 (by decide) ?_
    refine lv_sipush (v := 554) hx hb dX12_acted_62 (by decide) ?_
    refine lv_aload_n hx hb dX12_acted_65 rfl (lv_at hl 0 rfl) ?_
    refine r_get (v := .int (nI ac)) hx hb (ly_X12 hE) hown hK hP rfl 2 (by decide) (wd_1383 hE) (fun _ h9 => h9) (congrArg (fun z : Int32 => some (Value.int z)) hF2) dX12_acted_66 ?_
    refine lv_imul hx hb dX12_acted_69 ?_
    refine W.eq (g2 := F0 m 70 ls [.int (nI (554 * ac)), .int 1108, .int (nI pl), .ref (b 0)]) (congrArg (fun z : Int32 => F0 m 70 ls (.int z :: [.int 1108, .int (nI pl), .ref (b 0)])) (pk_mul 554 ac)) ?_
    refine lv_iadd hx hb dX12_acted_70 ?_
    refine W.eq (g2 := F0 m 71 ls [.int (nI (1108 + (554 * ac))), .int (nI pl), .ref (b 0)]) (congrArg (fun z : Int32 => F0 m 71 ls (.int z :: [.int (nI pl), .ref (b 0)])) (nI_add 1108 (554 * ac))) ?_
    have hpl : pl = 554 * (pl / 554) := by omega
    obtain ⟨gg, hgg⟩ : ∃ gg, gg = a := ⟨_, rfl⟩
    refine rc_v hAL hS hA (va_runV (As := [.int (nI pl), .int (nI (1108 + (554 * ac)))]) (rest := []) ⟨hx, hb, hml, hown, noTs⟩ (r_X12_copies l dC dI s.heap.size cs b u a hA1 pl (1108 + (554 * ac)) (by first | assumption | omega | rfl | (congr 1; omega)) (by first | assumption | omega | rfl | (congr 1; omega)) (by first | assumption | omega | rfl | (congr 1; omega))) ⟨cbE 2 (wd_1502 hE) (wd_126 hE) (wd_1499 hE) rfl rfl (by decide +kernel) ⟨Nat.le_of_ble_eq_true rfl, Nat.le_of_ble_eq_true rfl⟩, (wd_1501 hE), (wd_55 hE)⟩ ⟨PR.blind, r_recv hK hP rfl, (r_pre (av := [.ref (b 0), .int (nI pl), .int (nI (1108 + (554 * ac)))]) hK hP hJ hE)⟩ rfl rfl hl.1 rfl (lv_room (Nat.le_of_ble_eq_true rfl)) dX12_acted_71 ⟨Nat.le_of_ble_eq_true rfl, Nat.le_of_ble_eq_true rfl⟩) (fun u6 H locs hpo6 hP hS => ?_)
    obtain ⟨h6_0, h6_1, hq6⟩ := hpo6
    obtain ⟨w7, hA7⟩ : ∃ g, rA u6 1 = g := ⟨_, rfl⟩
    rw [hA7] at h6_0 h6_1
    have hF8x := (hq6.2.1 2 List.not_mem_nil).trans hF2
    have hfr := FR.step hfr hq6 (by decide) (fun _ h => absurd h List.not_mem_nil) (fun h => rfl)
    have abx := ab_copy (i := pl / 554) (j := 2 + ac) (by omega) abg (fun q hq => (congrArg w7 (show 554 * (2 + ac) + q = 1108 + 554 * ac + q by omega)).trans ((h6_0 q hq).trans (congrArg _ (by omega)))) (fun q hq => h6_1 q (by omega))
    have abq : ∀ k, k < 1108 → w7 k = a k := fun k hk => (h6_1 k (by omega)).trans (abo k hk)
    refine lv_aload_n hx hb dX12_acted_74 rfl (lv_at hl 0 rfl) ?_
    refine lv_dup hx hb dX12_acted_75 rfl ?_
    refine r_get (v := .int (nI ac)) hx hb (ly_X12 hE) hown hK hP rfl 2 (by decide) (wd_1383 hE) (fun _ h9 => h9) (congrArg (fun z : Int32 => some (Value.int z)) hF8x) dX12_acted_76 ?_
    refine lv_iconst (v := 1) hx hb dX12_acted_79 (by decide) ?_
    refine lv_iadd hx hb dX12_acted_80 ?_
    refine W.eq (g2 := F0 m 81 ls [.int (nI (ac + 1)), .ref (b 0)]) (congrArg (fun z : Int32 => F0 m 81 ls (.int z :: [.ref (b 0)])) (nI_add ac 1)) ?_
    refine r_put (v := nI (ac + 1)) hx hb (ly_X12 hE) tyX12 tyX12_ok nmX12 hown hK hP hJ hAL hS rfl 2 (by decide) (wd_1383 hE) (fun _ h9 => h9) rfl (by decide +kernel) rfl (by decide) dX12_acted_81 (fun u9 H locs hf9 hq9 hP hS => ?_)
    have hA10 := (hq9.1 1 List.not_mem_nil).trans hA7
    have hfr := FR.step hfr hq9 (fun _ h => absurd h List.not_mem_nil) (by decide) (fun h => rfl)
    exact W.vret hx hb hr (fun t ht hW => ⟨⟨u9, rfl, ⟨(by first | (rw [hA10]; done) | (rw [hA10]; exact abx)), (by first | (rw [hA10]; done) | (rw [hA10]; exact abq)), (by first | (rw [hf9]; done) | (rw [hf9]; refine ⟨_, ?_, rfl⟩; omega)), hfr⟩, (show va_P (dC, dI) vwCl (rW cs b u9) t.heap by rw [ht]; exact hP)⟩, hS.F ht⟩) hS.2.2 dX12_acted_84
  · have c5 := (b_eq (nI_toInt (n := ac) (by omega)) (show Int32.toInt 8 = 8 from rfl)).mp c5
    have a8 : ac = 8 := by omega
    refine lv_iconst (v := 1) hx hb dX12_acted_9 (by decide) ?_
    refine lv_istore_n (lv' := [(2, .int 1), (0, .ref (b 0)), (1, .int (nI pl))]) hx hb dX12_acted_10 rfl hl (by decide) rfl (fun ls hl => ?_)
    refine r_ind (I := fun n u_ H locs ls => va_P (dC, dI) vwCl (rW cs b u_) H ∧ va_S (AR b s.heap.size) s.heap H locs ∧ FR [1] [2] false u u_ ∧ ∃ (k_11 : Nat) (g_11 : Nat → Int32), n = 8 - k_11 ∧ (1 ≤ k_11) ∧ (k_11 ≤ 8) ∧ (AB g_11) ∧ (∀ q, q < 1108 → g_11 q = a q) ∧ (rA u_ 1 = g_11) ∧ (rF u_ 2 = nI ac) ∧ lv_has ls 3 [(0, .ref (b 0)), (1, .int (nI pl)), (2, .int (nI k_11))]) (fun n u11 H locs ls hI ih11 => ?_) _ u _ _ _ ⟨hP, hS, hfr, 1, a, rfl, (by first | assumption | omega | rfl | (congr 1; omega)), (by first | assumption | omega | rfl | (congr 1; omega)), (by exact hp0), (by intro q _; rfl), hA1, hF2, lv_sub hl [1, 2, 0] rfl⟩
    obtain ⟨hP, hS, hfr, k_11, g_11, hmu11, hL11_0, hL11_1, hL11_2, hL11_3, hL11_4, hL11_5, hl⟩ := hI
    subst hmu11
    have hB := ab_0 hL11_2
    have hG := bg_g hB
    have ha13 := gg_le hG
    have ha13b := bg_w hB
    refine lv_iload_n hx hb dX12_acted_11 rfl (lv_at hl 2 rfl) ?_
    refine lv_bipush (v := 8) hx hb dX12_acted_12 (by decide) ?_
    refine lv_icmp_ge (tgt := 47) hx hb dX12_acted_14 (by decide) (fun c14 => ?_) (fun c14 => ?_)
    · have c14 := (b_le (show Int32.toInt 8 = 8 from rfl) (nI_toInt (n := k_11) (by omega))).mp c14
      have abg := hL11_2
      have abo := hL11_3
      refine lv_aload_n hx hb dX12_acted_47 rfl (lv_at hl 0 rfl) ?_
      refine lv_dup hx hb dX12_acted_48 rfl ?_
      refine r_get (v := .int (nI ac)) hx hb (ly_X12 hE) hown hK hP rfl 2 (by decide) (wd_1383 hE) (fun _ h9 => h9) (congrArg (fun z : Int32 => some (Value.int z)) hL11_5) dX12_acted_49 ?_
      refine lv_iconst (v := 1) hx hb dX12_acted_52 (by decide) ?_
      refine lv_isub hx hb dX12_acted_53 ?_
      refine W.eq (g2 := F0 m 54 ls [.int (nI (ac - 1)), .ref (b 0)]) (congrArg (fun z : Int32 => F0 m 54 ls (.int z :: [.ref (b 0)])) (pk_sub (a := ac) (b := 1) (by omega))) ?_
      refine r_put (v := nI (ac - 1)) hx hb (ly_X12 hE) tyX12 tyX12_ok nmX12 hown hK hP hJ hAL hS rfl 2 (by decide) (wd_1383 hE) (fun _ h9 => h9) rfl (by decide +kernel) rfl (by decide) dX12_acted_54 (fun u15 H locs hf15 hq15 hP hS => ?_)
      have hA16 := (hq15.1 1 List.not_mem_nil).trans hL11_4
      have hfr := FR.step hfr hq15 (fun _ h => absurd h List.not_mem_nil) (by decide) (fun h => rfl)
      refine lv_aload_n hx hb dX12_acted_57 rfl (lv_at hl 0 rfl) ?_
      refine lv_iload_n hx hb dX12_acted_58 rfl (lv_at hl 1 rfl) ?_
      refine lv_sipush (v := 1108) hx hb dX12_acted_59 (by decide) ?_
      refine lv_sipush (v := 554) hx hb dX12_acted_62 (by decide) ?_
      refine lv_aload_n hx hb dX12_acted_65 rfl (lv_at hl 0 rfl) ?_
      refine r_get (v := .int (nI (ac - 1))) hx hb (ly_X12 hE) hown hK hP rfl 2 (by decide) (wd_1383 hE) (fun _ h9 => h9) (congrArg (fun z : Int32 => some (Value.int z)) hf15) dX12_acted_66 ?_
      refine lv_imul hx hb dX12_acted_69 ?_
      refine W.eq (g2 := F0 m 70 ls [.int (nI (554 * (ac - 1))), .int 1108, .int (nI pl), .ref (b 0)]) (congrArg (fun z : Int32 => F0 m 70 ls (.int z :: [.int 1108, .int (nI pl), .ref (b 0)])) (pk_mul 554 (ac - 1))) ?_
      refine lv_iadd hx hb dX12_acted_70 ?_
      refine W.eq (g2 := F0 m 71 ls [.int (nI (1108 + (554 * (ac - 1)))), .int (nI pl), .ref (b 0)]) (congrArg (fun z : Int32 => F0 m 71 ls (.int z :: [.int (nI pl), .ref (b 0)])) (nI_add 1108 (554 * (ac - 1)))) ?_
      have hpl : pl = 554 * (pl / 554) := by omega
      obtain ⟨gg, hgg⟩ : ∃ gg, gg = g_11 := ⟨_, rfl⟩
      refine rc_v hAL hS hA (va_runV (As := [.int (nI pl), .int (nI (1108 + (554 * (ac - 1))))]) (rest := []) ⟨hx, hb, hml, hown, noTs⟩ (r_X12_copies l dC dI H.size cs b u15 g_11 hA16 pl (1108 + (554 * (ac - 1))) (by first | assumption | omega | rfl | (congr 1; omega)) (by first | assumption | omega | rfl | (congr 1; omega)) (by first | assumption | omega | rfl | (congr 1; omega))) ⟨cbE 2 (wd_1502 hE) (wd_126 hE) (wd_1499 hE) rfl rfl (by decide +kernel) ⟨Nat.le_of_ble_eq_true rfl, Nat.le_of_ble_eq_true rfl⟩, (wd_1501 hE), (wd_55 hE)⟩ ⟨PR.blind, r_recv hK hP rfl, (r_pre (av := [.ref (b 0), .int (nI pl), .int (nI (1108 + (554 * (ac - 1))))]) hK hP hJ hE)⟩ rfl rfl hl.1 rfl (lv_room (Nat.le_of_ble_eq_true rfl)) dX12_acted_71 ⟨Nat.le_of_ble_eq_true rfl, Nat.le_of_ble_eq_true rfl⟩) (fun u17 H locs hpo17 hP hS => ?_)
      obtain ⟨h17_0, h17_1, hq17⟩ := hpo17
      obtain ⟨w18, hA18⟩ : ∃ g, rA u17 1 = g := ⟨_, rfl⟩
      rw [hA18] at h17_0 h17_1
      have hF19x := (hq17.2.1 2 List.not_mem_nil).trans hf15
      have hfr := FR.step hfr hq17 (by decide) (fun _ h => absurd h List.not_mem_nil) (fun h => rfl)
      have abx := ab_copy (i := pl / 554) (j := 2 + (ac - 1)) (by omega) abg (fun q hq => (congrArg w18 (show 554 * (2 + (ac - 1)) + q = 1108 + 554 * (ac - 1) + q by omega)).trans ((h17_0 q hq).trans (congrArg _ (by omega)))) (fun q hq => h17_1 q (by omega))
      have abq : ∀ k, k < 1108 → w18 k = a k := fun k hk => (h17_1 k (by omega)).trans (abo k hk)
      refine lv_aload_n hx hb dX12_acted_74 rfl (lv_at hl 0 rfl) ?_
      refine lv_dup hx hb dX12_acted_75 rfl ?_
      refine r_get (v := .int (nI (ac - 1))) hx hb (ly_X12 hE) hown hK hP rfl 2 (by decide) (wd_1383 hE) (fun _ h9 => h9) (congrArg (fun z : Int32 => some (Value.int z)) hF19x) dX12_acted_76 ?_
      refine lv_iconst (v := 1) hx hb dX12_acted_79 (by decide) ?_
      refine lv_iadd hx hb dX12_acted_80 ?_
      refine W.eq (g2 := F0 m 81 ls [.int (nI ((ac - 1) + 1)), .ref (b 0)]) (congrArg (fun z : Int32 => F0 m 81 ls (.int z :: [.ref (b 0)])) (nI_add (ac - 1) 1)) ?_
      refine r_put (v := nI ((ac - 1) + 1)) hx hb (ly_X12 hE) tyX12 tyX12_ok nmX12 hown hK hP hJ hAL hS rfl 2 (by decide) (wd_1383 hE) (fun _ h9 => h9) rfl (by decide +kernel) rfl (by decide) dX12_acted_81 (fun u20 H locs hf20 hq20 hP hS => ?_)
      have hA21 := (hq20.1 1 List.not_mem_nil).trans hA18
      have hfr := FR.step hfr hq20 (fun _ h => absurd h List.not_mem_nil) (by decide) (fun h => rfl)
      exact W.vret hx hb hr (fun t ht hW => ⟨⟨u20, rfl, ⟨(by first | (rw [hA21]; done) | (rw [hA21]; exact abx)), (by first | (rw [hA21]; done) | (rw [hA21]; exact abq)), (by first | (rw [hf20]; done) | (rw [hf20]; refine ⟨_, ?_, rfl⟩; omega)), hfr⟩, (show va_P (dC, dI) vwCl (rW cs b u20) t.heap by rw [ht]; exact hP)⟩, hS.F ht⟩) hS.2.2 dX12_acted_84
    · have c14 := mt (b_le (show Int32.toInt 8 = 8 from rfl) (nI_toInt (n := k_11) (by omega))).mpr c14
      refine lv_aload_n hx hb dX12_acted_17 rfl (lv_at hl 0 rfl) ?_
      refine lv_sipush (v := 1108) hx hb dX12_acted_18 (by decide) ?_
      refine lv_sipush (v := 554) hx hb dX12_acted_21 (by decide) ?_
      refine lv_iload_n hx hb dX12_acted_24 rfl (lv_at hl 2 rfl) ?_
      refine lv_imul hx hb dX12_acted_25 ?_
      refine W.eq (g2 := F0 m 26 ls [.int (nI (554 * k_11)), .int 1108, .ref (b 0)]) (congrArg (fun z : Int32 => F0 m 26 ls (.int z :: [.int 1108, .ref (b 0)])) (pk_mul 554 k_11)) ?_
      refine lv_iadd hx hb dX12_acted_26 ?_
      refine W.eq (g2 := F0 m 27 ls [.int (nI (1108 + (554 * k_11))), .ref (b 0)]) (congrArg (fun z : Int32 => F0 m 27 ls (.int z :: [.ref (b 0)])) (nI_add 1108 (554 * k_11))) ?_
      refine lv_sipush (v := 1108) hx hb dX12_acted_27 (by decide) ?_
      refine lv_sipush (v := 554) hx hb dX12_acted_30 (by decide) ?_
      refine lv_iload_n hx hb dX12_acted_33 rfl (lv_at hl 2 rfl) ?_
      refine lv_iconst (v := 1) hx hb dX12_acted_34 (by decide) ?_
      refine lv_isub hx hb dX12_acted_35 ?_
      refine W.eq (g2 := F0 m 36 ls [.int (nI (k_11 - 1)), .int 554, .int 1108, .int (nI (1108 + (554 * k_11))), .ref (b 0)]) (congrArg (fun z : Int32 => F0 m 36 ls (.int z :: [.int 554, .int 1108, .int (nI (1108 + (554 * k_11))), .ref (b 0)])) (pk_sub (a := k_11) (b := 1) (by omega))) ?_
      refine lv_imul hx hb dX12_acted_36 ?_
      refine W.eq (g2 := F0 m 37 ls [.int (nI (554 * (k_11 - 1))), .int 1108, .int (nI (1108 + (554 * k_11))), .ref (b 0)]) (congrArg (fun z : Int32 => F0 m 37 ls (.int z :: [.int 1108, .int (nI (1108 + (554 * k_11))), .ref (b 0)])) (pk_mul 554 (k_11 - 1))) ?_
      refine lv_iadd hx hb dX12_acted_37 ?_
      refine W.eq (g2 := F0 m 38 ls [.int (nI (1108 + (554 * (k_11 - 1)))), .int (nI (1108 + (554 * k_11))), .ref (b 0)]) (congrArg (fun z : Int32 => F0 m 38 ls (.int z :: [.int (nI (1108 + (554 * k_11))), .ref (b 0)])) (nI_add 1108 (554 * (k_11 - 1)))) ?_
      refine rc_v hAL hS hA (va_runV (As := [.int (nI (1108 + (554 * k_11))), .int (nI (1108 + (554 * (k_11 - 1))))]) (rest := []) ⟨hx, hb, hml, hown, noTs⟩ (r_X12_copies l dC dI H.size cs b u11 g_11 hL11_4 (1108 + (554 * k_11)) (1108 + (554 * (k_11 - 1))) (by first | assumption | omega | rfl | (congr 1; omega)) (by first | assumption | omega | rfl | (congr 1; omega)) (by first | assumption | omega | rfl | (congr 1; omega))) ⟨cbE 2 (wd_1502 hE) (wd_126 hE) (wd_1499 hE) rfl rfl (by decide +kernel) ⟨Nat.le_of_ble_eq_true rfl, Nat.le_of_ble_eq_true rfl⟩, (wd_1501 hE), (wd_55 hE)⟩ ⟨PR.blind, r_recv hK hP rfl, (r_pre (av := [.ref (b 0), .int (nI (1108 + (554 * k_11))), .int (nI (1108 + (554 * (k_11 - 1))))]) hK hP hJ hE)⟩ rfl rfl hl.1 rfl (lv_room (Nat.le_of_ble_eq_true rfl)) dX12_acted_38 ⟨Nat.le_of_ble_eq_true rfl, Nat.le_of_ble_eq_true rfl⟩) (fun u22 H locs hpo22 hP hS => ?_)
      obtain ⟨h22_0, h22_1, hq22⟩ := hpo22
      obtain ⟨w23, hA23⟩ : ∃ g, rA u22 1 = g := ⟨_, rfl⟩
      rw [hA23] at h22_0 h22_1
      have hF24x := (hq22.2.1 2 List.not_mem_nil).trans hL11_5
      have hfr := FR.step hfr hq22 (by decide) (fun _ h => absurd h List.not_mem_nil) (fun h => rfl)
      have o1 := h22_1
      have ab2 := ab_copy (i := 2 + k_11) (j := 1 + k_11) (by omega) hL11_2 (fun q hq => (congrArg w23 (show 554 * (1 + k_11) + q = 1108 + 554 * (k_11 - 1) + q by omega)).trans ((h22_0 q hq).trans (congrArg g_11 (by omega)))) (fun q hq => h22_1 q (by omega))
      refine lv_iinc (v := nI (k_11 + 1)) (lv' := [(2, .int (nI (k_11 + 1))), (0, .ref (b 0)), (1, .int (nI pl))]) hx hb dX12_acted_41 hl (k := 2) rfl (nI_1 k_11) (by decide) rfl (fun ls hl => ?_)
      refine lv_goto (tgt := 11) hx hb dX12_acted_44 (by decide) ?_
      exact ih11 _ u22 _ _ _ (by omega) ⟨hP, hS, hfr, (k_11 + 1), w23, rfl, (by first | assumption | omega | rfl | (congr 1; omega)), (by first | assumption | omega | rfl | (congr 1; omega)), (by exact ab2), (by intro q hq; rw [o1 q (by omega)]; exact hL11_3 q hq), hA23, hF24x, lv_sub hl [1, 2, 0] rfl⟩

set_option maxHeartbeats 4000000 in
set_option maxRecDepth 100000 in
theorem r_X12_keeps (l : Launch) (dC : Nat → ClassId) (dI : Nat → Nat → Nat) (sz : Nat) (cs : Nat → ClassId) (b : Nat → Nat) (u : RS) (a : Nat → Int32) (hA1 : rA u 1 = a) (jw : Nat) (hjwr : 3 ≤ jw ∧ jw ≤ 14) (w : Nat → Int32) (hAjw : rA u jw = w) (hp0 : BG a) (hp1 : wN a ≤ 9) (hp2 : PG a w) (hp3 : LG a w) (hp4 : rn w ≤ 24) : Met l yX12_keeps [.code yX12_keeps cX12_keeps 3 none] ({ frames := 1, cells := 0, slots := 0, locals := 40 }) (PR [.ref (b 0), .ref (b jw)] sz dC dI cs b u) (va_Qv (fun (u' : RS) => (BG (rA u' 1)) ∧ (wN (rA u' 1) = wN a + 1) ∧ (∀ k, 554 ≤ k → (rA u' 1) k = a k) ∧ (GM a (rA u' 1)) ∧ (vN (rA u' 1) = vN a) ∧ (eN (rA u' 1) = eN a) ∧ FR [1] [] false u u') (BR dC dI cs b) (AR b sz)) 0 0 (AR b sz) := by
  refine Met.ofW (cc := cX12_keeps) (maxL := 3) (ret := none) (by decide) rfl ?_
  intro p e s m args below meth c s₁ B hml hv
  obtain ⟨rfl, hsz, hP, hK, hJ, hE⟩ := hv
  have hx := B.exec
  have hb := B.bytes
  have hr := B.returns
  have hown : s.vm.findClass RX12 = some m.cls := findClass_of_methodNamed B.named
  have hlocks := B.notSynchronized
  subst hsz
  have hAL : ∀ i, i < 108 → AR b s.heap.size (b i) := fun i h => Or.inl ⟨i, h, rfl⟩
  have hA : ∀ q : Nat, s.heap.size ≤ q → AR b s.heap.size q := fun q h => Or.inr h
  have hS : va_S (AR b s.heap.size) s.heap s.heap [] := va_S.rf
  have hfr : FR [1] [] false u u := FR.refl
  have hl := lv_entry ([.ref (b 0), .ref (b jw)]) (n := 3) (Nat.le_of_ble_eq_true rfl)
  rw [lg_entry_eq]
  generalize (lg_sl ([.ref (b 0), .ref (b jw)]) ++ List.replicate (3 - (lg_sl ([.ref (b 0), .ref (b jw)])).length) Slot.unset).toArray = ls at hl ⊢
  have hl : lv_has ls 3 [(0, .ref (b 0)), (1, .ref (b jw))] := hl
  have hB := hp0
  have hG := bg_g hp0
  have ha1 := gg_le hG
  have ha1b := bg_w hp0
  have ha3 := pg_le hp2
  refine lv_iconst (v := 0) hx hb dX12_keeps_0 (by decide) ?_
  refine lv_istore_n (lv' := [(2, .int 0), (0, .ref (b 0)), (1, .ref (b jw))]) hx hb dX12_keeps_1 rfl hl (by decide) rfl (fun ls hl => ?_)
  refine r_ind (I := fun n u_ H locs ls => va_P (dC, dI) vwCl (rW cs b u_) H ∧ va_S (AR b s.heap.size) s.heap H locs ∧ FR [1] [] false u u_ ∧ ∃ (k_6 : Nat) (g_6 : Nat → Int32), n = 52 - k_6 ∧ (k_6 ≤ 52) ∧ (∀ q, q < k_6 → g_6 (34 + 52 * wN a + q) = w q) ∧ (∀ q, (q < 34 + 52 * wN a ∨ 34 + 52 * wN a + k_6 ≤ q) → g_6 q = a q) ∧ (rA u_ 1 = g_6) ∧ lv_has ls 3 [(0, .ref (b 0)), (1, .ref (b jw)), (2, .int (nI k_6))]) (fun n u6 H locs ls hI ih6 => ?_) _ u _ _ _ ⟨hP, hS, hfr, 0, a, rfl, (by first | assumption | omega | rfl | (congr 1; omega)), (by intro q hq; omega), (by intro q _; rfl), hA1, lv_sub hl [1, 2, 0] rfl⟩
  obtain ⟨hP, hS, hfr, k_6, g_6, hmu6, hL6_0, hL6_1, hL6_2, hL6_3, hl⟩ := hI
  have hA7 := (hfr.1 jw (by simp only [List.mem_cons, List.not_mem_nil, or_false, not_or]; omega)).trans hAjw
  subst hmu6
  refine lv_iload_n hx hb dX12_keeps_2 rfl (lv_at hl 2 rfl) ?_
  refine lv_bipush (v := 52) hx hb dX12_keeps_3 (by decide) ?_
  refine lv_icmp_ge (tgt := 35) hx hb dX12_keeps_5 (by decide) (fun c8 => ?_) (fun c8 => ?_)
  · have c8 := (b_le (show Int32.toInt 52 = 52 from rfl) (nI_toInt (n := k_6) (by omega))).mp c8
    refine lv_aload_n hx hb dX12_keeps_35 rfl (lv_at hl 0 rfl) ?_
    refine r_get (v := .ref (b 1)) hx hb (ly_X12 hE) hown hK hP rfl 0 (by decide) (wd_1381 hE) (fun _ h9 => h9) rfl dX12_keeps_36 ?_
    refine lv_iconst (v := 2) hx hb dX12_keeps_39 (by decide) ?_
    refine lv_dup2_11 hx hb dX12_keeps_40 rfl rfl ?_
    refine r_iald (j := 1) (k := 2) (n := 7202) (x := nI (wN a)) hx hb hK hP (by decide) rfl (by decide) (by decide) (by rw [hL6_3]; exact (hL6_2 2 (by omega)).trans (bg_w hB).1) dX12_keeps_41 ?_
    refine lv_iconst (v := 1) hx hb dX12_keeps_42 (by decide) ?_
    refine lv_iadd hx hb dX12_keeps_43 ?_
    refine W.eq (g2 := F0 m 44 ls [.int (nI ((wN a) + 1)), .int 2, .ref (b 1)]) (congrArg (fun z : Int32 => F0 m 44 ls (.int z :: [.int 2, .ref (b 1)])) (nI_add (wN a) 1)) ?_
    refine r_iast (j := 1) (k := 2) (n := 7202) (x := nI ((wN a) + 1)) hx hb hK hP hJ hAL hS (by decide) (fun _ => rfl) hL6_3 (by decide) (by decide) dX12_keeps_44 (fun u10 H locs hs10 hq10 hP hS => ?_)
    obtain ⟨w10, hw10⟩ : ∃ g, g = upd g_6 2 (nI ((wN a) + 1)) := ⟨_, rfl⟩
    rw [← hw10] at hs10
    have hA11 := (hq10.1 jw (by simp only [List.mem_cons, List.not_mem_nil, or_false, not_or]; omega)).trans hA7
    have hfr := FR.step hfr hq10 (by decide) (fun _ h => absurd h List.not_mem_nil) (fun h => rfl)
    obtain ⟨x1, x2, x3, x4, x5⟩ := bg_keep hp0 hp1 hp2 hp3 hp4 (show w10 2 = _ by rw [hw10]; exact pk_us) (fun k hk => by rw [hw10, pk_un (by omega)]; exact hL6_1 k (by omega)) (fun k h2 hk => by rw [hw10, pk_un h2]; exact hL6_2 k (by omega))
    have x6 : ∀ k, 554 ≤ k → w10 k = a k := fun k hk => by rw [hw10, pk_un (by omega)]; exact hL6_2 k (by omega)
    exact W.vret hx hb hr (fun t ht hW => ⟨⟨u10, rfl, ⟨(by first | (rw [hs10]; done) | (rw [hs10]; first | assumption | omega | rfl | (congr 1; omega))), (by first | (rw [hs10]; done) | (rw [hs10]; first | assumption | omega | rfl | (congr 1; omega))), (by first | (rw [hs10]; done) | (rw [hs10]; first | assumption | omega | rfl | (congr 1; omega))), (by first | (rw [hs10]; done) | (rw [hs10]; first | assumption | omega | rfl | (congr 1; omega))), (by first | (rw [hs10]; done) | (rw [hs10]; first | assumption | omega | rfl | (congr 1; omega))), (by first | (rw [hs10]; done) | (rw [hs10]; first | assumption | omega | rfl | (congr 1; omega))), hfr⟩, (show va_P (dC, dI) vwCl (rW cs b u10) t.heap by rw [ht]; exact hP)⟩, hS.F ht⟩) hS.2.2 dX12_keeps_45
  · have c8 := mt (b_le (show Int32.toInt 52 = 52 from rfl) (nI_toInt (n := k_6) (by omega))).mpr c8
    refine lv_aload_n hx hb dX12_keeps_8 rfl (lv_at hl 0 rfl) ?_
    refine r_get (v := .ref (b 1)) hx hb (ly_X12 hE) hown hK hP rfl 0 (by decide) (wd_1381 hE) (fun _ h9 => h9) rfl dX12_keeps_9 ?_
    refine lv_bipush (v := 34) hx hb dX12_keeps_12 (by decide) ?_
    refine lv_bipush (v := 52) hx hb dX12_keeps_14 (by decide) ?_
    refine lv_aload_n hx hb dX12_keeps_16 rfl (lv_at hl 0 rfl) ?_
    refine lv_iconst (v := 2) hx hb dX12_keeps_17 (by decide) ?_
    refine vp_callSi (va_Run.run (va_runV (As := [.int (nI 2)]) (rest := [.int 52, .int 34, .ref (b 1)]) ⟨hx, hb, hml, hown, noTs⟩ (r_X12_of l dC dI H.size cs b u6 g_6 hL6_3 2 (by first | assumption | omega | rfl | (congr 1; omega))) ⟨cbE 1 (wd_1536 hE) (wd_126 hE) (wd_1533 hE) rfl rfl (by decide +kernel) ⟨Nat.le_of_ble_eq_true rfl, Nat.le_of_ble_eq_true rfl⟩, (wd_1535 hE), (wd_61 hE)⟩ ⟨PR.blind, r_recv hK hP rfl, (r_pre (av := [.ref (b 0), .int (nI 2)]) hK hP hJ hE)⟩ rfl rfl hl.1 rfl (lv_room (Nat.le_of_ble_eq_true rfl)) dX12_keeps_18 ⟨Nat.le_of_ble_eq_true rfl, Nat.le_of_ble_eq_true rfl⟩)) (fun r12 hr12 => ?_)
    have hr12 := hr12.trans ((hL6_2 2 (by omega)).trans (bg_w hB).1)
    subst hr12
    refine lv_imul hx hb dX12_keeps_21 ?_
    refine W.eq (g2 := F0 m 22 ls [.int (nI (52 * (wN a))), .int 34, .ref (b 1)]) (congrArg (fun z : Int32 => F0 m 22 ls (.int z :: [.int 34, .ref (b 1)])) (pk_mul 52 (wN a))) ?_
    refine lv_iadd hx hb dX12_keeps_22 ?_
    refine W.eq (g2 := F0 m 23 ls [.int (nI (34 + (52 * (wN a)))), .ref (b 1)]) (congrArg (fun z : Int32 => F0 m 23 ls (.int z :: [.ref (b 1)])) (nI_add 34 (52 * (wN a)))) ?_
    refine lv_iload_n hx hb dX12_keeps_23 rfl (lv_at hl 2 rfl) ?_
    refine lv_iadd hx hb dX12_keeps_24 ?_
    refine W.eq (g2 := F0 m 25 ls [.int (nI ((34 + (52 * (wN a))) + k_6)), .ref (b 1)]) (congrArg (fun z : Int32 => F0 m 25 ls (.int z :: [.ref (b 1)])) (nI_add (34 + (52 * (wN a))) k_6)) ?_
    refine lv_aload_n hx hb dX12_keeps_25 rfl (lv_at hl 1 rfl) ?_
    refine lv_iload_n hx hb dX12_keeps_26 rfl (lv_at hl 2 rfl) ?_
    refine r_iald (j := jw) (k := k_6) (n := 200) (x := w k_6) hx hb hK hP (by omega) (rE_row (by omega)) (by omega) (by decide) (by rw [hA7]) dX12_keeps_27 ?_
    refine lv_topi (fun x14 ex14 => ?_)
    have hv1 := ex14
    refine r_iast (j := 1) (k := (34 + (52 * (wN a))) + k_6) (n := 7202) (x := x14) hx hb hK hP hJ hAL hS (by decide) (fun _ => rfl) hL6_3 (by omega) (by decide) dX12_keeps_28 (fun u15 H locs hs15 hq15 hP hS => ?_)
    obtain ⟨w15, hw15⟩ : ∃ g, g = upd g_6 ((34 + (52 * (wN a))) + k_6) x14 := ⟨_, rfl⟩
    rw [← hw15] at hs15
    have hA16 := (hq15.1 jw (by simp only [List.mem_cons, List.not_mem_nil, or_false, not_or]; omega)).trans hA7
    have hfr := FR.step hfr hq15 (by decide) (fun _ h => absurd h List.not_mem_nil) (fun h => rfl)
    have k1 := hw15
    refine lv_iinc (v := nI (k_6 + 1)) (lv' := [(2, .int (nI (k_6 + 1))), (0, .ref (b 0)), (1, .ref (b jw))]) hx hb dX12_keeps_29 hl (k := 2) rfl (nI_1 k_6) (by decide) rfl (fun ls hl => ?_)
    refine lv_goto (tgt := 2) hx hb dX12_keeps_32 (by decide) ?_
    exact ih6 _ u15 _ _ _ (by omega) ⟨hP, hS, hfr, (k_6 + 1), w15, rfl, (by first | assumption | omega | rfl | (congr 1; omega)), (by exact upd_at k1 hv1 hL6_1), (by intro q hq; rw [k1, pk_un (by omega)]; exact hL6_2 q (by omega)), hs15, lv_sub hl [1, 2, 0] rfl⟩

set_option maxHeartbeats 4000000 in
set_option maxRecDepth 100000 in
theorem r_X12_more (l : Launch) (dC : Nat → ClassId) (dI : Nat → Nat → Nat) (sz : Nat) (cs : Nat → ClassId) (b : Nat → Nat) (u : RS) (a : Nat → Int32) (hA1 : rA u 1 = a) (jw : Nat) (hjwr : 3 ≤ jw ∧ jw ≤ 14) (w : Nat → Int32) (hAjw : rA u jw = w) (ac : Nat) (hF2 : rF u 2 = nI ac) (hp0 : AB a) (hp1 : ac ≤ 8) (hp2 : wN a ≤ 9) (hp3 : PG a w) (hp4 : LG a w) : Met l yX12_more [.code yX12_more cX12_more 2 (some .int)] ({ frames := 2, cells := 0, slots := 0, locals := 80 }) (PR [.ref (b 0), .ref (b jw)] sz dC dI cs b u) (va_Qi (fun (r : Int32) (u' : RS) => (True) ∧ (AB (rA u' 1)) ∧ (∃ k : Nat, k ≤ 8 ∧ rF u' 2 = nI k) ∧ FR [1] [1, 2] false u u') (BR dC dI cs b) (AR b sz)) 0 0 (AR b sz) := by
  refine Met.ofW (cc := cX12_more) (maxL := 2) (ret := (some .int)) (by decide) rfl ?_
  intro p e s m args below meth c s₁ B hml hv
  obtain ⟨rfl, hsz, hP, hK, hJ, hE⟩ := hv
  have hx := B.exec
  have hb := B.bytes
  have hr := B.returns
  have hown : s.vm.findClass RX12 = some m.cls := findClass_of_methodNamed B.named
  have hlocks := B.notSynchronized
  subst hsz
  have hAL : ∀ i, i < 108 → AR b s.heap.size (b i) := fun i h => Or.inl ⟨i, h, rfl⟩
  have hA : ∀ q : Nat, s.heap.size ≤ q → AR b s.heap.size q := fun q h => Or.inr h
  have hS : va_S (AR b s.heap.size) s.heap s.heap [] := va_S.rf
  have hfr : FR [1] [1, 2] false u u := FR.refl
  have hl := lv_entry ([.ref (b 0), .ref (b jw)]) (n := 2) (Nat.le_of_ble_eq_true rfl)
  rw [lg_entry_eq]
  generalize (lg_sl ([.ref (b 0), .ref (b jw)]) ++ List.replicate (2 - (lg_sl ([.ref (b 0), .ref (b jw)])).length) Slot.unset).toArray = ls at hl ⊢
  have hl : lv_has ls 2 [(0, .ref (b 0)), (1, .ref (b jw))] := hl
  have hB := ab_0 hp0
  have hG := bg_g hB
  have ha2 := gg_le hG
  have ha2b := bg_w hB
  have ha5 := pg_le hp3
  refine lv_aload_n hx hb dX12_more_0 rfl (lv_at hl 1 rfl) ?_
  refine lv_iconst (v := 1) hx hb dX12_more_1 (by decide) ?_
  refine r_iald (j := jw) (k := 1) (n := 200) (x := nI (rn w)) hx hb hK hP (by omega) (rE_row (by omega)) (by decide) (by decide) (by rw [hAjw]; exact pg_n hp3) dX12_more_2 ?_
  refine lv_bipush (v := 24) hx hb dX12_more_3 (by decide) ?_
  refine lv_icmp_le (tgt := 15) hx hb dX12_more_5 (by decide) (fun c8 => ?_) (fun c8 => ?_)
  · have c8 := (b_le (nI_toInt (n := rn w) (by omega)) (show Int32.toInt 24 = 24 from rfl)).mp c8
    refine lv_aload_n hx hb dX12_more_15 rfl (lv_at hl 0 rfl) ?_
    refine lv_iconst (v := 0) hx hb dX12_more_16 (by decide) ?_
    refine rc_v hAL hS hA (va_runV (As := [.int (nI 0)]) (rest := []) ⟨hx, hb, hml, hown, noTs⟩ (r_X12_acted l dC dI s.heap.size cs b u a hA1 0 ac hF2 (by first | assumption | omega | rfl | (congr 1; omega)) (by first | assumption | omega | rfl | (congr 1; omega)) (by first | assumption | omega | rfl | (congr 1; omega))) ⟨cbE 1 (wd_1617 hE) (wd_126 hE) (wd_1614 hE) rfl rfl (by decide +kernel) ⟨Nat.le_of_ble_eq_true rfl, Nat.le_of_ble_eq_true rfl⟩, (wd_1616 hE), (wd_79 hE)⟩ ⟨PR.blind, r_recv hK hP rfl, (r_pre (av := [.ref (b 0), .int (nI 0)]) hK hP hJ hE)⟩ rfl rfl hl.1 rfl (lv_room (Nat.le_of_ble_eq_true rfl)) dX12_more_17 ⟨Nat.le_of_ble_eq_true rfl, Nat.le_of_ble_eq_true rfl⟩) (fun u9 H locs hpo9 hP hS => ?_)
    obtain ⟨h9_0, h9_1, h9_2, hq9⟩ := hpo9
    obtain ⟨w10, hA10⟩ : ∃ g, rA u9 1 = g := ⟨_, rfl⟩
    rw [hA10] at h9_0 h9_1
    obtain ⟨n9_2, hn9_2, hfe9_2⟩ := h9_2
    have hA11 := (hq9.1 jw (by simp only [List.mem_cons, List.not_mem_nil, or_false, not_or]; omega)).trans hAjw
    have hfr := FR.step hfr hq9 (by decide) (by decide) (fun h => rfl)
    have hB := ab_0 h9_0
    have hG := bg_g hB
    have ha12 := gg_le hG
    have ha12b := bg_w hB
    obtain ⟨m1, m2, m3⟩ := gm_same (a := a) (a' := w10) (fun k hk => h9_1 k (by omega)) (bg_g (ab_0 hp0))
    have mw : wN w10 = wN a := by unfold wN; rw [h9_1 2 (by omega)]
    have mp := (pg_grow m1 hp3).1
    have ml := lg_grow m1 (bg_g (ab_0 hp0)) hp3 hp4
    have aba := h9_0
    refine lv_aload_n hx hb dX12_more_20 rfl (lv_at hl 0 rfl) ?_
    refine lv_aload_n hx hb dX12_more_21 rfl (lv_at hl 1 rfl) ?_
    refine rc_v hAL hS hA (va_runV (As := [.ref (b jw)]) (rest := []) ⟨hx, hb, hml, hown, noTs⟩ (r_X12_keeps l dC dI H.size cs b u9 w10 hA10 jw (by omega) w hA11 (by first | assumption | omega | rfl | (congr 1; omega)) (by first | assumption | omega | rfl | (congr 1; omega)) (by first | assumption | omega | rfl | (congr 1; omega)) (by first | assumption | omega | rfl | (congr 1; omega)) (by first | assumption | omega | rfl | (congr 1; omega))) ⟨cbE 1 (wd_1613 hE) (wd_126 hE) (wd_1610 hE) rfl rfl (by decide +kernel) ⟨Nat.le_of_ble_eq_true rfl, Nat.le_of_ble_eq_true rfl⟩, (wd_1612 hE), (wd_78 hE)⟩ ⟨PR.blind, r_recv hK hP rfl, (r_pre (av := [.ref (b 0), .ref (b jw)]) hK hP hJ hE)⟩ rfl rfl hl.1 rfl (lv_room (Nat.le_of_ble_eq_true rfl)) dX12_more_22 ⟨Nat.le_of_ble_eq_true rfl, Nat.le_of_ble_eq_true rfl⟩) (fun u13 H locs hpo13 hP hS => ?_)
    obtain ⟨h13_0, h13_1, h13_2, h13_3, h13_4, h13_5, hq13⟩ := hpo13
    obtain ⟨w14, hA14⟩ : ∃ g, rA u13 1 = g := ⟨_, rfl⟩
    rw [hA14] at h13_0 h13_1 h13_2 h13_3 h13_4 h13_5
    have hA15 := (hq13.1 jw (by simp only [List.mem_cons, List.not_mem_nil, or_false, not_or]; omega)).trans hA11
    have hF16x := (hq13.2.1 2 List.not_mem_nil).trans hfe9_2
    have hfr := FR.step hfr hq13 (by decide) (fun _ h => absurd h List.not_mem_nil) (fun h => rfl)
    have hB := h13_0
    have hG := bg_g h13_0
    have ha17 := gg_le hG
    have ha17b := bg_w h13_0
    have abx := ab_now aba h13_0 h13_2
    refine lv_aload_n hx hb dX12_more_25 rfl (lv_at hl 0 rfl) ?_
    refine lv_aload_n hx hb dX12_more_26 rfl (lv_at hl 0 rfl) ?_
    refine lv_iconst (v := 2) hx hb dX12_more_27 (by decide) ?_
    refine vp_callSi (va_Run.run (va_runV (As := [.int (nI 2)]) (rest := [.ref (b 0)]) ⟨hx, hb, hml, hown, noTs⟩ (r_X12_of l dC dI H.size cs b u13 w14 hA14 2 (by first | assumption | omega | rfl | (congr 1; omega))) ⟨cbE 1 (wd_1536 hE) (wd_126 hE) (wd_1533 hE) rfl rfl (by decide +kernel) ⟨Nat.le_of_ble_eq_true rfl, Nat.le_of_ble_eq_true rfl⟩, (wd_1535 hE), (wd_61 hE)⟩ ⟨PR.blind, r_recv hK hP rfl, (r_pre (av := [.ref (b 0), .int (nI 2)]) hK hP hJ hE)⟩ rfl rfl hl.1 rfl (lv_room (Nat.le_of_ble_eq_true rfl)) dX12_more_28 ⟨Nat.le_of_ble_eq_true rfl, Nat.le_of_ble_eq_true rfl⟩)) (fun r18 hr18 => ?_)
    have hr18 := hr18.trans ((bg_w hB).1)
    subst hr18
    refine lv_iconst (v := 1) hx hb dX12_more_31 (by decide) ?_
    refine lv_isub hx hb dX12_more_32 ?_
    refine W.eq (g2 := F0 m 33 ls [.int (nI ((wN w14) - 1)), .ref (b 0)]) (congrArg (fun z : Int32 => F0 m 33 ls (.int z :: [.ref (b 0)])) (pk_sub (a := wN w14) (b := 1) (by omega))) ?_
    refine rc_i hAL hS hA (va_runV (As := [.int (nI ((wN w14) - 1))]) (rest := []) ⟨hx, hb, hml, hown, noTs⟩ (r_X12_gives l dC dI H.size cs b u13 w14 hA14 (nI ((wN w14) - 1))) ⟨cbE 1 (wd_1621 hE) (wd_126 hE) (wd_1618 hE) rfl rfl (by decide +kernel) ⟨Nat.le_of_ble_eq_true rfl, Nat.le_of_ble_eq_true rfl⟩, (wd_1620 hE), (wd_80 hE)⟩ ⟨PR.blind, r_recv hK hP rfl, (r_pre (av := [.ref (b 0), .int (nI ((wN w14) - 1))]) hK hP hJ hE)⟩ rfl rfl hl.1 rfl (lv_room (Nat.le_of_ble_eq_true rfl)) dX12_more_33 ⟨Nat.le_of_ble_eq_true rfl, Nat.le_of_ble_eq_true rfl⟩) (fun r19 u19 H locs hpo19 hP hS => ?_)
    obtain ⟨hr19, hq19⟩ := hpo19
    have hA20 := (hq19.1 jw List.not_mem_nil).trans hA15
    have hA21 := (hq19.1 1 List.not_mem_nil).trans hA14
    have hF22x := (hq19.2.1 2 (by decide)).trans hF16x
    have hfr := FR.step hfr hq19 (fun _ h => absurd h List.not_mem_nil) (by decide) (fun h => rfl)
    refine W.eq (g2 := F0 m 36 ls [.int (nI ((wN w14) - 1))]) (by rw [hr19]) ?_
    exact W.iret (v := nI ((wN w14) - 1)) hx hb hr (fun t ht hW => ⟨⟨nI ((wN w14) - 1), u19, rfl, ⟨trivial, (by first | (rw [hA21]; done) | (rw [hA21]; exact abx)), (by first | (rw [hF22x]; done) | (rw [hF22x]; refine ⟨_, ?_, rfl⟩; omega)), hfr⟩, (show va_P (dC, dI) vwCl (rW cs b u19) t.heap by rw [ht]; exact hP)⟩, hS.F ht⟩) hS.2.2 dX12_more_36
  · have c8 := mt (b_le (nI_toInt (n := rn w) (by omega)) (show Int32.toInt 24 = 24 from rfl)).mpr c8
    refine lv_aload_n hx hb dX12_more_8 rfl (lv_at hl 0 rfl) ?_
    refine lv_bipush (v := 6) hx hb dX12_more_9 (by decide) ?_
    refine rc_i hAL hS hA (va_runV (As := [.int 6]) (rest := []) ⟨hx, hb, hml, hown, noTs⟩ (r_X12_refuse l dC dI s.heap.size cs b u a hA1 6) ⟨cbE 1 (wd_1498 hE) (wd_126 hE) (wd_1495 hE) rfl rfl (by decide +kernel) ⟨Nat.le_of_ble_eq_true rfl, Nat.le_of_ble_eq_true rfl⟩, (wd_1497 hE), (wd_54 hE)⟩ ⟨PR.blind, r_recv hK hP rfl, (r_pre (av := [.ref (b 0), .int 6]) hK hP hJ hE)⟩ rfl rfl hl.1 rfl (lv_room (Nat.le_of_ble_eq_true rfl)) dX12_more_11 ⟨Nat.le_of_ble_eq_true rfl, Nat.le_of_ble_eq_true rfl⟩) (fun r23 u23 H locs hpo23 hP hS => ?_)
    obtain ⟨hr23, hq23⟩ := hpo23
    have hA24 := (hq23.1 1 List.not_mem_nil).trans hA1
    have hA25 := (hq23.1 jw List.not_mem_nil).trans hAjw
    have hF26x := (hq23.2.1 2 (by decide)).trans hF2
    have hfr := FR.step hfr hq23 (fun _ h => absurd h List.not_mem_nil) (by decide) (fun h => rfl)
    subst hr23
    exact W.iret (v := -1) hx hb hr (fun t ht hW => ⟨⟨-1, u23, rfl, ⟨trivial, (by first | (rw [hA24]; done) | (rw [hA24]; exact hp0)), (by first | (rw [hF26x]; done) | (rw [hF26x]; refine ⟨_, ?_, rfl⟩; omega)), hfr⟩, (show va_P (dC, dI) vwCl (rW cs b u23) t.heap by rw [ht]; exact hP)⟩, hS.F ht⟩) hS.2.2 dX12_more_14
