set_option maxHeartbeats 4000000 in
set_option maxRecDepth 100000 in
theorem r_X12_along (l : Launch) (dC : Nat → ClassId) (dI : Nat → Nat → Nat) (sz : Nat) (cs : Nat → ClassId) (b : Nat → Nat) (u : RS) (a : Nat → Int32) (hA1 : rA u 1 = a) (v : Nat) (k : Nat) (gl : Nat) (y : Int32) (hp0 : GG a) (hp1 : v < vN a) (hp2 : k < od a v) (hp3 : gl < 6) : Met l yX12_along [.code yX12_along cX12_along 11 (some .int)] ({ frames := 4, cells := 0, slots := 0, locals := 160 }) (PR [.ref (b 0), .int (nI v), .int (nI k), .int (nI gl), .int y] sz dC dI cs b u) (va_Qi (fun (r : Int32) (u' : RS) => (True) ∧ FR [17, 18, 19] [] false u u') (BR dC dI cs b) (AR b sz)) 0 0 (AR b sz) := by
  refine Met.ofW (cc := cX12_along) (maxL := 11) (ret := (some .int)) (by decide) rfl ?_
  intro p e s m args below meth c s₁ B hml hv
  obtain ⟨rfl, hsz, hP, hK, hJ, hE⟩ := hv
  have hx := B.exec
  have hb := B.bytes
  have hr := B.returns
  have hown : s.vm.findClass RX12 = some m.cls := findClass_of_methodNamed B.named
  have hlocks := B.notSynchronized
  subst hsz
  have hAL : ∀ i, i < 108 → AR b s.heap.size (b i) := fun i h => Or.inl ⟨i, h, rfl⟩
  have hA : ∀ q : Nat, s.heap.size ≤ q → AR b s.heap.size q := fun q h => Or.inr h
  have hS : va_S (AR b s.heap.size) s.heap s.heap [] := va_S.rf
  have hfr : FR [17, 18, 19] [] false u u := FR.refl
  have hl := lv_entry ([.ref (b 0), .int (nI v), .int (nI k), .int (nI gl), .int y]) (n := 11) (Nat.le_of_ble_eq_true rfl)
  rw [lg_entry_eq]
  generalize (lg_sl ([.ref (b 0), .int (nI v), .int (nI k), .int (nI gl), .int y]) ++ List.replicate (11 - (lg_sl ([.ref (b 0), .int (nI v), .int (nI k), .int (nI gl), .int y])).length) Slot.unset).toArray = ls at hl ⊢
  have hl : lv_has ls 11 [(0, .ref (b 0)), (1, .int (nI v)), (2, .int (nI k)), (3, .int (nI gl)), (4, .int y)] := hl
  have hG := hp0
  have ha1 := gg_le hp0
  have hvo := gg_od hG hp1
  refine lv_iconst (v := 1) hx hb dX12_along_0 (by decide) ?_
  refine lv_istore (lv' := [(5, .int 1), (0, .ref (b 0)), (1, .int (nI v)), (2, .int (nI k)), (3, .int (nI gl)), (4, .int y)]) hx hb dX12_along_1 hl (by decide) rfl (fun ls hl => ?_)
  refine lv_iconst (v := 0) hx hb dX12_along_3 (by decide) ?_
  refine lv_istore (lv' := [(6, .int 0), (5, .int 1), (0, .ref (b 0)), (1, .int (nI v)), (2, .int (nI k)), (3, .int (nI gl)), (4, .int y)]) hx hb dX12_along_4 hl (by decide) rfl (fun ls hl => ?_)
  obtain ⟨g5, hg5⟩ : ∃ g, rA u 19 = g := ⟨_, rfl⟩
  refine r_ind (I := fun n u_ H locs ls => va_P (dC, dI) vwCl (rW cs b u_) H ∧ va_S (AR b s.heap.size) s.heap H locs ∧ FR [17, 18, 19] [] false u u_ ∧ ∃ (i_6 : Nat) (c1_6 : Nat → Int32), n = 400 - i_6 ∧ (i_6 ≤ 400) ∧ (∀ q, q < i_6 → c1_6 q = 0) ∧ (rA u_ 19 = c1_6) ∧ lv_has ls 11 [(0, .ref (b 0)), (1, .int (nI v)), (2, .int (nI k)), (3, .int (nI gl)), (4, .int y), (5, .int 1), (6, .int (nI i_6))]) (fun n u6 H locs ls hI ih6 => ?_) _ u _ _ _ ⟨hP, hS, hfr, 0, g5, rfl, (by first | assumption | omega | rfl | (congr 1; omega)), (by intro q hq; omega), hg5, lv_sub hl [2, 3, 4, 5, 6, 1, 0] rfl⟩
  obtain ⟨hP, hS, hfr, i_6, c1_6, hmu6, hL6_0, hL6_1, hL6_2, hl⟩ := hI
  have hA7 := (hfr.1 1 (by decide)).trans hA1
  subst hmu6
  refine lv_iload hx hb dX12_along_6 (lv_at hl 6 rfl) ?_
  refine lv_aload_n hx hb dX12_along_8 rfl (lv_at hl 0 rfl) ?_
  refine r_get (v := .ref (b 19)) hx hb (ly_X12 hE) hown hK hP rfl 25 (by decide) (wd_1406 hE) (fun _ h9 => h9) rfl dX12_along_9 ?_
  refine r_alen (j := 19) (t0 := 3) (v := 400) hx hb hK hP (by decide) rfl rfl rfl dX12_along_12 ?_
  refine lv_icmp_ge (tgt := 30) hx hb dX12_along_13 (by decide) (fun c8 => ?_) (fun c8 => ?_)
  · have c8 := (b_le (show Int32.toInt 400 = 400 from rfl) (nI_toInt (n := i_6) (by omega))).mp c8
    have cz := cn_0 400 (fun q hq => hL6_1 q (by omega))
    have czq := hL6_1
    refine lv_aload_n hx hb dX12_along_30 rfl (lv_at hl 0 rfl) ?_
    refine r_get (v := .ref (b 17)) hx hb (ly_X12 hE) hown hK hP rfl 23 (by decide) (wd_1404 hE) (fun _ h9 => h9) rfl dX12_along_31 ?_
    refine lv_iconst (v := 0) hx hb dX12_along_34 (by decide) ?_
    refine lv_bipush (v := 60) hx hb dX12_along_35 (by decide) ?_
    refine lv_iload_n hx hb dX12_along_37 rfl (lv_at hl 1 rfl) ?_
    refine lv_imul hx hb dX12_along_38 ?_
    refine W.eq (g2 := F0 m 39 ls [.int (nI (60 * v)), .int 0, .ref (b 17)]) (congrArg (fun z : Int32 => F0 m 39 ls (.int z :: [.int 0, .ref (b 17)])) (pk_mul 60 v)) ?_
    refine lv_iload_n hx hb dX12_along_39 rfl (lv_at hl 2 rfl) ?_
    refine lv_iadd hx hb dX12_along_40 ?_
    refine W.eq (g2 := F0 m 41 ls [.int (nI ((60 * v) + k)), .int 0, .ref (b 17)]) (congrArg (fun z : Int32 => F0 m 41 ls (.int z :: [.int 0, .ref (b 17)])) (nI_add (60 * v) k)) ?_
    obtain ⟨g10, hg10⟩ : ∃ g, rA u6 17 = g := ⟨_, rfl⟩
    refine r_iast (j := 17) (k := 0) (n := 400) (x := nI ((60 * v) + k)) hx hb hK hP hJ hAL hS (by decide) (fun _ => rfl) hg10 (by decide) (by decide) dX12_along_41 (fun u9 H locs hs9 hq9 hP hS => ?_)
    obtain ⟨w9, hw9⟩ : ∃ g, g = upd g10 0 (nI ((60 * v) + k)) := ⟨_, rfl⟩
    rw [← hw9] at hs9
    have hA11 := (hq9.1 1 (by decide)).trans hA7
    have hA12 := (hq9.1 19 (by decide)).trans hL6_2
    have hfr := FR.step hfr hq9 (by decide) (fun _ h => absurd h List.not_mem_nil) (fun h => rfl)
    have hq0 := hw9
    obtain ⟨qv1, -, -⟩ := qv_put (a := a) (f := g10) (n := 0) (x := 60 * v + k) (fun i hi => absurd hi (by omega)) (by omega) (by rw [show (60 * v + k) % 60 = k by omega, show (60 * v + k) / 60 = v by omega]; omega) (by omega) hw9
    refine lv_aload_n hx hb dX12_along_42 rfl (lv_at hl 0 rfl) ?_
    refine r_get (v := .ref (b 18)) hx hb (ly_X12 hE) hown hK hP rfl 24 (by decide) (wd_1405 hE) (fun _ h9 => h9) rfl dX12_along_43 ?_
    refine lv_iconst (v := 0) hx hb dX12_along_46 (by decide) ?_
    refine lv_iconst (v := 0) hx hb dX12_along_47 (by decide) ?_
    obtain ⟨g14, hg14⟩ : ∃ g, rA u9 18 = g := ⟨_, rfl⟩
    refine r_iast (j := 18) (k := 0) (n := 400) (x := 0) hx hb hK hP hJ hAL hS (by decide) (fun _ => rfl) hg14 (by decide) (by decide) dX12_along_48 (fun u13 H locs hs13 hq13 hP hS => ?_)
    obtain ⟨w13, hw13⟩ : ∃ g, g = upd g14 0 0 := ⟨_, rfl⟩
    rw [← hw13] at hs13
    have hA15 := (hq13.1 1 (by decide)).trans hA11
    have hA16 := (hq13.1 19 (by decide)).trans hA12
    have hA17 := (hq13.1 17 (by decide)).trans hs9
    have hfr := FR.step hfr hq13 (by decide) (fun _ h => absurd h List.not_mem_nil) (fun h => rfl)
    refine lv_aload_n hx hb dX12_along_49 rfl (lv_at hl 0 rfl) ?_
    refine r_get (v := .ref (b 19)) hx hb (ly_X12 hE) hown hK hP rfl 25 (by decide) (wd_1406 hE) (fun _ h9 => h9) rfl dX12_along_50 ?_
    refine lv_aload_n hx hb dX12_along_53 rfl (lv_at hl 0 rfl) ?_
    refine r_get (v := .ref (b 17)) hx hb (ly_X12 hE) hown hK hP rfl 23 (by decide) (wd_1404 hE) (fun _ h9 => h9) rfl dX12_along_54 ?_
    refine lv_iconst (v := 0) hx hb dX12_along_57 (by decide) ?_
    refine r_iald (j := 17) (k := 0) (n := 400) (x := nI ((60 * v) + k)) hx hb hK hP (by decide) rfl (by decide) (by decide) (by rw [hA17]; exact (by rw [hw9]; exact pk_us)) dX12_along_58 ?_
    refine lv_iconst (v := 1) hx hb dX12_along_59 (by decide) ?_
    refine r_zast (j := 19) (k := (60 * v) + k) (n := 400) (x := 1) hx hb hK hP hJ hAL hS (by decide) (fun _ => rfl) hA16 (by omega) (by decide) dX12_along_60 (fun u19 H locs hs19 hq19 hP hS => ?_)
    obtain ⟨w19, hw19⟩ : ∃ g, g = upd c1_6 ((60 * v) + k) (vp_nar .boolean 1) := ⟨_, rfl⟩
    rw [← hw19] at hs19
    have hA20 := (hq19.1 1 (by decide)).trans hA15
    have hA21 := (hq19.1 17 (by decide)).trans hA17
    have hA22 := (hq19.1 18 (by decide)).trans hs13
    have hfr := FR.step hfr hq19 (by decide) (fun _ h => absurd h List.not_mem_nil) (fun h => rfl)
    have cn1 : cn w19 400 = 1 := by rw [hw19, cn_in (czq _ (by omega)) (by decide) 400 (by omega), cz]
    refine lv_iconst (v := 0) hx hb dX12_along_61 (by decide) ?_
    refine lv_istore (lv' := [(6, .int 0), (0, .ref (b 0)), (1, .int (nI v)), (2, .int (nI k)), (3, .int (nI gl)), (4, .int y), (5, .int 1)]) hx hb dX12_along_62 hl (by decide) rfl (fun ls hl => ?_)
    refine r_ind (I := fun n u_ H locs ls => va_P (dC, dI) vwCl (rW cs b u_) H ∧ va_S (AR b s.heap.size) s.heap H locs ∧ FR [17, 18, 19] [] false u u_ ∧ ∃ (i_23 : Nat) (n_23 : Nat) (Q_23 : Nat → Int32) (C_23 : Nat → Int32), n = 400 - i_23 ∧ (QV a Q_23 n_23) ∧ (cn C_23 400 = n_23) ∧ (1 ≤ n_23) ∧ (i_23 ≤ n_23) ∧ (rA u_ 17 = Q_23) ∧ (rA u_ 19 = C_23) ∧ lv_has ls 11 [(0, .ref (b 0)), (1, .int (nI v)), (2, .int (nI k)), (3, .int (nI gl)), (4, .int y), (5, .int (nI n_23)), (6, .int (nI i_23))]) (fun n u23 H locs ls hI ih23 => ?_) _ u19 _ _ _ ⟨hP, hS, hfr, 0, 1, w9, w19, rfl, (by exact qv1), (by exact cn1), (by first | assumption | omega | rfl | (congr 1; omega)), (by first | assumption | omega | rfl | (congr 1; omega)), hA21, hs19, lv_sub hl [1, 2, 3, 4, 5, 6, 0] rfl⟩
    obtain ⟨hP, hS, hfr, i_23, n_23, Q_23, C_23, hmu23, hL23_0, hL23_1, hL23_2, hL23_3, hL23_4, hL23_5, hl⟩ := hI
    have hA24 := (hfr.1 1 (by decide)).trans hA1
    subst hmu23
    have cl0 := cn_le C_23 400
    refine lv_iload hx hb dX12_along_64 (lv_at hl 6 rfl) ?_
    refine lv_iload hx hb dX12_along_66 (lv_at hl 5 rfl) ?_
    refine lv_icmp_ge (tgt := 246) hx hb dX12_along_68 (by decide) (fun c25 => ?_) (fun c25 => ?_)
    · have c25 := (b_le (nI_toInt (n := n_23) (by omega)) (nI_toInt (n := i_23) (by omega))).mp c25
      refine lv_iconst (v := -1) hx hb dX12_along_246 (by decide) ?_
      exact W.iret (v := -1) hx hb hr (fun t ht hW => ⟨⟨-1, u23, rfl, ⟨trivial, hfr⟩, (show va_P (dC, dI) vwCl (rW cs b u23) t.heap by rw [ht]; exact hP)⟩, hS.F ht⟩) hS.2.2 dX12_along_247
    · have c25 := mt (b_le (nI_toInt (n := n_23) (by omega)) (nI_toInt (n := i_23) (by omega))).mpr c25
      have cl := cn_le C_23 400
      have qi := hL23_0 i_23 (by omega)
      have qvo := gg_od hG qi.2.1
      refine lv_aload_n hx hb dX12_along_71 rfl (lv_at hl 0 rfl) ?_
      refine r_get (v := .ref (b 17)) hx hb (ly_X12 hE) hown hK hP rfl 23 (by decide) (wd_1404 hE) (fun _ h9 => h9) rfl dX12_along_72 ?_
      refine lv_iload hx hb dX12_along_75 (lv_at hl 6 rfl) ?_
      refine r_iald (j := 17) (k := i_23) (n := 400) (x := nI (qn Q_23 i_23)) hx hb hK hP (by decide) rfl (by omega) (by decide) (by rw [hL23_4]; exact qi.1) dX12_along_77 ?_
      refine lv_bipush (v := 60) hx hb dX12_along_78 (by decide) ?_
      refine lv_idiv hx hb dX12_along_80 (by decide) ?_
      refine W.eq (g2 := F0 m 81 ls [.int (nI ((qn Q_23 i_23) / 60))]) (congrArg (fun z : Int32 => F0 m 81 ls (.int z :: [])) (pk_div (a := qn Q_23 i_23) (d := 60) (by omega) (by omega) (by omega))) ?_
      refine lv_istore (lv' := [(7, .int (nI ((qn Q_23 i_23) / 60))), (0, .ref (b 0)), (1, .int (nI v)), (2, .int (nI k)), (3, .int (nI gl)), (4, .int y), (5, .int (nI n_23)), (6, .int (nI i_23))]) hx hb dX12_along_81 hl (by decide) rfl (fun ls hl => ?_)
      refine lv_aload_n hx hb dX12_along_83 rfl (lv_at hl 1 rfl) ?_
      refine r_get (v := .ref (b 17)) hx hb (ly_X12 hE) hown hK hP rfl 23 (by decide) (wd_1404 hE) (fun _ h9 => h9) rfl dX12_along_84 ?_
      refine lv_iload hx hb dX12_along_87 (lv_at hl 7 rfl) ?_
      refine r_iald (j := 17) (k := i_23) (n := 400) (x := nI (qn Q_23 i_23)) hx hb hK hP (by decide) rfl (by omega) (by decide) (by rw [hL23_4]; exact qi.1) dX12_along_89 ?_
      refine lv_bipush (v := 60) hx hb dX12_along_90 (by decide) ?_
      refine lv_irem hx hb dX12_along_92 (by decide) ?_
      refine W.eq (g2 := F0 m 93 ls [.int (nI ((qn Q_23 i_23) % 60))]) (congrArg (fun z : Int32 => F0 m 93 ls (.int z :: [])) (pk_rem (a := qn Q_23 i_23) (d := 60) (by omega) (by omega) (by omega))) ?_
      refine lv_istore (lv' := [(8, .int (nI ((qn Q_23 i_23) % 60))), (7, .int (nI ((qn Q_23 i_23) / 60))), (0, .ref (b 0)), (1, .int (nI v)), (2, .int (nI k)), (3, .int (nI gl)), (4, .int y), (5, .int (nI n_23)), (6, .int (nI i_23))]) hx hb dX12_along_93 hl (by decide) rfl (fun ls hl => ?_)
      refine lv_iload hx hb dX12_along_95 (lv_at hl 1 rfl) ?_
      refine lv_iload_n hx hb dX12_along_97 rfl (lv_at hl 5 rfl) ?_
      refine lv_icmp_ne (tgt := 116) hx hb dX12_along_98 (by decide) (fun c28 => ?_) (fun c28 => ?_)
      · have c28 := mt (b_eq (nI_toInt (n := (qn Q_23 i_23) / 60) (by omega)) (nI_toInt (n := gl) (by omega))).mpr c28
        refine lv_iconst (v := 0) hx hb dX12_along_116 (by decide) ?_
        refine lv_istore (lv' := [(9, .int 0), (8, .int (nI ((qn Q_23 i_23) % 60))), (7, .int (nI ((qn Q_23 i_23) / 60))), (0, .ref (b 0)), (1, .int (nI v)), (2, .int (nI k)), (3, .int (nI gl)), (4, .int y), (5, .int (nI n_23)), (6, .int (nI i_23))]) hx hb dX12_along_117 hl (by decide) rfl (fun ls hl => ?_)
        refine r_ind (I := fun n u_ H locs ls => va_P (dC, dI) vwCl (rW cs b u_) H ∧ va_S (AR b s.heap.size) s.heap H locs ∧ FR [17, 18, 19] [] false u u_ ∧ ∃ (sq_29 : Nat) (n_29 : Nat) (Q_29 : Nat → Int32) (C_29 : Nat → Int32), n = 2 * eN a - sq_29 ∧ (QV a Q_29 n_29) ∧ (cn C_29 400 = n_29) ∧ (1 ≤ n_29) ∧ (sq_29 ≤ 2 * eN a) ∧ (i_23 < n_29) ∧ (rA u_ 17 = Q_29) ∧ (rA u_ 19 = C_29) ∧ lv_has ls 11 [(0, .ref (b 0)), (1, .int (nI v)), (2, .int (nI k)), (3, .int (nI gl)), (4, .int y), (5, .int (nI n_29)), (6, .int (nI i_23)), (7, .int (nI ((qn Q_23 i_23) / 60))), (8, .int (nI ((qn Q_23 i_23) % 60))), (9, .int (nI sq_29))]) (fun n u29 H locs ls hI ih29 => ?_) _ u23 _ _ _ ⟨hP, hS, hfr, 0, n_23, Q_23, C_23, rfl, (by first | assumption | omega | rfl | (congr 1; omega)), (by first | assumption | omega | rfl | (congr 1; omega)), (by first | assumption | omega | rfl | (congr 1; omega)), (by first | assumption | omega | rfl | (congr 1; omega)), (by first | assumption | omega | rfl | (congr 1; omega)), hL23_4, hL23_5, lv_sub hl [3, 4, 5, 6, 7, 8, 9, 2, 1, 0] rfl⟩
        obtain ⟨hP, hS, hfr, sq_29, n_29, Q_29, C_29, hmu29, hL29_0, hL29_1, hL29_2, hL29_3, hL29_4, hL29_5, hL29_6, hl⟩ := hI
        have hA30 := (hfr.1 1 (by decide)).trans hA1
        subst hmu29
        have cl1 := cn_le C_29 400
        refine lv_iload hx hb dX12_along_119 (lv_at hl 9 rfl) ?_
        refine lv_iconst (v := 2) hx hb dX12_along_121 (by decide) ?_
        refine lv_aload_n hx hb dX12_along_122 rfl (lv_at hl 0 rfl) ?_
        refine lv_iconst (v := 1) hx hb dX12_along_123 (by decide) ?_
        refine vp_callSi (va_Run.run (va_runV (As := [.int (nI 1)]) (rest := [.int 2, .int (nI sq_29)]) ⟨hx, hb, hml, hown, noTs⟩ (r_X12_of l dC dI H.size cs b u29 a hA30 1 (by first | assumption | omega | rfl | (congr 1; omega))) ⟨cbE 1 (wd_1536 hE) (wd_126 hE) (wd_1533 hE) rfl rfl (by decide +kernel) ⟨Nat.le_of_ble_eq_true rfl, Nat.le_of_ble_eq_true rfl⟩, (wd_1535 hE), (wd_61 hE)⟩ ⟨PR.blind, r_recv hK hP rfl, (r_pre (av := [.ref (b 0), .int (nI 1)]) hK hP hJ hE)⟩ rfl rfl hl.1 rfl (lv_room (Nat.le_of_ble_eq_true rfl)) dX12_along_124 ⟨Nat.le_of_ble_eq_true rfl, Nat.le_of_ble_eq_true rfl⟩)) (fun r31 hr31 => ?_)
        have hr31 := hr31.trans (gg_e hG)
        subst hr31
        refine lv_imul hx hb dX12_along_127 ?_
        refine W.eq (g2 := F0 m 128 ls [.int (nI (2 * (eN a))), .int (nI sq_29)]) (congrArg (fun z : Int32 => F0 m 128 ls (.int z :: [.int (nI sq_29)])) (pk_mul 2 (eN a))) ?_
        refine lv_icmp_ge (tgt := 240) hx hb dX12_along_128 (by decide) (fun c32 => ?_) (fun c32 => ?_)
        · have c32 := (b_le (nI_toInt (n := 2 * (eN a)) (by omega)) (nI_toInt (n := sq_29) (by omega))).mp c32
          refine lv_iinc (v := nI (i_23 + 1)) (lv' := [(6, .int (nI (i_23 + 1))), (0, .ref (b 0)), (1, .int (nI v)), (2, .int (nI k)), (3, .int (nI gl)), (4, .int y), (5, .int (nI n_29)), (7, .int (nI ((qn Q_23 i_23) / 60))), (8, .int (nI ((qn Q_23 i_23) % 60))), (9, .int (nI sq_29))]) hx hb dX12_along_240 hl (k := 6) rfl (nI_1 i_23) (by decide) rfl (fun ls hl => ?_)
          refine lv_goto (tgt := 64) hx hb dX12_along_243 (by decide) ?_
          exact ih23 _ u29 _ _ _ (by have := cn_le C_23 400; omega) ⟨hP, hS, hfr, (i_23 + 1), n_29, Q_29, C_29, rfl, (by first | assumption | omega | rfl | (congr 1; omega)), (by first | assumption | omega | rfl | (congr 1; omega)), (by first | assumption | omega | rfl | (congr 1; omega)), (by first | assumption | omega | rfl | (congr 1; omega)), hL29_5, hL29_6, lv_sub hl [1, 2, 3, 4, 5, 6, 0] rfl⟩
        · have c32 := mt (b_le (nI_toInt (n := 2 * (eN a)) (by omega)) (nI_toInt (n := sq_29) (by omega))).mpr c32
          have cl2 := cn_le C_29 400
          refine lv_aload_n hx hb dX12_along_131 rfl (lv_at hl 0 rfl) ?_
          refine lv_iload hx hb dX12_along_132 (lv_at hl 9 rfl) ?_
          refine vp_callSi (va_Run.run (va_runV (As := [.int (nI sq_29)]) (rest := []) ⟨hx, hb, hml, hown, noTs⟩ (r_X12_from l dC dI H.size cs b u29 a hA30 sq_29 (by first | assumption | omega | rfl | (congr 1; omega)) (by first | assumption | omega | rfl | (congr 1; omega))) ⟨cbE 1 (wd_1591 hE) (wd_126 hE) (wd_1588 hE) rfl rfl (by decide +kernel) ⟨Nat.le_of_ble_eq_true rfl, Nat.le_of_ble_eq_true rfl⟩, (wd_1590 hE), (wd_74 hE)⟩ ⟨PR.blind, r_recv hK hP rfl, (r_pre (av := [.ref (b 0), .int (nI sq_29)]) hK hP hJ hE)⟩ rfl rfl hl.1 rfl (lv_room (Nat.le_of_ble_eq_true rfl)) dX12_along_134 ⟨Nat.le_of_ble_eq_true rfl, Nat.le_of_ble_eq_true rfl⟩)) (fun r33 hr33 => ?_)
          have hau33 := gg_src (a := a) (s := sq_29) (by assumption) (by first | assumption | omega)
          subst hr33
          refine lv_iload hx hb dX12_along_137 (lv_at hl 7 rfl) ?_
          refine lv_icmp_ne (tgt := 234) hx hb dX12_along_139 (by decide) (fun c34 => ?_) (fun c34 => ?_)
          · have c34 := mt (b_eq (nI_toInt (n := src a sq_29) (by omega)) (nI_toInt (n := (qn Q_23 i_23) / 60) (by omega))).mpr c34
            refine lv_iinc (v := nI (sq_29 + 1)) (lv' := [(9, .int (nI (sq_29 + 1))), (0, .ref (b 0)), (1, .int (nI v)), (2, .int (nI k)), (3, .int (nI gl)), (4, .int y), (5, .int (nI n_29)), (6, .int (nI i_23)), (7, .int (nI ((qn Q_23 i_23) / 60))), (8, .int (nI ((qn Q_23 i_23) % 60)))]) hx hb dX12_along_234 hl (k := 9) rfl (nI_1 sq_29) (by decide) rfl (fun ls hl => ?_)
            refine lv_goto (tgt := 119) hx hb dX12_along_237 (by decide) ?_
            exact ih29 _ u29 _ _ _ (by omega) ⟨hP, hS, hfr, (sq_29 + 1), n_29, Q_29, C_29, rfl, (by first | assumption | omega | rfl | (congr 1; omega)), (by first | assumption | omega | rfl | (congr 1; omega)), (by first | assumption | omega | rfl | (congr 1; omega)), (by first | assumption | omega | rfl | (congr 1; omega)), (by first | assumption | omega | rfl | (congr 1; omega)), hL29_5, hL29_6, lv_sub hl [1, 2, 3, 4, 5, 6, 7, 8, 9, 0] rfl⟩
          · have c34 := (b_eq (nI_toInt (n := src a sq_29) (by omega)) (nI_toInt (n := (qn Q_23 i_23) / 60) (by omega))).mp c34
            refine lv_iload hx hb dX12_along_142 (lv_at hl 8 rfl) ?_
            refine lv_aload_n hx hb dX12_along_144 rfl (lv_at hl 0 rfl) ?_
            refine lv_iload hx hb dX12_along_145 (lv_at hl 9 rfl) ?_
            refine vp_callSi (va_Run.run (va_runV (As := [.int (nI sq_29)]) (rest := [.int (nI ((qn Q_23 i_23) % 60))]) ⟨hx, hb, hml, hown, noTs⟩ (r_X12_by l dC dI H.size cs b u29 a hA30 sq_29 (by first | assumption | omega | rfl | (congr 1; omega)) (by first | assumption | omega | rfl | (congr 1; omega))) ⟨cbE 1 (wd_1668 hE) (wd_126 hE) (wd_1665 hE) rfl rfl (by decide +kernel) ⟨Nat.le_of_ble_eq_true rfl, Nat.le_of_ble_eq_true rfl⟩, (wd_1667 hE), (wd_86 hE)⟩ ⟨PR.blind, r_recv hK hP rfl, (r_pre (av := [.ref (b 0), .int (nI sq_29)]) hK hP hJ hE)⟩ rfl rfl hl.1 rfl (lv_room (Nat.le_of_ble_eq_true rfl)) dX12_along_147 ⟨Nat.le_of_ble_eq_true rfl, Nat.le_of_ble_eq_true rfl⟩)) (fun r35 hr35 => ?_)
            have hau35 := gg_idx (a := a) (s := sq_29) (by assumption) (by first | assumption | omega)
            subst hr35
            refine lv_irem hx hb dX12_along_150 (nI_ne0 (n := idx a sq_29) (by omega) (by omega)) ?_
            refine W.eq (g2 := F0 m 151 ls [.int (nI (((qn Q_23 i_23) % 60) % (idx a sq_29)))]) (congrArg (fun z : Int32 => F0 m 151 ls (.int z :: [])) (pk_rem (a := (qn Q_23 i_23) % 60) (d := idx a sq_29) (by omega) (by omega) (by omega))) ?_
            have hmd36 := Nat.mod_lt ((qn Q_23 i_23) % 60) (show 0 < idx a sq_29 by omega)
            refine lv_if_eq (tgt := 157) hx hb dX12_along_151 (by decide) (fun c37 => ?_) (fun c37 => ?_)
            · have c37 := (b_eq (nI_toInt (n := ((qn Q_23 i_23) % 60) % (idx a sq_29)) (by omega)) (show Int32.toInt 0 = 0 from rfl)).mp c37
              have hca := gg_carry (a := a) hG (s := sq_29) (n := qn Q_23 i_23 % 60) (by omega) (by rw [show src a sq_29 = qn Q_23 i_23 / 60 by omega]; omega)
              have hdv := gg_dst hG (s := sq_29) (by omega)
              have hdo := gg_od hG hdv
              refine lv_bipush (v := 60) hx hb dX12_along_157 (by decide) ?_
              refine lv_aload_n hx hb dX12_along_159 rfl (lv_at hl 0 rfl) ?_
              refine lv_iload hx hb dX12_along_160 (lv_at hl 9 rfl) ?_
              refine vp_callSi (va_Run.run (va_runV (As := [.int (nI sq_29)]) (rest := [.int 60]) ⟨hx, hb, hml, hown, noTs⟩ (r_X12_to l dC dI H.size cs b u29 a hA30 sq_29 (by first | assumption | omega | rfl | (congr 1; omega)) (by first | assumption | omega | rfl | (congr 1; omega))) ⟨cbE 1 (wd_1606 hE) (wd_126 hE) (wd_1603 hE) rfl rfl (by decide +kernel) ⟨Nat.le_of_ble_eq_true rfl, Nat.le_of_ble_eq_true rfl⟩, (wd_1605 hE), (wd_77 hE)⟩ ⟨PR.blind, r_recv hK hP rfl, (r_pre (av := [.ref (b 0), .int (nI sq_29)]) hK hP hJ hE)⟩ rfl rfl hl.1 rfl (lv_room (Nat.le_of_ble_eq_true rfl)) dX12_along_162 ⟨Nat.le_of_ble_eq_true rfl, Nat.le_of_ble_eq_true rfl⟩)) (fun r38 hr38 => ?_)
              have hau38 := gg_dst (a := a) (s := sq_29) (by assumption) (by first | assumption | omega)
              subst hr38
              refine lv_imul hx hb dX12_along_165 ?_
              refine W.eq (g2 := F0 m 166 ls [.int (nI (60 * (dst a sq_29)))]) (congrArg (fun z : Int32 => F0 m 166 ls (.int z :: [])) (pk_mul 60 (dst a sq_29))) ?_
              refine lv_iload hx hb dX12_along_166 (lv_at hl 8 rfl) ?_
              refine lv_aload_n hx hb dX12_along_168 rfl (lv_at hl 0 rfl) ?_
              refine lv_iload hx hb dX12_along_169 (lv_at hl 9 rfl) ?_
              refine vp_callSi (va_Run.run (va_runV (As := [.int (nI sq_29)]) (rest := [.int (nI ((qn Q_23 i_23) % 60)), .int (nI (60 * (dst a sq_29)))]) ⟨hx, hb, hml, hown, noTs⟩ (r_X12_by l dC dI H.size cs b u29 a hA30 sq_29 (by first | assumption | omega | rfl | (congr 1; omega)) (by first | assumption | omega | rfl | (congr 1; omega))) ⟨cbE 1 (wd_1668 hE) (wd_126 hE) (wd_1665 hE) rfl rfl (by decide +kernel) ⟨Nat.le_of_ble_eq_true rfl, Nat.le_of_ble_eq_true rfl⟩, (wd_1667 hE), (wd_86 hE)⟩ ⟨PR.blind, r_recv hK hP rfl, (r_pre (av := [.ref (b 0), .int (nI sq_29)]) hK hP hJ hE)⟩ rfl rfl hl.1 rfl (lv_room (Nat.le_of_ble_eq_true rfl)) dX12_along_171 ⟨Nat.le_of_ble_eq_true rfl, Nat.le_of_ble_eq_true rfl⟩)) (fun r39 hr39 => ?_)
              have hau39 := gg_idx (a := a) (s := sq_29) (by assumption) (by first | assumption | omega)
              subst hr39
              refine lv_idiv hx hb dX12_along_174 (nI_ne0 (n := idx a sq_29) (by omega) (by omega)) ?_
              refine W.eq (g2 := F0 m 175 ls [.int (nI (((qn Q_23 i_23) % 60) / (idx a sq_29))), .int (nI (60 * (dst a sq_29)))]) (congrArg (fun z : Int32 => F0 m 175 ls (.int z :: [.int (nI (60 * (dst a sq_29)))])) (pk_div (a := (qn Q_23 i_23) % 60) (d := idx a sq_29) (by omega) (by omega) (by omega))) ?_
              have hmd40 := Nat.div_le_self ((qn Q_23 i_23) % 60) (idx a sq_29)
              refine lv_aload_n hx hb dX12_along_175 rfl (lv_at hl 0 rfl) ?_
              refine lv_iload hx hb dX12_along_176 (lv_at hl 9 rfl) ?_
              refine vp_callSi (va_Run.run (va_runV (As := [.int (nI sq_29)]) (rest := [.int (nI (((qn Q_23 i_23) % 60) / (idx a sq_29))), .int (nI (60 * (dst a sq_29)))]) ⟨hx, hb, hml, hown, noTs⟩ (r_X12_into l dC dI H.size cs b u29 a hA30 sq_29 (by first | assumption | omega | rfl | (congr 1; omega)) (by first | assumption | omega | rfl | (congr 1; omega))) ⟨cbE 1 (wd_1672 hE) (wd_126 hE) (wd_1669 hE) rfl rfl (by decide +kernel) ⟨Nat.le_of_ble_eq_true rfl, Nat.le_of_ble_eq_true rfl⟩, (wd_1671 hE), (wd_87 hE)⟩ ⟨PR.blind, r_recv hK hP rfl, (r_pre (av := [.ref (b 0), .int (nI sq_29)]) hK hP hJ hE)⟩ rfl rfl hl.1 rfl (lv_room (Nat.le_of_ble_eq_true rfl)) dX12_along_178 ⟨Nat.le_of_ble_eq_true rfl, Nat.le_of_ble_eq_true rfl⟩)) (fun r41 hr41 => ?_)
              have hau41 := gg_jdx (a := a) (s := sq_29) (by assumption) (by first | assumption | omega)
              subst hr41
              refine lv_imul hx hb dX12_along_181 ?_
              refine W.eq (g2 := F0 m 182 ls [.int (nI ((((qn Q_23 i_23) % 60) / (idx a sq_29)) * (jdx a sq_29))), .int (nI (60 * (dst a sq_29)))]) (congrArg (fun z : Int32 => F0 m 182 ls (.int z :: [.int (nI (60 * (dst a sq_29)))])) (pk_mul (((qn Q_23 i_23) % 60) / (idx a sq_29)) (jdx a sq_29))) ?_
              refine lv_iadd hx hb dX12_along_182 ?_
              refine W.eq (g2 := F0 m 183 ls [.int (nI ((60 * (dst a sq_29)) + ((((qn Q_23 i_23) % 60) / (idx a sq_29)) * (jdx a sq_29))))]) (congrArg (fun z : Int32 => F0 m 183 ls (.int z :: [])) (nI_add (60 * (dst a sq_29)) ((((qn Q_23 i_23) % 60) / (idx a sq_29)) * (jdx a sq_29)))) ?_
              refine lv_istore (lv' := [(10, .int (nI ((60 * (dst a sq_29)) + ((((qn Q_23 i_23) % 60) / (idx a sq_29)) * (jdx a sq_29))))), (0, .ref (b 0)), (1, .int (nI v)), (2, .int (nI k)), (3, .int (nI gl)), (4, .int y), (5, .int (nI n_29)), (6, .int (nI i_23)), (7, .int (nI ((qn Q_23 i_23) / 60))), (8, .int (nI ((qn Q_23 i_23) % 60))), (9, .int (nI sq_29))]) hx hb dX12_along_183 hl (by decide) rfl (fun ls hl => ?_)
              refine lv_aload_n hx hb dX12_along_185 rfl (lv_at hl 1 rfl) ?_
              refine r_get (v := .ref (b 19)) hx hb (ly_X12 hE) hown hK hP rfl 25 (by decide) (wd_1406 hE) (fun _ h9 => h9) rfl dX12_along_186 ?_
              refine lv_iload hx hb dX12_along_189 (lv_at hl 0 rfl) ?_
              refine r_zald (j := 19) (k := (60 * (dst a sq_29)) + ((((qn Q_23 i_23) % 60) / (idx a sq_29)) * (jdx a sq_29))) (n := 400) (x := C_29 ((60 * (dst a sq_29)) + ((((qn Q_23 i_23) % 60) / (idx a sq_29)) * (jdx a sq_29)))) hx hb hK hP (by decide) rfl (by omega) (by decide) (by rw [hL29_6]) dX12_along_191 ?_
              refine lv_topi (fun x43 ex43 => ?_)
              have CQ := ex43
              refine lv_if_eq (tgt := 198) hx hb dX12_along_192 (by decide) (fun c44 => ?_) (fun c44 => ?_)
              · have c44 := (b_eq (rfl : Int32.toInt x43 = _) (show Int32.toInt 0 = 0 from rfl)).mp c44
                refine lv_aload_n hx hb dX12_along_198 rfl (lv_at hl 1 rfl) ?_
                refine r_get (v := .ref (b 19)) hx hb (ly_X12 hE) hown hK hP rfl 25 (by decide) (wd_1406 hE) (fun _ h9 => h9) rfl dX12_along_199 ?_
                refine lv_iload hx hb dX12_along_202 (lv_at hl 0 rfl) ?_
                refine lv_iconst (v := 1) hx hb dX12_along_204 (by decide) ?_
                refine r_zast (j := 19) (k := (60 * (dst a sq_29)) + ((((qn Q_23 i_23) % 60) / (idx a sq_29)) * (jdx a sq_29))) (n := 400) (x := 1) hx hb hK hP hJ hAL hS (by decide) (fun _ => rfl) hL29_6 (by omega) (by decide) dX12_along_205 (fun u45 H locs hs45 hq45 hP hS => ?_)
                obtain ⟨w45, hw45⟩ : ∃ g, g = upd C_29 ((60 * (dst a sq_29)) + ((((qn Q_23 i_23) % 60) / (idx a sq_29)) * (jdx a sq_29))) (vp_nar .boolean 1) := ⟨_, rfl⟩
                rw [← hw45] at hs45
                have hA46 := (hq45.1 1 (by decide)).trans hA30
                have hA47 := (hq45.1 17 (by decide)).trans hL29_5
                have hfr := FR.step hfr hq45 (by decide) (fun _ h => absurd h List.not_mem_nil) (fun h => rfl)
                have cni := cn_in (f := C_29) (q := ((60 * (dst a sq_29)) + ((((qn Q_23 i_23) % 60) / (idx a sq_29)) * (jdx a sq_29)))) (x := vp_nar .boolean 1) (by rw [← CQ]; exact (b_eq (rfl : Int32.toInt _ = _) (show Int32.toInt 0 = 0 from rfl)).mpr (by omega)) (by decide) 400 (by omega)
                rw [← hw45] at cni
                have cl3 := cn_le w45 400
                refine lv_aload_n hx hb dX12_along_206 rfl (lv_at hl 1 rfl) ?_
                refine r_get (v := .ref (b 17)) hx hb (ly_X12 hE) hown hK hP rfl 23 (by decide) (wd_1404 hE) (fun _ h9 => h9) rfl dX12_along_207 ?_
                refine lv_iload hx hb dX12_along_210 (lv_at hl 6 rfl) ?_
                refine lv_iload hx hb dX12_along_212 (lv_at hl 0 rfl) ?_
                refine r_iast (j := 17) (k := n_29) (n := 400) (x := nI ((60 * (dst a sq_29)) + ((((qn Q_23 i_23) % 60) / (idx a sq_29)) * (jdx a sq_29)))) hx hb hK hP hJ hAL hS (by decide) (fun _ => rfl) hA47 (by omega) (by decide) dX12_along_214 (fun u48 H locs hs48 hq48 hP hS => ?_)
                obtain ⟨w48, hw48⟩ : ∃ g, g = upd Q_29 n_29 (nI ((60 * (dst a sq_29)) + ((((qn Q_23 i_23) % 60) / (idx a sq_29)) * (jdx a sq_29)))) := ⟨_, rfl⟩
                rw [← hw48] at hs48
                have hA49 := (hq48.1 1 (by decide)).trans hA46
                have hA50 := (hq48.1 19 (by decide)).trans hs45
                have hfr := FR.step hfr hq48 (by decide) (fun _ h => absurd h List.not_mem_nil) (fun h => rfl)
                obtain ⟨qv2, -, -⟩ := qv_put hL29_0 (x := ((60 * (dst a sq_29)) + ((((qn Q_23 i_23) % 60) / (idx a sq_29)) * (jdx a sq_29)))) (by omega) (by rw [show ((60 * (dst a sq_29)) + ((((qn Q_23 i_23) % 60) / (idx a sq_29)) * (jdx a sq_29))) % 60 = ((60 * (dst a sq_29)) + ((((qn Q_23 i_23) % 60) / (idx a sq_29)) * (jdx a sq_29))) - 60 * dst a sq_29 by omega, show ((60 * (dst a sq_29)) + ((((qn Q_23 i_23) % 60) / (idx a sq_29)) * (jdx a sq_29))) / 60 = dst a sq_29 by omega]; omega) (by omega) hw48
                refine lv_aload_n hx hb dX12_along_215 rfl (lv_at hl 1 rfl) ?_
                refine r_get (v := .ref (b 18)) hx hb (ly_X12 hE) hown hK hP rfl 24 (by decide) (wd_1405 hE) (fun _ h9 => h9) rfl dX12_along_216 ?_
                refine lv_iload hx hb dX12_along_219 (lv_at hl 6 rfl) ?_
                refine lv_aload_n hx hb dX12_along_221 rfl (lv_at hl 1 rfl) ?_
                refine r_get (v := .ref (b 18)) hx hb (ly_X12 hE) hown hK hP rfl 24 (by decide) (wd_1405 hE) (fun _ h9 => h9) rfl dX12_along_222 ?_
                refine lv_iload hx hb dX12_along_225 (lv_at hl 7 rfl) ?_
                obtain ⟨y51, hy51⟩ : ∃ z : Int32, rA u48 18 i_23 = z := ⟨_, rfl⟩
                refine r_iald (j := 18) (k := i_23) (n := 400) (x := y51) hx hb hK hP (by decide) rfl (by omega) (by decide) hy51 dX12_along_227 ?_
                refine lv_iconst (v := 1) hx hb dX12_along_228 (by decide) ?_
                refine lv_iadd hx hb dX12_along_229 ?_
                refine lv_topi (fun x52 ex52 => ?_)
                obtain ⟨g54, hg54⟩ : ∃ g, rA u48 18 = g := ⟨_, rfl⟩
                refine r_iast (j := 18) (k := n_29) (n := 400) (x := x52) hx hb hK hP hJ hAL hS (by decide) (fun _ => rfl) hg54 (by omega) (by decide) dX12_along_230 (fun u53 H locs hs53 hq53 hP hS => ?_)
                obtain ⟨w53, hw53⟩ : ∃ g, g = upd g54 n_29 x52 := ⟨_, rfl⟩
                rw [← hw53] at hs53
                have hA55 := (hq53.1 1 (by decide)).trans hA49
                have hA56 := (hq53.1 19 (by decide)).trans hA50
                have hA57 := (hq53.1 17 (by decide)).trans hs48
                have hfr := FR.step hfr hq53 (by decide) (fun _ h => absurd h List.not_mem_nil) (fun h => rfl)
                refine lv_iinc (v := nI (n_29 + 1)) (lv' := [(5, .int (nI (n_29 + 1))), (10, .int (nI ((60 * (dst a sq_29)) + ((((qn Q_23 i_23) % 60) / (idx a sq_29)) * (jdx a sq_29))))), (0, .ref (b 0)), (1, .int (nI v)), (2, .int (nI k)), (3, .int (nI gl)), (4, .int y), (6, .int (nI i_23)), (7, .int (nI ((qn Q_23 i_23) / 60))), (8, .int (nI ((qn Q_23 i_23) % 60))), (9, .int (nI sq_29))]) hx hb dX12_along_231 hl (k := 6) rfl (nI_1 n_29) (by decide) rfl (fun ls hl => ?_)
                refine lv_iinc (v := nI (sq_29 + 1)) (lv' := [(9, .int (nI (sq_29 + 1))), (5, .int (nI (n_29 + 1))), (10, .int (nI ((60 * (dst a sq_29)) + ((((qn Q_23 i_23) % 60) / (idx a sq_29)) * (jdx a sq_29))))), (0, .ref (b 0)), (1, .int (nI v)), (2, .int (nI k)), (3, .int (nI gl)), (4, .int y), (6, .int (nI i_23)), (7, .int (nI ((qn Q_23 i_23) / 60))), (8, .int (nI ((qn Q_23 i_23) % 60)))]) hx hb dX12_along_234 hl (k := 10) rfl (nI_1 sq_29) (by decide) rfl (fun ls hl => ?_)
                refine lv_goto (tgt := 119) hx hb dX12_along_237 (by decide) ?_
                exact ih29 _ u53 _ _ _ (by omega) ⟨hP, hS, hfr, (sq_29 + 1), (n_29 + 1), w48, w45, rfl, (by first | assumption | omega | rfl | (congr 1; omega)), (by first | assumption | omega | rfl | (congr 1; omega)), (by first | assumption | omega | rfl | (congr 1; omega)), (by first | assumption | omega | rfl | (congr 1; omega)), (by first | assumption | omega | rfl | (congr 1; omega)), hA57, hA56, lv_sub hl [3, 4, 5, 6, 7, 1, 8, 9, 10, 0] rfl⟩
              · have c44 := mt (b_eq (rfl : Int32.toInt x43 = _) (show Int32.toInt 0 = 0 from rfl)).mpr c44
                refine lv_goto (tgt := 234) hx hb dX12_along_195 (by decide) ?_
                refine lv_iinc (v := nI (sq_29 + 1)) (lv' := [(9, .int (nI (sq_29 + 1))), (10, .int (nI ((60 * (dst a sq_29)) + ((((qn Q_23 i_23) % 60) / (idx a sq_29)) * (jdx a sq_29))))), (0, .ref (b 0)), (1, .int (nI v)), (2, .int (nI k)), (3, .int (nI gl)), (4, .int y), (5, .int (nI n_29)), (6, .int (nI i_23)), (7, .int (nI ((qn Q_23 i_23) / 60))), (8, .int (nI ((qn Q_23 i_23) % 60)))]) hx hb dX12_along_234 hl (k := 10) rfl (nI_1 sq_29) (by decide) rfl (fun ls hl => ?_)
                refine lv_goto (tgt := 119) hx hb dX12_along_237 (by decide) ?_
                exact ih29 _ u29 _ _ _ (by omega) ⟨hP, hS, hfr, (sq_29 + 1), n_29, Q_29, C_29, rfl, (by first | assumption | omega | rfl | (congr 1; omega)), (by first | assumption | omega | rfl | (congr 1; omega)), (by first | assumption | omega | rfl | (congr 1; omega)), (by first | assumption | omega | rfl | (congr 1; omega)), (by first | assumption | omega | rfl | (congr 1; omega)), hL29_5, hL29_6, lv_sub hl [2, 3, 4, 5, 6, 7, 8, 9, 10, 0] rfl⟩
            · have c37 := mt (b_eq (nI_toInt (n := ((qn Q_23 i_23) % 60) % (idx a sq_29)) (by omega)) (show Int32.toInt 0 = 0 from rfl)).mpr c37
              refine lv_goto (tgt := 234) hx hb dX12_along_154 (by decide) ?_
              refine lv_iinc (v := nI (sq_29 + 1)) (lv' := [(9, .int (nI (sq_29 + 1))), (0, .ref (b 0)), (1, .int (nI v)), (2, .int (nI k)), (3, .int (nI gl)), (4, .int y), (5, .int (nI n_29)), (6, .int (nI i_23)), (7, .int (nI ((qn Q_23 i_23) / 60))), (8, .int (nI ((qn Q_23 i_23) % 60)))]) hx hb dX12_along_234 hl (k := 9) rfl (nI_1 sq_29) (by decide) rfl (fun ls hl => ?_)
              refine lv_goto (tgt := 119) hx hb dX12_along_237 (by decide) ?_
              exact ih29 _ u29 _ _ _ (by omega) ⟨hP, hS, hfr, (sq_29 + 1), n_29, Q_29, C_29, rfl, (by first | assumption | omega | rfl | (congr 1; omega)), (by first | assumption | omega | rfl | (congr 1; omega)), (by first | assumption | omega | rfl | (congr 1; omega)), (by first | assumption | omega | rfl | (congr 1; omega)), (by first | assumption | omega | rfl | (congr 1; omega)), hL29_5, hL29_6, lv_sub hl [1, 2, 3, 4, 5, 6, 7, 8, 9, 0] rfl⟩
      · have c28 := (b_eq (nI_toInt (n := (qn Q_23 i_23) / 60) (by omega)) (nI_toInt (n := gl) (by omega))).mp c28
        refine lv_iload hx hb dX12_along_101 (lv_at hl 0 rfl) ?_
        refine lv_iload hx hb dX12_along_103 (lv_at hl 6 rfl) ?_
        refine lv_icmp_ne (tgt := 116) hx hb dX12_along_105 (by decide) (fun c58 => ?_) (fun c58 => ?_)
        · have c58 := mt (b_eq (nI_toInt (n := (qn Q_23 i_23) % 60) (by omega)) (rfl : Int32.toInt y = _)).mpr c58
          refine lv_iconst (v := 0) hx hb dX12_along_116 (by decide) ?_
          refine lv_istore (lv' := [(9, .int 0), (8, .int (nI ((qn Q_23 i_23) % 60))), (7, .int (nI ((qn Q_23 i_23) / 60))), (0, .ref (b 0)), (1, .int (nI v)), (2, .int (nI k)), (3, .int (nI gl)), (4, .int y), (5, .int (nI n_23)), (6, .int (nI i_23))]) hx hb dX12_along_117 hl (by decide) rfl (fun ls hl => ?_)
          refine r_ind (I := fun n u_ H locs ls => va_P (dC, dI) vwCl (rW cs b u_) H ∧ va_S (AR b s.heap.size) s.heap H locs ∧ FR [17, 18, 19] [] false u u_ ∧ ∃ (sq_59 : Nat) (n_59 : Nat) (Q_59 : Nat → Int32) (C_59 : Nat → Int32), n = 2 * eN a - sq_59 ∧ (QV a Q_59 n_59) ∧ (cn C_59 400 = n_59) ∧ (1 ≤ n_59) ∧ (sq_59 ≤ 2 * eN a) ∧ (i_23 < n_59) ∧ (rA u_ 17 = Q_59) ∧ (rA u_ 19 = C_59) ∧ lv_has ls 11 [(0, .ref (b 0)), (1, .int (nI v)), (2, .int (nI k)), (3, .int (nI gl)), (4, .int y), (5, .int (nI n_59)), (6, .int (nI i_23)), (7, .int (nI ((qn Q_23 i_23) / 60))), (8, .int (nI ((qn Q_23 i_23) % 60))), (9, .int (nI sq_59))]) (fun n u59 H locs ls hI ih59 => ?_) _ u23 _ _ _ ⟨hP, hS, hfr, 0, n_23, Q_23, C_23, rfl, (by first | assumption | omega | rfl | (congr 1; omega)), (by first | assumption | omega | rfl | (congr 1; omega)), (by first | assumption | omega | rfl | (congr 1; omega)), (by first | assumption | omega | rfl | (congr 1; omega)), (by first | assumption | omega | rfl | (congr 1; omega)), hL23_4, hL23_5, lv_sub hl [3, 4, 5, 6, 7, 8, 9, 2, 1, 0] rfl⟩
          obtain ⟨hP, hS, hfr, sq_59, n_59, Q_59, C_59, hmu59, hL59_0, hL59_1, hL59_2, hL59_3, hL59_4, hL59_5, hL59_6, hl⟩ := hI
          have hA60 := (hfr.1 1 (by decide)).trans hA1
          subst hmu59
          have cl1 := cn_le C_59 400
          refine lv_iload hx hb dX12_along_119 (lv_at hl 9 rfl) ?_
          refine lv_iconst (v := 2) hx hb dX12_along_121 (by decide) ?_
          refine lv_aload_n hx hb dX12_along_122 rfl (lv_at hl 0 rfl) ?_
          refine lv_iconst (v := 1) hx hb dX12_along_123 (by decide) ?_
          refine vp_callSi (va_Run.run (va_runV (As := [.int (nI 1)]) (rest := [.int 2, .int (nI sq_59)]) ⟨hx, hb, hml, hown, noTs⟩ (r_X12_of l dC dI H.size cs b u59 a hA60 1 (by first | assumption | omega | rfl | (congr 1; omega))) ⟨cbE 1 (wd_1536 hE) (wd_126 hE) (wd_1533 hE) rfl rfl (by decide +kernel) ⟨Nat.le_of_ble_eq_true rfl, Nat.le_of_ble_eq_true rfl⟩, (wd_1535 hE), (wd_61 hE)⟩ ⟨PR.blind, r_recv hK hP rfl, (r_pre (av := [.ref (b 0), .int (nI 1)]) hK hP hJ hE)⟩ rfl rfl hl.1 rfl (lv_room (Nat.le_of_ble_eq_true rfl)) dX12_along_124 ⟨Nat.le_of_ble_eq_true rfl, Nat.le_of_ble_eq_true rfl⟩)) (fun r61 hr61 => ?_)
          have hr61 := hr61.trans (gg_e hG)
          subst hr61
          refine lv_imul hx hb dX12_along_127 ?_
          refine W.eq (g2 := F0 m 128 ls [.int (nI (2 * (eN a))), .int (nI sq_59)]) (congrArg (fun z : Int32 => F0 m 128 ls (.int z :: [.int (nI sq_59)])) (pk_mul 2 (eN a))) ?_
          refine lv_icmp_ge (tgt := 240) hx hb dX12_along_128 (by decide) (fun c62 => ?_) (fun c62 => ?_)
          · have c62 := (b_le (nI_toInt (n := 2 * (eN a)) (by omega)) (nI_toInt (n := sq_59) (by omega))).mp c62
            refine lv_iinc (v := nI (i_23 + 1)) (lv' := [(6, .int (nI (i_23 + 1))), (0, .ref (b 0)), (1, .int (nI v)), (2, .int (nI k)), (3, .int (nI gl)), (4, .int y), (5, .int (nI n_59)), (7, .int (nI ((qn Q_23 i_23) / 60))), (8, .int (nI ((qn Q_23 i_23) % 60))), (9, .int (nI sq_59))]) hx hb dX12_along_240 hl (k := 6) rfl (nI_1 i_23) (by decide) rfl (fun ls hl => ?_)
            refine lv_goto (tgt := 64) hx hb dX12_along_243 (by decide) ?_
            exact ih23 _ u59 _ _ _ (by have := cn_le C_23 400; omega) ⟨hP, hS, hfr, (i_23 + 1), n_59, Q_59, C_59, rfl, (by first | assumption | omega | rfl | (congr 1; omega)), (by first | assumption | omega | rfl | (congr 1; omega)), (by first | assumption | omega | rfl | (congr 1; omega)), (by first | assumption | omega | rfl | (congr 1; omega)), hL59_5, hL59_6, lv_sub hl [1, 2, 3, 4, 5, 6, 0] rfl⟩
          · have c62 := mt (b_le (nI_toInt (n := 2 * (eN a)) (by omega)) (nI_toInt (n := sq_59) (by omega))).mpr c62
            have cl2 := cn_le C_59 400
            refine lv_aload_n hx hb dX12_along_131 rfl (lv_at hl 0 rfl) ?_
            refine lv_iload hx hb dX12_along_132 (lv_at hl 9 rfl) ?_
            refine vp_callSi (va_Run.run (va_runV (As := [.int (nI sq_59)]) (rest := []) ⟨hx, hb, hml, hown, noTs⟩ (r_X12_from l dC dI H.size cs b u59 a hA60 sq_59 (by first | assumption | omega | rfl | (congr 1; omega)) (by first | assumption | omega | rfl | (congr 1; omega))) ⟨cbE 1 (wd_1591 hE) (wd_126 hE) (wd_1588 hE) rfl rfl (by decide +kernel) ⟨Nat.le_of_ble_eq_true rfl, Nat.le_of_ble_eq_true rfl⟩, (wd_1590 hE), (wd_74 hE)⟩ ⟨PR.blind, r_recv hK hP rfl, (r_pre (av := [.ref (b 0), .int (nI sq_59)]) hK hP hJ hE)⟩ rfl rfl hl.1 rfl (lv_room (Nat.le_of_ble_eq_true rfl)) dX12_along_134 ⟨Nat.le_of_ble_eq_true rfl, Nat.le_of_ble_eq_true rfl⟩)) (fun r63 hr63 => ?_)
            have hau63 := gg_src (a := a) (s := sq_59) (by assumption) (by first | assumption | omega)
            subst hr63
            refine lv_iload hx hb dX12_along_137 (lv_at hl 7 rfl) ?_
            refine lv_icmp_ne (tgt := 234) hx hb dX12_along_139 (by decide) (fun c64 => ?_) (fun c64 => ?_)
            · have c64 := mt (b_eq (nI_toInt (n := src a sq_59) (by omega)) (nI_toInt (n := (qn Q_23 i_23) / 60) (by omega))).mpr c64
              refine lv_iinc (v := nI (sq_59 + 1)) (lv' := [(9, .int (nI (sq_59 + 1))), (0, .ref (b 0)), (1, .int (nI v)), (2, .int (nI k)), (3, .int (nI gl)), (4, .int y), (5, .int (nI n_59)), (6, .int (nI i_23)), (7, .int (nI ((qn Q_23 i_23) / 60))), (8, .int (nI ((qn Q_23 i_23) % 60)))]) hx hb dX12_along_234 hl (k := 9) rfl (nI_1 sq_59) (by decide) rfl (fun ls hl => ?_)
              refine lv_goto (tgt := 119) hx hb dX12_along_237 (by decide) ?_
              exact ih59 _ u59 _ _ _ (by omega) ⟨hP, hS, hfr, (sq_59 + 1), n_59, Q_59, C_59, rfl, (by first | assumption | omega | rfl | (congr 1; omega)), (by first | assumption | omega | rfl | (congr 1; omega)), (by first | assumption | omega | rfl | (congr 1; omega)), (by first | assumption | omega | rfl | (congr 1; omega)), (by first | assumption | omega | rfl | (congr 1; omega)), hL59_5, hL59_6, lv_sub hl [1, 2, 3, 4, 5, 6, 7, 8, 9, 0] rfl⟩
            · have c64 := (b_eq (nI_toInt (n := src a sq_59) (by omega)) (nI_toInt (n := (qn Q_23 i_23) / 60) (by omega))).mp c64
              refine lv_iload hx hb dX12_along_142 (lv_at hl 8 rfl) ?_
              refine lv_aload_n hx hb dX12_along_144 rfl (lv_at hl 0 rfl) ?_
              refine lv_iload hx hb dX12_along_145 (lv_at hl 9 rfl) ?_
              refine vp_callSi (va_Run.run (va_runV (As := [.int (nI sq_59)]) (rest := [.int (nI ((qn Q_23 i_23) % 60))]) ⟨hx, hb, hml, hown, noTs⟩ (r_X12_by l dC dI H.size cs b u59 a hA60 sq_59 (by first | assumption | omega | rfl | (congr 1; omega)) (by first | assumption | omega | rfl | (congr 1; omega))) ⟨cbE 1 (wd_1668 hE) (wd_126 hE) (wd_1665 hE) rfl rfl (by decide +kernel) ⟨Nat.le_of_ble_eq_true rfl, Nat.le_of_ble_eq_true rfl⟩, (wd_1667 hE), (wd_86 hE)⟩ ⟨PR.blind, r_recv hK hP rfl, (r_pre (av := [.ref (b 0), .int (nI sq_59)]) hK hP hJ hE)⟩ rfl rfl hl.1 rfl (lv_room (Nat.le_of_ble_eq_true rfl)) dX12_along_147 ⟨Nat.le_of_ble_eq_true rfl, Nat.le_of_ble_eq_true rfl⟩)) (fun r65 hr65 => ?_)
              have hau65 := gg_idx (a := a) (s := sq_59) (by assumption) (by first | assumption | omega)
              subst hr65
              refine lv_irem hx hb dX12_along_150 (nI_ne0 (n := idx a sq_59) (by omega) (by omega)) ?_
              refine W.eq (g2 := F0 m 151 ls [.int (nI (((qn Q_23 i_23) % 60) % (idx a sq_59)))]) (congrArg (fun z : Int32 => F0 m 151 ls (.int z :: [])) (pk_rem (a := (qn Q_23 i_23) % 60) (d := idx a sq_59) (by omega) (by omega) (by omega))) ?_
              have hmd66 := Nat.mod_lt ((qn Q_23 i_23) % 60) (show 0 < idx a sq_59 by omega)
              refine lv_if_eq (tgt := 157) hx hb dX12_along_151 (by decide) (fun c67 => ?_) (fun c67 => ?_)
              · have c67 := (b_eq (nI_toInt (n := ((qn Q_23 i_23) % 60) % (idx a sq_59)) (by omega)) (show Int32.toInt 0 = 0 from rfl)).mp c67
                have hca := gg_carry (a := a) hG (s := sq_59) (n := qn Q_23 i_23 % 60) (by omega) (by rw [show src a sq_59 = qn Q_23 i_23 / 60 by omega]; omega)
                have hdv := gg_dst hG (s := sq_59) (by omega)
                have hdo := gg_od hG hdv
                refine lv_bipush (v := 60) hx hb dX12_along_157 (by decide) ?_
                refine lv_aload_n hx hb dX12_along_159 rfl (lv_at hl 0 rfl) ?_
                refine lv_iload hx hb dX12_along_160 (lv_at hl 9 rfl) ?_
                refine vp_callSi (va_Run.run (va_runV (As := [.int (nI sq_59)]) (rest := [.int 60]) ⟨hx, hb, hml, hown, noTs⟩ (r_X12_to l dC dI H.size cs b u59 a hA60 sq_59 (by first | assumption | omega | rfl | (congr 1; omega)) (by first | assumption | omega | rfl | (congr 1; omega))) ⟨cbE 1 (wd_1606 hE) (wd_126 hE) (wd_1603 hE) rfl rfl (by decide +kernel) ⟨Nat.le_of_ble_eq_true rfl, Nat.le_of_ble_eq_true rfl⟩, (wd_1605 hE), (wd_77 hE)⟩ ⟨PR.blind, r_recv hK hP rfl, (r_pre (av := [.ref (b 0), .int (nI sq_59)]) hK hP hJ hE)⟩ rfl rfl hl.1 rfl (lv_room (Nat.le_of_ble_eq_true rfl)) dX12_along_162 ⟨Nat.le_of_ble_eq_true rfl, Nat.le_of_ble_eq_true rfl⟩)) (fun r68 hr68 => ?_)
                have hau68 := gg_dst (a := a) (s := sq_59) (by assumption) (by first | assumption | omega)
                subst hr68
                refine lv_imul hx hb dX12_along_165 ?_
                refine W.eq (g2 := F0 m 166 ls [.int (nI (60 * (dst a sq_59)))]) (congrArg (fun z : Int32 => F0 m 166 ls (.int z :: [])) (pk_mul 60 (dst a sq_59))) ?_
                refine lv_iload hx hb dX12_along_166 (lv_at hl 8 rfl) ?_
                refine lv_aload_n hx hb dX12_along_168 rfl (lv_at hl 0 rfl) ?_
                refine lv_iload hx hb dX12_along_169 (lv_at hl 9 rfl) ?_
                refine vp_callSi (va_Run.run (va_runV (As := [.int (nI sq_59)]) (rest := [.int (nI ((qn Q_23 i_23) % 60)), .int (nI (60 * (dst a sq_59)))]) ⟨hx, hb, hml, hown, noTs⟩ (r_X12_by l dC dI H.size cs b u59 a hA60 sq_59 (by first | assumption | omega | rfl | (congr 1; omega)) (by first | assumption | omega | rfl | (congr 1; omega))) ⟨cbE 1 (wd_1668 hE) (wd_126 hE) (wd_1665 hE) rfl rfl (by decide +kernel) ⟨Nat.le_of_ble_eq_true rfl, Nat.le_of_ble_eq_true rfl⟩, (wd_1667 hE), (wd_86 hE)⟩ ⟨PR.blind, r_recv hK hP rfl, (r_pre (av := [.ref (b 0), .int (nI sq_59)]) hK hP hJ hE)⟩ rfl rfl hl.1 rfl (lv_room (Nat.le_of_ble_eq_true rfl)) dX12_along_171 ⟨Nat.le_of_ble_eq_true rfl, Nat.le_of_ble_eq_true rfl⟩)) (fun r69 hr69 => ?_)
                have hau69 := gg_idx (a := a) (s := sq_59) (by assumption) (by first | assumption | omega)
                subst hr69
                refine lv_idiv hx hb dX12_along_174 (nI_ne0 (n := idx a sq_59) (by omega) (by omega)) ?_
                refine W.eq (g2 := F0 m 175 ls [.int (nI (((qn Q_23 i_23) % 60) / (idx a sq_59))), .int (nI (60 * (dst a sq_59)))]) (congrArg (fun z : Int32 => F0 m 175 ls (.int z :: [.int (nI (60 * (dst a sq_59)))])) (pk_div (a := (qn Q_23 i_23) % 60) (d := idx a sq_59) (by omega) (by omega) (by omega))) ?_
                have hmd70 := Nat.div_le_self ((qn Q_23 i_23) % 60) (idx a sq_59)
                refine lv_aload_n hx hb dX12_along_175 rfl (lv_at hl 0 rfl) ?_
                refine lv_iload hx hb dX12_along_176 (lv_at hl 9 rfl) ?_
                refine vp_callSi (va_Run.run (va_runV (As := [.int (nI sq_59)]) (rest := [.int (nI (((qn Q_23 i_23) % 60) / (idx a sq_59))), .int (nI (60 * (dst a sq_59)))]) ⟨hx, hb, hml, hown, noTs⟩ (r_X12_into l dC dI H.size cs b u59 a hA60 sq_59 (by first | assumption | omega | rfl | (congr 1; omega)) (by first | assumption | omega | rfl | (congr 1; omega))) ⟨cbE 1 (wd_1672 hE) (wd_126 hE) (wd_1669 hE) rfl rfl (by decide +kernel) ⟨Nat.le_of_ble_eq_true rfl, Nat.le_of_ble_eq_true rfl⟩, (wd_1671 hE), (wd_87 hE)⟩ ⟨PR.blind, r_recv hK hP rfl, (r_pre (av := [.ref (b 0), .int (nI sq_59)]) hK hP hJ hE)⟩ rfl rfl hl.1 rfl (lv_room (Nat.le_of_ble_eq_true rfl)) dX12_along_178 ⟨Nat.le_of_ble_eq_true rfl, Nat.le_of_ble_eq_true rfl⟩)) (fun r71 hr71 => ?_)
                have hau71 := gg_jdx (a := a) (s := sq_59) (by assumption) (by first | assumption | omega)
                subst hr71
                refine lv_imul hx hb dX12_along_181 ?_
                refine W.eq (g2 := F0 m 182 ls [.int (nI ((((qn Q_23 i_23) % 60) / (idx a sq_59)) * (jdx a sq_59))), .int (nI (60 * (dst a sq_59)))]) (congrArg (fun z : Int32 => F0 m 182 ls (.int z :: [.int (nI (60 * (dst a sq_59)))])) (pk_mul (((qn Q_23 i_23) % 60) / (idx a sq_59)) (jdx a sq_59))) ?_
                refine lv_iadd hx hb dX12_along_182 ?_
                refine W.eq (g2 := F0 m 183 ls [.int (nI ((60 * (dst a sq_59)) + ((((qn Q_23 i_23) % 60) / (idx a sq_59)) * (jdx a sq_59))))]) (congrArg (fun z : Int32 => F0 m 183 ls (.int z :: [])) (nI_add (60 * (dst a sq_59)) ((((qn Q_23 i_23) % 60) / (idx a sq_59)) * (jdx a sq_59)))) ?_
                refine lv_istore (lv' := [(10, .int (nI ((60 * (dst a sq_59)) + ((((qn Q_23 i_23) % 60) / (idx a sq_59)) * (jdx a sq_59))))), (0, .ref (b 0)), (1, .int (nI v)), (2, .int (nI k)), (3, .int (nI gl)), (4, .int y), (5, .int (nI n_59)), (6, .int (nI i_23)), (7, .int (nI ((qn Q_23 i_23) / 60))), (8, .int (nI ((qn Q_23 i_23) % 60))), (9, .int (nI sq_59))]) hx hb dX12_along_183 hl (by decide) rfl (fun ls hl => ?_)
                refine lv_aload_n hx hb dX12_along_185 rfl (lv_at hl 1 rfl) ?_
                refine r_get (v := .ref (b 19)) hx hb (ly_X12 hE) hown hK hP rfl 25 (by decide) (wd_1406 hE) (fun _ h9 => h9) rfl dX12_along_186 ?_
                refine lv_iload hx hb dX12_along_189 (lv_at hl 0 rfl) ?_
                refine r_zald (j := 19) (k := (60 * (dst a sq_59)) + ((((qn Q_23 i_23) % 60) / (idx a sq_59)) * (jdx a sq_59))) (n := 400) (x := C_59 ((60 * (dst a sq_59)) + ((((qn Q_23 i_23) % 60) / (idx a sq_59)) * (jdx a sq_59)))) hx hb hK hP (by decide) rfl (by omega) (by decide) (by rw [hL59_6]) dX12_along_191 ?_
                refine lv_topi (fun x73 ex73 => ?_)
                have CQ := ex73
                refine lv_if_eq (tgt := 198) hx hb dX12_along_192 (by decide) (fun c74 => ?_) (fun c74 => ?_)
                · have c74 := (b_eq (rfl : Int32.toInt x73 = _) (show Int32.toInt 0 = 0 from rfl)).mp c74
                  refine lv_aload_n hx hb dX12_along_198 rfl (lv_at hl 1 rfl) ?_
                  refine r_get (v := .ref (b 19)) hx hb (ly_X12 hE) hown hK hP rfl 25 (by decide) (wd_1406 hE) (fun _ h9 => h9) rfl dX12_along_199 ?_
                  refine lv_iload hx hb dX12_along_202 (lv_at hl 0 rfl) ?_
                  refine lv_iconst (v := 1) hx hb dX12_along_204 (by decide) ?_
                  refine r_zast (j := 19) (k := (60 * (dst a sq_59)) + ((((qn Q_23 i_23) % 60) / (idx a sq_59)) * (jdx a sq_59))) (n := 400) (x := 1) hx hb hK hP hJ hAL hS (by decide) (fun _ => rfl) hL59_6 (by omega) (by decide) dX12_along_205 (fun u75 H locs hs75 hq75 hP hS => ?_)
                  obtain ⟨w75, hw75⟩ : ∃ g, g = upd C_59 ((60 * (dst a sq_59)) + ((((qn Q_23 i_23) % 60) / (idx a sq_59)) * (jdx a sq_59))) (vp_nar .boolean 1) := ⟨_, rfl⟩
                  rw [← hw75] at hs75
                  have hA76 := (hq75.1 1 (by decide)).trans hA60
                  have hA77 := (hq75.1 17 (by decide)).trans hL59_5
                  have hfr := FR.step hfr hq75 (by decide) (fun _ h => absurd h List.not_mem_nil) (fun h => rfl)
                  have cni := cn_in (f := C_59) (q := ((60 * (dst a sq_59)) + ((((qn Q_23 i_23) % 60) / (idx a sq_59)) * (jdx a sq_59)))) (x := vp_nar .boolean 1) (by rw [← CQ]; exact (b_eq (rfl : Int32.toInt _ = _) (show Int32.toInt 0 = 0 from rfl)).mpr (by omega)) (by decide) 400 (by omega)
                  rw [← hw75] at cni
                  have cl3 := cn_le w75 400
                  refine lv_aload_n hx hb dX12_along_206 rfl (lv_at hl 1 rfl) ?_
                  refine r_get (v := .ref (b 17)) hx hb (ly_X12 hE) hown hK hP rfl 23 (by decide) (wd_1404 hE) (fun _ h9 => h9) rfl dX12_along_207 ?_
                  refine lv_iload hx hb dX12_along_210 (lv_at hl 6 rfl) ?_
                  refine lv_iload hx hb dX12_along_212 (lv_at hl 0 rfl) ?_
                  refine r_iast (j := 17) (k := n_59) (n := 400) (x := nI ((60 * (dst a sq_59)) + ((((qn Q_23 i_23) % 60) / (idx a sq_59)) * (jdx a sq_59)))) hx hb hK hP hJ hAL hS (by decide) (fun _ => rfl) hA77 (by omega) (by decide) dX12_along_214 (fun u78 H locs hs78 hq78 hP hS => ?_)
                  obtain ⟨w78, hw78⟩ : ∃ g, g = upd Q_59 n_59 (nI ((60 * (dst a sq_59)) + ((((qn Q_23 i_23) % 60) / (idx a sq_59)) * (jdx a sq_59)))) := ⟨_, rfl⟩
                  rw [← hw78] at hs78
                  have hA79 := (hq78.1 1 (by decide)).trans hA76
                  have hA80 := (hq78.1 19 (by decide)).trans hs75
                  have hfr := FR.step hfr hq78 (by decide) (fun _ h => absurd h List.not_mem_nil) (fun h => rfl)
                  obtain ⟨qv2, -, -⟩ := qv_put hL59_0 (x := ((60 * (dst a sq_59)) + ((((qn Q_23 i_23) % 60) / (idx a sq_59)) * (jdx a sq_59)))) (by omega) (by rw [show ((60 * (dst a sq_59)) + ((((qn Q_23 i_23) % 60) / (idx a sq_59)) * (jdx a sq_59))) % 60 = ((60 * (dst a sq_59)) + ((((qn Q_23 i_23) % 60) / (idx a sq_59)) * (jdx a sq_59))) - 60 * dst a sq_59 by omega, show ((60 * (dst a sq_59)) + ((((qn Q_23 i_23) % 60) / (idx a sq_59)) * (jdx a sq_59))) / 60 = dst a sq_59 by omega]; omega) (by omega) hw78
                  refine lv_aload_n hx hb dX12_along_215 rfl (lv_at hl 1 rfl) ?_
                  refine r_get (v := .ref (b 18)) hx hb (ly_X12 hE) hown hK hP rfl 24 (by decide) (wd_1405 hE) (fun _ h9 => h9) rfl dX12_along_216 ?_
                  refine lv_iload hx hb dX12_along_219 (lv_at hl 6 rfl) ?_
                  refine lv_aload_n hx hb dX12_along_221 rfl (lv_at hl 1 rfl) ?_
                  refine r_get (v := .ref (b 18)) hx hb (ly_X12 hE) hown hK hP rfl 24 (by decide) (wd_1405 hE) (fun _ h9 => h9) rfl dX12_along_222 ?_
                  refine lv_iload hx hb dX12_along_225 (lv_at hl 7 rfl) ?_
                  obtain ⟨y81, hy81⟩ : ∃ z : Int32, rA u78 18 i_23 = z := ⟨_, rfl⟩
                  refine r_iald (j := 18) (k := i_23) (n := 400) (x := y81) hx hb hK hP (by decide) rfl (by omega) (by decide) hy81 dX12_along_227 ?_
                  refine lv_iconst (v := 1) hx hb dX12_along_228 (by decide) ?_
                  refine lv_iadd hx hb dX12_along_229 ?_
                  refine lv_topi (fun x82 ex82 => ?_)
                  obtain ⟨g84, hg84⟩ : ∃ g, rA u78 18 = g := ⟨_, rfl⟩
                  refine r_iast (j := 18) (k := n_59) (n := 400) (x := x82) hx hb hK hP hJ hAL hS (by decide) (fun _ => rfl) hg84 (by omega) (by decide) dX12_along_230 (fun u83 H locs hs83 hq83 hP hS => ?_)
                  obtain ⟨w83, hw83⟩ : ∃ g, g = upd g84 n_59 x82 := ⟨_, rfl⟩
                  rw [← hw83] at hs83
                  have hA85 := (hq83.1 1 (by decide)).trans hA79
                  have hA86 := (hq83.1 19 (by decide)).trans hA80
                  have hA87 := (hq83.1 17 (by decide)).trans hs78
                  have hfr := FR.step hfr hq83 (by decide) (fun _ h => absurd h List.not_mem_nil) (fun h => rfl)
                  refine lv_iinc (v := nI (n_59 + 1)) (lv' := [(5, .int (nI (n_59 + 1))), (10, .int (nI ((60 * (dst a sq_59)) + ((((qn Q_23 i_23) % 60) / (idx a sq_59)) * (jdx a sq_59))))), (0, .ref (b 0)), (1, .int (nI v)), (2, .int (nI k)), (3, .int (nI gl)), (4, .int y), (6, .int (nI i_23)), (7, .int (nI ((qn Q_23 i_23) / 60))), (8, .int (nI ((qn Q_23 i_23) % 60))), (9, .int (nI sq_59))]) hx hb dX12_along_231 hl (k := 6) rfl (nI_1 n_59) (by decide) rfl (fun ls hl => ?_)
                  refine lv_iinc (v := nI (sq_59 + 1)) (lv' := [(9, .int (nI (sq_59 + 1))), (5, .int (nI (n_59 + 1))), (10, .int (nI ((60 * (dst a sq_59)) + ((((qn Q_23 i_23) % 60) / (idx a sq_59)) * (jdx a sq_59))))), (0, .ref (b 0)), (1, .int (nI v)), (2, .int (nI k)), (3, .int (nI gl)), (4, .int y), (6, .int (nI i_23)), (7, .int (nI ((qn Q_23 i_23) / 60))), (8, .int (nI ((qn Q_23 i_23) % 60)))]) hx hb dX12_along_234 hl (k := 10) rfl (nI_1 sq_59) (by decide) rfl (fun ls hl => ?_)
                  refine lv_goto (tgt := 119) hx hb dX12_along_237 (by decide) ?_
                  exact ih59 _ u83 _ _ _ (by omega) ⟨hP, hS, hfr, (sq_59 + 1), (n_59 + 1), w78, w75, rfl, (by first | assumption | omega | rfl | (congr 1; omega)), (by first | assumption | omega | rfl | (congr 1; omega)), (by first | assumption | omega | rfl | (congr 1; omega)), (by first | assumption | omega | rfl | (congr 1; omega)), (by first | assumption | omega | rfl | (congr 1; omega)), hA87, hA86, lv_sub hl [3, 4, 5, 6, 7, 1, 8, 9, 10, 0] rfl⟩
                · have c74 := mt (b_eq (rfl : Int32.toInt x73 = _) (show Int32.toInt 0 = 0 from rfl)).mpr c74
                  refine lv_goto (tgt := 234) hx hb dX12_along_195 (by decide) ?_
                  refine lv_iinc (v := nI (sq_59 + 1)) (lv' := [(9, .int (nI (sq_59 + 1))), (10, .int (nI ((60 * (dst a sq_59)) + ((((qn Q_23 i_23) % 60) / (idx a sq_59)) * (jdx a sq_59))))), (0, .ref (b 0)), (1, .int (nI v)), (2, .int (nI k)), (3, .int (nI gl)), (4, .int y), (5, .int (nI n_59)), (6, .int (nI i_23)), (7, .int (nI ((qn Q_23 i_23) / 60))), (8, .int (nI ((qn Q_23 i_23) % 60)))]) hx hb dX12_along_234 hl (k := 10) rfl (nI_1 sq_59) (by decide) rfl (fun ls hl => ?_)
                  refine lv_goto (tgt := 119) hx hb dX12_along_237 (by decide) ?_
                  exact ih59 _ u59 _ _ _ (by omega) ⟨hP, hS, hfr, (sq_59 + 1), n_59, Q_59, C_59, rfl, (by first | assumption | omega | rfl | (congr 1; omega)), (by first | assumption | omega | rfl | (congr 1; omega)), (by first | assumption | omega | rfl | (congr 1; omega)), (by first | assumption | omega | rfl | (congr 1; omega)), (by first | assumption | omega | rfl | (congr 1; omega)), hL59_5, hL59_6, lv_sub hl [2, 3, 4, 5, 6, 7, 8, 9, 10, 0] rfl⟩
              · have c67 := mt (b_eq (nI_toInt (n := ((qn Q_23 i_23) % 60) % (idx a sq_59)) (by omega)) (show Int32.toInt 0 = 0 from rfl)).mpr c67
                refine lv_goto (tgt := 234) hx hb dX12_along_154 (by decide) ?_
                refine lv_iinc (v := nI (sq_59 + 1)) (lv' := [(9, .int (nI (sq_59 + 1))), (0, .ref (b 0)), (1, .int (nI v)), (2, .int (nI k)), (3, .int (nI gl)), (4, .int y), (5, .int (nI n_59)), (6, .int (nI i_23)), (7, .int (nI ((qn Q_23 i_23) / 60))), (8, .int (nI ((qn Q_23 i_23) % 60)))]) hx hb dX12_along_234 hl (k := 9) rfl (nI_1 sq_59) (by decide) rfl (fun ls hl => ?_)
                refine lv_goto (tgt := 119) hx hb dX12_along_237 (by decide) ?_
                exact ih59 _ u59 _ _ _ (by omega) ⟨hP, hS, hfr, (sq_59 + 1), n_59, Q_59, C_59, rfl, (by first | assumption | omega | rfl | (congr 1; omega)), (by first | assumption | omega | rfl | (congr 1; omega)), (by first | assumption | omega | rfl | (congr 1; omega)), (by first | assumption | omega | rfl | (congr 1; omega)), (by first | assumption | omega | rfl | (congr 1; omega)), hL59_5, hL59_6, lv_sub hl [1, 2, 3, 4, 5, 6, 7, 8, 9, 0] rfl⟩
        · have c58 := (b_eq (nI_toInt (n := (qn Q_23 i_23) % 60) (by omega)) (rfl : Int32.toInt y = _)).mp c58
          refine lv_aload_n hx hb dX12_along_108 rfl (lv_at hl 2 rfl) ?_
          refine r_get (v := .ref (b 18)) hx hb (ly_X12 hE) hown hK hP rfl 24 (by decide) (wd_1405 hE) (fun _ h9 => h9) rfl dX12_along_109 ?_
          refine lv_iload hx hb dX12_along_112 (lv_at hl 8 rfl) ?_
          obtain ⟨y88, hy88⟩ : ∃ z : Int32, rA u23 18 i_23 = z := ⟨_, rfl⟩
          refine r_iald (j := 18) (k := i_23) (n := 400) (x := y88) hx hb hK hP (by decide) rfl (by omega) (by decide) hy88 dX12_along_114 ?_
          exact W.iret (v := y88) hx hb hr (fun t ht hW => ⟨⟨y88, u23, rfl, ⟨trivial, hfr⟩, (show va_P (dC, dI) vwCl (rW cs b u23) t.heap by rw [ht]; exact hP)⟩, hS.F ht⟩) hS.2.2 dX12_along_115
  · have c8 := mt (b_le (show Int32.toInt 400 = 400 from rfl) (nI_toInt (n := i_6) (by omega))).mpr c8
    refine lv_aload_n hx hb dX12_along_16 rfl (lv_at hl 0 rfl) ?_
    refine r_get (v := .ref (b 19)) hx hb (ly_X12 hE) hown hK hP rfl 25 (by decide) (wd_1406 hE) (fun _ h9 => h9) rfl dX12_along_17 ?_
    refine lv_iload hx hb dX12_along_20 (lv_at hl 6 rfl) ?_
    refine lv_iconst (v := 0) hx hb dX12_along_22 (by decide) ?_
    refine r_zast (j := 19) (k := i_6) (n := 400) (x := 0) hx hb hK hP hJ hAL hS (by decide) (fun _ => rfl) hL6_2 (by omega) (by decide) dX12_along_23 (fun u89 H locs hs89 hq89 hP hS => ?_)
    obtain ⟨w89, hw89⟩ : ∃ g, g = upd c1_6 i_6 (vp_nar .boolean 0) := ⟨_, rfl⟩
    rw [← hw89] at hs89
    have hA90 := (hq89.1 1 (by decide)).trans hA7
    have hfr := FR.step hfr hq89 (by decide) (fun _ h => absurd h List.not_mem_nil) (fun h => rfl)
    have k1 := hw89
    refine lv_iinc (v := nI (i_6 + 1)) (lv' := [(6, .int (nI (i_6 + 1))), (0, .ref (b 0)), (1, .int (nI v)), (2, .int (nI k)), (3, .int (nI gl)), (4, .int y), (5, .int 1)]) hx hb dX12_along_24 hl (k := 6) rfl (nI_1 i_6) (by decide) rfl (fun ls hl => ?_)
    refine lv_goto (tgt := 6) hx hb dX12_along_27 (by decide) ?_
    exact ih6 _ u89 _ _ _ (by omega) ⟨hP, hS, hfr, (i_6 + 1), w89, rfl, (by first | assumption | omega | rfl | (congr 1; omega)), (by exact upd_lt (R := fun _ => 0) k1 rfl hL6_1), hs89, lv_sub hl [1, 2, 3, 4, 5, 6, 0] rfl⟩
