theorem lt_mul_pos {x y z : Nat} (h : x < y * z) : 0 < z := by
  rcases Nat.eq_zero_or_pos z with e | e
  · rw [e, Nat.mul_zero] at h
    omega
  · exact e
theorem hM_0 {a : Nat → Int32} {g v k x : Nat} (h : x < hM a g 0 v k) : v = g ∧ x < od a g := by
  have h2 : x < (if v = g then od a g else 0) := h
  by_cases e : v = g
  · rw [if_pos e] at h2
    exact ⟨e, h2⟩
  · rw [if_neg e] at h2
    omega
theorem hM_in {a : Nat → Int32} {g n v k x y q : Nat} (hn : 1 ≤ n) (h : x < hM a g n v k) (hy : y + usum a v k (fun s => hM a g (n - 1) (dst a s) (s + 1)) q = x) (hq : q ≤ 2 * eN a) : q < 2 * eN a := by
  rcases Nat.lt_or_ge q (2 * eN a) with z | z
  · exact z
  · have e : q = 2 * eN a := by omega
    rw [hM_s hn] at h
    have := hsum_le (a := a) (v := v) (k := k) (f := fun s => hM a g (n - 1) (dst a s) (s + 1)) (2 * eN a)
    rw [e] at hy
    omega

set_option maxHeartbeats 4000000 in
set_option maxRecDepth 100000 in
theorem r_X12_spell (l : Launch) (dC : Nat → ClassId) (dI : Nat → Nat → Nat) (sz : Nat) (cs : Nat → ClassId) (b : Nat → Nat) (u : RS) (a : Nat → Int32) (hA1 : rA u 1 = a) (x : Int32) (y : Int32) (z : Int32) (ac : Nat) (hF2 : rF u 2 = nI ac) (hp0 : AB a) (hp1 : ac ≤ 8) : Met l yX12_spell [.code yX12_spell cX12_spell 12 (some .int)] ({ frames := 22, cells := 0, slots := 0, locals := 880 }) (PR [.ref (b 0), .int x, .int y, .int z] sz dC dI cs b u) (va_Qi (fun (r : Int32) (u' : RS) => (True) ∧ (AB (rA u' 1)) ∧ (∃ k : Nat, k ≤ 8 ∧ rF u' 2 = nI k) ∧ FR [1, 3, 4, 5, 6, 7, 8, 9, 10, 11, 12, 13, 14, 17, 18, 19, 20] [1, 2, 5, 21, 22] true u u') (BR dC dI cs b) (AR b sz)) 0 0 (AR b sz) := by
  refine Met.ofW (cc := cX12_spell) (maxL := 12) (ret := (some .int)) (by decide) rfl ?_
  intro p e s m args below meth c s₁ B hml hv
  obtain ⟨rfl, hsz, hP, hK, hJ, hE⟩ := hv
  have hx := B.exec
  have hb := B.bytes
  have hr := B.returns
  have hown : s.vm.findClass RX12 = some m.cls := findClass_of_methodNamed B.named
  have hlocks := B.notSynchronized
  subst hsz
  have hAL : ∀ i, i < 108 → AR b s.heap.size (b i) := fun i h => Or.inl ⟨i, h, rfl⟩
  have hA : ∀ q : Nat, s.heap.size ≤ q → AR b s.heap.size q := fun q h => Or.inr h
  have hS : va_S (AR b s.heap.size) s.heap s.heap [] := va_S.rf
  have hfr : FR [1, 3, 4, 5, 6, 7, 8, 9, 10, 11, 12, 13, 14, 17, 18, 19, 20] [1, 2, 5, 21, 22] true u u := FR.refl
  have hl := lv_entry ([.ref (b 0), .int x, .int y, .int z]) (n := 12) (Nat.le_of_ble_eq_true rfl)
  rw [lg_entry_eq]
  generalize (lg_sl ([.ref (b 0), .int x, .int y, .int z]) ++ List.replicate (12 - (lg_sl ([.ref (b 0), .int x, .int y, .int z])).length) Slot.unset).toArray = ls at hl ⊢
  have hl : lv_has ls 12 [(0, .ref (b 0)), (1, .int x), (2, .int y), (3, .int z)] := hl
  have hB := ab_0 hp0
  have hG := bg_g hB
  have ha2 := gg_le hG
  have ha2b := bg_w hB
  have hrg := z_rng z
  refine lv_iload_n hx hb dX12_spell_0 rfl (lv_at hl 2 rfl) ?_
  refine lv_iconst (v := 0) hx hb dX12_spell_1 (by decide) ?_
  refine lv_bipush (v := 12) hx hb dX12_spell_2 (by decide) ?_
  refine vp_callSi (va_Run.run (va_runS (As := [.int y, .int 0, .int 12]) (rest := []) ⟨hx, hb, hml, hown, noTs⟩ (r_X12_isFrom l dC dI s.heap.size cs b u a hA1 y 0 12 ((0 : Int)) ((12 : Int)) (show Int32.toInt 0 = 0 from rfl) (show Int32.toInt 12 = 12 from rfl)) ⟨cbE 3 (wd_1494 hE) (wd_126 hE) (wd_1492 hE) rfl rfl (by decide +kernel) ⟨Nat.le_of_ble_eq_true rfl, Nat.le_of_ble_eq_true rfl⟩, (wd_1493 hE)⟩ ⟨PR.blind, (r_pre (av := [.int y, .int 0, .int 12]) hK hP hJ hE)⟩ rfl rfl hl.1 rfl (lv_room (Nat.le_of_ble_eq_true rfl)) dX12_spell_4 ⟨Nat.le_of_ble_eq_true rfl, Nat.le_of_ble_eq_true rfl⟩)) (fun r4 hr4 => ?_)
  rcases hr4 with ⟨rfl, hb4⟩ | ⟨rfl, hb4⟩
  · obtain ⟨nx5, hi5, hj5⟩ := z_ex (x := y) (n := 13) (by omega) (by omega)
    subst hi5
    have hti6 := nI_toInt (n := nx5) (by omega)
    refine lv_if_eq (tgt := 14) hx hb dX12_spell_7 (by decide) (fun c7 => absurd c7 (by decide)) (fun c7 => ?_)
    refine lv_iload_n hx hb dX12_spell_10 rfl (lv_at hl 3 rfl) ?_
    refine lv_if_ge (tgt := 20) hx hb dX12_spell_11 (by decide) (fun c8 => ?_) (fun c8 => ?_)
    · have c8 := (b_le (show Int32.toInt 0 = 0 from rfl) (rfl : Int32.toInt z = _)).mp c8
      obtain ⟨nx9, hi9, hj9⟩ := z_ex (x := z) (n := 2147483648) (by omega) (by omega)
      subst hi9
      have hti10 := nI_toInt (n := nx9) (by omega)
      refine lv_aload_n hx hb dX12_spell_20 rfl (lv_at hl 0 rfl) ?_
      refine lv_iload_n hx hb dX12_spell_21 rfl (lv_at hl 1 rfl) ?_
      refine vp_callSi (va_Run.run (va_runV (As := [.int x]) (rest := []) ⟨hx, hb, hml, hown, noTs⟩ (r_X12_isVertex l dC dI s.heap.size cs b u a hA1 x (by first | assumption | omega | rfl | (congr 1; omega))) ⟨cbE 1 (wd_1560 hE) (wd_126 hE) (wd_1557 hE) rfl rfl (by decide +kernel) ⟨Nat.le_of_ble_eq_true rfl, Nat.le_of_ble_eq_true rfl⟩, (wd_1559 hE), (wd_67 hE)⟩ ⟨PR.blind, r_recv hK hP rfl, (r_pre (av := [.ref (b 0), .int x]) hK hP hJ hE)⟩ rfl rfl hl.1 rfl (lv_room (Nat.le_of_ble_eq_true rfl)) dX12_spell_22 ⟨Nat.le_of_ble_eq_true rfl, Nat.le_of_ble_eq_true rfl⟩)) (fun r11 hr11 => ?_)
      rcases hr11 with ⟨rfl, hb11⟩ | ⟨rfl, hb11⟩
      · obtain ⟨n11, hbe11_1, hb11⟩ := hb11
        subst hbe11_1
        have hti12 := nI_toInt (n := n11) (by omega)
        have hvt := gg_od hG hb11
        refine lv_if_ne (tgt := 34) hx hb dX12_spell_25 (by decide) (fun c13 => ?_) (fun c13 => absurd c13 (by decide))
        refine lv_aload_n hx hb dX12_spell_34 rfl (lv_at hl 0 rfl) ?_
        refine lv_iconst (v := 2) hx hb dX12_spell_35 (by decide) ?_
        refine vp_callSi (va_Run.run (va_runV (As := [.int (nI 2)]) (rest := []) ⟨hx, hb, hml, hown, noTs⟩ (r_X12_of l dC dI s.heap.size cs b u a hA1 2 (by first | assumption | omega | rfl | (congr 1; omega))) ⟨cbE 1 (wd_1536 hE) (wd_126 hE) (wd_1533 hE) rfl rfl (by decide +kernel) ⟨Nat.le_of_ble_eq_true rfl, Nat.le_of_ble_eq_true rfl⟩, (wd_1535 hE), (wd_61 hE)⟩ ⟨PR.blind, r_recv hK hP rfl, (r_pre (av := [.ref (b 0), .int (nI 2)]) hK hP hJ hE)⟩ rfl rfl hl.1 rfl (lv_room (Nat.le_of_ble_eq_true rfl)) dX12_spell_36 ⟨Nat.le_of_ble_eq_true rfl, Nat.le_of_ble_eq_true rfl⟩)) (fun r14 hr14 => ?_)
        have hr14 := hr14.trans ((bg_w hB).1)
        subst hr14
        refine lv_bipush (v := 10) hx hb dX12_spell_39 (by decide) ?_
        refine lv_icmp_ne (tgt := 50) hx hb dX12_spell_41 (by decide) (fun c15 => ?_) (fun c15 => ?_)
        · have c15 := mt (b_eq (nI_toInt (n := wN a) (by omega)) (show Int32.toInt 10 = 10 from rfl)).mpr c15
          have hw9 : wN a ≤ 9 := by omega
          refine lv_aload_n hx hb dX12_spell_50 rfl (lv_at hl 0 rfl) ?_
          refine rc_v hAL hS hA (va_runV (As := []) (rest := []) ⟨hx, hb, hml, hown, noTs⟩ (r_X12_forgets l dC dI s.heap.size cs b u) ⟨cbE 0 (wd_1917 hE) (wd_126 hE) (wd_1914 hE) rfl rfl (by decide +kernel) ⟨Nat.le_of_ble_eq_true rfl, Nat.le_of_ble_eq_true rfl⟩, (wd_1916 hE), (wd_110 hE)⟩ ⟨PR.blind, r_recv hK hP rfl, (r_pre (av := [.ref (b 0)]) hK hP hJ hE)⟩ rfl rfl hl.1 rfl (lv_room (Nat.le_of_ble_eq_true rfl)) dX12_spell_51 ⟨Nat.le_of_ble_eq_true rfl, Nat.le_of_ble_eq_true rfl⟩) (fun u16 H locs hpo16 hP hS => ?_)
          obtain ⟨h16_0, hq16⟩ := hpo16
          have hA17 := (hq16.1 1 List.not_mem_nil).trans hA1
          have hF18x := (hq16.2.1 2 List.not_mem_nil).trans hF2
          have hfr := FR.step hfr hq16 (fun _ h => absurd h List.not_mem_nil) (fun _ h => absurd h List.not_mem_nil) (fun h => h)
          have FG := h16_0
          have HM0 : HM a n11 u16 := fun v k q h1 h2 h3 => Or.inl (FG v k q h1 h2 h3)
          refine lv_iload_n hx hb dX12_spell_54 rfl (lv_at hl 3 rfl) ?_
          refine lv_i2l hx hb dX12_spell_55 rfl ?_
          refine W.eq (g2 := F0 m 56 ls [.long (lN nx9)]) (congrArg (fun z : Int64 => F0 m 56 ls (.long z :: [])) (nI_l (n := nx9) (by omega))) ?_
          refine lv_aload_n hx hb dX12_spell_56 rfl (lv_at hl 0 rfl) ?_
          refine lv_iload_n hx hb dX12_spell_57 rfl (lv_at hl 1 rfl) ?_
          refine lv_iload_n hx hb dX12_spell_58 rfl (lv_at hl 2 rfl) ?_
          refine lv_iconst (v := -1) hx hb dX12_spell_59 (by decide) ?_
          refine lv_iload_n hx hb dX12_spell_60 rfl (lv_at hl 1 rfl) ?_
          refine rc_l hAL hS hA (va_runV (As := [.int (nI n11), .int (nI nx5), .int (-1), .int (nI n11)]) (rest := [.long (lN nx9)]) ⟨hx, hb, hml, hown, noTs⟩ (r_X12_homes l dC dI 13 H.size cs b u16 a hA17 n11 nx5 (-1) n11 0 (by first | assumption | omega | rfl | (congr 1; omega)) (by first | assumption | omega | rfl | (congr 1; omega)) (by first | assumption | omega | rfl | (congr 1; omega)) ((show Int32.toInt (-1) = -1 from rfl).trans (by omega)) (by first | assumption | omega | rfl | (congr 1; omega)) (by first | assumption | omega | rfl | (congr 1; omega)) (by exact HM0) (by omega)) ⟨cbE 4 (wd_1921 hE) (wd_126 hE) (wd_1918 hE) rfl rfl (by decide +kernel) ⟨Nat.le_of_ble_eq_true rfl, Nat.le_of_ble_eq_true rfl⟩, (wd_1920 hE), (wd_111 hE)⟩ ⟨PR.blind, r_recv hK hP rfl, (r_pre (av := [.ref (b 0), .int (nI n11), .int (nI nx5), .int (-1), .int (nI n11)]) hK hP hJ hE)⟩ rfl rfl hl.1 rfl (lv_room (Nat.le_of_ble_eq_true rfl)) dX12_spell_61 ⟨Nat.le_of_ble_eq_true rfl, Nat.le_of_ble_eq_true rfl⟩) (fun r19 u19 H locs hpo19 hP hS => ?_)
          obtain ⟨hr19, h19_0, hq19⟩ := hpo19
          have hA20 := (hq19.1 1 List.not_mem_nil).trans hA17
          have hF21x := (hq19.2.1 2 List.not_mem_nil).trans hF18x
          have hfr := FR.step hfr hq19 (fun _ h => absurd h List.not_mem_nil) (fun _ h => absurd h List.not_mem_nil) (fun h => h)
          have HM1 := h19_0
          have hmb := hM_b (a := a) hG (g := n11) (n := nx5) (v := n11) (k := 0) (by omega)
          subst hr19
          refine W.lcmp hx hb dX12_spell_64 ?_
          refine lv_topi (fun x22 ex22 => ?_)
          refine lv_if_lt (tgt := 74) hx hb dX12_spell_65 (by decide) (fun c24 => ?_) (fun c24 => ?_)
          · have c24 := (lc_lt ex22).mp c24
            have c24 := (pk_lLT (a := nx9) (b := hM a n11 nx5 n11 0) (by omega) (by omega)).mp c24
            refine lv_iload_n hx hb dX12_spell_74 rfl (lv_at hl 3 rfl) ?_
            refine lv_i2l hx hb dX12_spell_75 rfl ?_
            refine W.eq (g2 := F0 m 76 ls [.long (lN nx9)]) (congrArg (fun z : Int64 => F0 m 76 ls (.long z :: [])) (nI_l (n := nx9) (by omega))) ?_
            refine lv_lstore (lv' := [(4, .long (lN nx9)), (0, .ref (b 0)), (1, .int (nI n11)), (2, .int (nI nx5)), (3, .int (nI nx9))]) hx hb dX12_spell_76 hl (by decide) rfl (fun ls hl => ?_)
            refine lv_iload_n hx hb dX12_spell_78 rfl (lv_at hl 2 rfl) ?_
            refine lv_istore (lv' := [(6, .int (nI n11)), (4, .long (lN nx9)), (0, .ref (b 0)), (1, .int (nI n11)), (2, .int (nI nx5)), (3, .int (nI nx9))]) hx hb dX12_spell_79 hl (by decide) rfl (fun ls hl => ?_)
            refine lv_iconst (v := -1) hx hb dX12_spell_81 (by decide) ?_
            refine lv_istore (lv' := [(7, .int (-1)), (6, .int (nI n11)), (4, .long (lN nx9)), (0, .ref (b 0)), (1, .int (nI n11)), (2, .int (nI nx5)), (3, .int (nI nx9))]) hx hb dX12_spell_82 hl (by decide) rfl (fun ls hl => ?_)
            refine lv_aload_n hx hb dX12_spell_84 rfl (lv_at hl 3 rfl) ?_
            refine r_get (v := .ref (b 2)) hx hb (ly_X12 hE) hown hK hP rfl 4 (by decide) (wd_1385 hE) (fun _ h9 => h9) rfl dX12_spell_85 ?_
            refine lv_iconst (v := 0) hx hb dX12_spell_88 (by decide) ?_
            refine r_aald (j := 2) (k := 0) (n := 10) (t0 := 4) (j2 := 3) hx hb hK hP (by decide) rfl rfl (by decide) (by decide) rfl dX12_spell_89 ?_
            refine lv_iload_n hx hb dX12_spell_90 rfl (lv_at hl 4 rfl) ?_
            refine lv_iconst (v := 0) hx hb dX12_spell_91 (by decide) ?_
            obtain ⟨g25, hg25⟩ : ∃ g, rA u19 3 = g := ⟨_, rfl⟩
            refine rc_v hAL hS hA (va_runS (As := [.ref (b 3), .int (nI n11), .int 0]) (rest := []) ⟨hx, hb, hml, hown, noTs⟩ (r_X12_single l dC dI H.size cs b u19 a hA20 3 (by decide) g25 hg25 n11 0 (by first | assumption | omega | rfl | (congr 1; omega)) (by first | assumption | omega | rfl | (congr 1; omega))) ⟨cbE 3 (wd_1579 hE) (wd_126 hE) (wd_1577 hE) rfl rfl (by decide +kernel) ⟨Nat.le_of_ble_eq_true rfl, Nat.le_of_ble_eq_true rfl⟩, (wd_1578 hE)⟩ ⟨PR.blind, (r_pre (av := [.ref (b 3), .int (nI n11), .int 0]) hK hP hJ hE)⟩ rfl rfl hl.1 rfl (lv_room (Nat.le_of_ble_eq_true rfl)) dX12_spell_92 ⟨Nat.le_of_ble_eq_true rfl, Nat.le_of_ble_eq_true rfl⟩) (fun u26 H locs hpo26 hP hS => ?_)
            obtain ⟨h26_0, h26_1, h26_2, h26_3, h26_4, hq26⟩ := hpo26
            obtain ⟨w27, hA27⟩ : ∃ g, rA u26 3 = g := ⟨_, rfl⟩
            rw [hA27] at h26_0 h26_1 h26_2 h26_3 h26_4
            have hA28 := (hq26.1 1 (by decide)).trans hA20
            have hF29x := (hq26.2.1 2 List.not_mem_nil).trans hF21x
            have hfr := FR.step hfr hq26 (by decide) (fun _ h => absurd h List.not_mem_nil) (fun h => rfl)
            have hl26_0 := pg_le h26_0
            have HM2 := hm_fr HM1 hq26
            refine lv_iload_n hx hb dX12_spell_95 rfl (lv_at hl 5 rfl) ?_
            refine lv_istore (lv' := [(8, .int (nI nx5)), (7, .int (-1)), (6, .int (nI n11)), (4, .long (lN nx9)), (0, .ref (b 0)), (1, .int (nI n11)), (2, .int (nI nx5)), (3, .int (nI nx9))]) hx hb dX12_spell_96 hl (by decide) rfl (fun ls hl => ?_)
            refine r_ind (I := fun n u_ H locs ls => va_P (dC, dI) vwCl (rW cs b u_) H ∧ va_S (AR b s.heap.size) s.heap H locs ∧ FR [1, 3, 4, 5, 6, 7, 8, 9, 10, 11, 12, 13, 14, 17, 18, 19, 20] [1, 2, 5, 21, 22] true u u_ ∧ ∃ (nq_30 : Nat) (lf_30 : Nat) (w_30 : Nat) (cm_30 : Int32) (cz_30 : Nat) (f1_30 : Nat → Int32), n = nq_30 + 1 ∧ (HM a n11 u_) ∧ (PG a f1_30) ∧ (rn f1_30 + nq_30 = nx5) ∧ (vend a f1_30 = w_30) ∧ (w_30 < vN a) ∧ (lf_30 < hM a n11 nq_30 w_30 cz_30) ∧ (cm_30.toInt = (cz_30 : Int) - 1) ∧ (cz_30 ≤ 12) ∧ (nq_30 ≤ 12) ∧ (rA u_ 1 = a) ∧ (rA u_ 3 = f1_30) ∧ (rF u_ 2 = nI ac) ∧ lv_has ls 12 [(0, .ref (b 0)), (1, .int (nI n11)), (2, .int (nI nx5)), (3, .int (nI nx9)), (4, .long (lN lf_30)), (6, .int (nI w_30)), (7, .int cm_30), (8, .int (nI nq_30))]) (fun n u30 H locs ls hI ih30 => ?_) _ u26 _ _ _ ⟨hP, hS, hfr, nx5, nx9, n11, (-1), 0, w27, rfl, (by exact HM2), (by first | assumption | omega | rfl | (congr 1; omega)), (by first | assumption | omega | rfl | (congr 1; omega)), (by first | assumption | omega | rfl | (congr 1; omega)), (by first | assumption | omega | rfl | (congr 1; omega)), (by omega), (by decide), (by first | assumption | omega | rfl | (congr 1; omega)), (by first | assumption | omega | rfl | (congr 1; omega)), hA28, hA27, hF29x, lv_sub hl [4, 5, 6, 7, 3, 2, 1, 0] rfl⟩
            obtain ⟨hP, hS, hfr, nq_30, lf_30, w_30, cm_30, cz_30, f1_30, hmu30, hL30_0, hL30_1, hL30_2, hL30_3, hL30_4, hL30_5, hL30_6, hL30_7, hL30_8, hL30_9, hL30_10, hL30_11, hl⟩ := hI
            subst hmu30
            have hl30_1 := pg_le hL30_1
            have hmb0 := hM_b (a := a) hG (g := n11) (n := nq_30) (v := w_30) (k := cz_30) (by omega)
            refine lv_iload hx hb dX12_spell_98 (lv_at hl 7 rfl) ?_
            refine lv_if_le (tgt := 288) hx hb dX12_spell_100 (by decide) (fun c31 => ?_) (fun c31 => ?_)
            · have c31 := (b_le (nI_toInt (n := nq_30) (by omega)) (show Int32.toInt 0 = 0 from rfl)).mp c31
              have hz := hM_0 (a := a) (g := n11) (v := w_30) (k := cz_30) (x := lf_30) (by have q := hL30_5; rw [show nq_30 = 0 by omega] at q; exact q)
              refine lv_aload_n hx hb dX12_spell_288 rfl (lv_at hl 0 rfl) ?_
              refine r_get (v := .ref (b 2)) hx hb (ly_X12 hE) hown hK hP rfl 4 (by decide) (wd_1385 hE) (fun _ h9 => h9) rfl dX12_spell_289 ?_
              refine lv_iconst (v := 0) hx hb dX12_spell_292 (by decide) ?_
              refine r_aald (j := 2) (k := 0) (n := 10) (t0 := 4) (j2 := 3) hx hb hK hP (by decide) rfl rfl (by decide) (by decide) rfl dX12_spell_293 ?_
              refine lv_iconst (v := 2) hx hb dX12_spell_294 (by decide) ?_
              refine lv_iconst (v := 2) hx hb dX12_spell_295 (by decide) ?_
              refine lv_iload_n hx hb dX12_spell_296 rfl (lv_at hl 2 rfl) ?_
              refine lv_imul hx hb dX12_spell_297 ?_
              refine W.eq (g2 := F0 m 298 ls [.int (nI (2 * nx5)), .int 2, .ref (b 3)]) (congrArg (fun z : Int32 => F0 m 298 ls (.int z :: [.int 2, .ref (b 3)])) (pk_mul 2 nx5)) ?_
              refine lv_iadd hx hb dX12_spell_298 ?_
              refine W.eq (g2 := F0 m 299 ls [.int (nI (2 + (2 * nx5))), .ref (b 3)]) (congrArg (fun z : Int32 => F0 m 299 ls (.int z :: [.ref (b 3)])) (nI_add 2 (2 * nx5))) ?_
              refine lv_lload hx hb dX12_spell_299 (lv_at hl 4 rfl) ?_
              refine lv_l2i hx hb dX12_spell_301 rfl ?_
              refine W.eq (g2 := F0 m 302 ls [.int (nI lf_30), .int (nI (2 + (2 * nx5))), .ref (b 3)]) (congrArg (fun z : Int32 => F0 m 302 ls (.int z :: [.int (nI (2 + (2 * nx5))), .ref (b 3)])) (lN_i lf_30)) ?_
              refine r_iast (j := 3) (k := 2 + (2 * nx5)) (n := 200) (x := nI lf_30) hx hb hK hP hJ hAL hS (by decide) (fun _ => rfl) hL30_10 (by omega) (by decide) dX12_spell_302 (fun u32 H locs hs32 hq32 hP hS => ?_)
              obtain ⟨w32, hw32⟩ : ∃ g, g = upd f1_30 (2 + (2 * nx5)) (nI lf_30) := ⟨_, rfl⟩
              rw [← hw32] at hs32
              have hA33 := (hq32.1 1 (by decide)).trans hL30_9
              have hF34x := (hq32.2.1 2 List.not_mem_nil).trans hL30_11
              have hfr := FR.step hfr hq32 (by decide) (fun _ h => absurd h List.not_mem_nil) (fun h => rfl)
              obtain ⟨p1, p2, p3, p4, p5⟩ := pg_put hw32 hL30_1
              have q8 : LG a w32 := lg_mk (n := nx5) (by omega) (v := n11) (by omega) (by rw [hw32]; exact pk_us) (by omega) (by omega)
              refine lv_aload_n hx hb dX12_spell_303 rfl (lv_at hl 0 rfl) ?_
              refine lv_aload_n hx hb dX12_spell_304 rfl (lv_at hl 0 rfl) ?_
              refine r_get (v := .ref (b 2)) hx hb (ly_X12 hE) hown hK hP rfl 4 (by decide) (wd_1385 hE) (fun _ h9 => h9) rfl dX12_spell_305 ?_
              refine lv_iconst (v := 0) hx hb dX12_spell_308 (by decide) ?_
              refine r_aald (j := 2) (k := 0) (n := 10) (t0 := 4) (j2 := 3) hx hb hK hP (by decide) rfl rfl (by decide) (by decide) rfl dX12_spell_309 ?_
              refine rc_i hAL hS hA (va_runV (As := [.ref (b 3)]) (rest := []) ⟨hx, hb, hml, hown, noTs⟩ (r_X12_more l dC dI H.size cs b u32 a hA33 3 (by decide) w32 hs32 ac hF34x (by first | assumption | omega | rfl | (congr 1; omega)) (by first | assumption | omega | rfl | (congr 1; omega)) (by first | assumption | omega | rfl | (congr 1; omega)) (by first | assumption | omega | rfl | (congr 1; omega)) (by first | assumption | omega | rfl | (congr 1; omega))) ⟨cbE 1 (wd_1691 hE) (wd_126 hE) (wd_1688 hE) rfl rfl (by decide +kernel) ⟨Nat.le_of_ble_eq_true rfl, Nat.le_of_ble_eq_true rfl⟩, (wd_1690 hE), (wd_88 hE)⟩ ⟨PR.blind, r_recv hK hP rfl, (r_pre (av := [.ref (b 0), .ref (b 3)]) hK hP hJ hE)⟩ rfl rfl hl.1 rfl (lv_room (Nat.le_of_ble_eq_true rfl)) dX12_spell_310 ⟨Nat.le_of_ble_eq_true rfl, Nat.le_of_ble_eq_true rfl⟩) (fun r35 u35 H locs hpo35 hP hS => ?_)
              obtain ⟨hr35, h35_0, h35_1, hq35⟩ := hpo35
              obtain ⟨w36, hA36⟩ : ∃ g, rA u35 1 = g := ⟨_, rfl⟩
              rw [hA36] at h35_0
              obtain ⟨n35_1, hn35_1, hfe35_1⟩ := h35_1
              have hA37 := (hq35.1 3 (by decide)).trans hs32
              have hfr := FR.step hfr hq35 (by decide) (by decide) (fun h => rfl)
              have hB := ab_0 h35_0
              have hG := bg_g hB
              have ha38 := gg_le hG
              have ha38b := bg_w hB
              exact W.iret (v := r35) hx hb hr (fun t ht hW => ⟨⟨r35, u35, rfl, ⟨trivial, (by first | (rw [hA36]; done) | (rw [hA36]; first | assumption | omega | rfl | (congr 1; omega))), (by first | (rw [hfe35_1]; done) | (rw [hfe35_1]; refine ⟨_, ?_, rfl⟩; omega)), hfr⟩, (show va_P (dC, dI) vwCl (rW cs b u35) t.heap by rw [ht]; exact hP)⟩, hS.F ht⟩) hS.2.2 dX12_spell_313
            · have c31 := mt (b_le (nI_toInt (n := nq_30) (by omega)) (show Int32.toInt 0 = 0 from rfl)).mpr c31
              refine lv_iconst (v := 0) hx hb dX12_spell_103 (by decide) ?_
              refine lv_istore (lv' := [(9, .int 0), (0, .ref (b 0)), (1, .int (nI n11)), (2, .int (nI nx5)), (3, .int (nI nx9)), (4, .long (lN lf_30)), (6, .int (nI w_30)), (7, .int cm_30), (8, .int (nI nq_30))]) hx hb dX12_spell_104 hl (by decide) rfl (fun ls hl => ?_)
              refine r_ind (I := fun n u_ H locs ls => va_P (dC, dI) vwCl (rW cs b u_) H ∧ va_S (AR b s.heap.size) s.heap H locs ∧ FR [1, 3, 4, 5, 6, 7, 8, 9, 10, 11, 12, 13, 14, 17, 18, 19, 20] [1, 2, 5, 21, 22] true u u_ ∧ ∃ (sq_39 : Nat) (l2_39 : Nat), n = 2 * eN a - sq_39 ∧ (HM a n11 u_) ∧ (sq_39 ≤ 2 * eN a) ∧ (l2_39 + usum a w_30 cz_30 (fun s => hM a n11 (nq_30 - 1) (dst a s) (s + 1)) sq_39 = lf_30) ∧ (rA u_ 1 = a) ∧ (rA u_ 3 = f1_30) ∧ (rF u_ 2 = nI ac) ∧ lv_has ls 12 [(0, .ref (b 0)), (1, .int (nI n11)), (2, .int (nI nx5)), (3, .int (nI nx9)), (4, .long (lN l2_39)), (6, .int (nI w_30)), (7, .int cm_30), (8, .int (nI nq_30)), (9, .int (nI sq_39))]) (fun n u39 H locs ls hI ih39 => ?_) _ u30 _ _ _ ⟨hP, hS, hfr, 0, lf_30, rfl, (by exact hL30_0), (by first | assumption | omega | rfl | (congr 1; omega)), (by rfl), hL30_9, hL30_10, hL30_11, lv_sub hl [1, 2, 3, 4, 5, 6, 7, 8, 0] rfl⟩
              obtain ⟨hP, hS, hfr, sq_39, l2_39, hmu39, hL39_0, hL39_1, hL39_2, hL39_3, hL39_4, hL39_5, hl⟩ := hI
              subst hmu39
              have husb : sq_39 < 2 * eN a := hM_in (by omega) hL30_5 hL39_2 hL39_1
              have hcb := ch_le (a := a) (k := cz_30) hG (s := sq_39) (by omega)
              have hmb1 := hM_b (a := a) hG (g := n11) (n := nq_30 - 1) (v := dst a sq_39) (k := sq_39 + 1) (by omega)
              have hpb := mul_b hcb hmb1
              refine lv_aload_n hx hb dX12_spell_106 rfl (lv_at hl 0 rfl) ?_
              refine lv_iload hx hb dX12_spell_107 (lv_at hl 8 rfl) ?_
              refine vp_callSi (va_Run.run (va_runV (As := [.int (nI sq_39)]) (rest := []) ⟨hx, hb, hml, hown, noTs⟩ (r_X12_from l dC dI H.size cs b u39 a hL39_3 sq_39 (by first | assumption | omega | rfl | (congr 1; omega)) (by first | assumption | omega | rfl | (congr 1; omega))) ⟨cbE 1 (wd_1591 hE) (wd_126 hE) (wd_1588 hE) rfl rfl (by decide +kernel) ⟨Nat.le_of_ble_eq_true rfl, Nat.le_of_ble_eq_true rfl⟩, (wd_1590 hE), (wd_74 hE)⟩ ⟨PR.blind, r_recv hK hP rfl, (r_pre (av := [.ref (b 0), .int (nI sq_39)]) hK hP hJ hE)⟩ rfl rfl hl.1 rfl (lv_room (Nat.le_of_ble_eq_true rfl)) dX12_spell_109 ⟨Nat.le_of_ble_eq_true rfl, Nat.le_of_ble_eq_true rfl⟩)) (fun r40 hr40 => ?_)
              have hau40 := gg_src (a := a) (s := sq_39) (by assumption) (by first | assumption | omega)
              subst hr40
              refine lv_iload hx hb dX12_spell_112 (lv_at hl 5 rfl) ?_
              refine lv_icmp_ne (tgt := 150) hx hb dX12_spell_114 (by decide) (fun c41 => ?_) (fun c41 => ?_)
              · have c41 := mt (b_eq (nI_toInt (n := src a sq_39) (by omega)) (nI_toInt (n := w_30) (by omega))).mpr c41
                refine lv_aload_n hx hb dX12_spell_150 rfl (lv_at hl 0 rfl) ?_
                refine lv_iload hx hb dX12_spell_151 (lv_at hl 8 rfl) ?_
                refine vp_callSi (va_Run.run (va_runV (As := [.int (nI sq_39)]) (rest := []) ⟨hx, hb, hml, hown, noTs⟩ (r_X12_from l dC dI H.size cs b u39 a hL39_3 sq_39 (by first | assumption | omega | rfl | (congr 1; omega)) (by first | assumption | omega | rfl | (congr 1; omega))) ⟨cbE 1 (wd_1591 hE) (wd_126 hE) (wd_1588 hE) rfl rfl (by decide +kernel) ⟨Nat.le_of_ble_eq_true rfl, Nat.le_of_ble_eq_true rfl⟩, (wd_1590 hE), (wd_74 hE)⟩ ⟨PR.blind, r_recv hK hP rfl, (r_pre (av := [.ref (b 0), .int (nI sq_39)]) hK hP hJ hE)⟩ rfl rfl hl.1 rfl (lv_room (Nat.le_of_ble_eq_true rfl)) dX12_spell_153 ⟨Nat.le_of_ble_eq_true rfl, Nat.le_of_ble_eq_true rfl⟩)) (fun r42 hr42 => ?_)
                have hau42 := gg_src (a := a) (s := sq_39) (by assumption) (by first | assumption | omega)
                subst hr42
                refine lv_iload hx hb dX12_spell_156 (lv_at hl 5 rfl) ?_
                refine lv_icmp_ne (tgt := 193) hx hb dX12_spell_158 (by decide) (fun c43 => ?_) (fun c43 => ?_)
                · have c43 := mt (b_eq (nI_toInt (n := src a sq_39) (by omega)) (nI_toInt (n := w_30) (by omega))).mpr c43
                  refine lv_iinc (v := nI (sq_39 + 1)) (lv' := [(9, .int (nI (sq_39 + 1))), (0, .ref (b 0)), (1, .int (nI n11)), (2, .int (nI nx5)), (3, .int (nI nx9)), (4, .long (lN l2_39)), (6, .int (nI w_30)), (7, .int cm_30), (8, .int (nI nq_30))]) hx hb dX12_spell_193 hl (k := 8) rfl (nI_1 sq_39) (by decide) rfl (fun ls hl => ?_)
                  refine lv_goto (tgt := 106) hx hb dX12_spell_196 (by decide) ?_
                  exact ih39 _ u39 _ _ _ (by omega) ⟨hP, hS, hfr, (sq_39 + 1), l2_39, rfl, (by assumption), (by first | assumption | omega | rfl | (congr 1; omega)), (by first | (rw [usum_f (by omega)]; exact hL39_2) | (rw [usum_t (by omega)]; omega)), hL39_3, hL39_4, hL39_5, lv_sub hl [1, 2, 3, 4, 5, 6, 7, 8, 0] rfl⟩
                · have c43 := (b_eq (nI_toInt (n := src a sq_39) (by omega)) (nI_toInt (n := w_30) (by omega))).mp c43
                  refine lv_lload hx hb dX12_spell_161 (lv_at hl 4 rfl) ?_
                  refine lv_aload_n hx hb dX12_spell_163 rfl (lv_at hl 0 rfl) ?_
                  refine lv_iload hx hb dX12_spell_164 (lv_at hl 8 rfl) ?_
                  refine lv_iload hx hb dX12_spell_166 (lv_at hl 6 rfl) ?_
                  refine vp_callSi (va_Run.run (va_runV (As := [.int (nI sq_39), .int cm_30]) (rest := [.long (lN l2_39)]) ⟨hx, hb, hml, hown, noTs⟩ (r_X12_choices l dC dI H.size cs b u39 a hL39_3 sq_39 cm_30 cz_30 (by first | assumption | omega | rfl | (congr 1; omega)) (by first | assumption | omega | rfl | (congr 1; omega)) ((rfl : Int32.toInt cm_30 = _).trans (by omega)) (by first | assumption | omega | rfl | (congr 1; omega))) ⟨cbE 2 (wd_1897 hE) (wd_126 hE) (wd_1894 hE) rfl rfl (by decide +kernel) ⟨Nat.le_of_ble_eq_true rfl, Nat.le_of_ble_eq_true rfl⟩, (wd_1896 hE), (wd_108 hE)⟩ ⟨PR.blind, r_recv hK hP rfl, (r_pre (av := [.ref (b 0), .int (nI sq_39), .int cm_30]) hK hP hJ hE)⟩ rfl rfl hl.1 rfl (lv_room (Nat.le_of_ble_eq_true rfl)) dX12_spell_168 ⟨Nat.le_of_ble_eq_true rfl, Nat.le_of_ble_eq_true rfl⟩)) (fun r44 hr44 => ?_)
                  have hau44 := ch_le (a := a) (k := cz_30) (s := sq_39) (by assumption) (by first | assumption | omega)
                  subst hr44
                  refine lv_i2l hx hb dX12_spell_171 rfl ?_
                  refine W.eq (g2 := F0 m 172 ls [.long (lN (ch a sq_39 cz_30)), .long (lN l2_39)]) (congrArg (fun z : Int64 => F0 m 172 ls (.long z :: [.long (lN l2_39)])) (nI_l (n := ch a sq_39 cz_30) (by omega))) ?_
                  refine lv_aload_n hx hb dX12_spell_172 rfl (lv_at hl 0 rfl) ?_
                  refine lv_aload_n hx hb dX12_spell_173 rfl (lv_at hl 0 rfl) ?_
                  refine lv_iload hx hb dX12_spell_174 (lv_at hl 8 rfl) ?_
                  refine vp_callSi (va_Run.run (va_runV (As := [.int (nI sq_39)]) (rest := [.ref (b 0), .long (lN (ch a sq_39 cz_30)), .long (lN l2_39)]) ⟨hx, hb, hml, hown, noTs⟩ (r_X12_to l dC dI H.size cs b u39 a hL39_3 sq_39 (by first | assumption | omega | rfl | (congr 1; omega)) (by first | assumption | omega | rfl | (congr 1; omega))) ⟨cbE 1 (wd_1606 hE) (wd_126 hE) (wd_1603 hE) rfl rfl (by decide +kernel) ⟨Nat.le_of_ble_eq_true rfl, Nat.le_of_ble_eq_true rfl⟩, (wd_1605 hE), (wd_77 hE)⟩ ⟨PR.blind, r_recv hK hP rfl, (r_pre (av := [.ref (b 0), .int (nI sq_39)]) hK hP hJ hE)⟩ rfl rfl hl.1 rfl (lv_room (Nat.le_of_ble_eq_true rfl)) dX12_spell_176 ⟨Nat.le_of_ble_eq_true rfl, Nat.le_of_ble_eq_true rfl⟩)) (fun r45 hr45 => ?_)
                  have hau45 := gg_dst (a := a) (s := sq_39) (by assumption) (by first | assumption | omega)
                  subst hr45
                  refine lv_iload hx hb dX12_spell_179 (lv_at hl 7 rfl) ?_
                  refine lv_iconst (v := 1) hx hb dX12_spell_181 (by decide) ?_
                  refine lv_isub hx hb dX12_spell_182 ?_
                  refine W.eq (g2 := F0 m 183 ls [.int (nI (nq_30 - 1)), .int (nI (dst a sq_39)), .ref (b 0), .long (lN (ch a sq_39 cz_30)), .long (lN l2_39)]) (congrArg (fun z : Int32 => F0 m 183 ls (.int z :: [.int (nI (dst a sq_39)), .ref (b 0), .long (lN (ch a sq_39 cz_30)), .long (lN l2_39)])) (pk_sub (a := nq_30) (b := 1) (by omega))) ?_
                  refine lv_iload hx hb dX12_spell_183 (lv_at hl 8 rfl) ?_
                  refine lv_iload_n hx hb dX12_spell_185 rfl (lv_at hl 1 rfl) ?_
                  refine rc_l hAL hS hA (va_runV (As := [.int (nI (dst a sq_39)), .int (nI (nq_30 - 1)), .int (nI sq_39), .int (nI n11)]) (rest := [.long (lN (ch a sq_39 cz_30)), .long (lN l2_39)]) ⟨hx, hb, hml, hown, noTs⟩ (r_X12_homes l dC dI 13 H.size cs b u39 a hL39_3 (dst a sq_39) (nq_30 - 1) (nI sq_39) n11 (sq_39 + 1) (by first | assumption | omega | rfl | (congr 1; omega)) (by first | assumption | omega | rfl | (congr 1; omega)) (by first | assumption | omega | rfl | (congr 1; omega)) ((nI_toInt (n := sq_39) (by omega)).trans (by omega)) (by first | assumption | omega | rfl | (congr 1; omega)) (by first | assumption | omega | rfl | (congr 1; omega)) (by first | assumption | omega | rfl | (congr 1; omega)) (by omega)) ⟨cbE 4 (wd_1921 hE) (wd_126 hE) (wd_1918 hE) rfl rfl (by decide +kernel) ⟨Nat.le_of_ble_eq_true rfl, Nat.le_of_ble_eq_true rfl⟩, (wd_1920 hE), (wd_111 hE)⟩ ⟨PR.blind, r_recv hK hP rfl, (r_pre (av := [.ref (b 0), .int (nI (dst a sq_39)), .int (nI (nq_30 - 1)), .int (nI sq_39), .int (nI n11)]) hK hP hJ hE)⟩ rfl rfl hl.1 rfl (lv_room (Nat.le_of_ble_eq_true rfl)) dX12_spell_186 ⟨Nat.le_of_ble_eq_true rfl, Nat.le_of_ble_eq_true rfl⟩) (fun r46 u46 H locs hpo46 hP hS => ?_)
                  obtain ⟨hr46, h46_0, hq46⟩ := hpo46
                  have hA47 := (hq46.1 1 List.not_mem_nil).trans hL39_3
                  have hA48 := (hq46.1 3 List.not_mem_nil).trans hL39_4
                  have hF49x := (hq46.2.1 2 List.not_mem_nil).trans hL39_5
                  have hfr := FR.step hfr hq46 (fun _ h => absurd h List.not_mem_nil) (fun _ h => absurd h List.not_mem_nil) (fun h => h)
                  subst hr46
                  refine lv_lmul hx hb dX12_spell_189 ?_
                  refine W.eq (g2 := F0 m 190 ls [.long (lN ((ch a sq_39 cz_30) * (hM a n11 (nq_30 - 1) (dst a sq_39) (sq_39 + 1)))), .long (lN l2_39)]) (congrArg (fun z : Int64 => F0 m 190 ls (.long z :: [.long (lN l2_39)])) (lN_mul (ch a sq_39 cz_30) (hM a n11 (nq_30 - 1) (dst a sq_39) (sq_39 + 1)))) ?_
                  refine lv_lsub hx hb dX12_spell_190 ?_
                  refine W.eq (g2 := F0 m 191 ls [.long (lN (l2_39 - ((ch a sq_39 cz_30) * (hM a n11 (nq_30 - 1) (dst a sq_39) (sq_39 + 1)))))]) (congrArg (fun z : Int64 => F0 m 191 ls (.long z :: [])) (lN_sub (a := l2_39) (b := (ch a sq_39 cz_30) * (hM a n11 (nq_30 - 1) (dst a sq_39) (sq_39 + 1))) (by omega))) ?_
                  refine lv_lstore (lv' := [(4, .long (lN (l2_39 - ((ch a sq_39 cz_30) * (hM a n11 (nq_30 - 1) (dst a sq_39) (sq_39 + 1)))))), (0, .ref (b 0)), (1, .int (nI n11)), (2, .int (nI nx5)), (3, .int (nI nx9)), (6, .int (nI w_30)), (7, .int cm_30), (8, .int (nI nq_30)), (9, .int (nI sq_39))]) hx hb dX12_spell_191 hl (by decide) rfl (fun ls hl => ?_)
                  refine lv_iinc (v := nI (sq_39 + 1)) (lv' := [(9, .int (nI (sq_39 + 1))), (4, .long (lN (l2_39 - ((ch a sq_39 cz_30) * (hM a n11 (nq_30 - 1) (dst a sq_39) (sq_39 + 1)))))), (0, .ref (b 0)), (1, .int (nI n11)), (2, .int (nI nx5)), (3, .int (nI nx9)), (6, .int (nI w_30)), (7, .int cm_30), (8, .int (nI nq_30))]) hx hb dX12_spell_193 hl (k := 8) rfl (nI_1 sq_39) (by decide) rfl (fun ls hl => ?_)
                  refine lv_goto (tgt := 106) hx hb dX12_spell_196 (by decide) ?_
                  exact ih39 _ u46 _ _ _ (by omega) ⟨hP, hS, hfr, (sq_39 + 1), (l2_39 - ((ch a sq_39 cz_30) * (hM a n11 (nq_30 - 1) (dst a sq_39) (sq_39 + 1)))), rfl, (by assumption), (by first | assumption | omega | rfl | (congr 1; omega)), (by first | (rw [usum_f (by omega)]; exact hL39_2) | (rw [usum_t (by omega)]; omega)), hA47, hA48, hF49x, lv_sub hl [2, 3, 4, 5, 1, 6, 7, 8, 0] rfl⟩
              · have c41 := (b_eq (nI_toInt (n := src a sq_39) (by omega)) (nI_toInt (n := w_30) (by omega))).mp c41
                refine lv_lload hx hb dX12_spell_117 (lv_at hl 4 rfl) ?_
                refine lv_aload_n hx hb dX12_spell_119 rfl (lv_at hl 0 rfl) ?_
                refine lv_iload hx hb dX12_spell_120 (lv_at hl 8 rfl) ?_
                refine lv_iload hx hb dX12_spell_122 (lv_at hl 6 rfl) ?_
                refine vp_callSi (va_Run.run (va_runV (As := [.int (nI sq_39), .int cm_30]) (rest := [.long (lN l2_39)]) ⟨hx, hb, hml, hown, noTs⟩ (r_X12_choices l dC dI H.size cs b u39 a hL39_3 sq_39 cm_30 cz_30 (by first | assumption | omega | rfl | (congr 1; omega)) (by first | assumption | omega | rfl | (congr 1; omega)) ((rfl : Int32.toInt cm_30 = _).trans (by omega)) (by first | assumption | omega | rfl | (congr 1; omega))) ⟨cbE 2 (wd_1897 hE) (wd_126 hE) (wd_1894 hE) rfl rfl (by decide +kernel) ⟨Nat.le_of_ble_eq_true rfl, Nat.le_of_ble_eq_true rfl⟩, (wd_1896 hE), (wd_108 hE)⟩ ⟨PR.blind, r_recv hK hP rfl, (r_pre (av := [.ref (b 0), .int (nI sq_39), .int cm_30]) hK hP hJ hE)⟩ rfl rfl hl.1 rfl (lv_room (Nat.le_of_ble_eq_true rfl)) dX12_spell_124 ⟨Nat.le_of_ble_eq_true rfl, Nat.le_of_ble_eq_true rfl⟩)) (fun r50 hr50 => ?_)
                have hau50 := ch_le (a := a) (k := cz_30) (s := sq_39) (by assumption) (by first | assumption | omega)
                subst hr50
                refine lv_i2l hx hb dX12_spell_127 rfl ?_
                refine W.eq (g2 := F0 m 128 ls [.long (lN (ch a sq_39 cz_30)), .long (lN l2_39)]) (congrArg (fun z : Int64 => F0 m 128 ls (.long z :: [.long (lN l2_39)])) (nI_l (n := ch a sq_39 cz_30) (by omega))) ?_
                refine lv_aload_n hx hb dX12_spell_128 rfl (lv_at hl 0 rfl) ?_
                refine lv_aload_n hx hb dX12_spell_129 rfl (lv_at hl 0 rfl) ?_
                refine lv_iload hx hb dX12_spell_130 (lv_at hl 8 rfl) ?_
                refine vp_callSi (va_Run.run (va_runV (As := [.int (nI sq_39)]) (rest := [.ref (b 0), .long (lN (ch a sq_39 cz_30)), .long (lN l2_39)]) ⟨hx, hb, hml, hown, noTs⟩ (r_X12_to l dC dI H.size cs b u39 a hL39_3 sq_39 (by first | assumption | omega | rfl | (congr 1; omega)) (by first | assumption | omega | rfl | (congr 1; omega))) ⟨cbE 1 (wd_1606 hE) (wd_126 hE) (wd_1603 hE) rfl rfl (by decide +kernel) ⟨Nat.le_of_ble_eq_true rfl, Nat.le_of_ble_eq_true rfl⟩, (wd_1605 hE), (wd_77 hE)⟩ ⟨PR.blind, r_recv hK hP rfl, (r_pre (av := [.ref (b 0), .int (nI sq_39)]) hK hP hJ hE)⟩ rfl rfl hl.1 rfl (lv_room (Nat.le_of_ble_eq_true rfl)) dX12_spell_132 ⟨Nat.le_of_ble_eq_true rfl, Nat.le_of_ble_eq_true rfl⟩)) (fun r51 hr51 => ?_)
                have hau51 := gg_dst (a := a) (s := sq_39) (by assumption) (by first | assumption | omega)
                subst hr51
                refine lv_iload hx hb dX12_spell_135 (lv_at hl 7 rfl) ?_
                refine lv_iconst (v := 1) hx hb dX12_spell_137 (by decide) ?_
                refine lv_isub hx hb dX12_spell_138 ?_
                refine W.eq (g2 := F0 m 139 ls [.int (nI (nq_30 - 1)), .int (nI (dst a sq_39)), .ref (b 0), .long (lN (ch a sq_39 cz_30)), .long (lN l2_39)]) (congrArg (fun z : Int32 => F0 m 139 ls (.int z :: [.int (nI (dst a sq_39)), .ref (b 0), .long (lN (ch a sq_39 cz_30)), .long (lN l2_39)])) (pk_sub (a := nq_30) (b := 1) (by omega))) ?_
                refine lv_iload hx hb dX12_spell_139 (lv_at hl 8 rfl) ?_
                refine lv_iload_n hx hb dX12_spell_141 rfl (lv_at hl 1 rfl) ?_
                refine rc_l hAL hS hA (va_runV (As := [.int (nI (dst a sq_39)), .int (nI (nq_30 - 1)), .int (nI sq_39), .int (nI n11)]) (rest := [.long (lN (ch a sq_39 cz_30)), .long (lN l2_39)]) ⟨hx, hb, hml, hown, noTs⟩ (r_X12_homes l dC dI 13 H.size cs b u39 a hL39_3 (dst a sq_39) (nq_30 - 1) (nI sq_39) n11 (sq_39 + 1) (by first | assumption | omega | rfl | (congr 1; omega)) (by first | assumption | omega | rfl | (congr 1; omega)) (by first | assumption | omega | rfl | (congr 1; omega)) ((nI_toInt (n := sq_39) (by omega)).trans (by omega)) (by first | assumption | omega | rfl | (congr 1; omega)) (by first | assumption | omega | rfl | (congr 1; omega)) (by first | assumption | omega | rfl | (congr 1; omega)) (by omega)) ⟨cbE 4 (wd_1921 hE) (wd_126 hE) (wd_1918 hE) rfl rfl (by decide +kernel) ⟨Nat.le_of_ble_eq_true rfl, Nat.le_of_ble_eq_true rfl⟩, (wd_1920 hE), (wd_111 hE)⟩ ⟨PR.blind, r_recv hK hP rfl, (r_pre (av := [.ref (b 0), .int (nI (dst a sq_39)), .int (nI (nq_30 - 1)), .int (nI sq_39), .int (nI n11)]) hK hP hJ hE)⟩ rfl rfl hl.1 rfl (lv_room (Nat.le_of_ble_eq_true rfl)) dX12_spell_142 ⟨Nat.le_of_ble_eq_true rfl, Nat.le_of_ble_eq_true rfl⟩) (fun r52 u52 H locs hpo52 hP hS => ?_)
                obtain ⟨hr52, h52_0, hq52⟩ := hpo52
                have hA53 := (hq52.1 1 List.not_mem_nil).trans hL39_3
                have hA54 := (hq52.1 3 List.not_mem_nil).trans hL39_4
                have hF55x := (hq52.2.1 2 List.not_mem_nil).trans hL39_5
                have hfr := FR.step hfr hq52 (fun _ h => absurd h List.not_mem_nil) (fun _ h => absurd h List.not_mem_nil) (fun h => h)
                subst hr52
                refine lv_lmul hx hb dX12_spell_145 ?_
                refine W.eq (g2 := F0 m 146 ls [.long (lN ((ch a sq_39 cz_30) * (hM a n11 (nq_30 - 1) (dst a sq_39) (sq_39 + 1)))), .long (lN l2_39)]) (congrArg (fun z : Int64 => F0 m 146 ls (.long z :: [.long (lN l2_39)])) (lN_mul (ch a sq_39 cz_30) (hM a n11 (nq_30 - 1) (dst a sq_39) (sq_39 + 1)))) ?_
                refine W.lcmp hx hb dX12_spell_146 ?_
                refine lv_topi (fun x56 ex56 => ?_)
                refine lv_if_lt (tgt := 199) hx hb dX12_spell_147 (by decide) (fun c58 => ?_) (fun c58 => ?_)
                · have c58 := (lc_lt ex56).mp c58
                  have c58 := (pk_lLT (a := l2_39) (b := (ch a sq_39 cz_30) * (hM a n11 (nq_30 - 1) (dst a sq_39) (sq_39 + 1))) (by omega) (by omega)).mp c58
                  have hep : 0 < hM a n11 (nq_30 - 1) (dst a sq_39) (sq_39 + 1) := lt_mul_pos (x := l2_39) (y := ch a sq_39 cz_30) (by omega)
                  refine lv_aload_n hx hb dX12_spell_199 rfl (lv_at hl 0 rfl) ?_
                  refine lv_aload_n hx hb dX12_spell_200 rfl (lv_at hl 0 rfl) ?_
                  refine lv_iload hx hb dX12_spell_201 (lv_at hl 8 rfl) ?_
                  refine vp_callSi (va_Run.run (va_runV (As := [.int (nI sq_39)]) (rest := [.ref (b 0)]) ⟨hx, hb, hml, hown, noTs⟩ (r_X12_to l dC dI H.size cs b u52 a hA53 sq_39 (by first | assumption | omega | rfl | (congr 1; omega)) (by first | assumption | omega | rfl | (congr 1; omega))) ⟨cbE 1 (wd_1606 hE) (wd_126 hE) (wd_1603 hE) rfl rfl (by decide +kernel) ⟨Nat.le_of_ble_eq_true rfl, Nat.le_of_ble_eq_true rfl⟩, (wd_1605 hE), (wd_77 hE)⟩ ⟨PR.blind, r_recv hK hP rfl, (r_pre (av := [.ref (b 0), .int (nI sq_39)]) hK hP hJ hE)⟩ rfl rfl hl.1 rfl (lv_room (Nat.le_of_ble_eq_true rfl)) dX12_spell_203 ⟨Nat.le_of_ble_eq_true rfl, Nat.le_of_ble_eq_true rfl⟩)) (fun r59 hr59 => ?_)
                  have hau59 := gg_dst (a := a) (s := sq_39) (by assumption) (by first | assumption | omega)
                  subst hr59
                  refine lv_iload hx hb dX12_spell_206 (lv_at hl 7 rfl) ?_
                  refine lv_iconst (v := 1) hx hb dX12_spell_208 (by decide) ?_
                  refine lv_isub hx hb dX12_spell_209 ?_
                  refine W.eq (g2 := F0 m 210 ls [.int (nI (nq_30 - 1)), .int (nI (dst a sq_39)), .ref (b 0)]) (congrArg (fun z : Int32 => F0 m 210 ls (.int z :: [.int (nI (dst a sq_39)), .ref (b 0)])) (pk_sub (a := nq_30) (b := 1) (by omega))) ?_
                  refine lv_iload hx hb dX12_spell_210 (lv_at hl 8 rfl) ?_
                  refine lv_iload_n hx hb dX12_spell_212 rfl (lv_at hl 1 rfl) ?_
                  refine rc_l hAL hS hA (va_runV (As := [.int (nI (dst a sq_39)), .int (nI (nq_30 - 1)), .int (nI sq_39), .int (nI n11)]) (rest := []) ⟨hx, hb, hml, hown, noTs⟩ (r_X12_homes l dC dI 13 H.size cs b u52 a hA53 (dst a sq_39) (nq_30 - 1) (nI sq_39) n11 (sq_39 + 1) (by first | assumption | omega | rfl | (congr 1; omega)) (by first | assumption | omega | rfl | (congr 1; omega)) (by first | assumption | omega | rfl | (congr 1; omega)) ((nI_toInt (n := sq_39) (by omega)).trans (by omega)) (by first | assumption | omega | rfl | (congr 1; omega)) (by first | assumption | omega | rfl | (congr 1; omega)) (by first | assumption | omega | rfl | (congr 1; omega)) (by omega)) ⟨cbE 4 (wd_1921 hE) (wd_126 hE) (wd_1918 hE) rfl rfl (by decide +kernel) ⟨Nat.le_of_ble_eq_true rfl, Nat.le_of_ble_eq_true rfl⟩, (wd_1920 hE), (wd_111 hE)⟩ ⟨PR.blind, r_recv hK hP rfl, (r_pre (av := [.ref (b 0), .int (nI (dst a sq_39)), .int (nI (nq_30 - 1)), .int (nI sq_39), .int (nI n11)]) hK hP hJ hE)⟩ rfl rfl hl.1 rfl (lv_room (Nat.le_of_ble_eq_true rfl)) dX12_spell_213 ⟨Nat.le_of_ble_eq_true rfl, Nat.le_of_ble_eq_true rfl⟩) (fun r60 u60 H locs hpo60 hP hS => ?_)
                  obtain ⟨hr60, h60_0, hq60⟩ := hpo60
                  have hA61 := (hq60.1 1 List.not_mem_nil).trans hA53
                  have hA62 := (hq60.1 3 List.not_mem_nil).trans hA54
                  have hF63x := (hq60.2.1 2 List.not_mem_nil).trans hF55x
                  have hfr := FR.step hfr hq60 (fun _ h => absurd h List.not_mem_nil) (fun _ h => absurd h List.not_mem_nil) (fun h => h)
                  have HM4 := h60_0
                  subst hr60
                  refine lv_lstore (lv' := [(10, .long (lN (hM a n11 (nq_30 - 1) (dst a sq_39) (sq_39 + 1)))), (0, .ref (b 0)), (1, .int (nI n11)), (2, .int (nI nx5)), (3, .int (nI nx9)), (4, .long (lN l2_39)), (6, .int (nI w_30)), (7, .int cm_30), (8, .int (nI nq_30)), (9, .int (nI sq_39))]) hx hb dX12_spell_216 hl (by decide) rfl (fun ls hl => ?_)
                  refine lv_aload_n hx hb dX12_spell_218 rfl (lv_at hl 1 rfl) ?_
                  refine r_get (v := .ref (b 2)) hx hb (ly_X12 hE) hown hK hP rfl 4 (by decide) (wd_1385 hE) (fun _ h9 => h9) rfl dX12_spell_219 ?_
                  refine lv_iconst (v := 0) hx hb dX12_spell_222 (by decide) ?_
                  refine r_aald (j := 2) (k := 0) (n := 10) (t0 := 4) (j2 := 3) hx hb hK hP (by decide) rfl rfl (by decide) (by decide) rfl dX12_spell_223 ?_
                  refine lv_iconst (v := 2) hx hb dX12_spell_224 (by decide) ?_
                  refine lv_iconst (v := 2) hx hb dX12_spell_225 (by decide) ?_
                  refine lv_aload_n hx hb dX12_spell_226 rfl (lv_at hl 1 rfl) ?_
                  refine r_get (v := .ref (b 2)) hx hb (ly_X12 hE) hown hK hP rfl 4 (by decide) (wd_1385 hE) (fun _ h9 => h9) rfl dX12_spell_227 ?_
                  refine lv_iconst (v := 0) hx hb dX12_spell_230 (by decide) ?_
                  refine r_aald (j := 2) (k := 0) (n := 10) (t0 := 4) (j2 := 3) hx hb hK hP (by decide) rfl rfl (by decide) (by decide) rfl dX12_spell_231 ?_
                  refine lv_iconst (v := 1) hx hb dX12_spell_232 (by decide) ?_
                  refine r_iald (j := 3) (k := 1) (n := 200) (x := nI (rn f1_30)) hx hb hK hP (by decide) rfl (by decide) (by decide) (by rw [hA62]; exact pg_n hL30_1) dX12_spell_233 ?_
                  refine lv_imul hx hb dX12_spell_234 ?_
                  refine W.eq (g2 := F0 m 235 ls [.int (nI (2 * (rn f1_30))), .int 2, .ref (b 3)]) (congrArg (fun z : Int32 => F0 m 235 ls (.int z :: [.int 2, .ref (b 3)])) (pk_mul 2 (rn f1_30))) ?_
                  refine lv_iadd hx hb dX12_spell_235 ?_
                  refine W.eq (g2 := F0 m 236 ls [.int (nI (2 + (2 * (rn f1_30)))), .ref (b 3)]) (congrArg (fun z : Int32 => F0 m 236 ls (.int z :: [.ref (b 3)])) (nI_add 2 (2 * (rn f1_30)))) ?_
                  refine lv_iload hx hb dX12_spell_236 (lv_at hl 9 rfl) ?_
                  refine lv_iload hx hb dX12_spell_238 (lv_at hl 7 rfl) ?_
                  refine vp_callSi (va_Run.run (va_runS (As := [.int (nI sq_39), .int cm_30]) (rest := [.int (nI (2 + (2 * (rn f1_30)))), .ref (b 3)]) ⟨hx, hb, hml, hown, noTs⟩ (r_X12_leastAhead l dC dI H.size cs b u60 sq_39 cm_30 cz_30 ((rfl : Int32.toInt cm_30 = _).trans (by omega)) (by first | assumption | omega | rfl | (congr 1; omega)) (by first | assumption | omega | rfl | (congr 1; omega))) ⟨cbE 2 (wd_1928 hE) (wd_126 hE) (wd_1926 hE) rfl rfl (by decide +kernel) ⟨Nat.le_of_ble_eq_true rfl, Nat.le_of_ble_eq_true rfl⟩, (wd_1927 hE)⟩ ⟨PR.blind, (r_pre (av := [.int (nI sq_39), .int cm_30]) hK hP hJ hE)⟩ rfl rfl hl.1 rfl (lv_room (Nat.le_of_ble_eq_true rfl)) dX12_spell_240 ⟨Nat.le_of_ble_eq_true rfl, Nat.le_of_ble_eq_true rfl⟩)) (fun r65 hr65 => ?_)
                  obtain ⟨n65, rfl, hn65_0⟩ := hr65
                  refine lv_lload hx hb dX12_spell_243 (lv_at hl 5 rfl) ?_
                  refine lv_lload hx hb dX12_spell_245 (lv_at hl 0 rfl) ?_
                  refine lv_ldiv hx hb dX12_spell_247 (l_ne0 (n := hM a n11 (nq_30 - 1) (dst a sq_39) (sq_39 + 1)) (by omega) (by omega)) ?_
                  refine W.eq (g2 := F0 m 248 ls [.long (lN (l2_39 / (hM a n11 (nq_30 - 1) (dst a sq_39) (sq_39 + 1)))), .int (nI n65), .int (nI (2 + (2 * (rn f1_30)))), .ref (b 3)]) (congrArg (fun z : Int64 => F0 m 248 ls (.long z :: [.int (nI n65), .int (nI (2 + (2 * (rn f1_30)))), .ref (b 3)])) (pk_lDiv (a := l2_39) (b := hM a n11 (nq_30 - 1) (dst a sq_39) (sq_39 + 1)) (by omega) (by omega) (by omega))) ?_
                  refine lv_l2i hx hb dX12_spell_248 rfl ?_
                  refine W.eq (g2 := F0 m 249 ls [.int (nI (l2_39 / (hM a n11 (nq_30 - 1) (dst a sq_39) (sq_39 + 1)))), .int (nI n65), .int (nI (2 + (2 * (rn f1_30)))), .ref (b 3)]) (congrArg (fun z : Int32 => F0 m 249 ls (.int z :: [.int (nI n65), .int (nI (2 + (2 * (rn f1_30)))), .ref (b 3)])) (lN_i (l2_39 / (hM a n11 (nq_30 - 1) (dst a sq_39) (sq_39 + 1))))) ?_
                  refine lv_iadd hx hb dX12_spell_249 ?_
                  refine W.eq (g2 := F0 m 250 ls [.int (nI (n65 + (l2_39 / (hM a n11 (nq_30 - 1) (dst a sq_39) (sq_39 + 1))))), .int (nI (2 + (2 * (rn f1_30)))), .ref (b 3)]) (congrArg (fun z : Int32 => F0 m 250 ls (.int z :: [.int (nI (2 + (2 * (rn f1_30)))), .ref (b 3)])) (nI_add n65 (l2_39 / (hM a n11 (nq_30 - 1) (dst a sq_39) (sq_39 + 1))))) ?_
                  refine r_iast (j := 3) (k := 2 + (2 * (rn f1_30))) (n := 200) (x := nI (n65 + (l2_39 / (hM a n11 (nq_30 - 1) (dst a sq_39) (sq_39 + 1))))) hx hb hK hP hJ hAL hS (by decide) (fun _ => rfl) hA62 (by omega) (by decide) dX12_spell_250 (fun u66 H locs hs66 hq66 hP hS => ?_)
                  obtain ⟨w66, hw66⟩ : ∃ g, g = upd f1_30 (2 + (2 * (rn f1_30))) (nI (n65 + (l2_39 / (hM a n11 (nq_30 - 1) (dst a sq_39) (sq_39 + 1))))) := ⟨_, rfl⟩
                  rw [← hw66] at hs66
                  have hA67 := (hq66.1 1 (by decide)).trans hA61
                  have hF68x := (hq66.2.1 2 List.not_mem_nil).trans hF63x
                  have hfr := FR.step hfr hq66 (by decide) (fun _ h => absurd h List.not_mem_nil) (fun h => rfl)
                  have HM5a := hm_fr HM4 hq66
                  obtain ⟨p1, p2, p3, p4, p5⟩ := pg_put hw66 hL30_1
                  refine lv_aload_n hx hb dX12_spell_251 rfl (lv_at hl 1 rfl) ?_
                  refine r_get (v := .ref (b 2)) hx hb (ly_X12 hE) hown hK hP rfl 4 (by decide) (wd_1385 hE) (fun _ h9 => h9) rfl dX12_spell_252 ?_
                  refine lv_iconst (v := 0) hx hb dX12_spell_255 (by decide) ?_
                  refine r_aald (j := 2) (k := 0) (n := 10) (t0 := 4) (j2 := 3) hx hb hK hP (by decide) rfl rfl (by decide) (by decide) rfl dX12_spell_256 ?_
                  refine lv_iload hx hb dX12_spell_257 (lv_at hl 9 rfl) ?_
                  refine lv_iconst (v := 0) hx hb dX12_spell_259 (by decide) ?_
                  refine rc_v hAL hS hA (va_runS (As := [.ref (b 3), .int (nI sq_39), .int 0]) (rest := []) ⟨hx, hb, hml, hown, noTs⟩ (r_X12_goes l dC dI H.size cs b u66 a hA67 3 (by decide) w66 hs66 sq_39 0 (by first | assumption | omega | rfl | (congr 1; omega)) (by first | assumption | omega | rfl | (congr 1; omega)) (by first | assumption | omega | rfl | (congr 1; omega)) (by first | assumption | omega | rfl | (congr 1; omega)) (by first | assumption | omega | rfl | (congr 1; omega))) ⟨cbE 3 (wd_1609 hE) (wd_126 hE) (wd_1607 hE) rfl rfl (by decide +kernel) ⟨Nat.le_of_ble_eq_true rfl, Nat.le_of_ble_eq_true rfl⟩, (wd_1608 hE)⟩ ⟨PR.blind, (r_pre (av := [.ref (b 3), .int (nI sq_39), .int 0]) hK hP hJ hE)⟩ rfl rfl hl.1 rfl (lv_room (Nat.le_of_ble_eq_true rfl)) dX12_spell_260 ⟨Nat.le_of_ble_eq_true rfl, Nat.le_of_ble_eq_true rfl⟩) (fun u69 H locs hpo69 hP hS => ?_)
                  obtain ⟨h69_0, h69_1, h69_2, h69_3, h69_4, h69_5, h69_6, h69_7, hq69⟩ := hpo69
                  obtain ⟨w70, hA70⟩ : ∃ g, rA u69 3 = g := ⟨_, rfl⟩
                  rw [hA70] at h69_0 h69_1 h69_2 h69_3 h69_4 h69_5 h69_6 h69_7
                  have hA71 := (hq69.1 1 (by decide)).trans hA67
                  have hF72x := (hq69.2.1 2 List.not_mem_nil).trans hF68x
                  have hfr := FR.step hfr hq69 (by decide) (fun _ h => absurd h List.not_mem_nil) (fun h => rfl)
                  have hl69_0 := pg_le h69_0
                  have HM5 := hm_fr HM5a hq69
                  refine lv_lload hx hb dX12_spell_263 (lv_at hl 5 rfl) ?_
                  refine lv_lload hx hb dX12_spell_265 (lv_at hl 0 rfl) ?_
                  refine lv_lrem hx hb dX12_spell_267 (l_ne0 (n := hM a n11 (nq_30 - 1) (dst a sq_39) (sq_39 + 1)) (by omega) (by omega)) ?_
                  refine W.eq (g2 := F0 m 268 ls [.long (lN (l2_39 % (hM a n11 (nq_30 - 1) (dst a sq_39) (sq_39 + 1))))]) (congrArg (fun z : Int64 => F0 m 268 ls (.long z :: [])) (pk_lRem (a := l2_39) (b := hM a n11 (nq_30 - 1) (dst a sq_39) (sq_39 + 1)) (by omega) (by omega) (by omega))) ?_
                  refine lv_lstore (lv' := [(4, .long (lN (l2_39 % (hM a n11 (nq_30 - 1) (dst a sq_39) (sq_39 + 1))))), (10, .long (lN (hM a n11 (nq_30 - 1) (dst a sq_39) (sq_39 + 1)))), (0, .ref (b 0)), (1, .int (nI n11)), (2, .int (nI nx5)), (3, .int (nI nx9)), (6, .int (nI w_30)), (7, .int cm_30), (8, .int (nI nq_30)), (9, .int (nI sq_39))]) hx hb dX12_spell_268 hl (by decide) rfl (fun ls hl => ?_)
                  refine lv_iload hx hb dX12_spell_270 (lv_at hl 9 rfl) ?_
                  refine lv_istore (lv' := [(7, .int (nI sq_39)), (4, .long (lN (l2_39 % (hM a n11 (nq_30 - 1) (dst a sq_39) (sq_39 + 1))))), (10, .long (lN (hM a n11 (nq_30 - 1) (dst a sq_39) (sq_39 + 1)))), (0, .ref (b 0)), (1, .int (nI n11)), (2, .int (nI nx5)), (3, .int (nI nx9)), (6, .int (nI w_30)), (8, .int (nI nq_30)), (9, .int (nI sq_39))]) hx hb dX12_spell_272 hl (by decide) rfl (fun ls hl => ?_)
                  refine lv_aload_n hx hb dX12_spell_274 rfl (lv_at hl 3 rfl) ?_
                  refine lv_iload hx hb dX12_spell_275 (lv_at hl 9 rfl) ?_
                  refine vp_callSi (va_Run.run (va_runV (As := [.int (nI sq_39)]) (rest := []) ⟨hx, hb, hml, hown, noTs⟩ (r_X12_to l dC dI H.size cs b u69 a hA71 sq_39 (by first | assumption | omega | rfl | (congr 1; omega)) (by first | assumption | omega | rfl | (congr 1; omega))) ⟨cbE 1 (wd_1606 hE) (wd_126 hE) (wd_1603 hE) rfl rfl (by decide +kernel) ⟨Nat.le_of_ble_eq_true rfl, Nat.le_of_ble_eq_true rfl⟩, (wd_1605 hE), (wd_77 hE)⟩ ⟨PR.blind, r_recv hK hP rfl, (r_pre (av := [.ref (b 0), .int (nI sq_39)]) hK hP hJ hE)⟩ rfl rfl hl.1 rfl (lv_room (Nat.le_of_ble_eq_true rfl)) dX12_spell_277 ⟨Nat.le_of_ble_eq_true rfl, Nat.le_of_ble_eq_true rfl⟩)) (fun r73 hr73 => ?_)
                  have hau73 := gg_dst (a := a) (s := sq_39) (by assumption) (by first | assumption | omega)
                  subst hr73
                  refine lv_istore (lv' := [(6, .int (nI (dst a sq_39))), (7, .int (nI sq_39)), (4, .long (lN (l2_39 % (hM a n11 (nq_30 - 1) (dst a sq_39) (sq_39 + 1))))), (10, .long (lN (hM a n11 (nq_30 - 1) (dst a sq_39) (sq_39 + 1)))), (0, .ref (b 0)), (1, .int (nI n11)), (2, .int (nI nx5)), (3, .int (nI nx9)), (8, .int (nI nq_30)), (9, .int (nI sq_39))]) hx hb dX12_spell_280 hl (by decide) rfl (fun ls hl => ?_)
                  refine lv_iinc (v := nI (nq_30 - 1)) (lv' := [(8, .int (nI (nq_30 - 1))), (6, .int (nI (dst a sq_39))), (7, .int (nI sq_39)), (4, .long (lN (l2_39 % (hM a n11 (nq_30 - 1) (dst a sq_39) (sq_39 + 1))))), (10, .long (lN (hM a n11 (nq_30 - 1) (dst a sq_39) (sq_39 + 1)))), (0, .ref (b 0)), (1, .int (nI n11)), (2, .int (nI nx5)), (3, .int (nI nx9)), (9, .int (nI sq_39))]) hx hb dX12_spell_282 hl (k := 8) rfl (sb_m1 (p := nq_30) (by omega)) (by decide) rfl (fun ls hl => ?_)
                  refine lv_goto (tgt := 98) hx hb dX12_spell_285 (by decide) ?_
                  exact ih30 _ u69 _ _ _ (by omega) ⟨hP, hS, hfr, (nq_30 - 1), (l2_39 % (hM a n11 (nq_30 - 1) (dst a sq_39) (sq_39 + 1))), (dst a sq_39), (nI sq_39), sq_39 + 1, w70, rfl, (by exact HM5), (by first | assumption | omega | rfl | (congr 1; omega)), (by first | assumption | omega | rfl | (congr 1; omega)), (by omega), (by first | assumption | omega | rfl | (congr 1; omega)), (by exact Nat.mod_lt _ (by omega)), (by rw [nI_toInt (by omega)]; omega), (by first | assumption | omega | rfl | (congr 1; omega)), (by first | assumption | omega | rfl | (congr 1; omega)), hA71, hA70, hF72x, lv_sub hl [5, 6, 7, 8, 3, 1, 2, 0] rfl⟩
                · have c58 := mt (lc_lt ex56).mpr c58
                  have c58 := mt (pk_lLT (a := l2_39) (b := (ch a sq_39 cz_30) * (hM a n11 (nq_30 - 1) (dst a sq_39) (sq_39 + 1))) (by omega) (by omega)).mpr c58
                  refine lv_aload_n hx hb dX12_spell_150 rfl (lv_at hl 0 rfl) ?_
                  refine lv_iload hx hb dX12_spell_151 (lv_at hl 8 rfl) ?_
                  refine vp_callSi (va_Run.run (va_runV (As := [.int (nI sq_39)]) (rest := []) ⟨hx, hb, hml, hown, noTs⟩ (r_X12_from l dC dI H.size cs b u52 a hA53 sq_39 (by first | assumption | omega | rfl | (congr 1; omega)) (by first | assumption | omega | rfl | (congr 1; omega))) ⟨cbE 1 (wd_1591 hE) (wd_126 hE) (wd_1588 hE) rfl rfl (by decide +kernel) ⟨Nat.le_of_ble_eq_true rfl, Nat.le_of_ble_eq_true rfl⟩, (wd_1590 hE), (wd_74 hE)⟩ ⟨PR.blind, r_recv hK hP rfl, (r_pre (av := [.ref (b 0), .int (nI sq_39)]) hK hP hJ hE)⟩ rfl rfl hl.1 rfl (lv_room (Nat.le_of_ble_eq_true rfl)) dX12_spell_153 ⟨Nat.le_of_ble_eq_true rfl, Nat.le_of_ble_eq_true rfl⟩)) (fun r74 hr74 => ?_)
                  have hau74 := gg_src (a := a) (s := sq_39) (by assumption) (by first | assumption | omega)
                  subst hr74
                  refine lv_iload hx hb dX12_spell_156 (lv_at hl 5 rfl) ?_
                  refine lv_icmp_ne (tgt := 193) hx hb dX12_spell_158 (by decide) (fun c75 => ?_) (fun c75 => ?_)
                  · have c75 := mt (b_eq (nI_toInt (n := src a sq_39) (by omega)) (nI_toInt (n := w_30) (by omega))).mpr c75
                    refine lv_iinc (v := nI (sq_39 + 1)) (lv' := [(9, .int (nI (sq_39 + 1))), (0, .ref (b 0)), (1, .int (nI n11)), (2, .int (nI nx5)), (3, .int (nI nx9)), (4, .long (lN l2_39)), (6, .int (nI w_30)), (7, .int cm_30), (8, .int (nI nq_30))]) hx hb dX12_spell_193 hl (k := 8) rfl (nI_1 sq_39) (by decide) rfl (fun ls hl => ?_)
                    refine lv_goto (tgt := 106) hx hb dX12_spell_196 (by decide) ?_
                    exact ih39 _ u52 _ _ _ (by omega) ⟨hP, hS, hfr, (sq_39 + 1), l2_39, rfl, (by assumption), (by first | assumption | omega | rfl | (congr 1; omega)), (by first | (rw [usum_f (by omega)]; exact hL39_2) | (rw [usum_t (by omega)]; omega)), hA53, hA54, hF55x, lv_sub hl [1, 2, 3, 4, 5, 6, 7, 8, 0] rfl⟩
                  · have c75 := (b_eq (nI_toInt (n := src a sq_39) (by omega)) (nI_toInt (n := w_30) (by omega))).mp c75
                    refine lv_lload hx hb dX12_spell_161 (lv_at hl 4 rfl) ?_
                    refine lv_aload_n hx hb dX12_spell_163 rfl (lv_at hl 0 rfl) ?_
                    refine lv_iload hx hb dX12_spell_164 (lv_at hl 8 rfl) ?_
                    refine lv_iload hx hb dX12_spell_166 (lv_at hl 6 rfl) ?_
                    refine vp_callSi (va_Run.run (va_runV (As := [.int (nI sq_39), .int cm_30]) (rest := [.long (lN l2_39)]) ⟨hx, hb, hml, hown, noTs⟩ (r_X12_choices l dC dI H.size cs b u52 a hA53 sq_39 cm_30 cz_30 (by first | assumption | omega | rfl | (congr 1; omega)) (by first | assumption | omega | rfl | (congr 1; omega)) ((rfl : Int32.toInt cm_30 = _).trans (by omega)) (by first | assumption | omega | rfl | (congr 1; omega))) ⟨cbE 2 (wd_1897 hE) (wd_126 hE) (wd_1894 hE) rfl rfl (by decide +kernel) ⟨Nat.le_of_ble_eq_true rfl, Nat.le_of_ble_eq_true rfl⟩, (wd_1896 hE), (wd_108 hE)⟩ ⟨PR.blind, r_recv hK hP rfl, (r_pre (av := [.ref (b 0), .int (nI sq_39), .int cm_30]) hK hP hJ hE)⟩ rfl rfl hl.1 rfl (lv_room (Nat.le_of_ble_eq_true rfl)) dX12_spell_168 ⟨Nat.le_of_ble_eq_true rfl, Nat.le_of_ble_eq_true rfl⟩)) (fun r76 hr76 => ?_)
                    have hau76 := ch_le (a := a) (k := cz_30) (s := sq_39) (by assumption) (by first | assumption | omega)
                    subst hr76
                    refine lv_i2l hx hb dX12_spell_171 rfl ?_
                    refine W.eq (g2 := F0 m 172 ls [.long (lN (ch a sq_39 cz_30)), .long (lN l2_39)]) (congrArg (fun z : Int64 => F0 m 172 ls (.long z :: [.long (lN l2_39)])) (nI_l (n := ch a sq_39 cz_30) (by omega))) ?_
                    refine lv_aload_n hx hb dX12_spell_172 rfl (lv_at hl 0 rfl) ?_
                    refine lv_aload_n hx hb dX12_spell_173 rfl (lv_at hl 0 rfl) ?_
                    refine lv_iload hx hb dX12_spell_174 (lv_at hl 8 rfl) ?_
                    refine vp_callSi (va_Run.run (va_runV (As := [.int (nI sq_39)]) (rest := [.ref (b 0), .long (lN (ch a sq_39 cz_30)), .long (lN l2_39)]) ⟨hx, hb, hml, hown, noTs⟩ (r_X12_to l dC dI H.size cs b u52 a hA53 sq_39 (by first | assumption | omega | rfl | (congr 1; omega)) (by first | assumption | omega | rfl | (congr 1; omega))) ⟨cbE 1 (wd_1606 hE) (wd_126 hE) (wd_1603 hE) rfl rfl (by decide +kernel) ⟨Nat.le_of_ble_eq_true rfl, Nat.le_of_ble_eq_true rfl⟩, (wd_1605 hE), (wd_77 hE)⟩ ⟨PR.blind, r_recv hK hP rfl, (r_pre (av := [.ref (b 0), .int (nI sq_39)]) hK hP hJ hE)⟩ rfl rfl hl.1 rfl (lv_room (Nat.le_of_ble_eq_true rfl)) dX12_spell_176 ⟨Nat.le_of_ble_eq_true rfl, Nat.le_of_ble_eq_true rfl⟩)) (fun r77 hr77 => ?_)
                    have hau77 := gg_dst (a := a) (s := sq_39) (by assumption) (by first | assumption | omega)
                    subst hr77
                    refine lv_iload hx hb dX12_spell_179 (lv_at hl 7 rfl) ?_
                    refine lv_iconst (v := 1) hx hb dX12_spell_181 (by decide) ?_
                    refine lv_isub hx hb dX12_spell_182 ?_
                    refine W.eq (g2 := F0 m 183 ls [.int (nI (nq_30 - 1)), .int (nI (dst a sq_39)), .ref (b 0), .long (lN (ch a sq_39 cz_30)), .long (lN l2_39)]) (congrArg (fun z : Int32 => F0 m 183 ls (.int z :: [.int (nI (dst a sq_39)), .ref (b 0), .long (lN (ch a sq_39 cz_30)), .long (lN l2_39)])) (pk_sub (a := nq_30) (b := 1) (by omega))) ?_
                    refine lv_iload hx hb dX12_spell_183 (lv_at hl 8 rfl) ?_
                    refine lv_iload_n hx hb dX12_spell_185 rfl (lv_at hl 1 rfl) ?_
                    refine rc_l hAL hS hA (va_runV (As := [.int (nI (dst a sq_39)), .int (nI (nq_30 - 1)), .int (nI sq_39), .int (nI n11)]) (rest := [.long (lN (ch a sq_39 cz_30)), .long (lN l2_39)]) ⟨hx, hb, hml, hown, noTs⟩ (r_X12_homes l dC dI 13 H.size cs b u52 a hA53 (dst a sq_39) (nq_30 - 1) (nI sq_39) n11 (sq_39 + 1) (by first | assumption | omega | rfl | (congr 1; omega)) (by first | assumption | omega | rfl | (congr 1; omega)) (by first | assumption | omega | rfl | (congr 1; omega)) ((nI_toInt (n := sq_39) (by omega)).trans (by omega)) (by first | assumption | omega | rfl | (congr 1; omega)) (by first | assumption | omega | rfl | (congr 1; omega)) (by first | assumption | omega | rfl | (congr 1; omega)) (by omega)) ⟨cbE 4 (wd_1921 hE) (wd_126 hE) (wd_1918 hE) rfl rfl (by decide +kernel) ⟨Nat.le_of_ble_eq_true rfl, Nat.le_of_ble_eq_true rfl⟩, (wd_1920 hE), (wd_111 hE)⟩ ⟨PR.blind, r_recv hK hP rfl, (r_pre (av := [.ref (b 0), .int (nI (dst a sq_39)), .int (nI (nq_30 - 1)), .int (nI sq_39), .int (nI n11)]) hK hP hJ hE)⟩ rfl rfl hl.1 rfl (lv_room (Nat.le_of_ble_eq_true rfl)) dX12_spell_186 ⟨Nat.le_of_ble_eq_true rfl, Nat.le_of_ble_eq_true rfl⟩) (fun r78 u78 H locs hpo78 hP hS => ?_)
                    obtain ⟨hr78, h78_0, hq78⟩ := hpo78
                    have hA79 := (hq78.1 1 List.not_mem_nil).trans hA53
                    have hA80 := (hq78.1 3 List.not_mem_nil).trans hA54
                    have hF81x := (hq78.2.1 2 List.not_mem_nil).trans hF55x
                    have hfr := FR.step hfr hq78 (fun _ h => absurd h List.not_mem_nil) (fun _ h => absurd h List.not_mem_nil) (fun h => h)
                    subst hr78
                    refine lv_lmul hx hb dX12_spell_189 ?_
                    refine W.eq (g2 := F0 m 190 ls [.long (lN ((ch a sq_39 cz_30) * (hM a n11 (nq_30 - 1) (dst a sq_39) (sq_39 + 1)))), .long (lN l2_39)]) (congrArg (fun z : Int64 => F0 m 190 ls (.long z :: [.long (lN l2_39)])) (lN_mul (ch a sq_39 cz_30) (hM a n11 (nq_30 - 1) (dst a sq_39) (sq_39 + 1)))) ?_
                    refine lv_lsub hx hb dX12_spell_190 ?_
                    refine W.eq (g2 := F0 m 191 ls [.long (lN (l2_39 - ((ch a sq_39 cz_30) * (hM a n11 (nq_30 - 1) (dst a sq_39) (sq_39 + 1)))))]) (congrArg (fun z : Int64 => F0 m 191 ls (.long z :: [])) (lN_sub (a := l2_39) (b := (ch a sq_39 cz_30) * (hM a n11 (nq_30 - 1) (dst a sq_39) (sq_39 + 1))) (by omega))) ?_
                    refine lv_lstore (lv' := [(4, .long (lN (l2_39 - ((ch a sq_39 cz_30) * (hM a n11 (nq_30 - 1) (dst a sq_39) (sq_39 + 1)))))), (0, .ref (b 0)), (1, .int (nI n11)), (2, .int (nI nx5)), (3, .int (nI nx9)), (6, .int (nI w_30)), (7, .int cm_30), (8, .int (nI nq_30)), (9, .int (nI sq_39))]) hx hb dX12_spell_191 hl (by decide) rfl (fun ls hl => ?_)
                    refine lv_iinc (v := nI (sq_39 + 1)) (lv' := [(9, .int (nI (sq_39 + 1))), (4, .long (lN (l2_39 - ((ch a sq_39 cz_30) * (hM a n11 (nq_30 - 1) (dst a sq_39) (sq_39 + 1)))))), (0, .ref (b 0)), (1, .int (nI n11)), (2, .int (nI nx5)), (3, .int (nI nx9)), (6, .int (nI w_30)), (7, .int cm_30), (8, .int (nI nq_30))]) hx hb dX12_spell_193 hl (k := 8) rfl (nI_1 sq_39) (by decide) rfl (fun ls hl => ?_)
                    refine lv_goto (tgt := 106) hx hb dX12_spell_196 (by decide) ?_
                    exact ih39 _ u78 _ _ _ (by omega) ⟨hP, hS, hfr, (sq_39 + 1), (l2_39 - ((ch a sq_39 cz_30) * (hM a n11 (nq_30 - 1) (dst a sq_39) (sq_39 + 1)))), rfl, (by assumption), (by first | assumption | omega | rfl | (congr 1; omega)), (by first | (rw [usum_f (by omega)]; exact hL39_2) | (rw [usum_t (by omega)]; omega)), hA79, hA80, hF81x, lv_sub hl [2, 3, 4, 5, 1, 6, 7, 8, 0] rfl⟩
          · have c24 := mt (lc_lt ex22).mpr c24
            have c24 := mt (pk_lLT (a := nx9) (b := hM a n11 nx5 n11 0) (by omega) (by omega)).mpr c24
            refine lv_aload_n hx hb dX12_spell_68 rfl (lv_at hl 0 rfl) ?_
            refine lv_iconst (v := 5) hx hb dX12_spell_69 (by decide) ?_
            refine rc_i hAL hS hA (va_runV (As := [.int 5]) (rest := []) ⟨hx, hb, hml, hown, noTs⟩ (r_X12_refuse l dC dI H.size cs b u19 a hA20 5) ⟨cbE 1 (wd_1498 hE) (wd_126 hE) (wd_1495 hE) rfl rfl (by decide +kernel) ⟨Nat.le_of_ble_eq_true rfl, Nat.le_of_ble_eq_true rfl⟩, (wd_1497 hE), (wd_54 hE)⟩ ⟨PR.blind, r_recv hK hP rfl, (r_pre (av := [.ref (b 0), .int 5]) hK hP hJ hE)⟩ rfl rfl hl.1 rfl (lv_room (Nat.le_of_ble_eq_true rfl)) dX12_spell_70 ⟨Nat.le_of_ble_eq_true rfl, Nat.le_of_ble_eq_true rfl⟩) (fun r82 u82 H locs hpo82 hP hS => ?_)
            obtain ⟨hr82, hq82⟩ := hpo82
            have hA83 := (hq82.1 1 List.not_mem_nil).trans hA20
            have hF84x := (hq82.2.1 2 (by decide)).trans hF21x
            have hfr := FR.step hfr hq82 (fun _ h => absurd h List.not_mem_nil) (by decide) (fun h => rfl)
            subst hr82
            exact W.iret (v := -1) hx hb hr (fun t ht hW => ⟨⟨-1, u82, rfl, ⟨trivial, (by first | (rw [hA83]; done) | (rw [hA83]; first | assumption | omega | rfl | (congr 1; omega))), (by first | (rw [hF84x]; done) | (rw [hF84x]; refine ⟨_, ?_, rfl⟩; omega)), hfr⟩, (show va_P (dC, dI) vwCl (rW cs b u82) t.heap by rw [ht]; exact hP)⟩, hS.F ht⟩) hS.2.2 dX12_spell_73
        · have c15 := (b_eq (nI_toInt (n := wN a) (by omega)) (show Int32.toInt 10 = 10 from rfl)).mp c15
          refine lv_aload_n hx hb dX12_spell_44 rfl (lv_at hl 0 rfl) ?_
          refine lv_iconst (v := 3) hx hb dX12_spell_45 (by decide) ?_
          refine rc_i hAL hS hA (va_runV (As := [.int 3]) (rest := []) ⟨hx, hb, hml, hown, noTs⟩ (r_X12_refuse l dC dI s.heap.size cs b u a hA1 3) ⟨cbE 1 (wd_1498 hE) (wd_126 hE) (wd_1495 hE) rfl rfl (by decide +kernel) ⟨Nat.le_of_ble_eq_true rfl, Nat.le_of_ble_eq_true rfl⟩, (wd_1497 hE), (wd_54 hE)⟩ ⟨PR.blind, r_recv hK hP rfl, (r_pre (av := [.ref (b 0), .int 3]) hK hP hJ hE)⟩ rfl rfl hl.1 rfl (lv_room (Nat.le_of_ble_eq_true rfl)) dX12_spell_46 ⟨Nat.le_of_ble_eq_true rfl, Nat.le_of_ble_eq_true rfl⟩) (fun r85 u85 H locs hpo85 hP hS => ?_)
          obtain ⟨hr85, hq85⟩ := hpo85
          have hA86 := (hq85.1 1 List.not_mem_nil).trans hA1
          have hF87x := (hq85.2.1 2 (by decide)).trans hF2
          have hfr := FR.step hfr hq85 (fun _ h => absurd h List.not_mem_nil) (by decide) (fun h => rfl)
          subst hr85
          exact W.iret (v := -1) hx hb hr (fun t ht hW => ⟨⟨-1, u85, rfl, ⟨trivial, (by first | (rw [hA86]; done) | (rw [hA86]; first | assumption | omega | rfl | (congr 1; omega))), (by first | (rw [hF87x]; done) | (rw [hF87x]; refine ⟨_, ?_, rfl⟩; omega)), hfr⟩, (show va_P (dC, dI) vwCl (rW cs b u85) t.heap by rw [ht]; exact hP)⟩, hS.F ht⟩) hS.2.2 dX12_spell_49
      · refine lv_if_ne (tgt := 34) hx hb dX12_spell_25 (by decide) (fun c88 => absurd c88 (by decide)) (fun c88 => ?_)
        refine lv_aload_n hx hb dX12_spell_28 rfl (lv_at hl 0 rfl) ?_
        refine lv_iconst (v := 2) hx hb dX12_spell_29 (by decide) ?_
        refine rc_i hAL hS hA (va_runV (As := [.int 2]) (rest := []) ⟨hx, hb, hml, hown, noTs⟩ (r_X12_refuse l dC dI s.heap.size cs b u a hA1 2) ⟨cbE 1 (wd_1498 hE) (wd_126 hE) (wd_1495 hE) rfl rfl (by decide +kernel) ⟨Nat.le_of_ble_eq_true rfl, Nat.le_of_ble_eq_true rfl⟩, (wd_1497 hE), (wd_54 hE)⟩ ⟨PR.blind, r_recv hK hP rfl, (r_pre (av := [.ref (b 0), .int 2]) hK hP hJ hE)⟩ rfl rfl hl.1 rfl (lv_room (Nat.le_of_ble_eq_true rfl)) dX12_spell_30 ⟨Nat.le_of_ble_eq_true rfl, Nat.le_of_ble_eq_true rfl⟩) (fun r89 u89 H locs hpo89 hP hS => ?_)
        obtain ⟨hr89, hq89⟩ := hpo89
        have hA90 := (hq89.1 1 List.not_mem_nil).trans hA1
        have hF91x := (hq89.2.1 2 (by decide)).trans hF2
        have hfr := FR.step hfr hq89 (fun _ h => absurd h List.not_mem_nil) (by decide) (fun h => rfl)
        subst hr89
        exact W.iret (v := -1) hx hb hr (fun t ht hW => ⟨⟨-1, u89, rfl, ⟨trivial, (by first | (rw [hA90]; done) | (rw [hA90]; first | assumption | omega | rfl | (congr 1; omega))), (by first | (rw [hF91x]; done) | (rw [hF91x]; refine ⟨_, ?_, rfl⟩; omega)), hfr⟩, (show va_P (dC, dI) vwCl (rW cs b u89) t.heap by rw [ht]; exact hP)⟩, hS.F ht⟩) hS.2.2 dX12_spell_33
    · have c8 := mt (b_le (show Int32.toInt 0 = 0 from rfl) (rfl : Int32.toInt z = _)).mpr c8
      refine lv_aload_n hx hb dX12_spell_14 rfl (lv_at hl 0 rfl) ?_
      refine lv_iconst (v := 1) hx hb dX12_spell_15 (by decide) ?_
      refine rc_i hAL hS hA (va_runV (As := [.int 1]) (rest := []) ⟨hx, hb, hml, hown, noTs⟩ (r_X12_refuse l dC dI s.heap.size cs b u a hA1 1) ⟨cbE 1 (wd_1498 hE) (wd_126 hE) (wd_1495 hE) rfl rfl (by decide +kernel) ⟨Nat.le_of_ble_eq_true rfl, Nat.le_of_ble_eq_true rfl⟩, (wd_1497 hE), (wd_54 hE)⟩ ⟨PR.blind, r_recv hK hP rfl, (r_pre (av := [.ref (b 0), .int 1]) hK hP hJ hE)⟩ rfl rfl hl.1 rfl (lv_room (Nat.le_of_ble_eq_true rfl)) dX12_spell_16 ⟨Nat.le_of_ble_eq_true rfl, Nat.le_of_ble_eq_true rfl⟩) (fun r92 u92 H locs hpo92 hP hS => ?_)
      obtain ⟨hr92, hq92⟩ := hpo92
      have hA93 := (hq92.1 1 List.not_mem_nil).trans hA1
      have hF94x := (hq92.2.1 2 (by decide)).trans hF2
      have hfr := FR.step hfr hq92 (fun _ h => absurd h List.not_mem_nil) (by decide) (fun h => rfl)
      subst hr92
      exact W.iret (v := -1) hx hb hr (fun t ht hW => ⟨⟨-1, u92, rfl, ⟨trivial, (by first | (rw [hA93]; done) | (rw [hA93]; first | assumption | omega | rfl | (congr 1; omega))), (by first | (rw [hF94x]; done) | (rw [hF94x]; refine ⟨_, ?_, rfl⟩; omega)), hfr⟩, (show va_P (dC, dI) vwCl (rW cs b u92) t.heap by rw [ht]; exact hP)⟩, hS.F ht⟩) hS.2.2 dX12_spell_19
  · refine lv_if_eq (tgt := 14) hx hb dX12_spell_7 (by decide) (fun c95 => ?_) (fun c95 => absurd c95 (by decide))
    refine lv_aload_n hx hb dX12_spell_14 rfl (lv_at hl 0 rfl) ?_
    refine lv_iconst (v := 1) hx hb dX12_spell_15 (by decide) ?_
    refine rc_i hAL hS hA (va_runV (As := [.int 1]) (rest := []) ⟨hx, hb, hml, hown, noTs⟩ (r_X12_refuse l dC dI s.heap.size cs b u a hA1 1) ⟨cbE 1 (wd_1498 hE) (wd_126 hE) (wd_1495 hE) rfl rfl (by decide +kernel) ⟨Nat.le_of_ble_eq_true rfl, Nat.le_of_ble_eq_true rfl⟩, (wd_1497 hE), (wd_54 hE)⟩ ⟨PR.blind, r_recv hK hP rfl, (r_pre (av := [.ref (b 0), .int 1]) hK hP hJ hE)⟩ rfl rfl hl.1 rfl (lv_room (Nat.le_of_ble_eq_true rfl)) dX12_spell_16 ⟨Nat.le_of_ble_eq_true rfl, Nat.le_of_ble_eq_true rfl⟩) (fun r96 u96 H locs hpo96 hP hS => ?_)
    obtain ⟨hr96, hq96⟩ := hpo96
    have hA97 := (hq96.1 1 List.not_mem_nil).trans hA1
    have hF98x := (hq96.2.1 2 (by decide)).trans hF2
    have hfr := FR.step hfr hq96 (fun _ h => absurd h List.not_mem_nil) (by decide) (fun h => rfl)
    subst hr96
    exact W.iret (v := -1) hx hb hr (fun t ht hW => ⟨⟨-1, u96, rfl, ⟨trivial, (by first | (rw [hA97]; done) | (rw [hA97]; first | assumption | omega | rfl | (congr 1; omega))), (by first | (rw [hF98x]; done) | (rw [hF98x]; refine ⟨_, ?_, rfl⟩; omega)), hfr⟩, (show va_P (dC, dI) vwCl (rW cs b u96) t.heap by rw [ht]; exact hP)⟩, hS.F ht⟩) hS.2.2 dX12_spell_19
