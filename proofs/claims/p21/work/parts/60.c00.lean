theorem len18 : ∀ i, i < 4 → lenS.getD i 0 ≤ 18 := by decide
def PTX (av : List Value) (sz : Nat) (dC : Nat → ClassId) (dI : Nat → Nat → Nat) (G : GT) (cs : Nat → ClassId) (tt mm : Nat) (adK adV : Nat → Nat) (X : (Nat → va_E) → Prop) : Array Value → State → Prop :=
  va_Pc av (fun U => U.heap.size = sz ∧ (∃ f, OKT G cs tt mm f ∧ va_P (dC, dI) vwCl (va_pl (gL G) f) U.heap ∧ X f) ∧ va_K (dC, dI) vwCl (TYS cs) U ∧ (gL G).Nodup ∧ WT G ∧ EX U ∧ SX adK adV (AT G sz) U U.heap ∧ vk_R "GluedWords$Tokens" 68 "vertex" (adK 0) U ∧ vk_R "GluedWords$Tokens" 74 "edge" (adK 1) U ∧ vk_R "GluedWords$Tokens" 76 "word" (adK 2) U)
theorem PTX.blind {av : List Value} {sz : Nat} {dC : Nat → ClassId} {dI : Nat → Nat → Nat} {G : GT} {cs : Nat → ClassId} {tt mm : Nat} {adK adV : Nat → Nat} {X : (Nat → va_E) → Prop} : FrameBlind (PTX av sz dC dI G cs tt mm adK adV X) := fun a U g mk q => by
  obtain ⟨q0, q1, qP, qK, qD, qW, qE, qX, z0, z1, z2⟩ := q
  exact ⟨q0, q1, qP, va_K.moved (u := U) (U := U.calling g mk a) (Vm.Alike.refl U.vm) qK, qD, qW, qE.blind, SX.moved (u := U) (U := U.calling g mk a) (Vm.Alike.refl U.vm) qX, vk_R.same (u := U) (U := U.calling g mk a) rfl z0, vk_R.same (u := U) (U := U.calling g mk a) rfl z1, vk_R.same (u := U) (U := U.calling g mk a) rfl z2⟩
theorem tx_pre {dC : Nat → ClassId} {dI : Nat → Nat → Nat} {G : GT} {cs : Nat → ClassId} {tt mm : Nat} {adK adV : Nat → Nat} {f : Nat → va_E} {s : State} {H : Heap} {locs : List Loc} {av : List Value} {X : (Nat → va_E) → Prop} (hX : X f) (hK : va_K (dC, dI) vwCl (TYS cs) s) (hP : va_P (dC, dI) vwCl (va_pl (gL G) f) H) (hok : OKT G cs tt mm f) (hnd : (gL G).Nodup) (hW : WT G) (hE : EX s) (hXS : SX adK adV (AT G s.heap.size) s s.heap) (z0 : vk_R "GluedWords$Tokens" 68 "vertex" (adK 0) s) (z1 : vk_R "GluedWords$Tokens" 74 "edge" (adK 1) s) (z2 : vk_R "GluedWords$Tokens" 76 "word" (adK 2) s) (hS : va_S (AT G s.heap.size) s.heap H locs) : ∀ U : State, U.heap = H → s.WarmedH U.vm → PTX av H.size dC dI G cs tt mm adK adV X av.toArray U := fun U hU hw =>
  ⟨rfl, by rw [hU], ⟨f, hok, by rw [hU]; exact hP, hX⟩, va_K.moved hw.alike hK, hnd, hW, hE.warm hw, by rw [hU]; exact ((hXS.kept hS.2.1).narrow (fun q h => h.elim Or.inl (fun h => Or.inr (Nat.le_trans hS.1 h)))).moved hw.alike, z0.warm hw, z1.warm hw, z2.warm hw⟩

set_option maxHeartbeats 4000000 in
set_option maxRecDepth 100000 in
theorem t_X9_isText (l : Launch) (dC : Nat → ClassId) (dI : Nat → Nat → Nat) (sz : Nat) (G : GT) (cs : Nat → ClassId) (tt mm : Nat) (adK adV : Nat → Nat) (a0 : Nat) (ha0 : Ty G a0 9) (v1 : Int32) (v2 : Int32) (a3 : Nat) (ha3 : a3 < 3) : Met l yX9_isText [.code yX9_isText cX9_isText 5 (some .boolean)] ({ frames := 4, cells := 0, slots := 0, locals := 160 }) (PTX [.ref a0, .int v1, .int v2, .ref (adK a3)] sz dC dI G cs tt mm adK adV (fun _ => True)) (vp_Si (fun (r : Int32) => r = 0 ∨ r = 1)) 0 0 (fun _ => False) := by
  refine Met.ofW (cc := cX9_isText) (maxL := 5) (ret := (some .boolean)) (by decide) rfl ?_
  intro p e s m args below meth c s₁ B hml hv
  obtain ⟨rfl, hsz, ⟨f0, hok, hP, hX⟩, hK, hnd, hWT, hE, hXS, hZ0, hZ1, hZ2⟩ := hv
  have hx := B.exec
  have hb := B.bytes
  have hr := B.returns
  have hown : s.vm.findClass RX9 = some m.cls := findClass_of_methodNamed B.named
  have hlocks := B.notSynchronized
  subst hsz
  have hl := lv_entry ([.ref a0, .int v1, .int v2, .ref (adK a3)]) (n := 5) (Nat.le_of_ble_eq_true rfl)
  rw [lg_entry_eq]
  generalize (lg_sl ([.ref a0, .int v1, .int v2, .ref (adK a3)]) ++ List.replicate (5 - (lg_sl ([.ref a0, .int v1, .int v2, .ref (adK a3)])).length) Slot.unset).toArray = ls at hl ⊢
  have hl : lv_has ls 5 [(0, .ref a0), (1, .int v1), (2, .int v2), (3, .ref (adK a3))] := hl
  have hS : va_S (AT G s.heap.size) s.heap s.heap [] := va_S.rf
  refine lv_iload_n hx hb dX9_isText_0 rfl (lv_at hl 2 rfl) ?_
  refine lv_iload_n hx hb dX9_isText_1 rfl (lv_at hl 1 rfl) ?_
  refine lv_isub hx hb dX9_isText_2 ?_
  refine lv_topi (fun x1 ex1 => ?_)
  refine lv_aload_n hx hb dX9_isText_3 rfl (lv_at hl 3 rfl) ?_
  refine vp_callSi (va_Run.run (va_runV (As := []) (rest := [.int x1]) ⟨hx, hb, hml, hown, noTs⟩ (s_J0_length l adK adV a3 (show a3 < 4 by omega)) ⟨cbE 0 (wd_488 hE) (wd_129 hE) (wd_485 hE) rfl rfl (by decide +kernel) ⟨Nat.le_of_ble_eq_true rfl, Nat.le_of_ble_eq_true rfl⟩, (wd_486 hE), (wd_487 hE)⟩ ⟨PS.blind, vk_recv hXS.1 (show a3 < 4 by omega) hS, ps_pre (av := [.ref (adK a3)]) hXS hS hE⟩ rfl rfl hl.1 rfl (lv_room (Nat.le_of_ble_eq_true rfl)) dX9_isText_4 ⟨Nat.le_of_ble_eq_true rfl, Nat.le_of_ble_eq_true rfl⟩)) (fun r2 hr2 => ?_)
  subst hr2
  have hln2 := len18 a3 (show a3 < 4 by omega)
  refine W.eq (g2 := F0 m 7 ls [.int (nI (lenS.getD a3 0)), .int x1]) rfl ?_
  have nt3 : (nI (lenS.getD a3 0)).toInt = ((lenS.getD a3 0 : Nat) : Int) := nI_toInt (by omega)
  refine lv_icmp_eq (tgt := 12) hx hb dX9_isText_7 (by decide) (fun c4 => ?_) (fun c4 => ?_)
  · refine lv_iconst (v := 0) hx hb dX9_isText_12 (by decide) ?_
    refine lv_istore (lv' := [(4, .int 0), (0, .ref a0), (1, .int v1), (2, .int v2), (3, .ref (adK a3))]) hx hb dX9_isText_13 hl (by decide) rfl (fun ls hl => ?_)
    refine w_indP (I := fun n ls => ∃ (w4_5 : Int32), n = (2147483647 - w4_5.toInt).toNat ∧ 0 ≤ w4_5 ∧ lv_has ls 5 [(0, .ref a0), (1, .int v1), (2, .int v2), (3, .ref (adK a3)), (4, .int w4_5)]) (fun n ls hI ih5 => ?_) _ _ ⟨0, rfl, (by first | omega | (simp only [i_lt, i_le, i_eq, ti_m9, ti_m1, ti_0, ti_1, ti_2, ti_3, ti_4, ti_5, ti_6, ti_7, ti_9, ti_12, ti_20, ti_99, ti_700, ti_24, ti_156, ti_72, ti_8, ti_60, ti_543, ti_10, ti_33, ti_51, ti_178, ti_119, ti_111, ti_114, ti_100, ti_32, ti_62, ti_59, ti_48, ti_701, ti_97, ti_122, ti_57, ti_73, ti_128, ti_61, nt3] at c4 ⊢; omega)), lv_sub hl [1, 2, 3, 4, 0] rfl⟩
    obtain ⟨w4_5, hmu5, hlo5, hl⟩ := hI
    subst hmu5
    refine lv_iload hx hb dX9_isText_15 (lv_at hl 4 rfl) ?_
    refine lv_aload_n hx hb dX9_isText_17 rfl (lv_at hl 3 rfl) ?_
    refine vp_callSi (va_Run.run (va_runV (As := []) (rest := [.int w4_5]) ⟨hx, hb, hml, hown, noTs⟩ (s_J0_length l adK adV a3 (show a3 < 4 by omega)) ⟨cbE 0 (wd_488 hE) (wd_129 hE) (wd_485 hE) rfl rfl (by decide +kernel) ⟨Nat.le_of_ble_eq_true rfl, Nat.le_of_ble_eq_true rfl⟩, (wd_486 hE), (wd_487 hE)⟩ ⟨PS.blind, vk_recv hXS.1 (show a3 < 4 by omega) hS, ps_pre (av := [.ref (adK a3)]) hXS hS hE⟩ rfl rfl hl.1 rfl (lv_room (Nat.le_of_ble_eq_true rfl)) dX9_isText_18 ⟨Nat.le_of_ble_eq_true rfl, Nat.le_of_ble_eq_true rfl⟩)) (fun r6 hr6 => ?_)
    subst hr6
    have hln6 := len18 a3 (show a3 < 4 by omega)
    refine W.eq (g2 := F0 m 21 ls [.int (nI (lenS.getD a3 0)), .int w4_5]) rfl ?_
    refine lv_icmp_ge (tgt := 49) hx hb dX9_isText_21 (by decide) (fun c7 => ?_) (fun c7 => ?_)
    · refine lv_iconst (v := 1) hx hb dX9_isText_49 (by decide) ?_
      exact W.zret (v := 1) hx hb hr rfl (fun t ht hW => ⟨1, rfl, Or.inr rfl, ht⟩) (fun _ h => absurd h List.not_mem_nil) dX9_isText_50
    · refine lv_aload_n hx hb dX9_isText_24 rfl (lv_at hl 0 rfl) ?_
      refine lv_iload_n hx hb dX9_isText_25 rfl (lv_at hl 1 rfl) ?_
      refine lv_iload hx hb dX9_isText_26 (lv_at hl 4 rfl) ?_
      refine lv_iadd hx hb dX9_isText_28 ?_
      refine lv_topi (fun x8 ex8 => ?_)
      obtain ⟨y3_9, y4_9, y5_9, hy4_9, he9⟩ := ok_X9 hok ha0
      refine vp_callSi (va_Run.run (va_runV (As := [.int x8]) (rest := []) ⟨hx, hb, hml, hown, noTs⟩ (t_X9_byteAt l dC dI s.heap.size G cs tt mm a0 ha0 x8) ⟨cbE 1 (wd_458 hE) (wd_119 hE) (wd_455 hE) rfl rfl (by decide +kernel) ⟨Nat.le_of_ble_eq_true rfl, Nat.le_of_ble_eq_true rfl⟩, (wd_457 hE), (wd_2 hE)⟩ ⟨PT.blind, th_recv hK hP ha0.1 he9 rfl, (th_pre (av := [.ref a0, .int x8]) trivial hK hP hok hnd hWT hE)⟩ rfl rfl hl.1 rfl (lv_room (Nat.le_of_ble_eq_true rfl)) dX9_isText_29 ⟨Nat.le_of_ble_eq_true rfl, Nat.le_of_ble_eq_true rfl⟩)) (fun r10 hr10 => ?_)
      refine lv_aload_n hx hb dX9_isText_32 rfl (lv_at hl 3 rfl) ?_
      refine lv_iload hx hb dX9_isText_33 (lv_at hl 4 rfl) ?_
      obtain ⟨j12, hj12, rfl⟩ : ∃ j : Nat, j ≤ 17 ∧ w4_5 = nI j := i_nat (by first | omega | (simp only [i_lt, i_le, i_eq, ti_m9, ti_m1, ti_0, ti_1, ti_2, ti_3, ti_4, ti_5, ti_6, ti_7, ti_9, ti_12, ti_20, ti_99, ti_700, ti_24, ti_156, ti_72, ti_8, ti_60, ti_543, ti_10, ti_33, ti_51, ti_178, ti_119, ti_111, ti_114, ti_100, ti_32, ti_62, ti_59, ti_48, ti_701, ti_97, ti_122, ti_57, ti_73, ti_128, ti_61, nt3] at c4 hlo5 c7 ⊢; omega)) (by first | omega | (simp only [i_lt, i_le, i_eq, ti_m9, ti_m1, ti_0, ti_1, ti_2, ti_3, ti_4, ti_5, ti_6, ti_7, ti_9, ti_12, ti_20, ti_99, ti_700, ti_24, ti_156, ti_72, ti_8, ti_60, ti_543, ti_10, ti_33, ti_51, ti_178, ti_119, ti_111, ti_114, ti_100, ti_32, ti_62, ti_59, ti_48, ti_701, ti_97, ti_122, ti_57, ti_73, ti_128, ti_61, nt3] at c4 hlo5 c7 ⊢; omega))
      have nt13 : (nI j12).toInt = ((j12 : Nat) : Int) := nI_toInt (by omega)
      refine vp_callSi (va_Run.run (va_runV (As := [.int (nI j12)]) (rest := [.int r10]) ⟨hx, hb, hml, hown, noTs⟩ (s_J0_charAt l adK adV a3 j12 (show a3 < 4 by omega) (by first | omega | (simp only [i_lt, i_le, i_eq, ti_m9, ti_m1, ti_0, ti_1, ti_2, ti_3, ti_4, ti_5, ti_6, ti_7, ti_9, ti_12, ti_20, ti_99, ti_700, ti_24, ti_156, ti_72, ti_8, ti_60, ti_543, ti_10, ti_33, ti_51, ti_178, ti_119, ti_111, ti_114, ti_100, ti_32, ti_62, ti_59, ti_48, ti_701, ti_97, ti_122, ti_57, ti_73, ti_128, ti_61, nt3, nt13] at c4 hlo5 c7 ⊢; omega))) ⟨cbE 1 (wd_498 hE) (wd_129 hE) (wd_495 hE) rfl rfl (by decide +kernel) ⟨Nat.le_of_ble_eq_true rfl, Nat.le_of_ble_eq_true rfl⟩, (wd_496 hE), (wd_497 hE)⟩ ⟨PS.blind, vk_recv hXS.1 (show a3 < 4 by omega) hS, ps_pre (av := [.ref (adK a3), .int (nI j12)]) hXS hS hE⟩ rfl rfl hl.1 rfl (lv_room (Nat.le_of_ble_eq_true rfl)) dX9_isText_35 ⟨Nat.le_of_ble_eq_true rfl, Nat.le_of_ble_eq_true rfl⟩)) (fun r11 hr11 => ?_)
      refine lv_icmp_eq (tgt := 43) hx hb dX9_isText_38 (by decide) (fun c14 => ?_) (fun c14 => ?_)
      · obtain ⟨z15, ez15⟩ : ∃ z : Int32, z = (nI j12) + 1 := ⟨_, rfl⟩
        refine lv_iinc (v := z15) (lv' := [(4, .int z15), (0, .ref a0), (1, .int v1), (2, .int v2), (3, .ref (adK a3))]) hx hb dX9_isText_43 hl (k := 4) rfl (by rw [ez15]; rfl) (by decide) rfl (fun ls hl => ?_)
        have ic15 : z15.toInt = (nI j12).toInt + 1 := by rw [ez15]; exact ic_up (by have := i_rng x1; have := i_rng (nI (lenS.getD a3 0)); have := i_rng (nI j12); have := i_rng r10; have := i_rng r11; simp only [i_lt, i_le, i_eq, ti_m9, ti_m1, ti_0, ti_1, ti_2, ti_3, ti_4, ti_5, ti_6, ti_7, ti_9, ti_12, ti_20, ti_99, ti_700, ti_24, ti_156, ti_72, ti_8, ti_60, ti_543, ti_10, ti_33, ti_51, ti_178, ti_119, ti_111, ti_114, ti_100, ti_32, ti_62, ti_59, ti_48, ti_701, ti_97, ti_122, ti_57, ti_73, ti_128, ti_61, nt3, nt13] at c4 hlo5 c7 c14 ⊢; omega)
        refine lv_goto (tgt := 15) hx hb dX9_isText_46 (by decide) ?_
        exact ih5 _ _ (by have := i_rng z15; first | omega | (simp only [i_lt, i_le, i_eq, ti_m9, ti_m1, ti_0, ti_1, ti_2, ti_3, ti_4, ti_5, ti_6, ti_7, ti_9, ti_12, ti_20, ti_99, ti_700, ti_24, ti_156, ti_72, ti_8, ti_60, ti_543, ti_10, ti_33, ti_51, ti_178, ti_119, ti_111, ti_114, ti_100, ti_32, ti_62, ti_59, ti_48, ti_701, ti_97, ti_122, ti_57, ti_73, ti_128, ti_61, nt3, nt13, ic15] at c4 hlo5 c7 c14 ic15 ⊢; omega)) ⟨z15, rfl, (by first | omega | (simp only [i_lt, i_le, i_eq, ti_m9, ti_m1, ti_0, ti_1, ti_2, ti_3, ti_4, ti_5, ti_6, ti_7, ti_9, ti_12, ti_20, ti_99, ti_700, ti_24, ti_156, ti_72, ti_8, ti_60, ti_543, ti_10, ti_33, ti_51, ti_178, ti_119, ti_111, ti_114, ti_100, ti_32, ti_62, ti_59, ti_48, ti_701, ti_97, ti_122, ti_57, ti_73, ti_128, ti_61, nt3, nt13, ic15] at c4 hlo5 c7 c14 ⊢; omega)), lv_sub hl [1, 2, 3, 4, 0] rfl⟩
      · refine lv_iconst (v := 0) hx hb dX9_isText_41 (by decide) ?_
        exact W.zret (v := 0) hx hb hr rfl (fun t ht hW => ⟨0, rfl, Or.inl rfl, ht⟩) (fun _ h => absurd h List.not_mem_nil) dX9_isText_42
  · refine lv_iconst (v := 0) hx hb dX9_isText_10 (by decide) ?_
    exact W.zret (v := 0) hx hb hr rfl (fun t ht hW => ⟨0, rfl, Or.inl rfl, ht⟩) (fun _ h => absurd h List.not_mem_nil) dX9_isText_11

set_option maxHeartbeats 4000000 in
set_option maxRecDepth 100000 in
theorem t_X9_kindOf (l : Launch) (dC : Nat → ClassId) (dI : Nat → Nat → Nat) (sz : Nat) (G : GT) (cs : Nat → ClassId) (tt mm : Nat) (adK adV : Nat → Nat) (a0 : Nat) (ha0 : Ty G a0 9) (v1 : Int32) (v2 : Int32) : Met l yX9_kindOf [.code yX9_kindOf cX9_kindOf 4 (some .int)] ({ frames := 5, cells := 0, slots := 0, locals := 200 }) (PTX [.ref a0, .int v1, .int v2] sz dC dI G cs tt mm adK adV (fun _ => True)) (vp_Si (fun (r : Int32) => True)) 0 0 (fun _ => False) := by
  refine Met.ofW (cc := cX9_kindOf) (maxL := 4) (ret := (some .int)) (by decide) rfl ?_
  intro p e s m args below meth c s₁ B hml hv
  obtain ⟨rfl, hsz, ⟨f0, hok, hP, hX⟩, hK, hnd, hWT, hE, hXS, hZ0, hZ1, hZ2⟩ := hv
  have hx := B.exec
  have hb := B.bytes
  have hr := B.returns
  have hown : s.vm.findClass RX9 = some m.cls := findClass_of_methodNamed B.named
  have hlocks := B.notSynchronized
  subst hsz
  have hl := lv_entry ([.ref a0, .int v1, .int v2]) (n := 4) (Nat.le_of_ble_eq_true rfl)
  rw [lg_entry_eq]
  generalize (lg_sl ([.ref a0, .int v1, .int v2]) ++ List.replicate (4 - (lg_sl ([.ref a0, .int v1, .int v2])).length) Slot.unset).toArray = ls at hl ⊢
  have hl : lv_has ls 4 [(0, .ref a0), (1, .int v1), (2, .int v2)] := hl
  have hS : va_S (AT G s.heap.size) s.heap s.heap [] := va_S.rf
  refine lv_aload_n hx hb dX9_kindOf_0 rfl (lv_at hl 0 rfl) ?_
  refine lv_iload_n hx hb dX9_kindOf_1 rfl (lv_at hl 1 rfl) ?_
  obtain ⟨y3_1, y4_1, y5_1, hy4_1, he1⟩ := ok_X9 hok ha0
  refine vp_callSi (va_Run.run (va_runV (As := [.int v1]) (rest := []) ⟨hx, hb, hml, hown, noTs⟩ (t_X9_byteAt l dC dI s.heap.size G cs tt mm a0 ha0 v1) ⟨cbE 1 (wd_458 hE) (wd_119 hE) (wd_455 hE) rfl rfl (by decide +kernel) ⟨Nat.le_of_ble_eq_true rfl, Nat.le_of_ble_eq_true rfl⟩, (wd_457 hE), (wd_2 hE)⟩ ⟨PT.blind, th_recv hK hP ha0.1 he1 rfl, (th_pre (av := [.ref a0, .int v1]) trivial hK hP hok hnd hWT hE)⟩ rfl rfl hl.1 rfl (lv_room (Nat.le_of_ble_eq_true rfl)) dX9_kindOf_2 ⟨Nat.le_of_ble_eq_true rfl, Nat.le_of_ble_eq_true rfl⟩)) (fun r2 hr2 => ?_)
  refine lv_istore_n (lv' := [(3, .int r2), (0, .ref a0), (1, .int v1), (2, .int v2)]) hx hb dX9_kindOf_5 rfl hl (by decide) rfl (fun ls hl => ?_)
  refine lv_iload_n hx hb dX9_kindOf_6 rfl (lv_at hl 0 rfl) ?_
  refine vp_callSi (va_Run.run (va_runS (As := [.int r2]) (rest := []) ⟨hx, hb, hml, hown, noTs⟩ (t_X9_isDigit l dC dI s.heap.size G cs tt mm r2) ⟨cbE 1 (wd_468 hE) (wd_119 hE) (wd_466 hE) rfl rfl (by decide +kernel) ⟨Nat.le_of_ble_eq_true rfl, Nat.le_of_ble_eq_true rfl⟩, (wd_467 hE)⟩ ⟨PT.blind, (th_pre (av := [.int r2]) trivial hK hP hok hnd hWT hE)⟩ rfl rfl hl.1 rfl (lv_room (Nat.le_of_ble_eq_true rfl)) dX9_kindOf_7 ⟨Nat.le_of_ble_eq_true rfl, Nat.le_of_ble_eq_true rfl⟩)) (fun r3 hr3 => ?_)
  refine lv_if_eq (tgt := 27) hx hb dX9_kindOf_10 (by decide) (fun c4 => ?_) (fun c4 => ?_)
  · refine lv_iload_n hx hb dX9_kindOf_27 rfl (lv_at hl 0 rfl) ?_
    refine vp_callSi (va_Run.run (va_runS (As := [.int r2]) (rest := []) ⟨hx, hb, hml, hown, noTs⟩ (t_X9_isLetter l dC dI s.heap.size G cs tt mm r2) ⟨cbE 1 (wd_465 hE) (wd_119 hE) (wd_463 hE) rfl rfl (by decide +kernel) ⟨Nat.le_of_ble_eq_true rfl, Nat.le_of_ble_eq_true rfl⟩, (wd_464 hE)⟩ ⟨PT.blind, (th_pre (av := [.int r2]) trivial hK hP hok hnd hWT hE)⟩ rfl rfl hl.1 rfl (lv_room (Nat.le_of_ble_eq_true rfl)) dX9_kindOf_28 ⟨Nat.le_of_ble_eq_true rfl, Nat.le_of_ble_eq_true rfl⟩)) (fun r5 hr5 => ?_)
    refine lv_if_ne (tgt := 39) hx hb dX9_kindOf_31 (by decide) (fun c6 => ?_) (fun c6 => ?_)
    · refine lv_aload_n hx hb dX9_kindOf_39 rfl (lv_at hl 1 rfl) ?_
      refine lv_iload_n hx hb dX9_kindOf_40 rfl (lv_at hl 2 rfl) ?_
      refine lv_iload_n hx hb dX9_kindOf_41 rfl (lv_at hl 3 rfl) ?_
      refine va_ldcS hx hb hown hZ0 dX9_kindOf_42 ?_
      refine vp_callSi (va_Run.run (va_runV (As := [.int v1, .int v2, .ref (adK 0)]) (rest := []) ⟨hx, hb, hml, hown, noTs⟩ (t_X9_isText l dC dI s.heap.size G cs tt mm adK adV a0 ha0 v1 v2 0 (by first | decide | assumption)) ⟨cbE 3 (wd_484 hE) (wd_119 hE) (wd_481 hE) rfl rfl (by decide +kernel) ⟨Nat.le_of_ble_eq_true rfl, Nat.le_of_ble_eq_true rfl⟩, (wd_483 hE), (wd_6 hE)⟩ ⟨PTX.blind, th_recv hK hP ha0.1 he1 rfl, (tx_pre (av := [.ref a0, .int v1, .int v2, .ref (adK 0)]) trivial hK hP hok hnd hWT hE hXS hZ0 hZ1 hZ2 hS)⟩ rfl rfl hl.1 rfl (lv_room (Nat.le_of_ble_eq_true rfl)) dX9_kindOf_44 ⟨Nat.le_of_ble_eq_true rfl, Nat.le_of_ble_eq_true rfl⟩)) (fun r7 hr7 => ?_)
      refine lv_if_eq (tgt := 52) hx hb dX9_kindOf_47 (by decide) (fun c8 => ?_) (fun c8 => ?_)
      · refine lv_aload_n hx hb dX9_kindOf_52 rfl (lv_at hl 1 rfl) ?_
        refine lv_iload_n hx hb dX9_kindOf_53 rfl (lv_at hl 2 rfl) ?_
        refine lv_iload_n hx hb dX9_kindOf_54 rfl (lv_at hl 3 rfl) ?_
        refine va_ldcS hx hb hown hZ1 dX9_kindOf_55 ?_
        refine vp_callSi (va_Run.run (va_runV (As := [.int v1, .int v2, .ref (adK 1)]) (rest := []) ⟨hx, hb, hml, hown, noTs⟩ (t_X9_isText l dC dI s.heap.size G cs tt mm adK adV a0 ha0 v1 v2 1 (by first | decide | assumption)) ⟨cbE 3 (wd_484 hE) (wd_119 hE) (wd_481 hE) rfl rfl (by decide +kernel) ⟨Nat.le_of_ble_eq_true rfl, Nat.le_of_ble_eq_true rfl⟩, (wd_483 hE), (wd_6 hE)⟩ ⟨PTX.blind, th_recv hK hP ha0.1 he1 rfl, (tx_pre (av := [.ref a0, .int v1, .int v2, .ref (adK 1)]) trivial hK hP hok hnd hWT hE hXS hZ0 hZ1 hZ2 hS)⟩ rfl rfl hl.1 rfl (lv_room (Nat.le_of_ble_eq_true rfl)) dX9_kindOf_57 ⟨Nat.le_of_ble_eq_true rfl, Nat.le_of_ble_eq_true rfl⟩)) (fun r9 hr9 => ?_)
        refine lv_if_eq (tgt := 65) hx hb dX9_kindOf_60 (by decide) (fun c10 => ?_) (fun c10 => ?_)
        · refine lv_aload_n hx hb dX9_kindOf_65 rfl (lv_at hl 1 rfl) ?_
          refine lv_iload_n hx hb dX9_kindOf_66 rfl (lv_at hl 2 rfl) ?_
          refine lv_iload_n hx hb dX9_kindOf_67 rfl (lv_at hl 3 rfl) ?_
          refine va_ldcS hx hb hown hZ2 dX9_kindOf_68 ?_
          refine vp_callSi (va_Run.run (va_runV (As := [.int v1, .int v2, .ref (adK 2)]) (rest := []) ⟨hx, hb, hml, hown, noTs⟩ (t_X9_isText l dC dI s.heap.size G cs tt mm adK adV a0 ha0 v1 v2 2 (by first | decide | assumption)) ⟨cbE 3 (wd_484 hE) (wd_119 hE) (wd_481 hE) rfl rfl (by decide +kernel) ⟨Nat.le_of_ble_eq_true rfl, Nat.le_of_ble_eq_true rfl⟩, (wd_483 hE), (wd_6 hE)⟩ ⟨PTX.blind, th_recv hK hP ha0.1 he1 rfl, (tx_pre (av := [.ref a0, .int v1, .int v2, .ref (adK 2)]) trivial hK hP hok hnd hWT hE hXS hZ0 hZ1 hZ2 hS)⟩ rfl rfl hl.1 rfl (lv_room (Nat.le_of_ble_eq_true rfl)) dX9_kindOf_70 ⟨Nat.le_of_ble_eq_true rfl, Nat.le_of_ble_eq_true rfl⟩)) (fun r11 hr11 => ?_)
          refine lv_if_eq (tgt := 80) hx hb dX9_kindOf_73 (by decide) (fun c12 => ?_) (fun c12 => ?_)
          · refine lv_iconst (v := 2) hx hb dX9_kindOf_80 (by decide) ?_
            exact W.iret (v := 2) hx hb hr (fun t ht hW => ⟨2, rfl, trivial, ht⟩) (fun _ h => absurd h List.not_mem_nil) dX9_kindOf_81
          · refine lv_iconst (v := 5) hx hb dX9_kindOf_76 (by decide) ?_
            refine lv_goto (tgt := 81) hx hb dX9_kindOf_77 (by decide) ?_
            exact W.iret (v := 5) hx hb hr (fun t ht hW => ⟨5, rfl, trivial, ht⟩) (fun _ h => absurd h List.not_mem_nil) dX9_kindOf_81
        · refine lv_iconst (v := 4) hx hb dX9_kindOf_63 (by decide) ?_
          exact W.iret (v := 4) hx hb hr (fun t ht hW => ⟨4, rfl, trivial, ht⟩) (fun _ h => absurd h List.not_mem_nil) dX9_kindOf_64
      · refine lv_iconst (v := 3) hx hb dX9_kindOf_50 (by decide) ?_
        exact W.iret (v := 3) hx hb hr (fun t ht hW => ⟨3, rfl, trivial, ht⟩) (fun _ h => absurd h List.not_mem_nil) dX9_kindOf_51
    · refine lv_iload_n hx hb dX9_kindOf_34 rfl (lv_at hl 0 rfl) ?_
      refine vp_callSi (va_Run.run (va_runS (As := [.int r2]) (rest := []) ⟨hx, hb, hml, hown, noTs⟩ (t_X9_signOf l dC dI s.heap.size G cs tt mm r2) ⟨cbE 1 (wd_479 hE) (wd_119 hE) (wd_477 hE) rfl rfl (by decide +kernel) ⟨Nat.le_of_ble_eq_true rfl, Nat.le_of_ble_eq_true rfl⟩, (wd_478 hE)⟩ ⟨PT.blind, (th_pre (av := [.int r2]) trivial hK hP hok hnd hWT hE)⟩ rfl rfl hl.1 rfl (lv_room (Nat.le_of_ble_eq_true rfl)) dX9_kindOf_35 ⟨Nat.le_of_ble_eq_true rfl, Nat.le_of_ble_eq_true rfl⟩)) (fun r13 hr13 => ?_)
      exact W.iret (v := r13) hx hb hr (fun t ht hW => ⟨r13, rfl, trivial, ht⟩) (fun _ h => absurd h List.not_mem_nil) dX9_kindOf_38
  · refine lv_iload_n hx hb dX9_kindOf_13 rfl (lv_at hl 3 rfl) ?_
    refine lv_iload_n hx hb dX9_kindOf_14 rfl (lv_at hl 2 rfl) ?_
    refine lv_isub hx hb dX9_kindOf_15 ?_
    refine lv_topi (fun x14 ex14 => ?_)
    refine lv_iconst (v := 3) hx hb dX9_kindOf_16 (by decide) ?_
    refine lv_icmp_le (tgt := 24) hx hb dX9_kindOf_17 (by decide) (fun c15 => ?_) (fun c15 => ?_)
    · refine lv_bipush (v := 6) hx hb dX9_kindOf_24 (by decide) ?_
      exact W.iret (v := 6) hx hb hr (fun t ht hW => ⟨6, rfl, trivial, ht⟩) (fun _ h => absurd h List.not_mem_nil) dX9_kindOf_26
    · refine lv_iconst (v := 1) hx hb dX9_kindOf_20 (by decide) ?_
      refine lv_goto (tgt := 26) hx hb dX9_kindOf_21 (by decide) ?_
      exact W.iret (v := 1) hx hb hr (fun t ht hW => ⟨1, rfl, trivial, ht⟩) (fun _ h => absurd h List.not_mem_nil) dX9_kindOf_26

set_option maxHeartbeats 4000000 in
set_option maxRecDepth 100000 in
theorem t_X9_add (l : Launch) (dC : Nat → ClassId) (dI : Nat → Nat → Nat) (sz : Nat) (G : GT) (cs : Nat → ClassId) (tt mm : Nat) (adK adV : Nat → Nat) (a0 : Nat) (ha0 : Ty G a0 9) (v1 : Int32) (v2 : Int32) : Met l yX9_add [.code yX9_add cX9_add 3 none] ({ frames := 6, cells := 0, slots := 0, locals := 240 }) (PTX [.ref a0, .int v1, .int v2] sz dC dI G cs tt mm adK adV (fun _ => True)) (va_Qv (fun (u : Nat → va_E) => True) (BT dC dI G cs tt mm) (AT G sz)) 0 0 (AT G sz) := by
  refine Met.ofW (cc := cX9_add) (maxL := 3) (ret := none) (by decide) rfl ?_
  intro p e s m args below meth c s₁ B hml hv
  obtain ⟨rfl, hsz, ⟨f0, hok, hP, hX⟩, hK, hnd, hWT, hE, hXS, hZ0, hZ1, hZ2⟩ := hv
  have hx := B.exec
  have hb := B.bytes
  have hr := B.returns
  have hown : s.vm.findClass RX9 = some m.cls := findClass_of_methodNamed B.named
  have hlocks := B.notSynchronized
  subst hsz
  have hAL : ∀ a, a ∈ gL G → AT G s.heap.size a := fun a h => Or.inl h
  have hA : ∀ q : Nat, s.heap.size ≤ q → AT G s.heap.size q := fun q h => Or.inr h
  have hS : va_S (AT G s.heap.size) s.heap s.heap [] := va_S.rf
  have hl := lv_entry ([.ref a0, .int v1, .int v2]) (n := 3) (Nat.le_of_ble_eq_true rfl)
  rw [lg_entry_eq]
  generalize (lg_sl ([.ref a0, .int v1, .int v2]) ++ List.replicate (3 - (lg_sl ([.ref a0, .int v1, .int v2])).length) Slot.unset).toArray = ls at hl ⊢
  have hl : lv_has ls 3 [(0, .ref a0), (1, .int v1), (2, .int v2)] := hl
  refine lv_aload_n hx hb dX9_add_0 rfl (lv_at hl 0 rfl) ?_
  obtain ⟨y3_1, y4_1, y5_1, hy4_1, he1⟩ := ok_X9 hok ha0
  refine th_get hx hb (ly_X9 hE) hown hK hP ha0.1 he1 rfl 3 (by decide) (wd_189 hE) (fun _ h9 => h9) rfl dX9_add_1 ?_
  refine lv_if_lt (tgt := 43) hx hb dX9_add_4 (by decide) (fun c2 => ?_) (fun c2 => ?_)
  · exact W.vret hx hb hr (fun t ht hW => ⟨⟨f0, rfl, trivial, hok, by rw [ht]; exact hP⟩, hS.F ht⟩) hS.2.2 dX9_add_43
  · refine lv_aload_n hx hb dX9_add_7 rfl (lv_at hl 0 rfl) ?_
    refine th_get hx hb (ly_X9 hE) hown hK hP ha0.1 he1 rfl 3 (by decide) (wd_189 hE) (fun _ h9 => h9) rfl dX9_add_8 ?_
    refine lv_aload_n hx hb dX9_add_11 rfl (lv_at hl 0 rfl) ?_
    refine th_get hx hb (ly_X9 hE) hown hK hP ha0.1 he1 rfl 0 (by decide) (wd_186 hE) (fun _ h9 => h9) rfl dX9_add_12 ?_
    refine th_len1 hx hb hK hP hok (n := 701) (wl_X9_0 hWT ha0) (Or.inl (wt_X9_0 hWT ha0)) dX9_add_15 ?_
    refine W.eq (g2 := F0 m 16 ls [.int 701, .int y3_1]) rfl ?_
    refine lv_icmp_ge (tgt := 43) hx hb dX9_add_16 (by decide) (fun c3 => ?_) (fun c3 => ?_)
    · exact W.vret hx hb hr (fun t ht hW => ⟨⟨f0, rfl, trivial, hok, by rw [ht]; exact hP⟩, hS.F ht⟩) hS.2.2 dX9_add_43
    · refine lv_aload_n hx hb dX9_add_19 rfl (lv_at hl 0 rfl) ?_
      refine th_get hx hb (ly_X9 hE) hown hK hP ha0.1 he1 rfl 3 (by decide) (wd_189 hE) (fun _ h9 => h9) rfl dX9_add_20 ?_
      refine lv_aload_n hx hb dX9_add_23 rfl (lv_at hl 0 rfl) ?_
      refine th_get hx hb (ly_X9 hE) hown hK hP ha0.1 he1 rfl 1 (by decide) (wd_187 hE) (fun _ h9 => h9) rfl dX9_add_24 ?_
      refine th_len1 hx hb hK hP hok (n := 701) (wl_X9_1 hWT ha0) (Or.inl (wt_X9_1 hWT ha0)) dX9_add_27 ?_
      refine W.eq (g2 := F0 m 28 ls [.int 701, .int y3_1]) rfl ?_
      refine lv_icmp_ge (tgt := 43) hx hb dX9_add_28 (by decide) (fun c4 => False.elim (by simp only [i_lt, i_le, i_eq, ti_m9, ti_m1, ti_0, ti_1, ti_2, ti_3, ti_4, ti_5, ti_6, ti_7, ti_9, ti_12, ti_20, ti_99, ti_700, ti_24, ti_156, ti_72, ti_8, ti_60, ti_543, ti_10, ti_33, ti_51, ti_178, ti_119, ti_111, ti_114, ti_100, ti_32, ti_62, ti_59, ti_48, ti_701, ti_97, ti_122, ti_57, ti_73, ti_128, ti_61] at c2 c3 c4; omega)) (fun c4 => ?_)
      refine lv_aload_n hx hb dX9_add_31 rfl (lv_at hl 0 rfl) ?_
      refine th_get hx hb (ly_X9 hE) hown hK hP ha0.1 he1 rfl 3 (by decide) (wd_189 hE) (fun _ h9 => h9) rfl dX9_add_32 ?_
      refine lv_aload_n hx hb dX9_add_35 rfl (lv_at hl 0 rfl) ?_
      refine th_get hx hb (ly_X9 hE) hown hK hP ha0.1 he1 rfl 2 (by decide) (wd_188 hE) (fun _ h9 => h9) rfl dX9_add_36 ?_
      refine th_len1 hx hb hK hP hok (n := 701) (wl_X9_2 hWT ha0) (Or.inl (wt_X9_2 hWT ha0)) dX9_add_39 ?_
      refine W.eq (g2 := F0 m 40 ls [.int 701, .int y3_1]) rfl ?_
      refine lv_icmp_lt (tgt := 44) hx hb dX9_add_40 (by decide) (fun c5 => ?_) (fun c5 => False.elim (by simp only [i_lt, i_le, i_eq, ti_m9, ti_m1, ti_0, ti_1, ti_2, ti_3, ti_4, ti_5, ti_6, ti_7, ti_9, ti_12, ti_20, ti_99, ti_700, ti_24, ti_156, ti_72, ti_8, ti_60, ti_543, ti_10, ti_33, ti_51, ti_178, ti_119, ti_111, ti_114, ti_100, ti_32, ti_62, ti_59, ti_48, ti_701, ti_97, ti_122, ti_57, ti_73, ti_128, ti_61] at c2 c3 c4 c5; omega))
      refine lv_aload_n hx hb dX9_add_44 rfl (lv_at hl 0 rfl) ?_
      refine th_get hx hb (ly_X9 hE) hown hK hP ha0.1 he1 rfl 0 (by decide) (wd_186 hE) (fun _ h9 => h9) rfl dX9_add_45 ?_
      refine lv_aload_n hx hb dX9_add_48 rfl (lv_at hl 0 rfl) ?_
      refine th_get hx hb (ly_X9 hE) hown hK hP ha0.1 he1 rfl 3 (by decide) (wd_189 hE) (fun _ h9 => h9) rfl dX9_add_49 ?_
      refine lv_aload_n hx hb dX9_add_52 rfl (lv_at hl 0 rfl) ?_
      refine lv_iload_n hx hb dX9_add_53 rfl (lv_at hl 1 rfl) ?_
      refine lv_iload_n hx hb dX9_add_54 rfl (lv_at hl 2 rfl) ?_
      refine vp_callSi (va_Run.run (va_runV (As := [.int v1, .int v2]) (rest := [.int y3_1, .ref (gR G a0 0)]) ⟨hx, hb, hml, hown, noTs⟩ (t_X9_kindOf l dC dI s.heap.size G cs tt mm adK adV a0 ha0 v1 v2) ⟨cbE 2 (wd_476 hE) (wd_119 hE) (wd_473 hE) rfl rfl (by decide +kernel) ⟨Nat.le_of_ble_eq_true rfl, Nat.le_of_ble_eq_true rfl⟩, (wd_475 hE), (wd_5 hE)⟩ ⟨PTX.blind, th_recv hK hP ha0.1 he1 rfl, (tx_pre (av := [.ref a0, .int v1, .int v2]) trivial hK hP hok hnd hWT hE hXS hZ0 hZ1 hZ2 hS)⟩ rfl rfl hl.1 rfl (lv_room (Nat.le_of_ble_eq_true rfl)) dX9_add_55 ⟨Nat.le_of_ble_eq_true rfl, Nat.le_of_ble_eq_true rfl⟩)) (fun r6 hr6 => ?_)
      refine th_iast hx hb hK hP hok hnd hAL hS (wt_X9_0 hWT ha0) (n := 701) (wl_X9_0 hWT ha0) (vp_in_iff.mpr (by first | omega | (simp only [i_lt, i_le, i_eq, ti_m9, ti_m1, ti_0, ti_1, ti_2, ti_3, ti_4, ti_5, ti_6, ti_7, ti_9, ti_12, ti_20, ti_99, ti_700, ti_24, ti_156, ti_72, ti_8, ti_60, ti_543, ti_10, ti_33, ti_51, ti_178, ti_119, ti_111, ti_114, ti_100, ti_32, ti_62, ti_59, ti_48, ti_701, ti_97, ti_122, ti_57, ti_73, ti_128, ti_61] at c2 c3 c4 c5 ⊢; omega))) dX9_add_58 (fun f7 H locs hfo7 hok hP hS => ?_)
      have he8 := (hfo7 a0 (Ty.ne ha0 (wt_X9_0 hWT ha0) (by decide))).trans he1
      refine lv_aload_n hx hb dX9_add_59 rfl (lv_at hl 0 rfl) ?_
      refine th_get hx hb (ly_X9 hE) hown hK hP ha0.1 he8 rfl 1 (by decide) (wd_187 hE) (fun _ h9 => h9) rfl dX9_add_60 ?_
      refine lv_aload_n hx hb dX9_add_63 rfl (lv_at hl 0 rfl) ?_
      refine th_get hx hb (ly_X9 hE) hown hK hP ha0.1 he8 rfl 3 (by decide) (wd_189 hE) (fun _ h9 => h9) rfl dX9_add_64 ?_
      refine lv_iload_n hx hb dX9_add_67 rfl (lv_at hl 1 rfl) ?_
      refine th_iast hx hb hK hP hok hnd hAL hS (wt_X9_1 hWT ha0) (n := 701) (wl_X9_1 hWT ha0) (vp_in_iff.mpr (by first | omega | (simp only [i_lt, i_le, i_eq, ti_m9, ti_m1, ti_0, ti_1, ti_2, ti_3, ti_4, ti_5, ti_6, ti_7, ti_9, ti_12, ti_20, ti_99, ti_700, ti_24, ti_156, ti_72, ti_8, ti_60, ti_543, ti_10, ti_33, ti_51, ti_178, ti_119, ti_111, ti_114, ti_100, ti_32, ti_62, ti_59, ti_48, ti_701, ti_97, ti_122, ti_57, ti_73, ti_128, ti_61] at c2 c3 c4 c5 ⊢; omega))) dX9_add_68 (fun f9 H locs hfo9 hok hP hS => ?_)
      have he10 := (hfo9 a0 (Ty.ne ha0 (wt_X9_1 hWT ha0) (by decide))).trans he8
      refine lv_aload_n hx hb dX9_add_69 rfl (lv_at hl 0 rfl) ?_
      refine th_get hx hb (ly_X9 hE) hown hK hP ha0.1 he10 rfl 2 (by decide) (wd_188 hE) (fun _ h9 => h9) rfl dX9_add_70 ?_
      refine lv_aload_n hx hb dX9_add_73 rfl (lv_at hl 0 rfl) ?_
      refine th_get hx hb (ly_X9 hE) hown hK hP ha0.1 he10 rfl 3 (by decide) (wd_189 hE) (fun _ h9 => h9) rfl dX9_add_74 ?_
      refine lv_aload_n hx hb dX9_add_77 rfl (lv_at hl 0 rfl) ?_
      refine th_get hx hb (ly_X9 hE) hown hK hP ha0.1 he10 rfl 0 (by decide) (wd_186 hE) (fun _ h9 => h9) rfl dX9_add_78 ?_
      refine lv_aload_n hx hb dX9_add_81 rfl (lv_at hl 0 rfl) ?_
      refine th_get hx hb (ly_X9 hE) hown hK hP ha0.1 he10 rfl 3 (by decide) (wd_189 hE) (fun _ h9 => h9) rfl dX9_add_82 ?_
      refine th_iald hx hb hK hP hok (wt_X9_0 hWT ha0) (n := 701) (wl_X9_0 hWT ha0) (vp_in_iff.mpr (by first | omega | (simp only [i_lt, i_le, i_eq, ti_m9, ti_m1, ti_0, ti_1, ti_2, ti_3, ti_4, ti_5, ti_6, ti_7, ti_9, ti_12, ti_20, ti_99, ti_700, ti_24, ti_156, ti_72, ti_8, ti_60, ti_543, ti_10, ti_33, ti_51, ti_178, ti_119, ti_111, ti_114, ti_100, ti_32, ti_62, ti_59, ti_48, ti_701, ti_97, ti_122, ti_57, ti_73, ti_128, ti_61] at c2 c3 c4 c5 ⊢; omega))) dX9_add_85 (fun x11 => ?_)
      refine lv_bipush (v := 6) hx hb dX9_add_86 (by decide) ?_
      refine lv_icmp_ne (tgt := 100) hx hb dX9_add_88 (by decide) (fun c12 => ?_) (fun c12 => ?_)
      · refine lv_iconst (v := 0) hx hb dX9_add_100 (by decide) ?_
        refine th_iast hx hb hK hP hok hnd hAL hS (wt_X9_2 hWT ha0) (n := 701) (wl_X9_2 hWT ha0) (vp_in_iff.mpr (by first | omega | (simp only [i_lt, i_le, i_eq, ti_m9, ti_m1, ti_0, ti_1, ti_2, ti_3, ti_4, ti_5, ti_6, ti_7, ti_9, ti_12, ti_20, ti_99, ti_700, ti_24, ti_156, ti_72, ti_8, ti_60, ti_543, ti_10, ti_33, ti_51, ti_178, ti_119, ti_111, ti_114, ti_100, ti_32, ti_62, ti_59, ti_48, ti_701, ti_97, ti_122, ti_57, ti_73, ti_128, ti_61] at c2 c3 c4 c5 c12 ⊢; omega))) dX9_add_101 (fun f13 H locs hfo13 hok hP hS => ?_)
        have he14 := (hfo13 a0 (Ty.ne ha0 (wt_X9_2 hWT ha0) (by decide))).trans he10
        refine lv_aload_n hx hb dX9_add_102 rfl (lv_at hl 0 rfl) ?_
        refine lv_dup hx hb dX9_add_103 rfl ?_
        refine th_get hx hb (ly_X9 hE) hown hK hP ha0.1 he14 rfl 3 (by decide) (wd_189 hE) (fun _ h9 => h9) rfl dX9_add_104 ?_
        refine lv_iconst (v := 1) hx hb dX9_add_107 (by decide) ?_
        obtain ⟨j15, hj15, rfl⟩ : ∃ j : Nat, j ≤ 700 ∧ y3_1 = nI j := i_nat (by first | omega | (simp only [i_lt, i_le, i_eq, ti_m9, ti_m1, ti_0, ti_1, ti_2, ti_3, ti_4, ti_5, ti_6, ti_7, ti_9, ti_12, ti_20, ti_99, ti_700, ti_24, ti_156, ti_72, ti_8, ti_60, ti_543, ti_10, ti_33, ti_51, ti_178, ti_119, ti_111, ti_114, ti_100, ti_32, ti_62, ti_59, ti_48, ti_701, ti_97, ti_122, ti_57, ti_73, ti_128, ti_61] at c2 c3 c4 c5 c12 ⊢; omega)) (by first | omega | (simp only [i_lt, i_le, i_eq, ti_m9, ti_m1, ti_0, ti_1, ti_2, ti_3, ti_4, ti_5, ti_6, ti_7, ti_9, ti_12, ti_20, ti_99, ti_700, ti_24, ti_156, ti_72, ti_8, ti_60, ti_543, ti_10, ti_33, ti_51, ti_178, ti_119, ti_111, ti_114, ti_100, ti_32, ti_62, ti_59, ti_48, ti_701, ti_97, ti_122, ti_57, ti_73, ti_128, ti_61] at c2 c3 c4 c5 c12 ⊢; omega))
        have nt16 : (nI j15).toInt = ((j15 : Nat) : Int) := nI_toInt (by omega)
        refine lv_iadd hx hb dX9_add_108 ?_
        refine W.eq (g2 := F0 m 109 ls [.int (nI (j15 + 1)), .ref a0]) (congrArg (fun z : Int32 => F0 m 109 ls (.int z :: [.ref a0])) (nI_add j15 1)) ?_
        refine th_put (v := .int (nI (j15 + 1))) (ty := .int) hx hb (ly_X9 hE) tyX9 tyX9_ok nmX9 hown hK hP hnd hAL hS ha0.1 he14 rfl 3 (by decide) (wd_189 hE) (fun _ h9 => h9) rfl (by decide +kernel) rfl rfl (Nat.le_of_ble_eq_true rfl) (up_X9 hok ha0 ⟨nI (j15 + 1), y4_1, y5_1, hy4_1, rfl⟩) dX9_add_109 (fun f17 H locs hfa17 hfo17 hok hP hS => ?_)
        exact W.vret hx hb hr (fun t ht hW => ⟨⟨f17, rfl, trivial, hok, by rw [ht]; exact hP⟩, hS.F ht⟩) hS.2.2 dX9_add_112
      · refine lv_aload_n hx hb dX9_add_91 rfl (lv_at hl 0 rfl) ?_
        refine lv_iload_n hx hb dX9_add_92 rfl (lv_at hl 1 rfl) ?_
        refine lv_iload_n hx hb dX9_add_93 rfl (lv_at hl 2 rfl) ?_
        refine vp_callSi (va_Run.run (va_runV (As := [.int v1, .int v2]) (rest := [.int y3_1, .ref (gR G a0 2)]) ⟨hx, hb, hml, hown, noTs⟩ (t_X9_numberIn l dC dI H.size G cs tt mm a0 ha0 v1 v2) ⟨cbE 2 (wd_538 hE) (wd_119 hE) (wd_535 hE) rfl rfl (by decide +kernel) ⟨Nat.le_of_ble_eq_true rfl, Nat.le_of_ble_eq_true rfl⟩, (wd_537 hE), (wd_7 hE)⟩ ⟨PT.blind, th_recv hK hP ha0.1 he10 rfl, (th_pre (av := [.ref a0, .int v1, .int v2]) trivial hK hP hok hnd hWT hE)⟩ rfl rfl hl.1 rfl (lv_room (Nat.le_of_ble_eq_true rfl)) dX9_add_94 ⟨Nat.le_of_ble_eq_true rfl, Nat.le_of_ble_eq_true rfl⟩)) (fun r18 hr18 => ?_)
        refine lv_goto (tgt := 101) hx hb dX9_add_97 (by decide) ?_
        refine th_iast hx hb hK hP hok hnd hAL hS (wt_X9_2 hWT ha0) (n := 701) (wl_X9_2 hWT ha0) (vp_in_iff.mpr (by first | omega | (simp only [i_lt, i_le, i_eq, ti_m9, ti_m1, ti_0, ti_1, ti_2, ti_3, ti_4, ti_5, ti_6, ti_7, ti_9, ti_12, ti_20, ti_99, ti_700, ti_24, ti_156, ti_72, ti_8, ti_60, ti_543, ti_10, ti_33, ti_51, ti_178, ti_119, ti_111, ti_114, ti_100, ti_32, ti_62, ti_59, ti_48, ti_701, ti_97, ti_122, ti_57, ti_73, ti_128, ti_61] at c2 c3 c4 c5 c12 ⊢; omega))) dX9_add_101 (fun f19 H locs hfo19 hok hP hS => ?_)
        have he20 := (hfo19 a0 (Ty.ne ha0 (wt_X9_2 hWT ha0) (by decide))).trans he10
        refine lv_aload_n hx hb dX9_add_102 rfl (lv_at hl 0 rfl) ?_
        refine lv_dup hx hb dX9_add_103 rfl ?_
        refine th_get hx hb (ly_X9 hE) hown hK hP ha0.1 he20 rfl 3 (by decide) (wd_189 hE) (fun _ h9 => h9) rfl dX9_add_104 ?_
        refine lv_iconst (v := 1) hx hb dX9_add_107 (by decide) ?_
        obtain ⟨j21, hj21, rfl⟩ : ∃ j : Nat, j ≤ 700 ∧ y3_1 = nI j := i_nat (by first | omega | (simp only [i_lt, i_le, i_eq, ti_m9, ti_m1, ti_0, ti_1, ti_2, ti_3, ti_4, ti_5, ti_6, ti_7, ti_9, ti_12, ti_20, ti_99, ti_700, ti_24, ti_156, ti_72, ti_8, ti_60, ti_543, ti_10, ti_33, ti_51, ti_178, ti_119, ti_111, ti_114, ti_100, ti_32, ti_62, ti_59, ti_48, ti_701, ti_97, ti_122, ti_57, ti_73, ti_128, ti_61] at c2 c3 c4 c5 c12 ⊢; omega)) (by first | omega | (simp only [i_lt, i_le, i_eq, ti_m9, ti_m1, ti_0, ti_1, ti_2, ti_3, ti_4, ti_5, ti_6, ti_7, ti_9, ti_12, ti_20, ti_99, ti_700, ti_24, ti_156, ti_72, ti_8, ti_60, ti_543, ti_10, ti_33, ti_51, ti_178, ti_119, ti_111, ti_114, ti_100, ti_32, ti_62, ti_59, ti_48, ti_701, ti_97, ti_122, ti_57, ti_73, ti_128, ti_61] at c2 c3 c4 c5 c12 ⊢; omega))
        have nt22 : (nI j21).toInt = ((j21 : Nat) : Int) := nI_toInt (by omega)
        refine lv_iadd hx hb dX9_add_108 ?_
        refine W.eq (g2 := F0 m 109 ls [.int (nI (j21 + 1)), .ref a0]) (congrArg (fun z : Int32 => F0 m 109 ls (.int z :: [.ref a0])) (nI_add j21 1)) ?_
        refine th_put (v := .int (nI (j21 + 1))) (ty := .int) hx hb (ly_X9 hE) tyX9 tyX9_ok nmX9 hown hK hP hnd hAL hS ha0.1 he20 rfl 3 (by decide) (wd_189 hE) (fun _ h9 => h9) rfl (by decide +kernel) rfl rfl (Nat.le_of_ble_eq_true rfl) (up_X9 hok ha0 ⟨nI (j21 + 1), y4_1, y5_1, hy4_1, rfl⟩) dX9_add_109 (fun f23 H locs hfa23 hfo23 hok hP hS => ?_)
        exact W.vret hx hb hr (fun t ht hW => ⟨⟨f23, rfl, trivial, hok, by rw [ht]; exact hP⟩, hS.F ht⟩) hS.2.2 dX9_add_112

set_option maxHeartbeats 4000000 in
set_option maxRecDepth 100000 in
theorem t_X9_cut (l : Launch) (dC : Nat → ClassId) (dI : Nat → Nat → Nat) (sz : Nat) (G : GT) (cs : Nat → ClassId) (tt mm : Nat) (adK adV : Nat → Nat) (a0 : Nat) (ha0 : Ty G a0 9) (a1 : Nat) (ha1 : Ty G a1 22) (na1 : Nat) (hna1 : gN G a1 = na1) (hma1 : na1 ≤ 700) (v2 : Int32) : Met l yX9_cut [.code yX9_cut cX9_cut 6 none] ({ frames := 7, cells := 0, slots := 0, locals := 280 }) (PTX [.ref a0, .ref a1, .int v2] sz dC dI G cs tt mm adK adV (fun _ => True)) (va_Qv (fun (u : Nat → va_E) => True) (BT dC dI G cs tt mm) (AT G sz)) 0 0 (AT G sz) := by
  refine Met.ofW (cc := cX9_cut) (maxL := 6) (ret := none) (by decide) rfl ?_
  intro p e s m args below meth c s₁ B hml hv
  obtain ⟨rfl, hsz, ⟨f0, hok, hP, hX⟩, hK, hnd, hWT, hE, hXS, hZ0, hZ1, hZ2⟩ := hv
  have hx := B.exec
  have hb := B.bytes
  have hr := B.returns
  have hown : s.vm.findClass RX9 = some m.cls := findClass_of_methodNamed B.named
  have hlocks := B.notSynchronized
  subst hsz
  have hAL : ∀ a, a ∈ gL G → AT G s.heap.size a := fun a h => Or.inl h
  have hA : ∀ q : Nat, s.heap.size ≤ q → AT G s.heap.size q := fun q h => Or.inr h
  have hS : va_S (AT G s.heap.size) s.heap s.heap [] := va_S.rf
  have hl := lv_entry ([.ref a0, .ref a1, .int v2]) (n := 6) (Nat.le_of_ble_eq_true rfl)
  rw [lg_entry_eq]
  generalize (lg_sl ([.ref a0, .ref a1, .int v2]) ++ List.replicate (6 - (lg_sl ([.ref a0, .ref a1, .int v2])).length) Slot.unset).toArray = ls at hl ⊢
  have hl : lv_has ls 6 [(0, .ref a0), (1, .ref a1), (2, .int v2)] := hl
  refine lv_aload_n hx hb dX9_cut_0 rfl (lv_at hl 0 rfl) ?_
  refine lv_aload_n hx hb dX9_cut_1 rfl (lv_at hl 1 rfl) ?_
  obtain ⟨y3_1, y4_1, y5_1, hy4_1, he1⟩ := ok_X9 hok ha0
  refine th_put (v := .ref a1) (ty := .array .byte) hx hb (ly_X9 hE) tyX9 tyX9_ok nmX9 hown hK hP hnd hAL hS ha0.1 he1 rfl 4 (by decide) (wd_190 hE) (fun _ h9 => h9) rfl (by decide +kernel) rfl rfl (Nat.le_of_ble_eq_true rfl) (up_X9 hok ha0 ⟨y3_1, a1, y5_1, ha1, rfl⟩) dX9_cut_2 (fun f2 H locs hfa2 hfo2 hok hP hS => ?_)
  refine lv_aload_n hx hb dX9_cut_5 rfl (lv_at hl 0 rfl) ?_
  refine lv_iload_n hx hb dX9_cut_6 rfl (lv_at hl 2 rfl) ?_
  refine lv_aload_n hx hb dX9_cut_7 rfl (lv_at hl 1 rfl) ?_
  refine th_len1 hx hb hK hP hok (n := na1) hna1 (Or.inr (Or.inl ha1)) dX9_cut_8 ?_
  have := wt_bytes hWT ha1
  refine va_mmin hx hb (by rw [hml]; exact hl.1.symm) hown (wd_452 hE) (wd_453 hE) (wd_128 hE) (wd_454 hE) (Nat.le_of_ble_eq_true rfl) (Nat.le_of_ble_eq_true rfl) (Nat.le_of_ble_eq_true rfl) (Nat.le_of_ble_eq_true rfl) dX9_cut_9 ?_
  refine lv_topi (fun x3 ex3 => ?_)
  have hmn3 : x3 ≤ v2 ∧ x3 ≤ (nI na1) := by rw [ex3]; exact i_min v2 (nI na1)
  obtain ⟨hma3, hmb3⟩ := hmn3
  refine th_put (v := .int x3) (ty := .int) hx hb (ly_X9 hE) tyX9 tyX9_ok nmX9 hown hK hP hnd hAL hS ha0.1 hfa2 rfl 5 (by decide) (wd_191 hE) (fun _ h9 => h9) rfl (by decide +kernel) rfl rfl (Nat.le_of_ble_eq_true rfl) (up_X9 hok ha0 ⟨y3_1, a1, x3, ha1, rfl⟩) dX9_cut_12 (fun f4 H locs hfa4 hfo4 hok hP hS => ?_)
  refine lv_aload_n hx hb dX9_cut_15 rfl (lv_at hl 0 rfl) ?_
  refine lv_iconst (v := 0) hx hb dX9_cut_16 (by decide) ?_
  refine th_put (v := .int 0) (ty := .int) hx hb (ly_X9 hE) tyX9 tyX9_ok nmX9 hown hK hP hnd hAL hS ha0.1 hfa4 rfl 3 (by decide) (wd_189 hE) (fun _ h9 => h9) rfl (by decide +kernel) rfl rfl (Nat.le_of_ble_eq_true rfl) (up_X9 hok ha0 ⟨0, a1, x3, ha1, rfl⟩) dX9_cut_17 (fun f5 H locs hfa5 hfo5 hok hP hS => ?_)
  refine lv_iconst (v := 0) hx hb dX9_cut_20 (by decide) ?_
  refine lv_istore_n (lv' := [(3, .int 0), (0, .ref a0), (1, .ref a1), (2, .int v2)]) hx hb dX9_cut_21 rfl hl (by decide) rfl (fun ls hl => ?_)
  refine w_ind (I := fun n f H locs ls => OKT G cs tt mm f ∧ va_P (dC, dI) vwCl (va_pl (gL G) f) H ∧ va_S (AT G s.heap.size) s.heap H locs ∧ ∃ (w3_6 : Int32), n = (2147483647 - w3_6.toInt).toNat ∧ 0 ≤ w3_6 ∧ lv_has ls 6 [(0, .ref a0), (1, .ref a1), (2, .int v2), (3, .int w3_6)]) (fun n f6 H locs ls hI ih6 => ?_) _ f5 _ _ _ ⟨hok, hP, hS, 0, rfl, (by first | omega | (simp only [i_lt, i_le, i_eq, ti_m9, ti_m1, ti_0, ti_1, ti_2, ti_3, ti_4, ti_5, ti_6, ti_7, ti_9, ti_12, ti_20, ti_99, ti_700, ti_24, ti_156, ti_72, ti_8, ti_60, ti_543, ti_10, ti_33, ti_51, ti_178, ti_119, ti_111, ti_114, ti_100, ti_32, ti_62, ti_59, ti_48, ti_701, ti_97, ti_122, ti_57, ti_73, ti_128, ti_61] at hma3 hmb3 ⊢; omega)), lv_sub hl [1, 2, 3, 0] rfl⟩
  obtain ⟨hok, hP, hS, w3_6, hmu6, hlo6, hl⟩ := hI
  subst hmu6
  refine lv_iload_n hx hb dX9_cut_22 rfl (lv_at hl 3 rfl) ?_
  refine lv_aload_n hx hb dX9_cut_23 rfl (lv_at hl 0 rfl) ?_
  obtain ⟨y3_7, y4_7, y5_7, hy4_7, he7⟩ := ok_X9 hok ha0
  refine th_get hx hb (ly_X9 hE) hown hK hP ha0.1 he7 rfl 5 (by decide) (wd_191 hE) (fun _ h9 => h9) rfl dX9_cut_24 ?_
  refine lv_icmp_ge (tgt := 77) hx hb dX9_cut_27 (by decide) (fun c8 => ?_) (fun c8 => ?_)
  · exact W.vret hx hb hr (fun t ht hW => ⟨⟨f6, rfl, trivial, hok, by rw [ht]; exact hP⟩, hS.F ht⟩) hS.2.2 dX9_cut_77
  · refine lv_aload_n hx hb dX9_cut_30 rfl (lv_at hl 0 rfl) ?_
    refine lv_iload_n hx hb dX9_cut_31 rfl (lv_at hl 3 rfl) ?_
    refine vp_callSi (va_Run.run (va_runV (As := [.int w3_6]) (rest := []) ⟨hx, hb, hml, hown, noTs⟩ (t_X9_byteAt l dC dI H.size G cs tt mm a0 ha0 w3_6) ⟨cbE 1 (wd_458 hE) (wd_119 hE) (wd_455 hE) rfl rfl (by decide +kernel) ⟨Nat.le_of_ble_eq_true rfl, Nat.le_of_ble_eq_true rfl⟩, (wd_457 hE), (wd_2 hE)⟩ ⟨PT.blind, th_recv hK hP ha0.1 he7 rfl, (th_pre (av := [.ref a0, .int w3_6]) trivial hK hP hok hnd hWT hE)⟩ rfl rfl hl.1 rfl (lv_room (Nat.le_of_ble_eq_true rfl)) dX9_cut_32 ⟨Nat.le_of_ble_eq_true rfl, Nat.le_of_ble_eq_true rfl⟩)) (fun r9 hr9 => ?_)
    refine lv_istore (lv' := [(4, .int r9), (0, .ref a0), (1, .ref a1), (2, .int v2), (3, .int w3_6)]) hx hb dX9_cut_35 hl (by decide) rfl (fun ls hl => ?_)
    refine lv_aload_n hx hb dX9_cut_37 rfl (lv_at hl 1 rfl) ?_
    refine lv_iload_n hx hb dX9_cut_38 rfl (lv_at hl 4 rfl) ?_
    refine vp_callSi (va_Run.run (va_runV (As := [.int w3_6]) (rest := []) ⟨hx, hb, hml, hown, noTs⟩ (t_X9_endOfToken l dC dI H.size G cs tt mm a0 ha0 w3_6) ⟨cbE 1 (wd_462 hE) (wd_119 hE) (wd_459 hE) rfl rfl (by decide +kernel) ⟨Nat.le_of_ble_eq_true rfl, Nat.le_of_ble_eq_true rfl⟩, (wd_461 hE), (wd_3 hE)⟩ ⟨PT.blind, th_recv hK hP ha0.1 he7 rfl, (th_pre (av := [.ref a0, .int w3_6]) trivial hK hP hok hnd hWT hE)⟩ rfl rfl hl.1 rfl (lv_room (Nat.le_of_ble_eq_true rfl)) dX9_cut_39 ⟨Nat.le_of_ble_eq_true rfl, Nat.le_of_ble_eq_true rfl⟩)) (fun r10 hr10 => ?_)
    refine lv_istore (lv' := [(5, .int r10), (4, .int r9), (0, .ref a0), (1, .ref a1), (2, .int v2), (3, .int w3_6)]) hx hb dX9_cut_42 hl (by decide) rfl (fun ls hl => ?_)
    refine lv_iload hx hb dX9_cut_44 (lv_at hl 1 rfl) ?_
    refine lv_bipush (v := 10) hx hb dX9_cut_46 (by decide) ?_
    refine lv_icmp_eq (tgt := 65) hx hb dX9_cut_48 (by decide) (fun c11 => ?_) (fun c11 => ?_)
    · refine lv_iload hx hb dX9_cut_65 (lv_at hl 0 rfl) ?_
      refine lv_iload_n hx hb dX9_cut_67 rfl (lv_at hl 5 rfl) ?_
      refine lv_iconst (v := 1) hx hb dX9_cut_68 (by decide) ?_
      refine lv_iadd hx hb dX9_cut_69 ?_
      refine lv_topi (fun x12 ex12 => ?_)
      have ic12 : x12.toInt = w3_6.toInt + 1 := by rw [ex12]; exact ic_up (by have := i_rng w3_6; have := i_rng y5_7; have := i_rng r9; simp only [i_lt, i_le, i_eq, ti_m9, ti_m1, ti_0, ti_1, ti_2, ti_3, ti_4, ti_5, ti_6, ti_7, ti_9, ti_12, ti_20, ti_99, ti_700, ti_24, ti_156, ti_72, ti_8, ti_60, ti_543, ti_10, ti_33, ti_51, ti_178, ti_119, ti_111, ti_114, ti_100, ti_32, ti_62, ti_59, ti_48, ti_701, ti_97, ti_122, ti_57, ti_73, ti_128, ti_61] at hma3 hmb3 hlo6 c8 c11 ⊢; omega)
      refine va_mmax hx hb (by rw [hml]; exact hl.1.symm) hown (wd_539 hE) (wd_540 hE) (wd_128 hE) (wd_541 hE) (Nat.le_of_ble_eq_true rfl) (Nat.le_of_ble_eq_true rfl) (Nat.le_of_ble_eq_true rfl) (Nat.le_of_ble_eq_true rfl) dX9_cut_70 ?_
      refine lv_topi (fun x13 ex13 => ?_)
      have hmn13 : r10 ≤ x13 ∧ x12 ≤ x13 := by rw [ex13]; exact i_max r10 x12
      obtain ⟨hma13, hmb13⟩ := hmn13
      refine lv_istore_n (lv' := [(3, .int x13), (5, .int r10), (4, .int r9), (0, .ref a0), (1, .ref a1), (2, .int v2)]) hx hb dX9_cut_73 rfl hl (by decide) rfl (fun ls hl => ?_)
      refine lv_goto (tgt := 22) hx hb dX9_cut_74 (by decide) ?_
      exact ih6 _ f6 _ _ _ (by have := i_rng x13; first | omega | (simp only [i_lt, i_le, i_eq, ti_m9, ti_m1, ti_0, ti_1, ti_2, ti_3, ti_4, ti_5, ti_6, ti_7, ti_9, ti_12, ti_20, ti_99, ti_700, ti_24, ti_156, ti_72, ti_8, ti_60, ti_543, ti_10, ti_33, ti_51, ti_178, ti_119, ti_111, ti_114, ti_100, ti_32, ti_62, ti_59, ti_48, ti_701, ti_97, ti_122, ti_57, ti_73, ti_128, ti_61, ic12] at hma3 hmb3 hlo6 c8 c11 hma13 hmb13 ⊢; omega)) ⟨hok, hP, hS, x13, rfl, (by first | omega | (simp only [i_lt, i_le, i_eq, ti_m9, ti_m1, ti_0, ti_1, ti_2, ti_3, ti_4, ti_5, ti_6, ti_7, ti_9, ti_12, ti_20, ti_99, ti_700, ti_24, ti_156, ti_72, ti_8, ti_60, ti_543, ti_10, ti_33, ti_51, ti_178, ti_119, ti_111, ti_114, ti_100, ti_32, ti_62, ti_59, ti_48, ti_701, ti_97, ti_122, ti_57, ti_73, ti_128, ti_61, ic12] at hma3 hmb3 hlo6 c8 c11 hma13 hmb13 ⊢; omega)), lv_sub hl [3, 4, 5, 0] rfl⟩
    · refine lv_iload hx hb dX9_cut_51 (lv_at hl 1 rfl) ?_
      refine lv_bipush (v := 32) hx hb dX9_cut_53 (by decide) ?_
      refine lv_icmp_eq (tgt := 65) hx hb dX9_cut_55 (by decide) (fun c14 => ?_) (fun c14 => ?_)
      · refine lv_iload hx hb dX9_cut_65 (lv_at hl 0 rfl) ?_
        refine lv_iload_n hx hb dX9_cut_67 rfl (lv_at hl 5 rfl) ?_
        refine lv_iconst (v := 1) hx hb dX9_cut_68 (by decide) ?_
        refine lv_iadd hx hb dX9_cut_69 ?_
        refine lv_topi (fun x15 ex15 => ?_)
        have ic15 : x15.toInt = w3_6.toInt + 1 := by rw [ex15]; exact ic_up (by have := i_rng w3_6; have := i_rng y5_7; have := i_rng r9; simp only [i_lt, i_le, i_eq, ti_m9, ti_m1, ti_0, ti_1, ti_2, ti_3, ti_4, ti_5, ti_6, ti_7, ti_9, ti_12, ti_20, ti_99, ti_700, ti_24, ti_156, ti_72, ti_8, ti_60, ti_543, ti_10, ti_33, ti_51, ti_178, ti_119, ti_111, ti_114, ti_100, ti_32, ti_62, ti_59, ti_48, ti_701, ti_97, ti_122, ti_57, ti_73, ti_128, ti_61] at hma3 hmb3 hlo6 c8 c11 c14 ⊢; omega)
        refine va_mmax hx hb (by rw [hml]; exact hl.1.symm) hown (wd_539 hE) (wd_540 hE) (wd_128 hE) (wd_541 hE) (Nat.le_of_ble_eq_true rfl) (Nat.le_of_ble_eq_true rfl) (Nat.le_of_ble_eq_true rfl) (Nat.le_of_ble_eq_true rfl) dX9_cut_70 ?_
        refine lv_topi (fun x16 ex16 => ?_)
        have hmn16 : r10 ≤ x16 ∧ x15 ≤ x16 := by rw [ex16]; exact i_max r10 x15
        obtain ⟨hma16, hmb16⟩ := hmn16
        refine lv_istore_n (lv' := [(3, .int x16), (5, .int r10), (4, .int r9), (0, .ref a0), (1, .ref a1), (2, .int v2)]) hx hb dX9_cut_73 rfl hl (by decide) rfl (fun ls hl => ?_)
        refine lv_goto (tgt := 22) hx hb dX9_cut_74 (by decide) ?_
        exact ih6 _ f6 _ _ _ (by have := i_rng x16; first | omega | (simp only [i_lt, i_le, i_eq, ti_m9, ti_m1, ti_0, ti_1, ti_2, ti_3, ti_4, ti_5, ti_6, ti_7, ti_9, ti_12, ti_20, ti_99, ti_700, ti_24, ti_156, ti_72, ti_8, ti_60, ti_543, ti_10, ti_33, ti_51, ti_178, ti_119, ti_111, ti_114, ti_100, ti_32, ti_62, ti_59, ti_48, ti_701, ti_97, ti_122, ti_57, ti_73, ti_128, ti_61, ic15] at hma3 hmb3 hlo6 c8 c11 c14 hma16 hmb16 ⊢; omega)) ⟨hok, hP, hS, x16, rfl, (by first | omega | (simp only [i_lt, i_le, i_eq, ti_m9, ti_m1, ti_0, ti_1, ti_2, ti_3, ti_4, ti_5, ti_6, ti_7, ti_9, ti_12, ti_20, ti_99, ti_700, ti_24, ti_156, ti_72, ti_8, ti_60, ti_543, ti_10, ti_33, ti_51, ti_178, ti_119, ti_111, ti_114, ti_100, ti_32, ti_62, ti_59, ti_48, ti_701, ti_97, ti_122, ti_57, ti_73, ti_128, ti_61, ic15] at hma3 hmb3 hlo6 c8 c11 c14 hma16 hmb16 ⊢; omega)), lv_sub hl [3, 4, 5, 0] rfl⟩
      · refine lv_aload_n hx hb dX9_cut_58 rfl (lv_at hl 2 rfl) ?_
        refine lv_iload_n hx hb dX9_cut_59 rfl (lv_at hl 5 rfl) ?_
        refine lv_iload hx hb dX9_cut_60 (lv_at hl 0 rfl) ?_
        refine tc_v hAL hS hA (va_runV (As := [.int w3_6, .int r10]) (rest := []) ⟨hx, hb, hml, hown, noTs⟩ (t_X9_add l dC dI H.size G cs tt mm adK adV a0 ha0 w3_6 r10) ⟨cbE 2 (wd_472 hE) (wd_119 hE) (wd_469 hE) rfl rfl (by decide +kernel) ⟨Nat.le_of_ble_eq_true rfl, Nat.le_of_ble_eq_true rfl⟩, (wd_471 hE), (wd_4 hE)⟩ ⟨PTX.blind, th_recv hK hP ha0.1 he7 rfl, (tx_pre (av := [.ref a0, .int w3_6, .int r10]) trivial hK hP hok hnd hWT hE hXS hZ0 hZ1 hZ2 hS)⟩ rfl rfl hl.1 rfl (lv_room (Nat.le_of_ble_eq_true rfl)) dX9_cut_62 ⟨Nat.le_of_ble_eq_true rfl, Nat.le_of_ble_eq_true rfl⟩) (fun f17 H locs hr17 hok hP hS => ?_)
        refine lv_iload hx hb dX9_cut_65 (lv_at hl 0 rfl) ?_
        refine lv_iload_n hx hb dX9_cut_67 rfl (lv_at hl 5 rfl) ?_
        refine lv_iconst (v := 1) hx hb dX9_cut_68 (by decide) ?_
        refine lv_iadd hx hb dX9_cut_69 ?_
        refine lv_topi (fun x18 ex18 => ?_)
        have ic18 : x18.toInt = w3_6.toInt + 1 := by rw [ex18]; exact ic_up (by have := i_rng w3_6; have := i_rng y5_7; have := i_rng r9; simp only [i_lt, i_le, i_eq, ti_m9, ti_m1, ti_0, ti_1, ti_2, ti_3, ti_4, ti_5, ti_6, ti_7, ti_9, ti_12, ti_20, ti_99, ti_700, ti_24, ti_156, ti_72, ti_8, ti_60, ti_543, ti_10, ti_33, ti_51, ti_178, ti_119, ti_111, ti_114, ti_100, ti_32, ti_62, ti_59, ti_48, ti_701, ti_97, ti_122, ti_57, ti_73, ti_128, ti_61] at hma3 hmb3 hlo6 c8 c11 c14 ⊢; omega)
        refine va_mmax hx hb (by rw [hml]; exact hl.1.symm) hown (wd_539 hE) (wd_540 hE) (wd_128 hE) (wd_541 hE) (Nat.le_of_ble_eq_true rfl) (Nat.le_of_ble_eq_true rfl) (Nat.le_of_ble_eq_true rfl) (Nat.le_of_ble_eq_true rfl) dX9_cut_70 ?_
        refine lv_topi (fun x19 ex19 => ?_)
        have hmn19 : r10 ≤ x19 ∧ x18 ≤ x19 := by rw [ex19]; exact i_max r10 x18
        obtain ⟨hma19, hmb19⟩ := hmn19
        refine lv_istore_n (lv' := [(3, .int x19), (5, .int r10), (4, .int r9), (0, .ref a0), (1, .ref a1), (2, .int v2)]) hx hb dX9_cut_73 rfl hl (by decide) rfl (fun ls hl => ?_)
        refine lv_goto (tgt := 22) hx hb dX9_cut_74 (by decide) ?_
        exact ih6 _ f17 _ _ _ (by have := i_rng x19; first | omega | (simp only [i_lt, i_le, i_eq, ti_m9, ti_m1, ti_0, ti_1, ti_2, ti_3, ti_4, ti_5, ti_6, ti_7, ti_9, ti_12, ti_20, ti_99, ti_700, ti_24, ti_156, ti_72, ti_8, ti_60, ti_543, ti_10, ti_33, ti_51, ti_178, ti_119, ti_111, ti_114, ti_100, ti_32, ti_62, ti_59, ti_48, ti_701, ti_97, ti_122, ti_57, ti_73, ti_128, ti_61, ic18] at hma3 hmb3 hlo6 c8 c11 c14 hma19 hmb19 ⊢; omega)) ⟨hok, hP, hS, x19, rfl, (by first | omega | (simp only [i_lt, i_le, i_eq, ti_m9, ti_m1, ti_0, ti_1, ti_2, ti_3, ti_4, ti_5, ti_6, ti_7, ti_9, ti_12, ti_20, ti_99, ti_700, ti_24, ti_156, ti_72, ti_8, ti_60, ti_543, ti_10, ti_33, ti_51, ti_178, ti_119, ti_111, ti_114, ti_100, ti_32, ti_62, ti_59, ti_48, ti_701, ti_97, ti_122, ti_57, ti_73, ti_128, ti_61, ic18] at hma3 hmb3 hlo6 c8 c11 c14 hma19 hmb19 ⊢; omega)), lv_sub hl [3, 4, 5, 0] rfl⟩

set_option maxHeartbeats 4000000 in
set_option maxRecDepth 100000 in
theorem t_X5_read (l : Launch) (dC : Nat → ClassId) (dI : Nat → Nat → Nat) (sz : Nat) (G : GT) (cs : Nat → ClassId) (tt mm : Nat) (adK adV : Nat → Nat) (a0 : Nat) (ha0 : Ty G a0 5) (a1 : Nat) (ha1 : Ty G a1 22) (na1 : Nat) (hna1 : gN G a1 = na1) (hma1 : na1 ≤ 700) (v2 : Int32) : Met l yX5_read [.code yX5_read cX5_read 4 (some .boolean)] ({ frames := 8, cells := 0, slots := 0, locals := 320 }) (PTX [.ref a0, .ref a1, .int v2] sz dC dI G cs tt mm adK adV (fun _ => True)) (va_Qi (fun (r : Int32) (u : Nat → va_E) => r = 0 ∨ r = 1) (BT dC dI G cs tt mm) (AT G sz)) 0 0 (AT G sz) := by
  refine Met.ofW (cc := cX5_read) (maxL := 4) (ret := (some .boolean)) (by decide) rfl ?_
  intro p e s m args below meth c s₁ B hml hv
  obtain ⟨rfl, hsz, ⟨f0, hok, hP, hX⟩, hK, hnd, hWT, hE, hXS, hZ0, hZ1, hZ2⟩ := hv
  have hx := B.exec
  have hb := B.bytes
  have hr := B.returns
  have hown : s.vm.findClass RX5 = some m.cls := findClass_of_methodNamed B.named
  have hlocks := B.notSynchronized
  subst hsz
  have hAL : ∀ a, a ∈ gL G → AT G s.heap.size a := fun a h => Or.inl h
  have hA : ∀ q : Nat, s.heap.size ≤ q → AT G s.heap.size q := fun q h => Or.inr h
  have hS : va_S (AT G s.heap.size) s.heap s.heap [] := va_S.rf
  have hl := lv_entry ([.ref a0, .ref a1, .int v2]) (n := 4) (Nat.le_of_ble_eq_true rfl)
  rw [lg_entry_eq]
  generalize (lg_sl ([.ref a0, .ref a1, .int v2]) ++ List.replicate (4 - (lg_sl ([.ref a0, .ref a1, .int v2])).length) Slot.unset).toArray = ls at hl ⊢
  have hl : lv_has ls 4 [(0, .ref a0), (1, .ref a1), (2, .int v2)] := hl
  refine lv_aload_n hx hb dX5_read_0 rfl (lv_at hl 0 rfl) ?_
  refine lv_iconst (v := 1) hx hb dX5_read_1 (by decide) ?_
  obtain ⟨y3_1, y4_1, y5_1, y6_1, y7_1, y8_1, y9_1, he1⟩ := ok_X5 hok ha0
  refine th_put (v := .int 1) (ty := .boolean) hx hb (ly_X5 hE) tyX5 tyX5_ok nmX5 hown hK hP hnd hAL hS ha0.1 he1 rfl 3 (by decide) (wd_230 hE) (fun _ h9 => h9) rfl (by decide +kernel) rfl rfl (Nat.le_of_ble_eq_true rfl) (up_X5 hok ha0 ⟨1, y4_1, y5_1, y6_1, y7_1, y8_1, y9_1, rfl⟩) dX5_read_2 (fun f2 H locs hfa2 hfo2 hok hP hS => ?_)
  refine lv_aload_n hx hb dX5_read_5 rfl (lv_at hl 0 rfl) ?_
  refine lv_iconst (v := 0) hx hb dX5_read_6 (by decide) ?_
  refine th_put (v := .int 0) (ty := .int) hx hb (ly_X5 hE) tyX5 tyX5_ok nmX5 hown hK hP hnd hAL hS ha0.1 hfa2 rfl 4 (by decide) (wd_231 hE) (fun _ h9 => h9) rfl (by decide +kernel) rfl rfl (Nat.le_of_ble_eq_true rfl) (up_X5 hok ha0 ⟨1, 0, y5_1, y6_1, y7_1, y8_1, y9_1, rfl⟩) dX5_read_7 (fun f3 H locs hfa3 hfo3 hok hP hS => ?_)
  refine lv_aload_n hx hb dX5_read_10 rfl (lv_at hl 0 rfl) ?_
  refine lv_iconst (v := 0) hx hb dX5_read_11 (by decide) ?_
  refine th_put (v := .int 0) (ty := .int) hx hb (ly_X5 hE) tyX5 tyX5_ok nmX5 hown hK hP hnd hAL hS ha0.1 hfa3 rfl 6 (by decide) (wd_233 hE) (fun _ h9 => h9) rfl (by decide +kernel) rfl rfl (Nat.le_of_ble_eq_true rfl) (up_X5 hok ha0 ⟨1, 0, y5_1, 0, y7_1, y8_1, y9_1, rfl⟩) dX5_read_12 (fun f4 H locs hfa4 hfo4 hok hP hS => ?_)
  refine lv_aload_n hx hb dX5_read_15 rfl (lv_at hl 0 rfl) ?_
  refine lv_iconst (v := 0) hx hb dX5_read_16 (by decide) ?_
  refine th_put (v := .int 0) (ty := .int) hx hb (ly_X5 hE) tyX5 tyX5_ok nmX5 hown hK hP hnd hAL hS ha0.1 hfa4 rfl 7 (by decide) (wd_234 hE) (fun _ h9 => h9) rfl (by decide +kernel) rfl rfl (Nat.le_of_ble_eq_true rfl) (up_X5 hok ha0 ⟨1, 0, y5_1, 0, 0, y8_1, y9_1, rfl⟩) dX5_read_17 (fun f5 H locs hfa5 hfo5 hok hP hS => ?_)
  refine lv_aload_n hx hb dX5_read_20 rfl (lv_at hl 0 rfl) ?_
  refine lv_iconst (v := -1) hx hb dX5_read_21 (by decide) ?_
  refine th_put (v := .int (-1)) (ty := .int) hx hb (ly_X5 hE) tyX5 tyX5_ok nmX5 hown hK hP hnd hAL hS ha0.1 hfa5 rfl 8 (by decide) (wd_235 hE) (fun _ h9 => h9) rfl (by decide +kernel) rfl rfl (Nat.le_of_ble_eq_true rfl) (up_X5 hok ha0 ⟨1, 0, y5_1, 0, 0, -1, y9_1, rfl⟩) dX5_read_22 (fun f6 H locs hfa6 hfo6 hok hP hS => ?_)
  refine lv_aload_n hx hb dX5_read_25 rfl (lv_at hl 0 rfl) ?_
  refine lv_iconst (v := -1) hx hb dX5_read_26 (by decide) ?_
  refine th_put (v := .int (-1)) (ty := .int) hx hb (ly_X5 hE) tyX5 tyX5_ok nmX5 hown hK hP hnd hAL hS ha0.1 hfa6 rfl 9 (by decide) (wd_236 hE) (fun _ h9 => h9) rfl (by decide +kernel) rfl rfl (Nat.le_of_ble_eq_true rfl) (up_X5 hok ha0 ⟨1, 0, y5_1, 0, 0, -1, -1, rfl⟩) dX5_read_27 (fun f7 H locs hfa7 hfo7 hok hP hS => ?_)
  refine lv_aload_n hx hb dX5_read_30 rfl (lv_at hl 0 rfl) ?_
  refine th_get hx hb (ly_X5 hE) hown hK hP ha0.1 hfa7 rfl 1 (by decide) (wd_228 hE) (fun _ h9 => h9) rfl dX5_read_31 ?_
  have he8 := ok_X7 hok (wt_X5_1 hWT ha0)
  refine tc_v hAL hS hA (va_runV (As := []) (rest := []) ⟨hx, hb, hml, hown, noTs⟩ (t_X7_clear l dC dI H.size G cs tt mm (gR G a0 1) ((wt_X5_1 hWT ha0))) ⟨cbE 0 (wd_444 hE) (wd_116 hE) (wd_441 hE) rfl rfl (by decide +kernel) ⟨Nat.le_of_ble_eq_true rfl, Nat.le_of_ble_eq_true rfl⟩, (wd_442 hE), (wd_443 hE)⟩ ⟨PT.blind, th_recv hK hP (wt_X5_1 hWT ha0).1 he8 rfl, (th_pre (av := [.ref (gR G a0 1)]) trivial hK hP hok hnd hWT hE)⟩ rfl rfl hl.1 rfl (lv_room (Nat.le_of_ble_eq_true rfl)) dX5_read_34 ⟨Nat.le_of_ble_eq_true rfl, Nat.le_of_ble_eq_true rfl⟩) (fun f9 H locs hr9 hok hP hS => ?_)
  refine lv_aload_n hx hb dX5_read_37 rfl (lv_at hl 0 rfl) ?_
  obtain ⟨y3_10, y4_10, y5_10, y6_10, y7_10, y8_10, y9_10, he10⟩ := ok_X5 hok ha0
  refine th_get hx hb (ly_X5 hE) hown hK hP ha0.1 he10 rfl 0 (by decide) (wd_227 hE) (fun _ h9 => h9) rfl dX5_read_38 ?_
  refine lv_aload_n hx hb dX5_read_41 rfl (lv_at hl 1 rfl) ?_
  refine lv_iload_n hx hb dX5_read_42 rfl (lv_at hl 2 rfl) ?_
  obtain ⟨y3_11, y4_11, y5_11, hy4_11, he11⟩ := ok_X9 hok (wt_X5_0 hWT ha0)
  refine tc_v hAL hS hA (va_runV (As := [.ref a1, .int v2]) (rest := []) ⟨hx, hb, hml, hown, noTs⟩ (t_X9_cut l dC dI H.size G cs tt mm adK adV (gR G a0 0) ((wt_X5_0 hWT ha0)) a1 ha1 na1 hna1 (by first | omega | exact (wt_bytes hWT ha1)) v2) ⟨cbE 2 (wd_451 hE) (wd_119 hE) (wd_448 hE) rfl rfl (by decide +kernel) ⟨Nat.le_of_ble_eq_true rfl, Nat.le_of_ble_eq_true rfl⟩, (wd_449 hE), (wd_450 hE)⟩ ⟨PTX.blind, th_recv hK hP (wt_X5_0 hWT ha0).1 he11 rfl, (tx_pre (av := [.ref (gR G a0 0), .ref a1, .int v2]) trivial hK hP hok hnd hWT hE hXS hZ0 hZ1 hZ2 hS)⟩ rfl rfl hl.1 rfl (lv_room (Nat.le_of_ble_eq_true rfl)) dX5_read_43 ⟨Nat.le_of_ble_eq_true rfl, Nat.le_of_ble_eq_true rfl⟩) (fun f12 H locs hr12 hok hP hS => ?_)
  refine lv_iconst (v := 0) hx hb dX5_read_46 (by decide) ?_
  refine lv_istore_n (lv' := [(3, .int 0), (0, .ref a0), (1, .ref a1), (2, .int v2)]) hx hb dX5_read_47 rfl hl (by decide) rfl (fun ls hl => ?_)
  refine w_ind (I := fun n f H locs ls => OKT G cs tt mm f ∧ va_P (dC, dI) vwCl (va_pl (gL G) f) H ∧ va_S (AT G s.heap.size) s.heap H locs ∧ ∃ (w3_13 : Int32), n = (2147483647 - w3_13.toInt).toNat ∧ 0 ≤ w3_13 ∧ lv_has ls 4 [(0, .ref a0), (1, .ref a1), (2, .int v2), (3, .int w3_13)]) (fun n f13 H locs ls hI ih13 => ?_) _ f12 _ _ _ ⟨hok, hP, hS, 0, rfl, (by first | omega | (simp only [i_lt, i_le, i_eq, ti_m9, ti_m1, ti_0, ti_1, ti_2, ti_3, ti_4, ti_5, ti_6, ti_7, ti_9, ti_12, ti_20, ti_99, ti_700, ti_24, ti_156, ti_72, ti_8, ti_60, ti_543, ti_10, ti_33, ti_51, ti_178, ti_119, ti_111, ti_114, ti_100, ti_32, ti_62, ti_59, ti_48, ti_701, ti_97, ti_122, ti_57, ti_73, ti_128, ti_61]; omega)), lv_sub hl [1, 2, 3, 0] rfl⟩
  obtain ⟨hok, hP, hS, w3_13, hmu13, hlo13, hl⟩ := hI
  subst hmu13
  refine lv_iload_n hx hb dX5_read_48 rfl (lv_at hl 3 rfl) ?_
  refine lv_sipush (v := 700) hx hb dX5_read_49 (by decide) ?_
  refine lv_icmp_ge (tgt := 124) hx hb dX5_read_52 (by decide) (fun c14 => ?_) (fun c14 => ?_)
  · refine lv_aload_n hx hb dX5_read_124 rfl (lv_at hl 0 rfl) ?_
    obtain ⟨y3_15, y4_15, y5_15, y6_15, y7_15, y8_15, y9_15, he15⟩ := ok_X5 hok ha0
    refine th_get hx hb (ly_X5 hE) hown hK hP ha0.1 he15 rfl 7 (by decide) (wd_234 hE) (fun _ h9 => h9) rfl dX5_read_125 ?_
    refine lv_if_ne (tgt := 135) hx hb dX5_read_128 (by decide) (fun c16 => ?_) (fun c16 => ?_)
    · refine lv_iconst (v := 0) hx hb dX5_read_135 (by decide) ?_
      exact W.zret (v := 0) hx hb hr rfl (fun t ht hW => ⟨⟨0, f13, rfl, Or.inl rfl, hok, by rw [ht]; exact hP⟩, hS.F ht⟩) hS.2.2 dX5_read_136
    · refine lv_iconst (v := 1) hx hb dX5_read_131 (by decide) ?_
      refine lv_goto (tgt := 136) hx hb dX5_read_132 (by decide) ?_
      exact W.zret (v := 1) hx hb hr rfl (fun t ht hW => ⟨⟨1, f13, rfl, Or.inr rfl, hok, by rw [ht]; exact hP⟩, hS.F ht⟩) hS.2.2 dX5_read_136
  · refine lv_aload_n hx hb dX5_read_55 rfl (lv_at hl 0 rfl) ?_
    obtain ⟨y3_17, y4_17, y5_17, y6_17, y7_17, y8_17, y9_17, he17⟩ := ok_X5 hok ha0
    refine th_get hx hb (ly_X5 hE) hown hK hP ha0.1 he17 rfl 7 (by decide) (wd_234 hE) (fun _ h9 => h9) rfl dX5_read_56 ?_
    refine lv_if_ne (tgt := 124) hx hb dX5_read_59 (by decide) (fun c18 => ?_) (fun c18 => ?_)
    · refine lv_aload_n hx hb dX5_read_124 rfl (lv_at hl 0 rfl) ?_
      refine th_get hx hb (ly_X5 hE) hown hK hP ha0.1 he17 rfl 7 (by decide) (wd_234 hE) (fun _ h9 => h9) rfl dX5_read_125 ?_
      refine lv_if_ne (tgt := 135) hx hb dX5_read_128 (by decide) (fun c19 => ?_) (fun c19 => ?_)
      · refine lv_iconst (v := 0) hx hb dX5_read_135 (by decide) ?_
        exact W.zret (v := 0) hx hb hr rfl (fun t ht hW => ⟨⟨0, f13, rfl, Or.inl rfl, hok, by rw [ht]; exact hP⟩, hS.F ht⟩) hS.2.2 dX5_read_136
      · refine lv_iconst (v := 1) hx hb dX5_read_131 (by decide) ?_
        refine lv_goto (tgt := 136) hx hb dX5_read_132 (by decide) ?_
        exact W.zret (v := 1) hx hb hr rfl (fun t ht hW => ⟨⟨1, f13, rfl, Or.inr rfl, hok, by rw [ht]; exact hP⟩, hS.F ht⟩) hS.2.2 dX5_read_136
    · refine lv_aload_n hx hb dX5_read_62 rfl (lv_at hl 0 rfl) ?_
      refine vp_callSi (va_Run.run (va_runV (As := []) (rest := []) ⟨hx, hb, hml, hown, noTs⟩ (t_X5_kind l dC dI H.size G cs tt mm a0 ha0) ⟨cbE 0 (wd_545 hE) (wd_118 hE) (wd_542 hE) rfl rfl (by decide +kernel) ⟨Nat.le_of_ble_eq_true rfl, Nat.le_of_ble_eq_true rfl⟩, (wd_544 hE), (wd_8 hE)⟩ ⟨PT.blind, th_recv hK hP ha0.1 he17 rfl, (th_pre (av := [.ref a0]) trivial hK hP hok hnd hWT hE)⟩ rfl rfl hl.1 rfl (lv_room (Nat.le_of_ble_eq_true rfl)) dX5_read_63 ⟨Nat.le_of_ble_eq_true rfl, Nat.le_of_ble_eq_true rfl⟩)) (fun r20 hr20 => ?_)
      refine lv_if_eq (tgt := 124) hx hb dX5_read_66 (by decide) (fun c21 => ?_) (fun c21 => ?_)
      · refine lv_aload_n hx hb dX5_read_124 rfl (lv_at hl 0 rfl) ?_
        refine th_get hx hb (ly_X5 hE) hown hK hP ha0.1 he17 rfl 7 (by decide) (wd_234 hE) (fun _ h9 => h9) rfl dX5_read_125 ?_
        refine lv_if_ne (tgt := 135) hx hb dX5_read_128 (by decide) (fun c22 => False.elim (by simp only [i_lt, i_le, i_eq, ti_m9, ti_m1, ti_0, ti_1, ti_2, ti_3, ti_4, ti_5, ti_6, ti_7, ti_9, ti_12, ti_20, ti_99, ti_700, ti_24, ti_156, ti_72, ti_8, ti_60, ti_543, ti_10, ti_33, ti_51, ti_178, ti_119, ti_111, ti_114, ti_100, ti_32, ti_62, ti_59, ti_48, ti_701, ti_97, ti_122, ti_57, ti_73, ti_128, ti_61] at hlo13 c14 c18 c21 c22; omega)) (fun c22 => ?_)
        refine lv_iconst (v := 1) hx hb dX5_read_131 (by decide) ?_
        refine lv_goto (tgt := 136) hx hb dX5_read_132 (by decide) ?_
        exact W.zret (v := 1) hx hb hr rfl (fun t ht hW => ⟨⟨1, f13, rfl, Or.inr rfl, hok, by rw [ht]; exact hP⟩, hS.F ht⟩) hS.2.2 dX5_read_136
      · refine lv_aload_n hx hb dX5_read_69 rfl (lv_at hl 0 rfl) ?_
        refine vp_callSi (va_Run.run (va_runV (As := []) (rest := []) ⟨hx, hb, hml, hown, noTs⟩ (t_X5_kind l dC dI H.size G cs tt mm a0 ha0) ⟨cbE 0 (wd_545 hE) (wd_118 hE) (wd_542 hE) rfl rfl (by decide +kernel) ⟨Nat.le_of_ble_eq_true rfl, Nat.le_of_ble_eq_true rfl⟩, (wd_544 hE), (wd_8 hE)⟩ ⟨PT.blind, th_recv hK hP ha0.1 he17 rfl, (th_pre (av := [.ref a0]) trivial hK hP hok hnd hWT hE)⟩ rfl rfl hl.1 rfl (lv_room (Nat.le_of_ble_eq_true rfl)) dX5_read_70 ⟨Nat.le_of_ble_eq_true rfl, Nat.le_of_ble_eq_true rfl⟩)) (fun r23 hr23 => ?_)
        by_cases t24 : r23 = 3
        · refine lv_lookup (tgt := 100) (off := 27) hx hb dX5_read_73 (by decide) (by rw [t24]; rfl) (by decide) ?_
          refine lv_aload_n hx hb dX5_read_100 rfl (lv_at hl 0 rfl) ?_
          refine tc_v hAL hS hA (va_runV (As := []) (rest := []) ⟨hx, hb, hml, hown, noTs⟩ (t_X5_readVertex l dC dI H.size G cs tt mm a0 ha0) ⟨cbE 0 (wd_553 hE) (wd_118 hE) (wd_550 hE) rfl rfl (by decide +kernel) ⟨Nat.le_of_ble_eq_true rfl, Nat.le_of_ble_eq_true rfl⟩, (wd_552 hE), (wd_9 hE)⟩ ⟨PT.blind, th_recv hK hP ha0.1 he17 rfl, (th_pre (av := [.ref a0]) trivial hK hP hok hnd hWT hE)⟩ rfl rfl hl.1 rfl (lv_room (Nat.le_of_ble_eq_true rfl)) dX5_read_101 ⟨Nat.le_of_ble_eq_true rfl, Nat.le_of_ble_eq_true rfl⟩) (fun f25 H locs hr25 hok hP hS => ?_)
          refine lv_goto (tgt := 118) hx hb dX5_read_104 (by decide) ?_
          obtain ⟨z26, ez26⟩ : ∃ z : Int32, z = w3_13 + 1 := ⟨_, rfl⟩
          refine lv_iinc (v := z26) (lv' := [(3, .int z26), (0, .ref a0), (1, .ref a1), (2, .int v2)]) hx hb dX5_read_118 hl (k := 3) rfl (by rw [ez26]; rfl) (by decide) rfl (fun ls hl => ?_)
          have ic26 : z26.toInt = w3_13.toInt + 1 := by rw [ez26]; exact ic_up (by have := i_rng w3_13; have := i_rng y7_17; have := i_rng r20; simp only [i_lt, i_le, i_eq, ti_m9, ti_m1, ti_0, ti_1, ti_2, ti_3, ti_4, ti_5, ti_6, ti_7, ti_9, ti_12, ti_20, ti_99, ti_700, ti_24, ti_156, ti_72, ti_8, ti_60, ti_543, ti_10, ti_33, ti_51, ti_178, ti_119, ti_111, ti_114, ti_100, ti_32, ti_62, ti_59, ti_48, ti_701, ti_97, ti_122, ti_57, ti_73, ti_128, ti_61] at hlo13 c14 c18 c21 ⊢; omega)
          refine lv_goto (tgt := 48) hx hb dX5_read_121 (by decide) ?_
          exact ih13 _ f25 _ _ _ (by have := i_rng z26; first | omega | (simp only [i_lt, i_le, i_eq, ti_m9, ti_m1, ti_0, ti_1, ti_2, ti_3, ti_4, ti_5, ti_6, ti_7, ti_9, ti_12, ti_20, ti_99, ti_700, ti_24, ti_156, ti_72, ti_8, ti_60, ti_543, ti_10, ti_33, ti_51, ti_178, ti_119, ti_111, ti_114, ti_100, ti_32, ti_62, ti_59, ti_48, ti_701, ti_97, ti_122, ti_57, ti_73, ti_128, ti_61, ic26] at hlo13 c14 c18 c21 ic26 ⊢; omega)) ⟨hok, hP, hS, z26, rfl, (by first | omega | (simp only [i_lt, i_le, i_eq, ti_m9, ti_m1, ti_0, ti_1, ti_2, ti_3, ti_4, ti_5, ti_6, ti_7, ti_9, ti_12, ti_20, ti_99, ti_700, ti_24, ti_156, ti_72, ti_8, ti_60, ti_543, ti_10, ti_33, ti_51, ti_178, ti_119, ti_111, ti_114, ti_100, ti_32, ti_62, ti_59, ti_48, ti_701, ti_97, ti_122, ti_57, ti_73, ti_128, ti_61, ic26] at hlo13 c14 c18 c21 ⊢; omega)), lv_sub hl [1, 2, 3, 0] rfl⟩
        by_cases t27 : r23 = 4
        · refine lv_lookup (tgt := 107) (off := 34) hx hb dX5_read_73 (by decide) (by rw [t27]; rfl) (by decide) ?_
          refine lv_aload_n hx hb dX5_read_107 rfl (lv_at hl 0 rfl) ?_
          refine tc_v hAL hS hA (va_runV (As := []) (rest := []) ⟨hx, hb, hml, hown, noTs⟩ (t_X5_readEdge l dC dI H.size G cs tt mm a0 ha0) ⟨cbE 0 (wd_594 hE) (wd_118 hE) (wd_591 hE) rfl rfl (by decide +kernel) ⟨Nat.le_of_ble_eq_true rfl, Nat.le_of_ble_eq_true rfl⟩, (wd_593 hE), (wd_15 hE)⟩ ⟨PT.blind, th_recv hK hP ha0.1 he17 rfl, (th_pre (av := [.ref a0]) trivial hK hP hok hnd hWT hE)⟩ rfl rfl hl.1 rfl (lv_room (Nat.le_of_ble_eq_true rfl)) dX5_read_108 ⟨Nat.le_of_ble_eq_true rfl, Nat.le_of_ble_eq_true rfl⟩) (fun f28 H locs hr28 hok hP hS => ?_)
          refine lv_goto (tgt := 118) hx hb dX5_read_111 (by decide) ?_
          obtain ⟨z29, ez29⟩ : ∃ z : Int32, z = w3_13 + 1 := ⟨_, rfl⟩
          refine lv_iinc (v := z29) (lv' := [(3, .int z29), (0, .ref a0), (1, .ref a1), (2, .int v2)]) hx hb dX5_read_118 hl (k := 3) rfl (by rw [ez29]; rfl) (by decide) rfl (fun ls hl => ?_)
          have ic29 : z29.toInt = w3_13.toInt + 1 := by rw [ez29]; exact ic_up (by have := i_rng w3_13; have := i_rng y7_17; have := i_rng r20; simp only [i_lt, i_le, i_eq, ti_m9, ti_m1, ti_0, ti_1, ti_2, ti_3, ti_4, ti_5, ti_6, ti_7, ti_9, ti_12, ti_20, ti_99, ti_700, ti_24, ti_156, ti_72, ti_8, ti_60, ti_543, ti_10, ti_33, ti_51, ti_178, ti_119, ti_111, ti_114, ti_100, ti_32, ti_62, ti_59, ti_48, ti_701, ti_97, ti_122, ti_57, ti_73, ti_128, ti_61] at hlo13 c14 c18 c21 ⊢; omega)
          refine lv_goto (tgt := 48) hx hb dX5_read_121 (by decide) ?_
          exact ih13 _ f28 _ _ _ (by have := i_rng z29; first | omega | (simp only [i_lt, i_le, i_eq, ti_m9, ti_m1, ti_0, ti_1, ti_2, ti_3, ti_4, ti_5, ti_6, ti_7, ti_9, ti_12, ti_20, ti_99, ti_700, ti_24, ti_156, ti_72, ti_8, ti_60, ti_543, ti_10, ti_33, ti_51, ti_178, ti_119, ti_111, ti_114, ti_100, ti_32, ti_62, ti_59, ti_48, ti_701, ti_97, ti_122, ti_57, ti_73, ti_128, ti_61, ic29] at hlo13 c14 c18 c21 ic29 ⊢; omega)) ⟨hok, hP, hS, z29, rfl, (by first | omega | (simp only [i_lt, i_le, i_eq, ti_m9, ti_m1, ti_0, ti_1, ti_2, ti_3, ti_4, ti_5, ti_6, ti_7, ti_9, ti_12, ti_20, ti_99, ti_700, ti_24, ti_156, ti_72, ti_8, ti_60, ti_543, ti_10, ti_33, ti_51, ti_178, ti_119, ti_111, ti_114, ti_100, ti_32, ti_62, ti_59, ti_48, ti_701, ti_97, ti_122, ti_57, ti_73, ti_128, ti_61, ic29] at hlo13 c14 c18 c21 ⊢; omega)), lv_sub hl [1, 2, 3, 0] rfl⟩
        refine lv_lookup (tgt := 114) (off := 41) hx hb dX5_read_73 (by decide) (by rw [lv_osw t24 (k := 3) (by decide)]; rw [lv_osw t27 (k := 4) (by decide)]; rfl) (by decide) ?_
        refine lv_aload_n hx hb dX5_read_114 rfl (lv_at hl 0 rfl) ?_
        refine tc_v hAL hS hA (va_runV (As := []) (rest := []) ⟨hx, hb, hml, hown, noTs⟩ (t_X5_readWalk l dC dI H.size G cs tt mm a0 ha0) ⟨cbE 0 (wd_629 hE) (wd_118 hE) (wd_626 hE) rfl rfl (by decide +kernel) ⟨Nat.le_of_ble_eq_true rfl, Nat.le_of_ble_eq_true rfl⟩, (wd_628 hE), (wd_18 hE)⟩ ⟨PT.blind, th_recv hK hP ha0.1 he17 rfl, (th_pre (av := [.ref a0]) trivial hK hP hok hnd hWT hE)⟩ rfl rfl hl.1 rfl (lv_room (Nat.le_of_ble_eq_true rfl)) dX5_read_115 ⟨Nat.le_of_ble_eq_true rfl, Nat.le_of_ble_eq_true rfl⟩) (fun f30 H locs hr30 hok hP hS => ?_)
        obtain ⟨z31, ez31⟩ : ∃ z : Int32, z = w3_13 + 1 := ⟨_, rfl⟩
        refine lv_iinc (v := z31) (lv' := [(3, .int z31), (0, .ref a0), (1, .ref a1), (2, .int v2)]) hx hb dX5_read_118 hl (k := 3) rfl (by rw [ez31]; rfl) (by decide) rfl (fun ls hl => ?_)
        have ic31 : z31.toInt = w3_13.toInt + 1 := by rw [ez31]; exact ic_up (by have := i_rng w3_13; have := i_rng y7_17; have := i_rng r20; simp only [i_lt, i_le, i_eq, ti_m9, ti_m1, ti_0, ti_1, ti_2, ti_3, ti_4, ti_5, ti_6, ti_7, ti_9, ti_12, ti_20, ti_99, ti_700, ti_24, ti_156, ti_72, ti_8, ti_60, ti_543, ti_10, ti_33, ti_51, ti_178, ti_119, ti_111, ti_114, ti_100, ti_32, ti_62, ti_59, ti_48, ti_701, ti_97, ti_122, ti_57, ti_73, ti_128, ti_61] at hlo13 c14 c18 c21 ⊢; omega)
        refine lv_goto (tgt := 48) hx hb dX5_read_121 (by decide) ?_
        exact ih13 _ f30 _ _ _ (by have := i_rng z31; first | omega | (simp only [i_lt, i_le, i_eq, ti_m9, ti_m1, ti_0, ti_1, ti_2, ti_3, ti_4, ti_5, ti_6, ti_7, ti_9, ti_12, ti_20, ti_99, ti_700, ti_24, ti_156, ti_72, ti_8, ti_60, ti_543, ti_10, ti_33, ti_51, ti_178, ti_119, ti_111, ti_114, ti_100, ti_32, ti_62, ti_59, ti_48, ti_701, ti_97, ti_122, ti_57, ti_73, ti_128, ti_61, ic31] at hlo13 c14 c18 c21 ic31 ⊢; omega)) ⟨hok, hP, hS, z31, rfl, (by first | omega | (simp only [i_lt, i_le, i_eq, ti_m9, ti_m1, ti_0, ti_1, ti_2, ti_3, ti_4, ti_5, ti_6, ti_7, ti_9, ti_12, ti_20, ti_99, ti_700, ti_24, ti_156, ti_72, ti_8, ti_60, ti_543, ti_10, ti_33, ti_51, ti_178, ti_119, ti_111, ti_114, ti_100, ti_32, ti_62, ti_59, ti_48, ti_701, ti_97, ti_122, ti_57, ti_73, ti_128, ti_61, ic31] at hlo13 c14 c18 c21 ⊢; omega)), lv_sub hl [1, 2, 3, 0] rfl⟩

set_option maxHeartbeats 4000000 in
set_option maxRecDepth 100000 in
theorem t_X11_load (l : Launch) (dC : Nat → ClassId) (dI : Nat → Nat → Nat) (sz : Nat) (G : GT) (cs : Nat → ClassId) (tt mm : Nat) (adK adV : Nat → Nat) (a0 : Nat) (ha0 : Ty G a0 11) (v1 : Int32) (hp0 : 0 ≤ v1.toInt) (hp1 : v1.toInt ≤ (tt : Int)) : Met l yX11_load [.code yX11_load cX11_load 2 (some .int)] ({ frames := 9, cells := 0, slots := 0, locals := 360 }) (PTX [.ref a0, .int v1] sz dC dI G cs tt mm adK adV (fun _ => True)) (va_Qi (fun (r : Int32) (u : Nat → va_E) => True) (BT dC dI G cs 0 mm) (AT G sz)) 0 0 (AT G sz) := by
  refine Met.ofW (cc := cX11_load) (maxL := 2) (ret := (some .int)) (by decide) rfl ?_
  intro p e s m args below meth c s₁ B hml hv
  obtain ⟨rfl, hsz, ⟨f0, hok, hP, hX⟩, hK, hnd, hWT, hE, hXS, hZ0, hZ1, hZ2⟩ := hv
  have hx := B.exec
  have hb := B.bytes
  have hr := B.returns
  have hown : s.vm.findClass RX11 = some m.cls := findClass_of_methodNamed B.named
  have hlocks := B.notSynchronized
  subst hsz
  have hAL : ∀ a, a ∈ gL G → AT G s.heap.size a := fun a h => Or.inl h
  have hA : ∀ q : Nat, s.heap.size ≤ q → AT G s.heap.size q := fun q h => Or.inr h
  have hS : va_S (AT G s.heap.size) s.heap s.heap [] := va_S.rf
  have hl := lv_entry ([.ref a0, .int v1]) (n := 2) (Nat.le_of_ble_eq_true rfl)
  rw [lg_entry_eq]
  generalize (lg_sl ([.ref a0, .int v1]) ++ List.replicate (2 - (lg_sl ([.ref a0, .int v1])).length) Slot.unset).toArray = ls at hl ⊢
  have hl : lv_has ls 2 [(0, .ref a0), (1, .int v1)] := hl
  refine lv_iload_n hx hb dX11_load_0 rfl (lv_at hl 1 rfl) ?_
  refine lv_if_lt (tgt := 12) hx hb dX11_load_1 (by decide) (fun c1 => False.elim (by simp only [i_lt, i_le, i_eq, ti_m9, ti_m1, ti_0, ti_1, ti_2, ti_3, ti_4, ti_5, ti_6, ti_7, ti_9, ti_12, ti_20, ti_99, ti_700, ti_24, ti_156, ti_72, ti_8, ti_60, ti_543, ti_10, ti_33, ti_51, ti_178, ti_119, ti_111, ti_114, ti_100, ti_32, ti_62, ti_59, ti_48, ti_701, ti_97, ti_122, ti_57, ti_73, ti_128, ti_61] at hp0 hp1 c1; omega)) (fun c1 => ?_)
  refine lv_iload_n hx hb dX11_load_4 rfl (lv_at hl 1 rfl) ?_
  refine lv_aload_n hx hb dX11_load_5 rfl (lv_at hl 0 rfl) ?_
  obtain ⟨y5_2, hy4_2, hy7_2, he2⟩ := ok_X11 hok ha0
  refine th_get hx hb (ly_X11 hE) hown hK hP ha0.1 he2 rfl 7 (by decide) (wd_366 hE) (fun _ h9 => h9) rfl dX11_load_6 ?_
  have nt3 : (nI tt).toInt = ((tt : Nat) : Int) := nI_toInt (by omega)
  refine lv_icmp_le (tgt := 18) hx hb dX11_load_9 (by decide) (fun c4 => ?_) (fun c4 => False.elim (by simp only [i_lt, i_le, i_eq, ti_m9, ti_m1, ti_0, ti_1, ti_2, ti_3, ti_4, ti_5, ti_6, ti_7, ti_9, ti_12, ti_20, ti_99, ti_700, ti_24, ti_156, ti_72, ti_8, ti_60, ti_543, ti_10, ti_33, ti_51, ti_178, ti_119, ti_111, ti_114, ti_100, ti_32, ti_62, ti_59, ti_48, ti_701, ti_97, ti_122, ti_57, ti_73, ti_128, ti_61, nt3] at hp0 hp1 c1 c4; omega))
  refine lv_aload_n hx hb dX11_load_18 rfl (lv_at hl 0 rfl) ?_
  refine lv_iconst (v := 0) hx hb dX11_load_19 (by decide) ?_
  refine th_put (v := .int (nI 0)) (ty := .int) hx hb (ly_X11 hE) tyX11 tyX11_ok nmX11 hown hK hP hnd hAL hS ha0.1 he2 rfl 7 (by decide) (wd_366 hE) (fun _ h9 => h9) rfl (by decide +kernel) rfl rfl (Nat.le_of_ble_eq_true rfl) (up_tm (t2 := 0) (m2 := mm) hWT hok ha0 ⟨y5_2, (by omega), (by first | omega | (simp only [i_lt, i_le, i_eq, ti_m9, ti_m1, ti_0, ti_1, ti_2, ti_3, ti_4, ti_5, ti_6, ti_7, ti_9, ti_12, ti_20, ti_99, ti_700, ti_24, ti_156, ti_72, ti_8, ti_60, ti_543, ti_10, ti_33, ti_51, ti_178, ti_119, ti_111, ti_114, ti_100, ti_32, ti_62, ti_59, ti_48, ti_701, ti_97, ti_122, ti_57, ti_73, ti_128, ti_61, nt3] at hp0 hp1 c1 c4 ⊢; omega)), rfl⟩) dX11_load_20 (fun f5 H locs hfa5 hfo5 hok hP hS => ?_)
  refine lv_aload_n hx hb dX11_load_23 rfl (lv_at hl 0 rfl) ?_
  refine th_get hx hb (ly_X11 hE) hown hK hP ha0.1 hfa5 rfl 8 (by decide) (wd_367 hE) (fun _ h9 => h9) rfl dX11_load_24 ?_
  refine lv_aload_n hx hb dX11_load_27 rfl (lv_at hl 0 rfl) ?_
  refine th_get hx hb (ly_X11 hE) hown hK hP ha0.1 hfa5 rfl 6 (by decide) (wd_365 hE) (fun _ h9 => h9) rfl dX11_load_28 ?_
  refine lv_iload_n hx hb dX11_load_31 rfl (lv_at hl 1 rfl) ?_
  obtain ⟨y3_6, y4_6, y5_6, y6_6, y7_6, y8_6, y9_6, he6⟩ := ok_X5 hok (wt_X11_8 hWT ha0)
  refine tc_i hAL hS hA (va_runV (As := [.ref (gR G a0 6), .int v1]) (rest := []) ⟨hx, hb, hml, hown, noTs⟩ (t_X5_read l dC dI H.size G cs 0 mm adK adV (gR G a0 8) ((wt_X11_8 hWT ha0)) (gR G a0 6) ((wt_X11_6 hWT ha0)) 700 ((wl_X11_6 hWT ha0)) (by first | omega | exact (wt_bytes hWT (wt_X11_6 hWT ha0))) v1) ⟨cbE 2 (wd_440 hE) (wd_118 hE) (wd_437 hE) rfl rfl (by decide +kernel) ⟨Nat.le_of_ble_eq_true rfl, Nat.le_of_ble_eq_true rfl⟩, (wd_438 hE), (wd_439 hE)⟩ ⟨PTX.blind, th_recv hK hP (wt_X11_8 hWT ha0).1 he6 rfl, (tx_pre (av := [.ref (gR G a0 8), .ref (gR G a0 6), .int v1]) trivial hK hP hok hnd hWT hE hXS hZ0 hZ1 hZ2 hS)⟩ rfl rfl hl.1 rfl (lv_room (Nat.le_of_ble_eq_true rfl)) dX11_load_32 ⟨Nat.le_of_ble_eq_true rfl, Nat.le_of_ble_eq_true rfl⟩) (fun r7 f7 H locs hr7 hok hP hS => ?_)
  refine lv_if_ne (tgt := 45) hx hb dX11_load_35 (by decide) (fun c8 => ?_) (fun c8 => ?_)
  · refine lv_aload_n hx hb dX11_load_45 rfl (lv_at hl 0 rfl) ?_
    obtain ⟨y5_9, hy4_9, hy7_9, he9⟩ := ok_X11 hok ha0
    refine th_get hx hb (ly_X11 hE) hown hK hP ha0.1 he9 rfl 1 (by decide) (wd_360 hE) (fun _ h9 => h9) rfl dX11_load_46 ?_
    refine lv_aload_n hx hb dX11_load_49 rfl (lv_at hl 0 rfl) ?_
    refine th_get hx hb (ly_X11 hE) hown hK hP ha0.1 he9 rfl 0 (by decide) (wd_359 hE) (fun _ h9 => h9) rfl dX11_load_50 ?_
    obtain ⟨y1_10, y2_10, he10⟩ := ok_X3 hok (wt_X11_1 hWT ha0)
    refine tc_v hAL hS hA (va_runV (As := [.ref (gR G a0 0)]) (rest := []) ⟨hx, hb, hml, hown, noTs⟩ (t_X3_push l dC dI H.size G cs 0 mm (gR G a0 1) ((wt_X11_1 hWT ha0)) (gR G a0 0) ((wt_X11_0 hWT ha0))) ⟨cbE 1 (wd_725 hE) (wd_117 hE) (wd_722 hE) rfl rfl (by decide +kernel) ⟨Nat.le_of_ble_eq_true rfl, Nat.le_of_ble_eq_true rfl⟩, (wd_723 hE), (wd_724 hE)⟩ ⟨PT.blind, th_recv hK hP (wt_X11_1 hWT ha0).1 he10 rfl, (th_pre (av := [.ref (gR G a0 1), .ref (gR G a0 0)]) trivial hK hP hok hnd hWT hE)⟩ rfl rfl hl.1 rfl (lv_room (Nat.le_of_ble_eq_true rfl)) dX11_load_53 ⟨Nat.le_of_ble_eq_true rfl, Nat.le_of_ble_eq_true rfl⟩) (fun f11 H locs hr11 hok hP hS => ?_)
    refine lv_aload_n hx hb dX11_load_56 rfl (lv_at hl 0 rfl) ?_
    obtain ⟨y5_12, hy4_12, hy7_12, he12⟩ := ok_X11 hok ha0
    refine th_get hx hb (ly_X11 hE) hown hK hP ha0.1 he12 rfl 0 (by decide) (wd_359 hE) (fun _ h9 => h9) rfl dX11_load_57 ?_
    refine lv_aload_n hx hb dX11_load_60 rfl (lv_at hl 0 rfl) ?_
    refine th_get hx hb (ly_X11 hE) hown hK hP ha0.1 he12 rfl 8 (by decide) (wd_367 hE) (fun _ h9 => h9) rfl dX11_load_61 ?_
    obtain ⟨y3_13, y4_13, y5_13, y6_13, y7_13, y8_13, y9_13, he13⟩ := ok_X5 hok (wt_X11_8 hWT ha0)
    refine va_csq (va_Run.run (va_runV (As := []) (rest := [.ref (gR G a0 0)]) ⟨hx, hb, hml, hown, noTs⟩ (t_X5_result l dC dI H.size G cs 0 mm (gR G a0 8) ((wt_X11_8 hWT ha0))) ⟨cbE 0 (wd_742 hE) (wd_118 hE) (wd_739 hE) rfl rfl (by decide +kernel) ⟨Nat.le_of_ble_eq_true rfl, Nat.le_of_ble_eq_true rfl⟩, (wd_740 hE), (wd_741 hE)⟩ ⟨PT.blind, th_recv hK hP (wt_X11_8 hWT ha0).1 he13 rfl, (th_pre (av := [.ref (gR G a0 8)]) trivial hK hP hok hnd hWT hE)⟩ rfl rfl hl.1 rfl (lv_room (Nat.le_of_ble_eq_true rfl)) dX11_load_64 ⟨Nat.le_of_ble_eq_true rfl, Nat.le_of_ble_eq_true rfl⟩)) (fun r14 hr14 => ?_)
    obtain ⟨q14, rfl, hq14⟩ := hr14
    refine W.eq (g2 := F0 m 67 ls [.ref q14, .ref (gR G a0 0)]) rfl ?_
    have he15 := ok_X7 hok (wt_X11_0 hWT ha0)
    refine tc_v hAL hS hA (va_runV (As := [.ref q14]) (rest := []) ⟨hx, hb, hml, hown, noTs⟩ (t_X7_copyFrom l dC dI H.size G cs 0 mm (gR G a0 0) ((wt_X11_0 hWT ha0)) q14 hq14) ⟨cbE 1 (wd_734 hE) (wd_116 hE) (wd_743 hE) rfl rfl (by decide +kernel) ⟨Nat.le_of_ble_eq_true rfl, Nat.le_of_ble_eq_true rfl⟩, (wd_732 hE), (wd_733 hE)⟩ ⟨PT.blind, th_recv hK hP (wt_X11_0 hWT ha0).1 he15 rfl, (th_pre (av := [.ref (gR G a0 0), .ref q14]) trivial hK hP hok hnd hWT hE)⟩ rfl rfl hl.1 rfl (lv_room (Nat.le_of_ble_eq_true rfl)) dX11_load_67 ⟨Nat.le_of_ble_eq_true rfl, Nat.le_of_ble_eq_true rfl⟩) (fun f16 H locs hr16 hok hP hS => ?_)
    refine lv_aload_n hx hb dX11_load_70 rfl (lv_at hl 0 rfl) ?_
    refine lv_aload_n hx hb dX11_load_71 rfl (lv_at hl 0 rfl) ?_
    obtain ⟨y5_17, hy4_17, hy7_17, he17⟩ := ok_X11 hok ha0
    refine th_get hx hb (ly_X11 hE) hown hK hP ha0.1 he17 rfl 0 (by decide) (wd_359 hE) (fun _ h9 => h9) rfl dX11_load_72 ?_
    have he18 := ok_X7 hok (wt_X11_0 hWT ha0)
    refine vp_callSi (va_Run.run (va_runV (As := []) (rest := [.ref a0]) ⟨hx, hb, hml, hown, noTs⟩ (t_X7_words l dC dI H.size G cs 0 mm (gR G a0 0) ((wt_X11_0 hWT ha0))) ⟨cbE 0 (wd_700 hE) (wd_116 hE) (wd_744 hE) rfl rfl (by decide +kernel) ⟨Nat.le_of_ble_eq_true rfl, Nat.le_of_ble_eq_true rfl⟩, (wd_698 hE), (wd_699 hE)⟩ ⟨PT.blind, th_recv hK hP (wt_X11_0 hWT ha0).1 he18 rfl, (th_pre (av := [.ref (gR G a0 0)]) trivial hK hP hok hnd hWT hE)⟩ rfl rfl hl.1 rfl (lv_room (Nat.le_of_ble_eq_true rfl)) dX11_load_75 ⟨Nat.le_of_ble_eq_true rfl, Nat.le_of_ble_eq_true rfl⟩)) (fun r19 hr19 => ?_)
    refine tc_i hAL hS hA (va_runV (As := [.int r19]) (rest := []) ⟨hx, hb, hml, hown, noTs⟩ (t_X11_answer l dC dI H.size G cs 0 mm a0 ha0 r19) ⟨cbE 1 (wd_748 hE) (wd_115 hE) (wd_745 hE) rfl rfl (by decide +kernel) ⟨Nat.le_of_ble_eq_true rfl, Nat.le_of_ble_eq_true rfl⟩, (wd_747 hE), (wd_23 hE)⟩ ⟨PT.blind, th_recv hK hP ha0.1 he17 rfl, (th_pre (av := [.ref a0, .int r19]) trivial hK hP hok hnd hWT hE)⟩ rfl rfl hl.1 rfl (lv_room (Nat.le_of_ble_eq_true rfl)) dX11_load_78 ⟨Nat.le_of_ble_eq_true rfl, Nat.le_of_ble_eq_true rfl⟩) (fun r20 f20 H locs hr20 hok hP hS => ?_)
    refine W.eq (g2 := F0 m 81 ls [.int r19]) (by rw [hr20]) ?_
    exact W.iret (v := r19) hx hb hr (fun t ht hW => ⟨⟨r19, f20, rfl, trivial, hok, by rw [ht]; exact hP⟩, hS.F ht⟩) hS.2.2 dX11_load_81
  · refine lv_aload_n hx hb dX11_load_38 rfl (lv_at hl 0 rfl) ?_
    refine lv_bipush (v := 9) hx hb dX11_load_39 (by decide) ?_
    obtain ⟨y5_21, hy4_21, hy7_21, he21⟩ := ok_X11 hok ha0
    refine tc_i hAL hS hA (va_runV (As := [.int 9]) (rest := []) ⟨hx, hb, hml, hown, noTs⟩ (t_X11_fail l dC dI H.size G cs 0 mm a0 ha0 9) ⟨cbE 1 (wd_436 hE) (wd_115 hE) (wd_433 hE) rfl rfl (by decide +kernel) ⟨Nat.le_of_ble_eq_true rfl, Nat.le_of_ble_eq_true rfl⟩, (wd_435 hE), (wd_1 hE)⟩ ⟨PT.blind, th_recv hK hP ha0.1 he21 rfl, (th_pre (av := [.ref a0, .int 9]) trivial hK hP hok hnd hWT hE)⟩ rfl rfl hl.1 rfl (lv_room (Nat.le_of_ble_eq_true rfl)) dX11_load_41 ⟨Nat.le_of_ble_eq_true rfl, Nat.le_of_ble_eq_true rfl⟩) (fun r22 f22 H locs hr22 hok hP hS => ?_)
    subst hr22
    exact W.iret (v := -1) hx hb hr (fun t ht hW => ⟨⟨-1, f22, rfl, trivial, hok, by rw [ht]; exact hP⟩, hS.F ht⟩) hS.2.2 dX11_load_44

set_option maxHeartbeats 4000000 in
set_option maxRecDepth 100000 in
theorem t_X11_load_no (l : Launch) (dC : Nat → ClassId) (dI : Nat → Nat → Nat) (sz : Nat) (G : GT) (cs : Nat → ClassId) (tt mm : Nat) (a0 : Nat) (ha0 : Ty G a0 11) (v1 : Int32) (hp0 : v1.toInt < 0 ∨ (tt : Int) < v1.toInt) : Met l yX11_load [.code yX11_load cX11_load 2 (some .int)] ({ frames := 1, cells := 0, slots := 0, locals := 40 }) (PT [.ref a0, .int v1] sz dC dI G cs tt mm (fun _ => True)) (va_Qi (fun (r : Int32) (u : Nat → va_E) => True) (BT dC dI G cs tt mm) (AT G sz)) 0 0 (AT G sz) := by
  refine Met.ofW (cc := cX11_load) (maxL := 2) (ret := (some .int)) (by decide) rfl ?_
  intro p e s m args below meth c s₁ B hml hv
  obtain ⟨rfl, hsz, ⟨f0, hok, hP, hX⟩, hK, hnd, hWT, hE⟩ := hv
  have hx := B.exec
  have hb := B.bytes
  have hr := B.returns
  have hown : s.vm.findClass RX11 = some m.cls := findClass_of_methodNamed B.named
  have hlocks := B.notSynchronized
  subst hsz
  have hAL : ∀ a, a ∈ gL G → AT G s.heap.size a := fun a h => Or.inl h
  have hA : ∀ q : Nat, s.heap.size ≤ q → AT G s.heap.size q := fun q h => Or.inr h
  have hS : va_S (AT G s.heap.size) s.heap s.heap [] := va_S.rf
  have hl := lv_entry ([.ref a0, .int v1]) (n := 2) (Nat.le_of_ble_eq_true rfl)
  rw [lg_entry_eq]
  generalize (lg_sl ([.ref a0, .int v1]) ++ List.replicate (2 - (lg_sl ([.ref a0, .int v1])).length) Slot.unset).toArray = ls at hl ⊢
  have hl : lv_has ls 2 [(0, .ref a0), (1, .int v1)] := hl
  refine lv_iload_n hx hb dX11_load_0 rfl (lv_at hl 1 rfl) ?_
  refine lv_if_lt (tgt := 12) hx hb dX11_load_1 (by decide) (fun c1 => ?_) (fun c1 => ?_)
  · refine lv_aload_n hx hb dX11_load_12 rfl (lv_at hl 0 rfl) ?_
    refine lv_iconst (v := 1) hx hb dX11_load_13 (by decide) ?_
    obtain ⟨y5_2, hy4_2, hy7_2, he2⟩ := ok_X11 hok ha0
    refine tc_i hAL hS hA (va_runV (As := [.int 1]) (rest := []) ⟨hx, hb, hml, hown, noTs⟩ (t_X11_fail l dC dI s.heap.size G cs tt mm a0 ha0 1) ⟨cbE 1 (wd_436 hE) (wd_115 hE) (wd_433 hE) rfl rfl (by decide +kernel) ⟨Nat.le_of_ble_eq_true rfl, Nat.le_of_ble_eq_true rfl⟩, (wd_435 hE), (wd_1 hE)⟩ ⟨PT.blind, th_recv hK hP ha0.1 he2 rfl, (th_pre (av := [.ref a0, .int 1]) trivial hK hP hok hnd hWT hE)⟩ rfl rfl hl.1 rfl (lv_room (Nat.le_of_ble_eq_true rfl)) dX11_load_14 ⟨Nat.le_of_ble_eq_true rfl, Nat.le_of_ble_eq_true rfl⟩) (fun r3 f3 H locs hr3 hok hP hS => ?_)
    subst hr3
    exact W.iret (v := -1) hx hb hr (fun t ht hW => ⟨⟨-1, f3, rfl, trivial, hok, by rw [ht]; exact hP⟩, hS.F ht⟩) hS.2.2 dX11_load_17
  · refine lv_iload_n hx hb dX11_load_4 rfl (lv_at hl 1 rfl) ?_
    refine lv_aload_n hx hb dX11_load_5 rfl (lv_at hl 0 rfl) ?_
    obtain ⟨y5_4, hy4_4, hy7_4, he4⟩ := ok_X11 hok ha0
    refine th_get hx hb (ly_X11 hE) hown hK hP ha0.1 he4 rfl 7 (by decide) (wd_366 hE) (fun _ h9 => h9) rfl dX11_load_6 ?_
    have nt5 : (nI tt).toInt = ((tt : Nat) : Int) := nI_toInt (by omega)
    refine lv_icmp_le (tgt := 18) hx hb dX11_load_9 (by decide) (fun c6 => False.elim (by simp only [i_lt, i_le, i_eq, ti_m9, ti_m1, ti_0, ti_1, ti_2, ti_3, ti_4, ti_5, ti_6, ti_7, ti_9, ti_12, ti_20, ti_99, ti_700, ti_24, ti_156, ti_72, ti_8, ti_60, ti_543, ti_10, ti_33, ti_51, ti_178, ti_119, ti_111, ti_114, ti_100, ti_32, ti_62, ti_59, ti_48, ti_701, ti_97, ti_122, ti_57, ti_73, ti_128, ti_61, nt5] at hp0 c1 c6; omega)) (fun c6 => ?_)
    refine lv_aload_n hx hb dX11_load_12 rfl (lv_at hl 0 rfl) ?_
    refine lv_iconst (v := 1) hx hb dX11_load_13 (by decide) ?_
    refine tc_i hAL hS hA (va_runV (As := [.int 1]) (rest := []) ⟨hx, hb, hml, hown, noTs⟩ (t_X11_fail l dC dI s.heap.size G cs tt mm a0 ha0 1) ⟨cbE 1 (wd_436 hE) (wd_115 hE) (wd_433 hE) rfl rfl (by decide +kernel) ⟨Nat.le_of_ble_eq_true rfl, Nat.le_of_ble_eq_true rfl⟩, (wd_435 hE), (wd_1 hE)⟩ ⟨PT.blind, th_recv hK hP ha0.1 he4 rfl, (th_pre (av := [.ref a0, .int 1]) trivial hK hP hok hnd hWT hE)⟩ rfl rfl hl.1 rfl (lv_room (Nat.le_of_ble_eq_true rfl)) dX11_load_14 ⟨Nat.le_of_ble_eq_true rfl, Nat.le_of_ble_eq_true rfl⟩) (fun r7 f7 H locs hr7 hok hP hS => ?_)
    subst hr7
    exact W.iret (v := -1) hx hb hr (fun t ht hW => ⟨⟨-1, f7, rfl, trivial, hok, by rw [ht]; exact hP⟩, hS.F ht⟩) hS.2.2 dX11_load_17
