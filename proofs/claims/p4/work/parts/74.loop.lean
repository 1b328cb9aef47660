/-- the law's end: 1 -/
theorem law_exit {p : Program} {e : Env} {s : State} {m : MethodId} {below : List Frame} {meth : Method} {c : Code} (l : Launch) {b L : Nat} {xs : Nat → Int32} (C0 : lw_At p s m meth c b L xs) {H : Heap} {locs : List Loc} {ls : Array Slot} {cells slots : Nat} (hS : va_S (AL s) s.heap H locs) (hc : cells ≤ 600000) (hs : slots ≤ 7302250) :
    W p l e room_1 s m #[Value.ref b] below meth c H locs cells slots (lw_Z below #[Value.ref b] s) (F0 m 1637 ls []) := by
  obtain ⟨hx, hb, hr, hml, hown, hts, hX, hbl, hlocks, hgv⟩ := id C0
  refine lv_iconst (v := 1) hx hb dL_law_1637 (by decide) ?_
  refine va_forget (fun q hq => hS.2.2 q hq) ?_
  refine W.widen (k := 600000) (n := 7302250) hc hs ?_
  exact lw_ret hx hb hr hlocks dL_law_1638

set_option maxHeartbeats 4000000 in
set_option maxRecDepth 100000 in
theorem law_loop {p : Program} {e : Env} {s : State} {m : MethodId} {below : List Frame} {meth : Method} {c : Code} (l : Launch) {b L : Nat} {xs : Nat → Int32} {cells slots : Nat} (C0 : lw_At p s m meth c b L xs) (hL : L ≤ 3072) (hcc : cells ≤ 600000) (hss : slots ≤ 7302250) (dC : Nat → ClassId) (dI : Nat → Nat → Nat) (G : GT) (cs cr : Nat → ClassId) (br adK adV : Nat → Nat) (hW : LWD s dC dI G cs cr br adK adV) (bq : Nat → Nat) (hQX : QXD s G br bq) (hT : Ty G (bq 11) 11) : ∀ (n i tt mm : Nat) (f : Nat → va_E) (u v : RS) (H : Heap) (locs : List Loc) (ls : Array Slot), L + 6 - i = n → i ≤ L + 6 → OKT G cs tt mm f → va_P (dC, dI) vwCl (va_pl (gL G) f) H → KP dC dI cr br u cs bq v H → IV5 u v tt mm → tt ≤ 700 → mm ≤ 3 → va_S (AL s) s.heap H locs → lv_has ls 4 [(0, .ref b), (1, .ref (bq 11)), (2, .ref (br 0)), (3, .int (nI i))] → W p l e room_1 s m #[Value.ref b] below meth c H locs cells slots (lw_Z below #[Value.ref b] s) (F0 m 18 ls []) := by
  obtain ⟨hx, hb, hr, hml, hown, hts, hX, hbl, hlocks, hgv⟩ := id C0
  have hbA : ¬ AL s b := Nat.not_le.mpr hbl
  intro n
  induction n using Nat.strongRecOn with
  | ind n ih =>
  intro i tt mm f u v H locs ls hn hiL hok hP hP2 hI5 htt hmm hS hl
  refine lv_iload_n hx hb dL_law_18 rfl (lv_at hl 3 rfl) ?_
  refine lv_aload_n hx hb dL_law_19 rfl (lv_at hl 0 rfl) ?_
  refine va_slen hx hb hX hbl hbA hS dL_law_20 ?_
  refine lv_bipush (v := 6) hx hb dL_law_21 (by decide) ?_
  refine lv_isub hx hb dL_law_23 ?_
  refine lv_topi (fun z ez => ?_)
  have hz : z.toInt = (L : Int) - 6 := by rw [ez]; exact z_sub (nI_toInt (n := L) (by omega)) (show Int32.toInt 6 = 6 from rfl) (by omega) (by omega)
  refine lv_icmp_gt (tgt := 1637) hx hb dL_law_24 (by decide) (fun _ => law_exit l C0 hS hcc hss) (fun h => ?_)
  have h := mt (b_lt hz (nI_toInt (n := i) (by omega))).mpr h
  have hi : i + 6 ≤ L := by omega
  have next : ∀ (tt mm : Nat) (f : Nat → va_E) (u v : RS) (H : Heap) (locs : List Loc) (ls : Array Slot), OKT G cs tt mm f → va_P (dC, dI) vwCl (va_pl (gL G) f) H → KP dC dI cr br u cs bq v H → IV5 u v tt mm → tt ≤ 700 → mm ≤ 3 → va_S (AL s) s.heap H locs → lv_has ls 4 [(0, .ref b), (1, .ref (bq 11)), (2, .ref (br 0)), (3, .int (nI i))] → W p l e room_1 s m #[Value.ref b] below meth c H locs cells slots (lw_Z below #[Value.ref b] s) (F0 m 1631 ls []) := by
    intro tt mm f u v H locs ls hok hP hP2 hI5 htt hmm hS hl
    refine lv_iinc (v := nI (i + 6)) (lv' := [(3, .int (nI (i + 6))), (0, .ref b), (1, .ref (bq 11)), (2, .ref (br 0))]) hx hb dL_law_1631 hl (k := 3) rfl (by rw [← nI_add]; rfl) (by decide) rfl (fun ls hl => ?_)
    refine lv_goto (tgt := 18) hx hb dL_law_1634 (by decide) ?_
    exact ih (L + 6 - (i + 6)) (by omega) (i + 6) tt mm f u v H locs ls rfl (by omega) hok hP hP2 hI5 htt hmm hS (lv_sub hl [1, 2, 3, 0] rfl)
  refine lv_aload_n hx hb dL_law_27 rfl (lv_at hl 0 rfl) ?_
  refine lv_iload_n hx hb dL_law_28 rfl (lv_at hl 3 rfl) ?_
  refine va_sld hx hb hX hbl hbA hS (vp_in_nI (by omega) (by omega)) dL_law_29 ?_
  refine lv_topi (fun w ew => ?_)
  refine lv_bipush (v := 63) hx hb dL_law_30 (by decide) ?_
  refine lv_iand hx hb dL_law_32 ?_
  refine lv_topi (fun y ey => ?_)
  obtain ⟨j, hj, ej⟩ := pk_andE w (m := 63) 6 (by decide)
  obtain rfl : y = nI j := ey.trans ej
  have hj : j < 64 := hj
  rcases Nat.lt_or_ge j 49 with h49 | h49
  · match j, h49 with
    | 0, _ => exact lv_tableIn (tgt := 244) hx hb dL_law_33 (by decide) (by decide) rfl (by decide) (law_0 l C0 hL hcc hss dC dI G cs cr br adK adV hW bq hQX hT tt mm f u v H locs ls hok hP hP2 hI5 htt hmm hS i hi hl next)
    | 1, _ => exact lv_tableIn (tgt := 257) hx hb dL_law_33 (by decide) (by decide) rfl (by decide) (law_1 l C0 hL hcc hss dC dI G cs cr br adK adV hW bq hQX hT tt mm f u v H locs ls hok hP hP2 hI5 htt hmm hS i hi hl next)
    | 2, _ => exact lv_tableIn (tgt := 320) hx hb dL_law_33 (by decide) (by decide) rfl (by decide) (law_2 l C0 hL hcc hss dC dI G cs cr br adK adV hW bq hQX hT tt mm f u v H locs ls hok hP hP2 hI5 htt hmm hS i hi hl next)
    | 3, _ => exact lv_tableIn (tgt := 343) hx hb dL_law_33 (by decide) (by decide) rfl (by decide) (law_3 l C0 hL hcc hss dC dI G cs cr br adK adV hW bq hQX hT tt mm f u v H locs ls hok hP hP2 hI5 htt hmm hS i hi hl next)
    | 4, _ => exact lv_tableIn (tgt := 366) hx hb dL_law_33 (by decide) (by decide) rfl (by decide) (law_4 l C0 hL hcc hss dC dI G cs cr br adK adV hW bq hQX hT tt mm f u v H locs ls hok hP hP2 hI5 htt hmm hS i hi hl next)
    | 5, _ => exact lv_tableIn (tgt := 389) hx hb dL_law_33 (by decide) (by decide) rfl (by decide) (law_5 l C0 hL hcc hss dC dI G cs cr br adK adV hW bq hQX hT tt mm f u v H locs ls hok hP hP2 hI5 htt hmm hS i hi hl next)
    | 6, _ => exact lv_tableIn (tgt := 412) hx hb dL_law_33 (by decide) (by decide) rfl (by decide) (law_6 l C0 hL hcc hss dC dI G cs cr br adK adV hW bq hQX hT tt mm f u v H locs ls hok hP hP2 hI5 htt hmm hS i hi hl next)
    | 7, _ => exact lv_tableIn (tgt := 445) hx hb dL_law_33 (by decide) (by decide) rfl (by decide) (law_7 l C0 hL hcc hss dC dI G cs cr br adK adV hW bq hQX hT tt mm f u v H locs ls hok hP hP2 hI5 htt hmm hS i hi hl next)
    | 8, _ => exact lv_tableIn (tgt := 478) hx hb dL_law_33 (by decide) (by decide) rfl (by decide) (law_8 l C0 hL hcc hss dC dI G cs cr br adK adV hW bq hQX hT tt mm f u v H locs ls hok hP hP2 hI5 htt hmm hS i hi hl next)
    | 9, _ => exact lv_tableIn (tgt := 511) hx hb dL_law_33 (by decide) (by decide) rfl (by decide) (law_9 l C0 hL hcc hss dC dI G cs cr br adK adV hW bq hQX hT tt mm f u v H locs ls hok hP hP2 hI5 htt hmm hS i hi hl next)
    | 10, _ => exact lv_tableIn (tgt := 544) hx hb dL_law_33 (by decide) (by decide) rfl (by decide) (law_10 l C0 hL hcc hss dC dI G cs cr br adK adV hW bq hQX hT tt mm f u v H locs ls hok hP hP2 hI5 htt hmm hS i hi hl next)
    | 11, _ => exact lv_tableIn (tgt := 577) hx hb dL_law_33 (by decide) (by decide) rfl (by decide) (law_11 l C0 hL hcc hss dC dI G cs cr br adK adV hW bq hQX hT tt mm f u v H locs ls hok hP hP2 hI5 htt hmm hS i hi hl next)
    | 12, _ => exact lv_tableIn (tgt := 600) hx hb dL_law_33 (by decide) (by decide) rfl (by decide) (law_12 l C0 hL hcc hss dC dI G cs cr br adK adV hW bq hQX hT tt mm f u v H locs ls hok hP hP2 hI5 htt hmm hS i hi hl next)
    | 13, _ => exact lv_tableIn (tgt := 633) hx hb dL_law_33 (by decide) (by decide) rfl (by decide) (law_13 l C0 hL hcc hss dC dI G cs cr br adK adV hW bq hQX hT tt mm f u v H locs ls hok hP hP2 hI5 htt hmm hS i hi hl next)
    | 14, _ => exact lv_tableIn (tgt := 656) hx hb dL_law_33 (by decide) (by decide) rfl (by decide) (law_14 l C0 hL hcc hss dC dI G cs cr br adK adV hW bq hQX hT tt mm f u v H locs ls hok hP hP2 hI5 htt hmm hS i hi hl next)
    | 15, _ => exact lv_tableIn (tgt := 689) hx hb dL_law_33 (by decide) (by decide) rfl (by decide) (law_15 l C0 hL hcc hss dC dI G cs cr br adK adV hW bq hQX hT tt mm f u v H locs ls hok hP hP2 hI5 htt hmm hS i hi hl next)
    | 16, _ => exact lv_tableIn (tgt := 712) hx hb dL_law_33 (by decide) (by decide) rfl (by decide) (law_16 l C0 hL hcc hss dC dI G cs cr br adK adV hW bq hQX hT tt mm f u v H locs ls hok hP hP2 hI5 htt hmm hS i hi hl next)
    | 17, _ => exact lv_tableIn (tgt := 755) hx hb dL_law_33 (by decide) (by decide) rfl (by decide) (law_17 l C0 hL hcc hss dC dI G cs cr br adK adV hW bq hQX hT tt mm f u v H locs ls hok hP hP2 hI5 htt hmm hS i hi hl next)
    | 18, _ => exact lv_tableIn (tgt := 778) hx hb dL_law_33 (by decide) (by decide) rfl (by decide) (law_18 l C0 hL hcc hss dC dI G cs cr br adK adV hW bq hQX hT tt mm f u v H locs ls hok hP hP2 hI5 htt hmm hS i hi hl next)
    | 19, _ => exact lv_tableIn (tgt := 791) hx hb dL_law_33 (by decide) (by decide) rfl (by decide) (law_19 l C0 hL hcc hss dC dI G cs cr br adK adV hW bq hQX hT tt mm f u v H locs ls hok hP hP2 hI5 htt hmm hS i hi hl next)
    | 20, _ => exact lv_tableIn (tgt := 804) hx hb dL_law_33 (by decide) (by decide) rfl (by decide) (law_20 l C0 hL hcc hss dC dI G cs cr br adK adV hW bq hQX hT tt mm f u v H locs ls hok hP hP2 hI5 htt hmm hS i hi hl next)
    | 21, _ => exact lv_tableIn (tgt := 817) hx hb dL_law_33 (by decide) (by decide) rfl (by decide) (law_21 l C0 hL hcc hss dC dI G cs cr br adK adV hW bq hQX hT tt mm f u v H locs ls hok hP hP2 hI5 htt hmm hS i hi hl next)
    | 22, _ => exact lv_tableIn (tgt := 850) hx hb dL_law_33 (by decide) (by decide) rfl (by decide) (law_22 l C0 hL hcc hss dC dI G cs cr br adK adV hW bq hQX hT tt mm f u v H locs ls hok hP hP2 hI5 htt hmm hS i hi hl next)
    | 23, _ => exact lv_tableIn (tgt := 873) hx hb dL_law_33 (by decide) (by decide) rfl (by decide) (law_23 l C0 hL hcc hss dC dI G cs cr br adK adV hW bq hQX hT tt mm f u v H locs ls hok hP hP2 hI5 htt hmm hS i hi hl next)
    | 24, _ => exact lv_tableIn (tgt := 896) hx hb dL_law_33 (by decide) (by decide) rfl (by decide) (law_24 l C0 hL hcc hss dC dI G cs cr br adK adV hW bq hQX hT tt mm f u v H locs ls hok hP hP2 hI5 htt hmm hS i hi hl next)
    | 25, _ => exact lv_tableIn (tgt := 919) hx hb dL_law_33 (by decide) (by decide) rfl (by decide) (law_25 l C0 hL hcc hss dC dI G cs cr br adK adV hW bq hQX hT tt mm f u v H locs ls hok hP hP2 hI5 htt hmm hS i hi hl next)
    | 26, _ => exact lv_tableIn (tgt := 952) hx hb dL_law_33 (by decide) (by decide) rfl (by decide) (law_26 l C0 hL hcc hss dC dI G cs cr br adK adV hW bq hQX hT tt mm f u v H locs ls hok hP hP2 hI5 htt hmm hS i hi hl next)
    | 27, _ => exact lv_tableIn (tgt := 995) hx hb dL_law_33 (by decide) (by decide) rfl (by decide) (law_27 l C0 hL hcc hss dC dI G cs cr br adK adV hW bq hQX hT tt mm f u v H locs ls hok hP hP2 hI5 htt hmm hS i hi hl next)
    | 28, _ => exact lv_tableIn (tgt := 1018) hx hb dL_law_33 (by decide) (by decide) rfl (by decide) (law_28 l C0 hL hcc hss dC dI G cs cr br adK adV hW bq hQX hT tt mm f u v H locs ls hok hP hP2 hI5 htt hmm hS i hi hl next)
    | 29, _ => exact lv_tableIn (tgt := 1051) hx hb dL_law_33 (by decide) (by decide) rfl (by decide) (law_29 l C0 hL hcc hss dC dI G cs cr br adK adV hW bq hQX hT tt mm f u v H locs ls hok hP hP2 hI5 htt hmm hS i hi hl next)
    | 30, _ => exact lv_tableIn (tgt := 1084) hx hb dL_law_33 (by decide) (by decide) rfl (by decide) (law_30 l C0 hL hcc hss dC dI G cs cr br adK adV hW bq hQX hT tt mm f u v H locs ls hok hP hP2 hI5 htt hmm hS i hi hl next)
    | 31, _ => exact lv_tableIn (tgt := 1107) hx hb dL_law_33 (by decide) (by decide) rfl (by decide) (law_31 l C0 hL hcc hss dC dI G cs cr br adK adV hW bq hQX hT tt mm f u v H locs ls hok hP hP2 hI5 htt hmm hS i hi hl next)
    | 32, _ => exact lv_tableIn (tgt := 1140) hx hb dL_law_33 (by decide) (by decide) rfl (by decide) (law_32 l C0 hL hcc hss dC dI G cs cr br adK adV hW bq hQX hT tt mm f u v H locs ls hok hP hP2 hI5 htt hmm hS i hi hl next)
    | 33, _ => exact lv_tableIn (tgt := 1163) hx hb dL_law_33 (by decide) (by decide) rfl (by decide) (law_33 l C0 hL hcc hss dC dI G cs cr br adK adV hW bq hQX hT tt mm f u v H locs ls hok hP hP2 hI5 htt hmm hS i hi hl next)
    | 34, _ => exact lv_tableIn (tgt := 1196) hx hb dL_law_33 (by decide) (by decide) rfl (by decide) (law_34 l C0 hL hcc hss dC dI G cs cr br adK adV hW bq hQX hT tt mm f u v H locs ls hok hP hP2 hI5 htt hmm hS i hi hl next)
    | 35, _ => exact lv_tableIn (tgt := 1219) hx hb dL_law_33 (by decide) (by decide) rfl (by decide) (law_35 l C0 hL hcc hss dC dI G cs cr br adK adV hW bq hQX hT tt mm f u v H locs ls hok hP hP2 hI5 htt hmm hS i hi hl next)
    | 36, _ => exact lv_tableIn (tgt := 1242) hx hb dL_law_33 (by decide) (by decide) rfl (by decide) (law_36 l C0 hL hcc hss dC dI G cs cr br adK adV hW bq hQX hT tt mm f u v H locs ls hok hP hP2 hI5 htt hmm hS i hi hl next)
    | 37, _ => exact lv_tableIn (tgt := 1275) hx hb dL_law_33 (by decide) (by decide) rfl (by decide) (law_37 l C0 hL hcc hss dC dI G cs cr br adK adV hW bq hQX hT tt mm f u v H locs ls hok hP hP2 hI5 htt hmm hS i hi hl next)
    | 38, _ => exact lv_tableIn (tgt := 1308) hx hb dL_law_33 (by decide) (by decide) rfl (by decide) (law_38 l C0 hL hcc hss dC dI G cs cr br adK adV hW bq hQX hT tt mm f u v H locs ls hok hP hP2 hI5 htt hmm hS i hi hl next)
    | 39, _ => exact lv_tableIn (tgt := 1351) hx hb dL_law_33 (by decide) (by decide) rfl (by decide) (law_39 l C0 hL hcc hss dC dI G cs cr br adK adV hW bq hQX hT tt mm f u v H locs ls hok hP hP2 hI5 htt hmm hS i hi hl next)
    | 40, _ => exact lv_tableIn (tgt := 1384) hx hb dL_law_33 (by decide) (by decide) rfl (by decide) (law_40 l C0 hL hcc hss dC dI G cs cr br adK adV hW bq hQX hT tt mm f u v H locs ls hok hP hP2 hI5 htt hmm hS i hi hl next)
    | 41, _ => exact lv_tableIn (tgt := 1417) hx hb dL_law_33 (by decide) (by decide) rfl (by decide) (law_41 l C0 hL hcc hss dC dI G cs cr br adK adV hW bq hQX hT tt mm f u v H locs ls hok hP hP2 hI5 htt hmm hS i hi hl next)
    | 42, _ => exact lv_tableIn (tgt := 1450) hx hb dL_law_33 (by decide) (by decide) rfl (by decide) (law_42 l C0 hL hcc hss dC dI G cs cr br adK adV hW bq hQX hT tt mm f u v H locs ls hok hP hP2 hI5 htt hmm hS i hi hl next)
    | 43, _ => exact lv_tableIn (tgt := 1483) hx hb dL_law_33 (by decide) (by decide) rfl (by decide) (law_43 l C0 hL hcc hss dC dI G cs cr br adK adV hW bq hQX hT tt mm f u v H locs ls hok hP hP2 hI5 htt hmm hS i hi hl next)
    | 44, _ => exact lv_tableIn (tgt := 1506) hx hb dL_law_33 (by decide) (by decide) rfl (by decide) (law_44 l C0 hL hcc hss dC dI G cs cr br adK adV hW bq hQX hT tt mm f u v H locs ls hok hP hP2 hI5 htt hmm hS i hi hl next)
    | 45, _ => exact lv_tableIn (tgt := 1539) hx hb dL_law_33 (by decide) (by decide) rfl (by decide) (law_45 l C0 hL hcc hss dC dI G cs cr br adK adV hW bq hQX hT tt mm f u v H locs ls hok hP hP2 hI5 htt hmm hS i hi hl next)
    | 46, _ => exact lv_tableIn (tgt := 1562) hx hb dL_law_33 (by decide) (by decide) rfl (by decide) (law_46 l C0 hL hcc hss dC dI G cs cr br adK adV hW bq hQX hT tt mm f u v H locs ls hok hP hP2 hI5 htt hmm hS i hi hl next)
    | 47, _ => exact lv_tableIn (tgt := 1585) hx hb dL_law_33 (by decide) (by decide) rfl (by decide) (law_47 l C0 hL hcc hss dC dI G cs cr br adK adV hW bq hQX hT tt mm f u v H locs ls hok hP hP2 hI5 htt hmm hS i hi hl next)
    | 48, _ => exact lv_tableIn (tgt := 1608) hx hb dL_law_33 (by decide) (by decide) rfl (by decide) (law_48 l C0 hL hcc hss dC dI G cs cr br adK adV hW bq hQX hT tt mm f u v H locs ls hok hP hP2 hI5 htt hmm hS i hi hl next)
    | j + 49, h49 => exact absurd h49 (by omega)
  · exact lv_tableOut (tgt := 1631) hx hb dL_law_33 (by rw [nI_toInt (by omega)]; omega) (by decide) (next tt mm f u v H locs ls hok hP hP2 hI5 htt hmm hS hl)
