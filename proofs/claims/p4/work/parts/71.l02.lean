set_option maxHeartbeats 4000000 in
set_option maxRecDepth 100000 in
theorem law_39 {p : Program} {e : Env} {s : State} {m : MethodId} {below : List Frame} {meth : Method} {c : Code} (l : Launch) {b L : Nat} {xs : Nat → Int32} {cells slots : Nat} (C0 : lw_At p s m meth c b L xs) (hL : L ≤ 3072) (hcc : cells ≤ 600000) (hss : slots ≤ 7302250) (dC : Nat → ClassId) (dI : Nat → Nat → Nat) (G : GT) (cs cr : Nat → ClassId) (br adK adV : Nat → Nat) (hW : LWD s dC dI G cs cr br adK adV) (bq : Nat → Nat) (hQX : QXD s G br bq) (hT : Ty G (bq 11) 11) (tt mm : Nat) (f : Nat → va_E) (u v : RS) (H : Heap) (locs : List Loc) (ls : Array Slot) (hok : OKT G cs tt mm f) (hP : va_P (dC, dI) vwCl (va_pl (gL G) f) H) (hP2 : KP dC dI cr br u cs bq v H) (hI5 : IV5 u v tt mm) (htt : tt ≤ 700) (hmm : mm ≤ 3) (hS : va_S (AL s) s.heap H locs) (i : Nat) (hi : i + 6 ≤ L) (hl : lv_has ls 4 [(0, .ref b), (1, .ref (bq 11)), (2, .ref (br 0)), (3, .int (nI i))]) (hk : ∀ (tt mm : Nat) (f : Nat → va_E) (u v : RS) (H : Heap) (locs : List Loc) (ls : Array Slot), OKT G cs tt mm f → va_P (dC, dI) vwCl (va_pl (gL G) f) H → KP dC dI cr br u cs bq v H → IV5 u v tt mm → tt ≤ 700 → mm ≤ 3 → va_S (AL s) s.heap H locs → lv_has ls 4 [(0, .ref b), (1, .ref (bq 11)), (2, .ref (br 0)), (3, .int (nI i))] → W p l e room_1 s m #[Value.ref b] below meth c H locs cells slots (lw_Z below #[Value.ref b] s) (F0 m 1631 ls [])) : W p l e room_1 s m #[Value.ref b] below meth c H locs cells slots (lw_Z below #[Value.ref b] s) (F0 m 1351 ls []) := by
  obtain ⟨hx, hb, hr, hml, hown, hts, hX, hbl, hlocks, hgv⟩ := id C0
  have hE := hW.2.2.2.2.2.1
  have hIV := hI5.1
  have hbA : ¬ AL s b := Nat.not_le.mpr hbl
  refine lv_aload_n hx hb dL_law_1351 rfl (lv_at hl 1 rfl) ?_
  refine lv_aload_n hx hb dL_law_1352 rfl (lv_at hl 0 rfl) ?_
  refine lv_iload_n hx hb dL_law_1353 rfl (lv_at hl 3 rfl) ?_
  refine lv_iconst (v := 1) hx hb dL_law_1354 (by decide) ?_
  refine lv_iadd hx hb dL_law_1355 ?_
  refine W.eq (g2 := F0 m 1356 ls (.int (nI (i + 1)) :: [.ref b, .ref (bq 11)])) (congrArg (fun z : Int32 => F0 m 1356 ls (.int z :: [.ref b, .ref (bq 11)])) (nI_add i 1)) ?_
  refine va_sld hx hb hX hbl hbA hS (vp_in_nI (by omega) (by omega)) dL_law_1356 ?_
  refine lv_topi (fun y1 ey1 => ?_)
  refine lv_aload_n hx hb dL_law_1357 rfl (lv_at hl 0 rfl) ?_
  refine lv_iload_n hx hb dL_law_1358 rfl (lv_at hl 3 rfl) ?_
  refine lv_iconst (v := 2) hx hb dL_law_1359 (by decide) ?_
  refine lv_iadd hx hb dL_law_1360 ?_
  refine W.eq (g2 := F0 m 1361 ls (.int (nI (i + 2)) :: [.ref b, .int y1, .ref (bq 11)])) (congrArg (fun z : Int32 => F0 m 1361 ls (.int z :: [.ref b, .int y1, .ref (bq 11)])) (nI_add i 2)) ?_
  refine va_sld hx hb hX hbl hbA hS (vp_in_nI (by omega) (by omega)) dL_law_1361 ?_
  refine lv_topi (fun y2 ey2 => ?_)
  obtain ⟨y3, hz3a, hz3b, he3⟩ := ok_X11 hok hT
  refine lx_l hW hQX hP2 hS (va_runV (As := [.int y1, .int y2]) (rest := []) ⟨hx, hb, hml, hown, noTs⟩ (t_X11_holds l dC dI H.size G cs tt mm (bq 11) hT y1 y2) ⟨cbE 2 (wd_1267 hE) (wd_115 hE) (wd_1264 hE) rfl rfl (by decide +kernel) ⟨Nat.le_of_ble_eq_true rfl, Nat.le_of_ble_eq_true rfl⟩, (wd_1265 hE), (wd_1266 hE)⟩ ⟨PT.blind, th_recv hW.1 hP hT.1 he3 rfl, (th_pre (av := [.ref (bq 11), .int y1, .int y2]) trivial hW.1 hP hok hW.2.2.1 hW.2.2.2.1 hE)⟩ rfl rfl hl.1 rfl (lv_room (Nat.le_of_ble_eq_true rfl)) dL_law_1362 ⟨hcc, hss⟩) (fun r3 f H locs hr3 hok hP hP2 hS => ?_)
  refine lv_pop2_2 hx hb dL_law_1365 rfl ?_
  refine lv_aload_n hx hb dL_law_1366 rfl (lv_at hl 2 rfl) ?_
  refine lv_aload_n hx hb dL_law_1367 rfl (lv_at hl 0 rfl) ?_
  refine lv_iload_n hx hb dL_law_1368 rfl (lv_at hl 3 rfl) ?_
  refine lv_iconst (v := 1) hx hb dL_law_1369 (by decide) ?_
  refine lv_iadd hx hb dL_law_1370 ?_
  refine W.eq (g2 := F0 m 1371 ls (.int (nI (i + 1)) :: [.ref b, .ref (br 0)])) (congrArg (fun z : Int32 => F0 m 1371 ls (.int z :: [.ref b, .ref (br 0)])) (nI_add i 1)) ?_
  refine va_sld hx hb hX hbl hbA hS (vp_in_nI (by omega) (by omega)) dL_law_1371 ?_
  refine lv_topi (fun y4 ey4 => ?_)
  refine lv_aload_n hx hb dL_law_1372 rfl (lv_at hl 0 rfl) ?_
  refine lv_iload_n hx hb dL_law_1373 rfl (lv_at hl 3 rfl) ?_
  refine lv_iconst (v := 2) hx hb dL_law_1374 (by decide) ?_
  refine lv_iadd hx hb dL_law_1375 ?_
  refine W.eq (g2 := F0 m 1376 ls (.int (nI (i + 2)) :: [.ref b, .int y4, .ref (br 0)])) (congrArg (fun z : Int32 => F0 m 1376 ls (.int z :: [.ref b, .int y4, .ref (br 0)])) (nI_add i 2)) ?_
  refine va_sld hx hb hX hbl hbA hS (vp_in_nI (by omega) (by omega)) dL_law_1376 ?_
  refine lv_topi (fun y5 ey5 => ?_)
  obtain ⟨ac, hac, hF2⟩ := hIV.2.1
  obtain ⟨v0, hv0, hF15⟩ := hIV.2.2.2.2.1
  obtain ⟨oo, hoo, hF30⟩ := hIV.2.2.2.2.2
  have hAB := hIV.1
  have hBG := ab_0 hAB
  have hGG := bg_g hBG
  refine ly_l hW hQX hP hP2.2 hS (va_runV (As := [.int y4, .int y5]) (rest := []) ⟨hx, hb, hml, hown, noTs⟩ (r_X12_holds l dC dI H.size cr br u (rA u 1) rfl y4 y5 (by first | assumption | omega)) ⟨cbE 2 (wd_1884 hE) (wd_126 hE) (wd_1881 hE) rfl rfl (by decide +kernel) ⟨Nat.le_of_ble_eq_true rfl, Nat.le_of_ble_eq_true rfl⟩, (wd_1882 hE), (wd_1883 hE)⟩ ⟨PR.blind, r_recv hW.2.1 hP2.1 rfl, (r_pre (av := [.ref (br 0), .int y4, .int y5]) hW.2.1 hP2.1 hW.2.2.2.2.1 hE)⟩ rfl rfl hl.1 rfl (lv_room (Nat.le_of_ble_eq_true rfl)) dL_law_1377 ⟨hcc, hss⟩) (fun r6 u6 H locs hpo6 hP2 hP hS => ?_)
  obtain ⟨hr6, hq6⟩ := hpo6
  have hIV2 : IV u6 tt mm := iv_fr hIV hq6 (by decide) (by decide) (by decide) (by decide) (by decide) (by decide)
  have hI52 : IV5 u6 v _ _ := ⟨hIV2, tf_fr hI5.2 hq6 (by decide) (by decide) (by decide) (by decide)⟩
  refine lv_pop2_2 hx hb dL_law_1380 rfl ?_
  refine lv_goto (tgt := 1631) hx hb dL_law_1381 (by decide) ?_
  exact hk _ _ _ _ _ _ _ _ hok hP hP2 hI52 (by omega) (by omega) hS (lv_sub hl [0, 1, 2, 3] rfl)
set_option maxHeartbeats 4000000 in
set_option maxRecDepth 100000 in
theorem law_40 {p : Program} {e : Env} {s : State} {m : MethodId} {below : List Frame} {meth : Method} {c : Code} (l : Launch) {b L : Nat} {xs : Nat → Int32} {cells slots : Nat} (C0 : lw_At p s m meth c b L xs) (hL : L ≤ 3072) (hcc : cells ≤ 600000) (hss : slots ≤ 7302250) (dC : Nat → ClassId) (dI : Nat → Nat → Nat) (G : GT) (cs cr : Nat → ClassId) (br adK adV : Nat → Nat) (hW : LWD s dC dI G cs cr br adK adV) (bq : Nat → Nat) (hQX : QXD s G br bq) (hT : Ty G (bq 11) 11) (tt mm : Nat) (f : Nat → va_E) (u v : RS) (H : Heap) (locs : List Loc) (ls : Array Slot) (hok : OKT G cs tt mm f) (hP : va_P (dC, dI) vwCl (va_pl (gL G) f) H) (hP2 : KP dC dI cr br u cs bq v H) (hI5 : IV5 u v tt mm) (htt : tt ≤ 700) (hmm : mm ≤ 3) (hS : va_S (AL s) s.heap H locs) (i : Nat) (hi : i + 6 ≤ L) (hl : lv_has ls 4 [(0, .ref b), (1, .ref (bq 11)), (2, .ref (br 0)), (3, .int (nI i))]) (hk : ∀ (tt mm : Nat) (f : Nat → va_E) (u v : RS) (H : Heap) (locs : List Loc) (ls : Array Slot), OKT G cs tt mm f → va_P (dC, dI) vwCl (va_pl (gL G) f) H → KP dC dI cr br u cs bq v H → IV5 u v tt mm → tt ≤ 700 → mm ≤ 3 → va_S (AL s) s.heap H locs → lv_has ls 4 [(0, .ref b), (1, .ref (bq 11)), (2, .ref (br 0)), (3, .int (nI i))] → W p l e room_1 s m #[Value.ref b] below meth c H locs cells slots (lw_Z below #[Value.ref b] s) (F0 m 1631 ls [])) : W p l e room_1 s m #[Value.ref b] below meth c H locs cells slots (lw_Z below #[Value.ref b] s) (F0 m 1384 ls []) := by
  obtain ⟨hx, hb, hr, hml, hown, hts, hX, hbl, hlocks, hgv⟩ := id C0
  have hE := hW.2.2.2.2.2.1
  have hIV := hI5.1
  have hbA : ¬ AL s b := Nat.not_le.mpr hbl
  refine lv_aload_n hx hb dL_law_1384 rfl (lv_at hl 1 rfl) ?_
  refine lv_aload_n hx hb dL_law_1385 rfl (lv_at hl 0 rfl) ?_
  refine lv_iload_n hx hb dL_law_1386 rfl (lv_at hl 3 rfl) ?_
  refine lv_iconst (v := 1) hx hb dL_law_1387 (by decide) ?_
  refine lv_iadd hx hb dL_law_1388 ?_
  refine W.eq (g2 := F0 m 1389 ls (.int (nI (i + 1)) :: [.ref b, .ref (bq 11)])) (congrArg (fun z : Int32 => F0 m 1389 ls (.int z :: [.ref b, .ref (bq 11)])) (nI_add i 1)) ?_
  refine va_sld hx hb hX hbl hbA hS (vp_in_nI (by omega) (by omega)) dL_law_1389 ?_
  refine lv_topi (fun y1 ey1 => ?_)
  refine lv_aload_n hx hb dL_law_1390 rfl (lv_at hl 0 rfl) ?_
  refine lv_iload_n hx hb dL_law_1391 rfl (lv_at hl 3 rfl) ?_
  refine lv_iconst (v := 2) hx hb dL_law_1392 (by decide) ?_
  refine lv_iadd hx hb dL_law_1393 ?_
  refine W.eq (g2 := F0 m 1394 ls (.int (nI (i + 2)) :: [.ref b, .int y1, .ref (bq 11)])) (congrArg (fun z : Int32 => F0 m 1394 ls (.int z :: [.ref b, .int y1, .ref (bq 11)])) (nI_add i 2)) ?_
  refine va_sld hx hb hX hbl hbA hS (vp_in_nI (by omega) (by omega)) dL_law_1394 ?_
  refine lv_topi (fun y2 ey2 => ?_)
  obtain ⟨y3, hz3a, hz3b, he3⟩ := ok_X11 hok hT
  refine lx_i hW hQX hP2 hS (va_runV (As := [.int y1, .int y2]) (rest := []) ⟨hx, hb, hml, hown, noTs⟩ (t_X11_axis l dC dI H.size G cs tt mm (bq 11) hT y1 y2) ⟨cbE 2 (wd_1281 hE) (wd_115 hE) (wd_1278 hE) rfl rfl (by decide +kernel) ⟨Nat.le_of_ble_eq_true rfl, Nat.le_of_ble_eq_true rfl⟩, (wd_1279 hE), (wd_1280 hE)⟩ ⟨PT.blind, th_recv hW.1 hP hT.1 he3 rfl, (th_pre (av := [.ref (bq 11), .int y1, .int y2]) trivial hW.1 hP hok hW.2.2.1 hW.2.2.2.1 hE)⟩ rfl rfl hl.1 rfl (lv_room (Nat.le_of_ble_eq_true rfl)) dL_law_1395 ⟨hcc, hss⟩) (fun r3 f H locs hr3 hok hP hP2 hS => ?_)
  refine lv_pop hx hb dL_law_1398 rfl ?_
  refine lv_aload_n hx hb dL_law_1399 rfl (lv_at hl 2 rfl) ?_
  refine lv_aload_n hx hb dL_law_1400 rfl (lv_at hl 0 rfl) ?_
  refine lv_iload_n hx hb dL_law_1401 rfl (lv_at hl 3 rfl) ?_
  refine lv_iconst (v := 1) hx hb dL_law_1402 (by decide) ?_
  refine lv_iadd hx hb dL_law_1403 ?_
  refine W.eq (g2 := F0 m 1404 ls (.int (nI (i + 1)) :: [.ref b, .ref (br 0)])) (congrArg (fun z : Int32 => F0 m 1404 ls (.int z :: [.ref b, .ref (br 0)])) (nI_add i 1)) ?_
  refine va_sld hx hb hX hbl hbA hS (vp_in_nI (by omega) (by omega)) dL_law_1404 ?_
  refine lv_topi (fun y4 ey4 => ?_)
  refine lv_aload_n hx hb dL_law_1405 rfl (lv_at hl 0 rfl) ?_
  refine lv_iload_n hx hb dL_law_1406 rfl (lv_at hl 3 rfl) ?_
  refine lv_iconst (v := 2) hx hb dL_law_1407 (by decide) ?_
  refine lv_iadd hx hb dL_law_1408 ?_
  refine W.eq (g2 := F0 m 1409 ls (.int (nI (i + 2)) :: [.ref b, .int y4, .ref (br 0)])) (congrArg (fun z : Int32 => F0 m 1409 ls (.int z :: [.ref b, .int y4, .ref (br 0)])) (nI_add i 2)) ?_
  refine va_sld hx hb hX hbl hbA hS (vp_in_nI (by omega) (by omega)) dL_law_1409 ?_
  refine lv_topi (fun y5 ey5 => ?_)
  obtain ⟨ac, hac, hF2⟩ := hIV.2.1
  obtain ⟨v0, hv0, hF15⟩ := hIV.2.2.2.2.1
  obtain ⟨oo, hoo, hF30⟩ := hIV.2.2.2.2.2
  have hAB := hIV.1
  have hBG := ab_0 hAB
  have hGG := bg_g hBG
  refine ly_i hW hQX hP hP2.2 hS (va_runV (As := [.int y4, .int y5]) (rest := []) ⟨hx, hb, hml, hown, noTs⟩ (r_X12_axis l dC dI H.size cr br u (rA u 1) rfl y4 y5 (by first | assumption | omega)) ⟨cbE 2 (wd_1936 hE) (wd_126 hE) (wd_1933 hE) rfl rfl (by decide +kernel) ⟨Nat.le_of_ble_eq_true rfl, Nat.le_of_ble_eq_true rfl⟩, (wd_1934 hE), (wd_1935 hE)⟩ ⟨PR.blind, r_recv hW.2.1 hP2.1 rfl, (r_pre (av := [.ref (br 0), .int y4, .int y5]) hW.2.1 hP2.1 hW.2.2.2.2.1 hE)⟩ rfl rfl hl.1 rfl (lv_room (Nat.le_of_ble_eq_true rfl)) dL_law_1410 ⟨hcc, hss⟩) (fun r6 u6 H locs hpo6 hP2 hP hS => ?_)
  obtain ⟨hr6, hq6⟩ := hpo6
  have hIV2 : IV u6 tt mm := iv_fr hIV hq6 (by decide) (by decide) (by decide) (by decide) (by decide) (by decide)
  have hI52 : IV5 u6 v _ _ := ⟨hIV2, tf_fr hI5.2 hq6 (by decide) (by decide) (by decide) (by decide)⟩
  refine lv_pop hx hb dL_law_1413 rfl ?_
  refine lv_goto (tgt := 1631) hx hb dL_law_1414 (by decide) ?_
  exact hk _ _ _ _ _ _ _ _ hok hP hP2 hI52 (by omega) (by omega) hS (lv_sub hl [0, 1, 2, 3] rfl)
set_option maxHeartbeats 4000000 in
set_option maxRecDepth 100000 in
theorem law_41 {p : Program} {e : Env} {s : State} {m : MethodId} {below : List Frame} {meth : Method} {c : Code} (l : Launch) {b L : Nat} {xs : Nat → Int32} {cells slots : Nat} (C0 : lw_At p s m meth c b L xs) (hL : L ≤ 3072) (hcc : cells ≤ 600000) (hss : slots ≤ 7302250) (dC : Nat → ClassId) (dI : Nat → Nat → Nat) (G : GT) (cs cr : Nat → ClassId) (br adK adV : Nat → Nat) (hW : LWD s dC dI G cs cr br adK adV) (bq : Nat → Nat) (hQX : QXD s G br bq) (hT : Ty G (bq 11) 11) (tt mm : Nat) (f : Nat → va_E) (u v : RS) (H : Heap) (locs : List Loc) (ls : Array Slot) (hok : OKT G cs tt mm f) (hP : va_P (dC, dI) vwCl (va_pl (gL G) f) H) (hP2 : KP dC dI cr br u cs bq v H) (hI5 : IV5 u v tt mm) (htt : tt ≤ 700) (hmm : mm ≤ 3) (hS : va_S (AL s) s.heap H locs) (i : Nat) (hi : i + 6 ≤ L) (hl : lv_has ls 4 [(0, .ref b), (1, .ref (bq 11)), (2, .ref (br 0)), (3, .int (nI i))]) (hk : ∀ (tt mm : Nat) (f : Nat → va_E) (u v : RS) (H : Heap) (locs : List Loc) (ls : Array Slot), OKT G cs tt mm f → va_P (dC, dI) vwCl (va_pl (gL G) f) H → KP dC dI cr br u cs bq v H → IV5 u v tt mm → tt ≤ 700 → mm ≤ 3 → va_S (AL s) s.heap H locs → lv_has ls 4 [(0, .ref b), (1, .ref (bq 11)), (2, .ref (br 0)), (3, .int (nI i))] → W p l e room_1 s m #[Value.ref b] below meth c H locs cells slots (lw_Z below #[Value.ref b] s) (F0 m 1631 ls [])) : W p l e room_1 s m #[Value.ref b] below meth c H locs cells slots (lw_Z below #[Value.ref b] s) (F0 m 1417 ls []) := by
  obtain ⟨hx, hb, hr, hml, hown, hts, hX, hbl, hlocks, hgv⟩ := id C0
  have hE := hW.2.2.2.2.2.1
  have hIV := hI5.1
  have hbA : ¬ AL s b := Nat.not_le.mpr hbl
  refine lv_aload_n hx hb dL_law_1417 rfl (lv_at hl 1 rfl) ?_
  refine lv_aload_n hx hb dL_law_1418 rfl (lv_at hl 0 rfl) ?_
  refine lv_iload_n hx hb dL_law_1419 rfl (lv_at hl 3 rfl) ?_
  refine lv_iconst (v := 1) hx hb dL_law_1420 (by decide) ?_
  refine lv_iadd hx hb dL_law_1421 ?_
  refine W.eq (g2 := F0 m 1422 ls (.int (nI (i + 1)) :: [.ref b, .ref (bq 11)])) (congrArg (fun z : Int32 => F0 m 1422 ls (.int z :: [.ref b, .ref (bq 11)])) (nI_add i 1)) ?_
  refine va_sld hx hb hX hbl hbA hS (vp_in_nI (by omega) (by omega)) dL_law_1422 ?_
  refine lv_topi (fun y1 ey1 => ?_)
  refine lv_aload_n hx hb dL_law_1423 rfl (lv_at hl 0 rfl) ?_
  refine lv_iload_n hx hb dL_law_1424 rfl (lv_at hl 3 rfl) ?_
  refine lv_iconst (v := 2) hx hb dL_law_1425 (by decide) ?_
  refine lv_iadd hx hb dL_law_1426 ?_
  refine W.eq (g2 := F0 m 1427 ls (.int (nI (i + 2)) :: [.ref b, .int y1, .ref (bq 11)])) (congrArg (fun z : Int32 => F0 m 1427 ls (.int z :: [.ref b, .int y1, .ref (bq 11)])) (nI_add i 2)) ?_
  refine va_sld hx hb hX hbl hbA hS (vp_in_nI (by omega) (by omega)) dL_law_1427 ?_
  refine lv_topi (fun y2 ey2 => ?_)
  obtain ⟨y3, hz3a, hz3b, he3⟩ := ok_X11 hok hT
  refine lx_l hW hQX hP2 hS (va_runV (As := [.int y1, .int y2]) (rest := []) ⟨hx, hb, hml, hown, noTs⟩ (t_X11_ball l dC dI H.size G cs tt mm (bq 11) hT y1 y2) ⟨cbE 2 (wd_1286 hE) (wd_115 hE) (wd_1283 hE) rfl rfl (by decide +kernel) ⟨Nat.le_of_ble_eq_true rfl, Nat.le_of_ble_eq_true rfl⟩, (wd_1284 hE), (wd_1285 hE)⟩ ⟨PT.blind, th_recv hW.1 hP hT.1 he3 rfl, (th_pre (av := [.ref (bq 11), .int y1, .int y2]) trivial hW.1 hP hok hW.2.2.1 hW.2.2.2.1 hE)⟩ rfl rfl hl.1 rfl (lv_room (Nat.le_of_ble_eq_true rfl)) dL_law_1428 ⟨hcc, hss⟩) (fun r3 f H locs hr3 hok hP hP2 hS => ?_)
  refine lv_pop2_2 hx hb dL_law_1431 rfl ?_
  refine lv_aload_n hx hb dL_law_1432 rfl (lv_at hl 2 rfl) ?_
  refine lv_aload_n hx hb dL_law_1433 rfl (lv_at hl 0 rfl) ?_
  refine lv_iload_n hx hb dL_law_1434 rfl (lv_at hl 3 rfl) ?_
  refine lv_iconst (v := 1) hx hb dL_law_1435 (by decide) ?_
  refine lv_iadd hx hb dL_law_1436 ?_
  refine W.eq (g2 := F0 m 1437 ls (.int (nI (i + 1)) :: [.ref b, .ref (br 0)])) (congrArg (fun z : Int32 => F0 m 1437 ls (.int z :: [.ref b, .ref (br 0)])) (nI_add i 1)) ?_
  refine va_sld hx hb hX hbl hbA hS (vp_in_nI (by omega) (by omega)) dL_law_1437 ?_
  refine lv_topi (fun y4 ey4 => ?_)
  refine lv_aload_n hx hb dL_law_1438 rfl (lv_at hl 0 rfl) ?_
  refine lv_iload_n hx hb dL_law_1439 rfl (lv_at hl 3 rfl) ?_
  refine lv_iconst (v := 2) hx hb dL_law_1440 (by decide) ?_
  refine lv_iadd hx hb dL_law_1441 ?_
  refine W.eq (g2 := F0 m 1442 ls (.int (nI (i + 2)) :: [.ref b, .int y4, .ref (br 0)])) (congrArg (fun z : Int32 => F0 m 1442 ls (.int z :: [.ref b, .int y4, .ref (br 0)])) (nI_add i 2)) ?_
  refine va_sld hx hb hX hbl hbA hS (vp_in_nI (by omega) (by omega)) dL_law_1442 ?_
  refine lv_topi (fun y5 ey5 => ?_)
  obtain ⟨ac, hac, hF2⟩ := hIV.2.1
  obtain ⟨v0, hv0, hF15⟩ := hIV.2.2.2.2.1
  obtain ⟨oo, hoo, hF30⟩ := hIV.2.2.2.2.2
  have hAB := hIV.1
  have hBG := ab_0 hAB
  have hGG := bg_g hBG
  refine ly_l hW hQX hP hP2.2 hS (va_runV (As := [.int y4, .int y5]) (rest := []) ⟨hx, hb, hml, hown, noTs⟩ (r_X12_ball l dC dI H.size cr br u (rA u 1) rfl y4 y5 (by first | assumption | omega)) ⟨cbE 2 (wd_1909 hE) (wd_126 hE) (wd_1906 hE) rfl rfl (by decide +kernel) ⟨Nat.le_of_ble_eq_true rfl, Nat.le_of_ble_eq_true rfl⟩, (wd_1907 hE), (wd_1908 hE)⟩ ⟨PR.blind, r_recv hW.2.1 hP2.1 rfl, (r_pre (av := [.ref (br 0), .int y4, .int y5]) hW.2.1 hP2.1 hW.2.2.2.2.1 hE)⟩ rfl rfl hl.1 rfl (lv_room (Nat.le_of_ble_eq_true rfl)) dL_law_1443 ⟨hcc, hss⟩) (fun r6 u6 H locs hpo6 hP2 hP hS => ?_)
  obtain ⟨hr6, hq6⟩ := hpo6
  have hIV2 : IV u6 tt mm := iv_fr hIV hq6 (by decide) (by decide) (by decide) (by decide) (by decide) (by decide)
  have hI52 : IV5 u6 v _ _ := ⟨hIV2, tf_fr hI5.2 hq6 (by decide) (by decide) (by decide) (by decide)⟩
  refine lv_pop2_2 hx hb dL_law_1446 rfl ?_
  refine lv_goto (tgt := 1631) hx hb dL_law_1447 (by decide) ?_
  exact hk _ _ _ _ _ _ _ _ hok hP hP2 hI52 (by omega) (by omega) hS (lv_sub hl [0, 1, 2, 3] rfl)
set_option maxHeartbeats 4000000 in
set_option maxRecDepth 100000 in
theorem law_42 {p : Program} {e : Env} {s : State} {m : MethodId} {below : List Frame} {meth : Method} {c : Code} (l : Launch) {b L : Nat} {xs : Nat → Int32} {cells slots : Nat} (C0 : lw_At p s m meth c b L xs) (hL : L ≤ 3072) (hcc : cells ≤ 600000) (hss : slots ≤ 7302250) (dC : Nat → ClassId) (dI : Nat → Nat → Nat) (G : GT) (cs cr : Nat → ClassId) (br adK adV : Nat → Nat) (hW : LWD s dC dI G cs cr br adK adV) (bq : Nat → Nat) (hQX : QXD s G br bq) (hT : Ty G (bq 11) 11) (tt mm : Nat) (f : Nat → va_E) (u v : RS) (H : Heap) (locs : List Loc) (ls : Array Slot) (hok : OKT G cs tt mm f) (hP : va_P (dC, dI) vwCl (va_pl (gL G) f) H) (hP2 : KP dC dI cr br u cs bq v H) (hI5 : IV5 u v tt mm) (htt : tt ≤ 700) (hmm : mm ≤ 3) (hS : va_S (AL s) s.heap H locs) (i : Nat) (hi : i + 6 ≤ L) (hl : lv_has ls 4 [(0, .ref b), (1, .ref (bq 11)), (2, .ref (br 0)), (3, .int (nI i))]) (hk : ∀ (tt mm : Nat) (f : Nat → va_E) (u v : RS) (H : Heap) (locs : List Loc) (ls : Array Slot), OKT G cs tt mm f → va_P (dC, dI) vwCl (va_pl (gL G) f) H → KP dC dI cr br u cs bq v H → IV5 u v tt mm → tt ≤ 700 → mm ≤ 3 → va_S (AL s) s.heap H locs → lv_has ls 4 [(0, .ref b), (1, .ref (bq 11)), (2, .ref (br 0)), (3, .int (nI i))] → W p l e room_1 s m #[Value.ref b] below meth c H locs cells slots (lw_Z below #[Value.ref b] s) (F0 m 1631 ls [])) : W p l e room_1 s m #[Value.ref b] below meth c H locs cells slots (lw_Z below #[Value.ref b] s) (F0 m 1450 ls []) := by
  obtain ⟨hx, hb, hr, hml, hown, hts, hX, hbl, hlocks, hgv⟩ := id C0
  have hE := hW.2.2.2.2.2.1
  have hIV := hI5.1
  have hbA : ¬ AL s b := Nat.not_le.mpr hbl
  refine lv_aload_n hx hb dL_law_1450 rfl (lv_at hl 1 rfl) ?_
  refine lv_aload_n hx hb dL_law_1451 rfl (lv_at hl 0 rfl) ?_
  refine lv_iload_n hx hb dL_law_1452 rfl (lv_at hl 3 rfl) ?_
  refine lv_iconst (v := 1) hx hb dL_law_1453 (by decide) ?_
  refine lv_iadd hx hb dL_law_1454 ?_
  refine W.eq (g2 := F0 m 1455 ls (.int (nI (i + 1)) :: [.ref b, .ref (bq 11)])) (congrArg (fun z : Int32 => F0 m 1455 ls (.int z :: [.ref b, .ref (bq 11)])) (nI_add i 1)) ?_
  refine va_sld hx hb hX hbl hbA hS (vp_in_nI (by omega) (by omega)) dL_law_1455 ?_
  refine lv_topi (fun y1 ey1 => ?_)
  refine lv_aload_n hx hb dL_law_1456 rfl (lv_at hl 0 rfl) ?_
  refine lv_iload_n hx hb dL_law_1457 rfl (lv_at hl 3 rfl) ?_
  refine lv_iconst (v := 2) hx hb dL_law_1458 (by decide) ?_
  refine lv_iadd hx hb dL_law_1459 ?_
  refine W.eq (g2 := F0 m 1460 ls (.int (nI (i + 2)) :: [.ref b, .int y1, .ref (bq 11)])) (congrArg (fun z : Int32 => F0 m 1460 ls (.int z :: [.ref b, .int y1, .ref (bq 11)])) (nI_add i 2)) ?_
  refine va_sld hx hb hX hbl hbA hS (vp_in_nI (by omega) (by omega)) dL_law_1460 ?_
  refine lv_topi (fun y2 ey2 => ?_)
  obtain ⟨y3, hz3a, hz3b, he3⟩ := ok_X11 hok hT
  refine lx_l hW hQX hP2 hS (va_runV (As := [.int y1, .int y2]) (rest := []) ⟨hx, hb, hml, hown, noTs⟩ (t_X11_sphere l dC dI H.size G cs tt mm (bq 11) hT y1 y2) ⟨cbE 2 (wd_1290 hE) (wd_115 hE) (wd_1287 hE) rfl rfl (by decide +kernel) ⟨Nat.le_of_ble_eq_true rfl, Nat.le_of_ble_eq_true rfl⟩, (wd_1288 hE), (wd_1289 hE)⟩ ⟨PT.blind, th_recv hW.1 hP hT.1 he3 rfl, (th_pre (av := [.ref (bq 11), .int y1, .int y2]) trivial hW.1 hP hok hW.2.2.1 hW.2.2.2.1 hE)⟩ rfl rfl hl.1 rfl (lv_room (Nat.le_of_ble_eq_true rfl)) dL_law_1461 ⟨hcc, hss⟩) (fun r3 f H locs hr3 hok hP hP2 hS => ?_)
  refine lv_pop2_2 hx hb dL_law_1464 rfl ?_
  refine lv_aload_n hx hb dL_law_1465 rfl (lv_at hl 2 rfl) ?_
  refine lv_aload_n hx hb dL_law_1466 rfl (lv_at hl 0 rfl) ?_
  refine lv_iload_n hx hb dL_law_1467 rfl (lv_at hl 3 rfl) ?_
  refine lv_iconst (v := 1) hx hb dL_law_1468 (by decide) ?_
  refine lv_iadd hx hb dL_law_1469 ?_
  refine W.eq (g2 := F0 m 1470 ls (.int (nI (i + 1)) :: [.ref b, .ref (br 0)])) (congrArg (fun z : Int32 => F0 m 1470 ls (.int z :: [.ref b, .ref (br 0)])) (nI_add i 1)) ?_
  refine va_sld hx hb hX hbl hbA hS (vp_in_nI (by omega) (by omega)) dL_law_1470 ?_
  refine lv_topi (fun y4 ey4 => ?_)
  refine lv_aload_n hx hb dL_law_1471 rfl (lv_at hl 0 rfl) ?_
  refine lv_iload_n hx hb dL_law_1472 rfl (lv_at hl 3 rfl) ?_
  refine lv_iconst (v := 2) hx hb dL_law_1473 (by decide) ?_
  refine lv_iadd hx hb dL_law_1474 ?_
  refine W.eq (g2 := F0 m 1475 ls (.int (nI (i + 2)) :: [.ref b, .int y4, .ref (br 0)])) (congrArg (fun z : Int32 => F0 m 1475 ls (.int z :: [.ref b, .int y4, .ref (br 0)])) (nI_add i 2)) ?_
  refine va_sld hx hb hX hbl hbA hS (vp_in_nI (by omega) (by omega)) dL_law_1475 ?_
  refine lv_topi (fun y5 ey5 => ?_)
  obtain ⟨ac, hac, hF2⟩ := hIV.2.1
  obtain ⟨v0, hv0, hF15⟩ := hIV.2.2.2.2.1
  obtain ⟨oo, hoo, hF30⟩ := hIV.2.2.2.2.2
  have hAB := hIV.1
  have hBG := ab_0 hAB
  have hGG := bg_g hBG
  refine ly_l hW hQX hP hP2.2 hS (va_runV (As := [.int y4, .int y5]) (rest := []) ⟨hx, hb, hml, hown, noTs⟩ (r_X12_sphere l dC dI H.size cr br u (rA u 1) rfl y4 y5 (by first | assumption | omega)) ⟨cbE 2 (wd_1913 hE) (wd_126 hE) (wd_1910 hE) rfl rfl (by decide +kernel) ⟨Nat.le_of_ble_eq_true rfl, Nat.le_of_ble_eq_true rfl⟩, (wd_1911 hE), (wd_1912 hE)⟩ ⟨PR.blind, r_recv hW.2.1 hP2.1 rfl, (r_pre (av := [.ref (br 0), .int y4, .int y5]) hW.2.1 hP2.1 hW.2.2.2.2.1 hE)⟩ rfl rfl hl.1 rfl (lv_room (Nat.le_of_ble_eq_true rfl)) dL_law_1476 ⟨hcc, hss⟩) (fun r6 u6 H locs hpo6 hP2 hP hS => ?_)
  obtain ⟨hr6, hq6⟩ := hpo6
  have hIV2 : IV u6 tt mm := iv_fr hIV hq6 (by decide) (by decide) (by decide) (by decide) (by decide) (by decide)
  have hI52 : IV5 u6 v _ _ := ⟨hIV2, tf_fr hI5.2 hq6 (by decide) (by decide) (by decide) (by decide)⟩
  refine lv_pop2_2 hx hb dL_law_1479 rfl ?_
  refine lv_goto (tgt := 1631) hx hb dL_law_1480 (by decide) ?_
  exact hk _ _ _ _ _ _ _ _ hok hP hP2 hI52 (by omega) (by omega) hS (lv_sub hl [0, 1, 2, 3] rfl)
set_option maxHeartbeats 4000000 in
set_option maxRecDepth 100000 in
theorem law_43 {p : Program} {e : Env} {s : State} {m : MethodId} {below : List Frame} {meth : Method} {c : Code} (l : Launch) {b L : Nat} {xs : Nat → Int32} {cells slots : Nat} (C0 : lw_At p s m meth c b L xs) (hL : L ≤ 3072) (hcc : cells ≤ 600000) (hss : slots ≤ 7302250) (dC : Nat → ClassId) (dI : Nat → Nat → Nat) (G : GT) (cs cr : Nat → ClassId) (br adK adV : Nat → Nat) (hW : LWD s dC dI G cs cr br adK adV) (bq : Nat → Nat) (hQX : QXD s G br bq) (hT : Ty G (bq 11) 11) (tt mm : Nat) (f : Nat → va_E) (u v : RS) (H : Heap) (locs : List Loc) (ls : Array Slot) (hok : OKT G cs tt mm f) (hP : va_P (dC, dI) vwCl (va_pl (gL G) f) H) (hP2 : KP dC dI cr br u cs bq v H) (hI5 : IV5 u v tt mm) (htt : tt ≤ 700) (hmm : mm ≤ 3) (hS : va_S (AL s) s.heap H locs) (i : Nat) (hi : i + 6 ≤ L) (hl : lv_has ls 4 [(0, .ref b), (1, .ref (bq 11)), (2, .ref (br 0)), (3, .int (nI i))]) (hk : ∀ (tt mm : Nat) (f : Nat → va_E) (u v : RS) (H : Heap) (locs : List Loc) (ls : Array Slot), OKT G cs tt mm f → va_P (dC, dI) vwCl (va_pl (gL G) f) H → KP dC dI cr br u cs bq v H → IV5 u v tt mm → tt ≤ 700 → mm ≤ 3 → va_S (AL s) s.heap H locs → lv_has ls 4 [(0, .ref b), (1, .ref (bq 11)), (2, .ref (br 0)), (3, .int (nI i))] → W p l e room_1 s m #[Value.ref b] below meth c H locs cells slots (lw_Z below #[Value.ref b] s) (F0 m 1631 ls [])) : W p l e room_1 s m #[Value.ref b] below meth c H locs cells slots (lw_Z below #[Value.ref b] s) (F0 m 1483 ls []) := by
  obtain ⟨hx, hb, hr, hml, hown, hts, hX, hbl, hlocks, hgv⟩ := id C0
  have hE := hW.2.2.2.2.2.1
  have hIV := hI5.1
  have hbA : ¬ AL s b := Nat.not_le.mpr hbl
  refine lv_aload_n hx hb dL_law_1483 rfl (lv_at hl 1 rfl) ?_
  refine lv_aload_n hx hb dL_law_1484 rfl (lv_at hl 0 rfl) ?_
  refine lv_iload_n hx hb dL_law_1485 rfl (lv_at hl 3 rfl) ?_
  refine lv_iconst (v := 1) hx hb dL_law_1486 (by decide) ?_
  refine lv_iadd hx hb dL_law_1487 ?_
  refine W.eq (g2 := F0 m 1488 ls (.int (nI (i + 1)) :: [.ref b, .ref (bq 11)])) (congrArg (fun z : Int32 => F0 m 1488 ls (.int z :: [.ref b, .ref (bq 11)])) (nI_add i 1)) ?_
  refine va_sld hx hb hX hbl hbA hS (vp_in_nI (by omega) (by omega)) dL_law_1488 ?_
  refine lv_topi (fun y1 ey1 => ?_)
  obtain ⟨y2, hz2a, hz2b, he2⟩ := ok_X11 hok hT
  refine lx_l hW hQX hP2 hS (va_runV (As := [.int y1]) (rest := []) ⟨hx, hb, hml, hown, noTs⟩ (t_X11_listed l dC dI H.size G cs tt mm (bq 11) hT y1) ⟨cbE 1 (wd_1294 hE) (wd_115 hE) (wd_1291 hE) rfl rfl (by decide +kernel) ⟨Nat.le_of_ble_eq_true rfl, Nat.le_of_ble_eq_true rfl⟩, (wd_1292 hE), (wd_1293 hE)⟩ ⟨PT.blind, th_recv hW.1 hP hT.1 he2 rfl, (th_pre (av := [.ref (bq 11), .int y1]) trivial hW.1 hP hok hW.2.2.1 hW.2.2.2.1 hE)⟩ rfl rfl hl.1 rfl (lv_room (Nat.le_of_ble_eq_true rfl)) dL_law_1489 ⟨hcc, hss⟩) (fun r2 f H locs hr2 hok hP hP2 hS => ?_)
  refine lv_pop2_2 hx hb dL_law_1492 rfl ?_
  refine lv_aload_n hx hb dL_law_1493 rfl (lv_at hl 2 rfl) ?_
  refine lv_aload_n hx hb dL_law_1494 rfl (lv_at hl 0 rfl) ?_
  refine lv_iload_n hx hb dL_law_1495 rfl (lv_at hl 3 rfl) ?_
  refine lv_iconst (v := 1) hx hb dL_law_1496 (by decide) ?_
  refine lv_iadd hx hb dL_law_1497 ?_
  refine W.eq (g2 := F0 m 1498 ls (.int (nI (i + 1)) :: [.ref b, .ref (br 0)])) (congrArg (fun z : Int32 => F0 m 1498 ls (.int z :: [.ref b, .ref (br 0)])) (nI_add i 1)) ?_
  refine va_sld hx hb hX hbl hbA hS (vp_in_nI (by omega) (by omega)) dL_law_1498 ?_
  refine lv_topi (fun y3 ey3 => ?_)
  obtain ⟨ac, hac, hF2⟩ := hIV.2.1
  obtain ⟨v0, hv0, hF15⟩ := hIV.2.2.2.2.1
  obtain ⟨oo, hoo, hF30⟩ := hIV.2.2.2.2.2
  have hAB := hIV.1
  have hBG := ab_0 hAB
  have hGG := bg_g hBG
  refine ly_l hW hQX hP hP2.2 hS (va_runV (As := [.int y3]) (rest := []) ⟨hx, hb, hml, hown, noTs⟩ (r_X12_listed l dC dI H.size cr br u (rA u 1) rfl y3 (by first | assumption | omega)) ⟨cbE 1 (wd_1932 hE) (wd_126 hE) (wd_1929 hE) rfl rfl (by decide +kernel) ⟨Nat.le_of_ble_eq_true rfl, Nat.le_of_ble_eq_true rfl⟩, (wd_1930 hE), (wd_1931 hE)⟩ ⟨PR.blind, r_recv hW.2.1 hP2.1 rfl, (r_pre (av := [.ref (br 0), .int y3]) hW.2.1 hP2.1 hW.2.2.2.2.1 hE)⟩ rfl rfl hl.1 rfl (lv_room (Nat.le_of_ble_eq_true rfl)) dL_law_1499 ⟨hcc, hss⟩) (fun r4 u4 H locs hpo4 hP2 hP hS => ?_)
  obtain ⟨hr4, hq4⟩ := hpo4
  have hIV2 : IV u4 tt mm := iv_fr hIV hq4 (by decide) (by decide) (by decide) (by decide) (by decide) (by decide)
  have hI52 : IV5 u4 v _ _ := ⟨hIV2, tf_fr hI5.2 hq4 (by decide) (by decide) (by decide) (by decide)⟩
  refine lv_pop2_2 hx hb dL_law_1502 rfl ?_
  refine lv_goto (tgt := 1631) hx hb dL_law_1503 (by decide) ?_
  exact hk _ _ _ _ _ _ _ _ hok hP hP2 hI52 (by omega) (by omega) hS (lv_sub hl [0, 1, 2, 3] rfl)
set_option maxHeartbeats 4000000 in
set_option maxRecDepth 100000 in
theorem law_44 {p : Program} {e : Env} {s : State} {m : MethodId} {below : List Frame} {meth : Method} {c : Code} (l : Launch) {b L : Nat} {xs : Nat → Int32} {cells slots : Nat} (C0 : lw_At p s m meth c b L xs) (hL : L ≤ 3072) (hcc : cells ≤ 600000) (hss : slots ≤ 7302250) (dC : Nat → ClassId) (dI : Nat → Nat → Nat) (G : GT) (cs cr : Nat → ClassId) (br adK adV : Nat → Nat) (hW : LWD s dC dI G cs cr br adK adV) (bq : Nat → Nat) (hQX : QXD s G br bq) (hT : Ty G (bq 11) 11) (tt mm : Nat) (f : Nat → va_E) (u v : RS) (H : Heap) (locs : List Loc) (ls : Array Slot) (hok : OKT G cs tt mm f) (hP : va_P (dC, dI) vwCl (va_pl (gL G) f) H) (hP2 : KP dC dI cr br u cs bq v H) (hI5 : IV5 u v tt mm) (htt : tt ≤ 700) (hmm : mm ≤ 3) (hS : va_S (AL s) s.heap H locs) (i : Nat) (hi : i + 6 ≤ L) (hl : lv_has ls 4 [(0, .ref b), (1, .ref (bq 11)), (2, .ref (br 0)), (3, .int (nI i))]) (hk : ∀ (tt mm : Nat) (f : Nat → va_E) (u v : RS) (H : Heap) (locs : List Loc) (ls : Array Slot), OKT G cs tt mm f → va_P (dC, dI) vwCl (va_pl (gL G) f) H → KP dC dI cr br u cs bq v H → IV5 u v tt mm → tt ≤ 700 → mm ≤ 3 → va_S (AL s) s.heap H locs → lv_has ls 4 [(0, .ref b), (1, .ref (bq 11)), (2, .ref (br 0)), (3, .int (nI i))] → W p l e room_1 s m #[Value.ref b] below meth c H locs cells slots (lw_Z below #[Value.ref b] s) (F0 m 1631 ls [])) : W p l e room_1 s m #[Value.ref b] below meth c H locs cells slots (lw_Z below #[Value.ref b] s) (F0 m 1506 ls []) := by
  obtain ⟨hx, hb, hr, hml, hown, hts, hX, hbl, hlocks, hgv⟩ := id C0
  have hE := hW.2.2.2.2.2.1
  have hIV := hI5.1
  have hbA : ¬ AL s b := Nat.not_le.mpr hbl
  refine lv_aload_n hx hb dL_law_1506 rfl (lv_at hl 1 rfl) ?_
  refine lv_aload_n hx hb dL_law_1507 rfl (lv_at hl 0 rfl) ?_
  refine lv_iload_n hx hb dL_law_1508 rfl (lv_at hl 3 rfl) ?_
  refine lv_iconst (v := 1) hx hb dL_law_1509 (by decide) ?_
  refine lv_iadd hx hb dL_law_1510 ?_
  refine W.eq (g2 := F0 m 1511 ls (.int (nI (i + 1)) :: [.ref b, .ref (bq 11)])) (congrArg (fun z : Int32 => F0 m 1511 ls (.int z :: [.ref b, .ref (bq 11)])) (nI_add i 1)) ?_
  refine va_sld hx hb hX hbl hbA hS (vp_in_nI (by omega) (by omega)) dL_law_1511 ?_
  refine lv_topi (fun y1 ey1 => ?_)
  refine lv_aload_n hx hb dL_law_1512 rfl (lv_at hl 0 rfl) ?_
  refine lv_iload_n hx hb dL_law_1513 rfl (lv_at hl 3 rfl) ?_
  refine lv_iconst (v := 2) hx hb dL_law_1514 (by decide) ?_
  refine lv_iadd hx hb dL_law_1515 ?_
  refine W.eq (g2 := F0 m 1516 ls (.int (nI (i + 2)) :: [.ref b, .int y1, .ref (bq 11)])) (congrArg (fun z : Int32 => F0 m 1516 ls (.int z :: [.ref b, .int y1, .ref (bq 11)])) (nI_add i 2)) ?_
  refine va_sld hx hb hX hbl hbA hS (vp_in_nI (by omega) (by omega)) dL_law_1516 ?_
  refine lv_topi (fun y2 ey2 => ?_)
  obtain ⟨y3, hz3a, hz3b, he3⟩ := ok_X11 hok hT
  refine lx_i hW hQX hP2 hS (va_runV (As := [.int y1, .int y2]) (rest := []) ⟨hx, hb, hml, hown, noTs⟩ (t_X11_near l dC dI H.size G cs tt mm (bq 11) hT y1 y2) ⟨cbE 2 (wd_1306 hE) (wd_115 hE) (wd_1303 hE) rfl rfl (by decide +kernel) ⟨Nat.le_of_ble_eq_true rfl, Nat.le_of_ble_eq_true rfl⟩, (wd_1304 hE), (wd_1305 hE)⟩ ⟨PT.blind, th_recv hW.1 hP hT.1 he3 rfl, (th_pre (av := [.ref (bq 11), .int y1, .int y2]) trivial hW.1 hP hok hW.2.2.1 hW.2.2.2.1 hE)⟩ rfl rfl hl.1 rfl (lv_room (Nat.le_of_ble_eq_true rfl)) dL_law_1517 ⟨hcc, hss⟩) (fun r3 f H locs hr3 hok hP hP2 hS => ?_)
  refine lv_pop hx hb dL_law_1520 rfl ?_
  refine lv_aload_n hx hb dL_law_1521 rfl (lv_at hl 2 rfl) ?_
  refine lv_aload_n hx hb dL_law_1522 rfl (lv_at hl 0 rfl) ?_
  refine lv_iload_n hx hb dL_law_1523 rfl (lv_at hl 3 rfl) ?_
  refine lv_iconst (v := 1) hx hb dL_law_1524 (by decide) ?_
  refine lv_iadd hx hb dL_law_1525 ?_
  refine W.eq (g2 := F0 m 1526 ls (.int (nI (i + 1)) :: [.ref b, .ref (br 0)])) (congrArg (fun z : Int32 => F0 m 1526 ls (.int z :: [.ref b, .ref (br 0)])) (nI_add i 1)) ?_
  refine va_sld hx hb hX hbl hbA hS (vp_in_nI (by omega) (by omega)) dL_law_1526 ?_
  refine lv_topi (fun y4 ey4 => ?_)
  refine lv_aload_n hx hb dL_law_1527 rfl (lv_at hl 0 rfl) ?_
  refine lv_iload_n hx hb dL_law_1528 rfl (lv_at hl 3 rfl) ?_
  refine lv_iconst (v := 2) hx hb dL_law_1529 (by decide) ?_
  refine lv_iadd hx hb dL_law_1530 ?_
  refine W.eq (g2 := F0 m 1531 ls (.int (nI (i + 2)) :: [.ref b, .int y4, .ref (br 0)])) (congrArg (fun z : Int32 => F0 m 1531 ls (.int z :: [.ref b, .int y4, .ref (br 0)])) (nI_add i 2)) ?_
  refine va_sld hx hb hX hbl hbA hS (vp_in_nI (by omega) (by omega)) dL_law_1531 ?_
  refine lv_topi (fun y5 ey5 => ?_)
  obtain ⟨ac, hac, hF2⟩ := hIV.2.1
  obtain ⟨v0, hv0, hF15⟩ := hIV.2.2.2.2.1
  obtain ⟨oo, hoo, hF30⟩ := hIV.2.2.2.2.2
  have hAB := hIV.1
  have hBG := ab_0 hAB
  have hGG := bg_g hBG
  refine ly_i hW hQX hP hP2.2 hS (va_runV (As := [.int y4, .int y5]) (rest := []) ⟨hx, hb, hml, hown, noTs⟩ (r_X12_near l dC dI H.size cr br u (rA u 1) rfl y4 y5 (by first | assumption | omega)) ⟨cbE 2 (wd_1880 hE) (wd_126 hE) (wd_1877 hE) rfl rfl (by decide +kernel) ⟨Nat.le_of_ble_eq_true rfl, Nat.le_of_ble_eq_true rfl⟩, (wd_1878 hE), (wd_1879 hE)⟩ ⟨PR.blind, r_recv hW.2.1 hP2.1 rfl, (r_pre (av := [.ref (br 0), .int y4, .int y5]) hW.2.1 hP2.1 hW.2.2.2.2.1 hE)⟩ rfl rfl hl.1 rfl (lv_room (Nat.le_of_ble_eq_true rfl)) dL_law_1532 ⟨hcc, hss⟩) (fun r6 u6 H locs hpo6 hP2 hP hS => ?_)
  obtain ⟨hr6, hq6⟩ := hpo6
  have hIV2 : IV u6 tt mm := iv_fr hIV hq6 (by decide) (by decide) (by decide) (by decide) (by decide) (by decide)
  have hI52 : IV5 u6 v _ _ := ⟨hIV2, tf_fr hI5.2 hq6 (by decide) (by decide) (by decide) (by decide)⟩
  refine lv_pop hx hb dL_law_1535 rfl ?_
  refine lv_goto (tgt := 1631) hx hb dL_law_1536 (by decide) ?_
  exact hk _ _ _ _ _ _ _ _ hok hP hP2 hI52 (by omega) (by omega) hS (lv_sub hl [0, 1, 2, 3] rfl)
set_option maxHeartbeats 4000000 in
set_option maxRecDepth 100000 in
theorem law_45 {p : Program} {e : Env} {s : State} {m : MethodId} {below : List Frame} {meth : Method} {c : Code} (l : Launch) {b L : Nat} {xs : Nat → Int32} {cells slots : Nat} (C0 : lw_At p s m meth c b L xs) (hL : L ≤ 3072) (hcc : cells ≤ 600000) (hss : slots ≤ 7302250) (dC : Nat → ClassId) (dI : Nat → Nat → Nat) (G : GT) (cs cr : Nat → ClassId) (br adK adV : Nat → Nat) (hW : LWD s dC dI G cs cr br adK adV) (bq : Nat → Nat) (hQX : QXD s G br bq) (hT : Ty G (bq 11) 11) (tt mm : Nat) (f : Nat → va_E) (u v : RS) (H : Heap) (locs : List Loc) (ls : Array Slot) (hok : OKT G cs tt mm f) (hP : va_P (dC, dI) vwCl (va_pl (gL G) f) H) (hP2 : KP dC dI cr br u cs bq v H) (hI5 : IV5 u v tt mm) (htt : tt ≤ 700) (hmm : mm ≤ 3) (hS : va_S (AL s) s.heap H locs) (i : Nat) (hi : i + 6 ≤ L) (hl : lv_has ls 4 [(0, .ref b), (1, .ref (bq 11)), (2, .ref (br 0)), (3, .int (nI i))]) (hk : ∀ (tt mm : Nat) (f : Nat → va_E) (u v : RS) (H : Heap) (locs : List Loc) (ls : Array Slot), OKT G cs tt mm f → va_P (dC, dI) vwCl (va_pl (gL G) f) H → KP dC dI cr br u cs bq v H → IV5 u v tt mm → tt ≤ 700 → mm ≤ 3 → va_S (AL s) s.heap H locs → lv_has ls 4 [(0, .ref b), (1, .ref (bq 11)), (2, .ref (br 0)), (3, .int (nI i))] → W p l e room_1 s m #[Value.ref b] below meth c H locs cells slots (lw_Z below #[Value.ref b] s) (F0 m 1631 ls [])) : W p l e room_1 s m #[Value.ref b] below meth c H locs cells slots (lw_Z below #[Value.ref b] s) (F0 m 1539 ls []) := by
  obtain ⟨hx, hb, hr, hml, hown, hts, hX, hbl, hlocks, hgv⟩ := id C0
  have hE := hW.2.2.2.2.2.1
  have hIV := hI5.1
  have hbA : ¬ AL s b := Nat.not_le.mpr hbl
  refine lv_aload_n hx hb dL_law_1539 rfl (lv_at hl 1 rfl) ?_
  refine lv_aload_n hx hb dL_law_1540 rfl (lv_at hl 0 rfl) ?_
  refine lv_iload_n hx hb dL_law_1541 rfl (lv_at hl 3 rfl) ?_
  refine lv_iconst (v := 1) hx hb dL_law_1542 (by decide) ?_
  refine lv_iadd hx hb dL_law_1543 ?_
  refine W.eq (g2 := F0 m 1544 ls (.int (nI (i + 1)) :: [.ref b, .ref (bq 11)])) (congrArg (fun z : Int32 => F0 m 1544 ls (.int z :: [.ref b, .ref (bq 11)])) (nI_add i 1)) ?_
  refine va_sld hx hb hX hbl hbA hS (vp_in_nI (by omega) (by omega)) dL_law_1544 ?_
  refine lv_topi (fun y1 ey1 => ?_)
  obtain ⟨y2, hz2a, hz2b, he2⟩ := ok_X11 hok hT
  refine lx_i hW hQX hP2 hS (va_runV (As := [.int y1]) (rest := []) ⟨hx, hb, hml, hown, noTs⟩ (t_X11_meet l dC dI H.size G cs tt mm (bq 11) hT y1) ⟨cbE 1 (wd_1310 hE) (wd_115 hE) (wd_1307 hE) rfl rfl (by decide +kernel) ⟨Nat.le_of_ble_eq_true rfl, Nat.le_of_ble_eq_true rfl⟩, (wd_1308 hE), (wd_1309 hE)⟩ ⟨PT.blind, th_recv hW.1 hP hT.1 he2 rfl, (th_pre (av := [.ref (bq 11), .int y1]) trivial hW.1 hP hok hW.2.2.1 hW.2.2.2.1 hE)⟩ rfl rfl hl.1 rfl (lv_room (Nat.le_of_ble_eq_true rfl)) dL_law_1545 ⟨hcc, hss⟩) (fun r2 f H locs hr2 hok hP hP2 hS => ?_)
  refine lv_pop hx hb dL_law_1548 rfl ?_
  refine lv_aload_n hx hb dL_law_1549 rfl (lv_at hl 2 rfl) ?_
  refine lv_aload_n hx hb dL_law_1550 rfl (lv_at hl 0 rfl) ?_
  refine lv_iload_n hx hb dL_law_1551 rfl (lv_at hl 3 rfl) ?_
  refine lv_iconst (v := 1) hx hb dL_law_1552 (by decide) ?_
  refine lv_iadd hx hb dL_law_1553 ?_
  refine W.eq (g2 := F0 m 1554 ls (.int (nI (i + 1)) :: [.ref b, .ref (br 0)])) (congrArg (fun z : Int32 => F0 m 1554 ls (.int z :: [.ref b, .ref (br 0)])) (nI_add i 1)) ?_
  refine va_sld hx hb hX hbl hbA hS (vp_in_nI (by omega) (by omega)) dL_law_1554 ?_
  refine lv_topi (fun y3 ey3 => ?_)
  obtain ⟨ac, hac, hF2⟩ := hIV.2.1
  obtain ⟨v0, hv0, hF15⟩ := hIV.2.2.2.2.1
  obtain ⟨oo, hoo, hF30⟩ := hIV.2.2.2.2.2
  have hAB := hIV.1
  have hBG := ab_0 hAB
  have hGG := bg_g hBG
  refine ly_i hW hQX hP hP2.2 hS (va_runV (As := [.int y3]) (rest := []) ⟨hx, hb, hml, hown, noTs⟩ (r_X12_meet l dC dI H.size cr br u (rA u 1) rfl y3 (by first | assumption | omega)) ⟨cbE 1 (wd_1940 hE) (wd_126 hE) (wd_1937 hE) rfl rfl (by decide +kernel) ⟨Nat.le_of_ble_eq_true rfl, Nat.le_of_ble_eq_true rfl⟩, (wd_1938 hE), (wd_1939 hE)⟩ ⟨PR.blind, r_recv hW.2.1 hP2.1 rfl, (r_pre (av := [.ref (br 0), .int y3]) hW.2.1 hP2.1 hW.2.2.2.2.1 hE)⟩ rfl rfl hl.1 rfl (lv_room (Nat.le_of_ble_eq_true rfl)) dL_law_1555 ⟨hcc, hss⟩) (fun r4 u4 H locs hpo4 hP2 hP hS => ?_)
  obtain ⟨hr4, hq4⟩ := hpo4
  have hIV2 : IV u4 tt mm := iv_fr hIV hq4 (by decide) (by decide) (by decide) (by decide) (by decide) (by decide)
  have hI52 : IV5 u4 v _ _ := ⟨hIV2, tf_fr hI5.2 hq4 (by decide) (by decide) (by decide) (by decide)⟩
  refine lv_pop hx hb dL_law_1558 rfl ?_
  refine lv_goto (tgt := 1631) hx hb dL_law_1559 (by decide) ?_
  exact hk _ _ _ _ _ _ _ _ hok hP hP2 hI52 (by omega) (by omega) hS (lv_sub hl [0, 1, 2, 3] rfl)
set_option maxHeartbeats 4000000 in
set_option maxRecDepth 100000 in
theorem law_46 {p : Program} {e : Env} {s : State} {m : MethodId} {below : List Frame} {meth : Method} {c : Code} (l : Launch) {b L : Nat} {xs : Nat → Int32} {cells slots : Nat} (C0 : lw_At p s m meth c b L xs) (hL : L ≤ 3072) (hcc : cells ≤ 600000) (hss : slots ≤ 7302250) (dC : Nat → ClassId) (dI : Nat → Nat → Nat) (G : GT) (cs cr : Nat → ClassId) (br adK adV : Nat → Nat) (hW : LWD s dC dI G cs cr br adK adV) (bq : Nat → Nat) (hQX : QXD s G br bq) (hT : Ty G (bq 11) 11) (tt mm : Nat) (f : Nat → va_E) (u v : RS) (H : Heap) (locs : List Loc) (ls : Array Slot) (hok : OKT G cs tt mm f) (hP : va_P (dC, dI) vwCl (va_pl (gL G) f) H) (hP2 : KP dC dI cr br u cs bq v H) (hI5 : IV5 u v tt mm) (htt : tt ≤ 700) (hmm : mm ≤ 3) (hS : va_S (AL s) s.heap H locs) (i : Nat) (hi : i + 6 ≤ L) (hl : lv_has ls 4 [(0, .ref b), (1, .ref (bq 11)), (2, .ref (br 0)), (3, .int (nI i))]) (hk : ∀ (tt mm : Nat) (f : Nat → va_E) (u v : RS) (H : Heap) (locs : List Loc) (ls : Array Slot), OKT G cs tt mm f → va_P (dC, dI) vwCl (va_pl (gL G) f) H → KP dC dI cr br u cs bq v H → IV5 u v tt mm → tt ≤ 700 → mm ≤ 3 → va_S (AL s) s.heap H locs → lv_has ls 4 [(0, .ref b), (1, .ref (bq 11)), (2, .ref (br 0)), (3, .int (nI i))] → W p l e room_1 s m #[Value.ref b] below meth c H locs cells slots (lw_Z below #[Value.ref b] s) (F0 m 1631 ls [])) : W p l e room_1 s m #[Value.ref b] below meth c H locs cells slots (lw_Z below #[Value.ref b] s) (F0 m 1562 ls []) := by
  obtain ⟨hx, hb, hr, hml, hown, hts, hX, hbl, hlocks, hgv⟩ := id C0
  have hE := hW.2.2.2.2.2.1
  have hIV := hI5.1
  have hbA : ¬ AL s b := Nat.not_le.mpr hbl
  refine lv_aload_n hx hb dL_law_1562 rfl (lv_at hl 1 rfl) ?_
  refine lv_aload_n hx hb dL_law_1563 rfl (lv_at hl 0 rfl) ?_
  refine lv_iload_n hx hb dL_law_1564 rfl (lv_at hl 3 rfl) ?_
  refine lv_iconst (v := 1) hx hb dL_law_1565 (by decide) ?_
  refine lv_iadd hx hb dL_law_1566 ?_
  refine W.eq (g2 := F0 m 1567 ls (.int (nI (i + 1)) :: [.ref b, .ref (bq 11)])) (congrArg (fun z : Int32 => F0 m 1567 ls (.int z :: [.ref b, .ref (bq 11)])) (nI_add i 1)) ?_
  refine va_sld hx hb hX hbl hbA hS (vp_in_nI (by omega) (by omega)) dL_law_1567 ?_
  refine lv_topi (fun y1 ey1 => ?_)
  obtain ⟨y2, hz2a, hz2b, he2⟩ := ok_X11 hok hT
  refine lx_i hW hQX hP2 hS (va_runV (As := [.int y1]) (rest := []) ⟨hx, hb, hml, hown, noTs⟩ (t_X11_tell l dC dI H.size G cs tt mm (bq 11) hT y1) ⟨cbE 1 (wd_1316 hE) (wd_115 hE) (wd_1313 hE) rfl rfl (by decide +kernel) ⟨Nat.le_of_ble_eq_true rfl, Nat.le_of_ble_eq_true rfl⟩, (wd_1314 hE), (wd_1315 hE)⟩ ⟨PT.blind, th_recv hW.1 hP hT.1 he2 rfl, (th_pre (av := [.ref (bq 11), .int y1]) trivial hW.1 hP hok hW.2.2.1 hW.2.2.2.1 hE)⟩ rfl rfl hl.1 rfl (lv_room (Nat.le_of_ble_eq_true rfl)) dL_law_1568 ⟨hcc, hss⟩) (fun r2 f H locs hr2 hok hP hP2 hS => ?_)
  refine lv_pop hx hb dL_law_1571 rfl ?_
  refine lv_aload_n hx hb dL_law_1572 rfl (lv_at hl 2 rfl) ?_
  refine lv_aload_n hx hb dL_law_1573 rfl (lv_at hl 0 rfl) ?_
  refine lv_iload_n hx hb dL_law_1574 rfl (lv_at hl 3 rfl) ?_
  refine lv_iconst (v := 1) hx hb dL_law_1575 (by decide) ?_
  refine lv_iadd hx hb dL_law_1576 ?_
  refine W.eq (g2 := F0 m 1577 ls (.int (nI (i + 1)) :: [.ref b, .ref (br 0)])) (congrArg (fun z : Int32 => F0 m 1577 ls (.int z :: [.ref b, .ref (br 0)])) (nI_add i 1)) ?_
  refine va_sld hx hb hX hbl hbA hS (vp_in_nI (by omega) (by omega)) dL_law_1577 ?_
  refine lv_topi (fun y3 ey3 => ?_)
  obtain ⟨ac, hac, hF2⟩ := hIV.2.1
  obtain ⟨v0, hv0, hF15⟩ := hIV.2.2.2.2.1
  obtain ⟨oo, hoo, hF30⟩ := hIV.2.2.2.2.2
  have hAB := hIV.1
  have hBG := ab_0 hAB
  have hGG := bg_g hBG
  refine ly_i hW hQX hP hP2.2 hS (va_runV (As := [.int y3]) (rest := []) ⟨hx, hb, hml, hown, noTs⟩ (r_X12_tell l dC dI H.size cr br u (rA u 1) rfl y3 oo hF30 (by first | assumption | omega) (by first | assumption | omega)) ⟨cbE 1 (wd_1944 hE) (wd_126 hE) (wd_1941 hE) rfl rfl (by decide +kernel) ⟨Nat.le_of_ble_eq_true rfl, Nat.le_of_ble_eq_true rfl⟩, (wd_1942 hE), (wd_1943 hE)⟩ ⟨PR.blind, r_recv hW.2.1 hP2.1 rfl, (r_pre (av := [.ref (br 0), .int y3]) hW.2.1 hP2.1 hW.2.2.2.2.1 hE)⟩ rfl rfl hl.1 rfl (lv_room (Nat.le_of_ble_eq_true rfl)) dL_law_1578 ⟨hcc, hss⟩) (fun r4 u4 H locs hpo4 hP2 hP hS => ?_)
  obtain ⟨hr4, h4_0, hq4⟩ := hpo4
  have hIV2 : IV u4 tt mm := ⟨by rw [hq4.1 1 (by decide)]; exact hIV.1, by rw [hq4.2.1 2 (by decide)]; exact hIV.2.1, by rw [hq4.2.1 3 (by decide)]; exact hIV.2.2.1, by rw [hq4.2.1 10 (by decide)]; exact hIV.2.2.2.1, by rw [hq4.2.1 15 (by decide)]; exact hIV.2.2.2.2.1, h4_0⟩
  have hI52 : IV5 u4 v _ _ := ⟨hIV2, tf_fr hI5.2 hq4 (by decide) (by decide) (by decide) (by decide)⟩
  refine lv_pop hx hb dL_law_1581 rfl ?_
  refine lv_goto (tgt := 1631) hx hb dL_law_1582 (by decide) ?_
  exact hk _ _ _ _ _ _ _ _ hok hP hP2 hI52 (by omega) (by omega) hS (lv_sub hl [0, 1, 2, 3] rfl)
set_option maxHeartbeats 4000000 in
set_option maxRecDepth 100000 in
theorem law_47 {p : Program} {e : Env} {s : State} {m : MethodId} {below : List Frame} {meth : Method} {c : Code} (l : Launch) {b L : Nat} {xs : Nat → Int32} {cells slots : Nat} (C0 : lw_At p s m meth c b L xs) (hL : L ≤ 3072) (hcc : cells ≤ 600000) (hss : slots ≤ 7302250) (dC : Nat → ClassId) (dI : Nat → Nat → Nat) (G : GT) (cs cr : Nat → ClassId) (br adK adV : Nat → Nat) (hW : LWD s dC dI G cs cr br adK adV) (bq : Nat → Nat) (hQX : QXD s G br bq) (hT : Ty G (bq 11) 11) (tt mm : Nat) (f : Nat → va_E) (u v : RS) (H : Heap) (locs : List Loc) (ls : Array Slot) (hok : OKT G cs tt mm f) (hP : va_P (dC, dI) vwCl (va_pl (gL G) f) H) (hP2 : KP dC dI cr br u cs bq v H) (hI5 : IV5 u v tt mm) (htt : tt ≤ 700) (hmm : mm ≤ 3) (hS : va_S (AL s) s.heap H locs) (i : Nat) (hi : i + 6 ≤ L) (hl : lv_has ls 4 [(0, .ref b), (1, .ref (bq 11)), (2, .ref (br 0)), (3, .int (nI i))]) (hk : ∀ (tt mm : Nat) (f : Nat → va_E) (u v : RS) (H : Heap) (locs : List Loc) (ls : Array Slot), OKT G cs tt mm f → va_P (dC, dI) vwCl (va_pl (gL G) f) H → KP dC dI cr br u cs bq v H → IV5 u v tt mm → tt ≤ 700 → mm ≤ 3 → va_S (AL s) s.heap H locs → lv_has ls 4 [(0, .ref b), (1, .ref (bq 11)), (2, .ref (br 0)), (3, .int (nI i))] → W p l e room_1 s m #[Value.ref b] below meth c H locs cells slots (lw_Z below #[Value.ref b] s) (F0 m 1631 ls [])) : W p l e room_1 s m #[Value.ref b] below meth c H locs cells slots (lw_Z below #[Value.ref b] s) (F0 m 1585 ls []) := by
  obtain ⟨hx, hb, hr, hml, hown, hts, hX, hbl, hlocks, hgv⟩ := id C0
  have hE := hW.2.2.2.2.2.1
  have hIV := hI5.1
  have hbA : ¬ AL s b := Nat.not_le.mpr hbl
  refine lv_aload_n hx hb dL_law_1585 rfl (lv_at hl 1 rfl) ?_
  refine lv_aload_n hx hb dL_law_1586 rfl (lv_at hl 0 rfl) ?_
  refine lv_iload_n hx hb dL_law_1587 rfl (lv_at hl 3 rfl) ?_
  refine lv_iconst (v := 1) hx hb dL_law_1588 (by decide) ?_
  refine lv_iadd hx hb dL_law_1589 ?_
  refine W.eq (g2 := F0 m 1590 ls (.int (nI (i + 1)) :: [.ref b, .ref (bq 11)])) (congrArg (fun z : Int32 => F0 m 1590 ls (.int z :: [.ref b, .ref (bq 11)])) (nI_add i 1)) ?_
  refine va_sld hx hb hX hbl hbA hS (vp_in_nI (by omega) (by omega)) dL_law_1590 ?_
  refine lv_topi (fun y1 ey1 => ?_)
  obtain ⟨y2, hz2a, hz2b, he2⟩ := ok_X11 hok hT
  refine lx_i hW hQX hP2 hS (va_runV (As := [.int y1]) (rest := []) ⟨hx, hb, hml, hown, noTs⟩ (t_X11_out l dC dI H.size G cs tt mm (bq 11) hT y1) ⟨cbE 1 (wd_1339 hE) (wd_115 hE) (wd_1336 hE) rfl rfl (by decide +kernel) ⟨Nat.le_of_ble_eq_true rfl, Nat.le_of_ble_eq_true rfl⟩, (wd_1337 hE), (wd_1338 hE)⟩ ⟨PT.blind, th_recv hW.1 hP hT.1 he2 rfl, (th_pre (av := [.ref (bq 11), .int y1]) trivial hW.1 hP hok hW.2.2.1 hW.2.2.2.1 hE)⟩ rfl rfl hl.1 rfl (lv_room (Nat.le_of_ble_eq_true rfl)) dL_law_1591 ⟨hcc, hss⟩) (fun r2 f H locs hr2 hok hP hP2 hS => ?_)
  refine lv_pop hx hb dL_law_1594 rfl ?_
  refine lv_aload_n hx hb dL_law_1595 rfl (lv_at hl 2 rfl) ?_
  refine lv_aload_n hx hb dL_law_1596 rfl (lv_at hl 0 rfl) ?_
  refine lv_iload_n hx hb dL_law_1597 rfl (lv_at hl 3 rfl) ?_
  refine lv_iconst (v := 1) hx hb dL_law_1598 (by decide) ?_
  refine lv_iadd hx hb dL_law_1599 ?_
  refine W.eq (g2 := F0 m 1600 ls (.int (nI (i + 1)) :: [.ref b, .ref (br 0)])) (congrArg (fun z : Int32 => F0 m 1600 ls (.int z :: [.ref b, .ref (br 0)])) (nI_add i 1)) ?_
  refine va_sld hx hb hX hbl hbA hS (vp_in_nI (by omega) (by omega)) dL_law_1600 ?_
  refine lv_topi (fun y3 ey3 => ?_)
  obtain ⟨ac, hac, hF2⟩ := hIV.2.1
  obtain ⟨v0, hv0, hF15⟩ := hIV.2.2.2.2.1
  obtain ⟨oo, hoo, hF30⟩ := hIV.2.2.2.2.2
  have hAB := hIV.1
  have hBG := ab_0 hAB
  have hGG := bg_g hBG
  refine ly_i hW hQX hP hP2.2 hS (va_runV (As := [.int y3]) (rest := []) ⟨hx, hb, hml, hown, noTs⟩ (r_X12_out l dC dI H.size cr br u (rA u 1) rfl y3 oo hF30 (by first | assumption | omega)) ⟨cbE 1 (wd_1956 hE) (wd_126 hE) (wd_1953 hE) rfl rfl (by decide +kernel) ⟨Nat.le_of_ble_eq_true rfl, Nat.le_of_ble_eq_true rfl⟩, (wd_1954 hE), (wd_1955 hE)⟩ ⟨PR.blind, r_recv hW.2.1 hP2.1 rfl, (r_pre (av := [.ref (br 0), .int y3]) hW.2.1 hP2.1 hW.2.2.2.2.1 hE)⟩ rfl rfl hl.1 rfl (lv_room (Nat.le_of_ble_eq_true rfl)) dL_law_1601 ⟨hcc, hss⟩) (fun r4 u4 H locs hpo4 hP2 hP hS => ?_)
  obtain ⟨hr4, hq4⟩ := hpo4
  have hIV2 : IV u4 tt mm := iv_fr hIV hq4 (by decide) (by decide) (by decide) (by decide) (by decide) (by decide)
  have hI52 : IV5 u4 v _ _ := ⟨hIV2, tf_fr hI5.2 hq4 (by decide) (by decide) (by decide) (by decide)⟩
  refine lv_pop hx hb dL_law_1604 rfl ?_
  refine lv_goto (tgt := 1631) hx hb dL_law_1605 (by decide) ?_
  exact hk _ _ _ _ _ _ _ _ hok hP hP2 hI52 (by omega) (by omega) hS (lv_sub hl [0, 1, 2, 3] rfl)
set_option maxHeartbeats 4000000 in
set_option maxRecDepth 100000 in
theorem law_48 {p : Program} {e : Env} {s : State} {m : MethodId} {below : List Frame} {meth : Method} {c : Code} (l : Launch) {b L : Nat} {xs : Nat → Int32} {cells slots : Nat} (C0 : lw_At p s m meth c b L xs) (hL : L ≤ 3072) (hcc : cells ≤ 600000) (hss : slots ≤ 7302250) (dC : Nat → ClassId) (dI : Nat → Nat → Nat) (G : GT) (cs cr : Nat → ClassId) (br adK adV : Nat → Nat) (hW : LWD s dC dI G cs cr br adK adV) (bq : Nat → Nat) (hQX : QXD s G br bq) (hT : Ty G (bq 11) 11) (tt mm : Nat) (f : Nat → va_E) (u v : RS) (H : Heap) (locs : List Loc) (ls : Array Slot) (hok : OKT G cs tt mm f) (hP : va_P (dC, dI) vwCl (va_pl (gL G) f) H) (hP2 : KP dC dI cr br u cs bq v H) (hI5 : IV5 u v tt mm) (htt : tt ≤ 700) (hmm : mm ≤ 3) (hS : va_S (AL s) s.heap H locs) (i : Nat) (hi : i + 6 ≤ L) (hl : lv_has ls 4 [(0, .ref b), (1, .ref (bq 11)), (2, .ref (br 0)), (3, .int (nI i))]) (hk : ∀ (tt mm : Nat) (f : Nat → va_E) (u v : RS) (H : Heap) (locs : List Loc) (ls : Array Slot), OKT G cs tt mm f → va_P (dC, dI) vwCl (va_pl (gL G) f) H → KP dC dI cr br u cs bq v H → IV5 u v tt mm → tt ≤ 700 → mm ≤ 3 → va_S (AL s) s.heap H locs → lv_has ls 4 [(0, .ref b), (1, .ref (bq 11)), (2, .ref (br 0)), (3, .int (nI i))] → W p l e room_1 s m #[Value.ref b] below meth c H locs cells slots (lw_Z below #[Value.ref b] s) (F0 m 1631 ls [])) : W p l e room_1 s m #[Value.ref b] below meth c H locs cells slots (lw_Z below #[Value.ref b] s) (F0 m 1608 ls []) := by
  obtain ⟨hx, hb, hr, hml, hown, hts, hX, hbl, hlocks, hgv⟩ := id C0
  have hE := hW.2.2.2.2.2.1
  have hIV := hI5.1
  have hbA : ¬ AL s b := Nat.not_le.mpr hbl
  refine lv_aload_n hx hb dL_law_1608 rfl (lv_at hl 1 rfl) ?_
  refine lv_aload_n hx hb dL_law_1609 rfl (lv_at hl 0 rfl) ?_
  refine lv_iload_n hx hb dL_law_1610 rfl (lv_at hl 3 rfl) ?_
  refine lv_iconst (v := 1) hx hb dL_law_1611 (by decide) ?_
  refine lv_iadd hx hb dL_law_1612 ?_
  refine W.eq (g2 := F0 m 1613 ls (.int (nI (i + 1)) :: [.ref b, .ref (bq 11)])) (congrArg (fun z : Int32 => F0 m 1613 ls (.int z :: [.ref b, .ref (bq 11)])) (nI_add i 1)) ?_
  refine va_sld hx hb hX hbl hbA hS (vp_in_nI (by omega) (by omega)) dL_law_1613 ?_
  refine lv_topi (fun y1 ey1 => ?_)
  obtain ⟨y2, hz2a, hz2b, he2⟩ := ok_X11 hok hT
  refine lx_i hW hQX hP2 hS (va_runV (As := [.int y1]) (rest := []) ⟨hx, hb, hml, hown, noTs⟩ (t_X11_chi l dC dI H.size G cs tt mm (bq 11) hT y1) ⟨cbE 1 (wd_1351 hE) (wd_115 hE) (wd_1348 hE) rfl rfl (by decide +kernel) ⟨Nat.le_of_ble_eq_true rfl, Nat.le_of_ble_eq_true rfl⟩, (wd_1349 hE), (wd_1350 hE)⟩ ⟨PT.blind, th_recv hW.1 hP hT.1 he2 rfl, (th_pre (av := [.ref (bq 11), .int y1]) trivial hW.1 hP hok hW.2.2.1 hW.2.2.2.1 hE)⟩ rfl rfl hl.1 rfl (lv_room (Nat.le_of_ble_eq_true rfl)) dL_law_1614 ⟨hcc, hss⟩) (fun r2 f H locs hr2 hok hP hP2 hS => ?_)
  refine lv_pop hx hb dL_law_1617 rfl ?_
  refine lv_aload_n hx hb dL_law_1618 rfl (lv_at hl 2 rfl) ?_
  refine lv_aload_n hx hb dL_law_1619 rfl (lv_at hl 0 rfl) ?_
  refine lv_iload_n hx hb dL_law_1620 rfl (lv_at hl 3 rfl) ?_
  refine lv_iconst (v := 1) hx hb dL_law_1621 (by decide) ?_
  refine lv_iadd hx hb dL_law_1622 ?_
  refine W.eq (g2 := F0 m 1623 ls (.int (nI (i + 1)) :: [.ref b, .ref (br 0)])) (congrArg (fun z : Int32 => F0 m 1623 ls (.int z :: [.ref b, .ref (br 0)])) (nI_add i 1)) ?_
  refine va_sld hx hb hX hbl hbA hS (vp_in_nI (by omega) (by omega)) dL_law_1623 ?_
  refine lv_topi (fun y3 ey3 => ?_)
  obtain ⟨ac, hac, hF2⟩ := hIV.2.1
  obtain ⟨v0, hv0, hF15⟩ := hIV.2.2.2.2.1
  obtain ⟨oo, hoo, hF30⟩ := hIV.2.2.2.2.2
  have hAB := hIV.1
  have hBG := ab_0 hAB
  have hGG := bg_g hBG
  refine ly_i hW hQX hP hP2.2 hS (va_runV (As := [.int y3]) (rest := []) ⟨hx, hb, hml, hown, noTs⟩ (r_X12_chi l dC dI H.size cr br u (rA u 1) rfl y3 (by first | assumption | omega)) ⟨cbE 1 (wd_1960 hE) (wd_126 hE) (wd_1957 hE) rfl rfl (by decide +kernel) ⟨Nat.le_of_ble_eq_true rfl, Nat.le_of_ble_eq_true rfl⟩, (wd_1958 hE), (wd_1959 hE)⟩ ⟨PR.blind, r_recv hW.2.1 hP2.1 rfl, (r_pre (av := [.ref (br 0), .int y3]) hW.2.1 hP2.1 hW.2.2.2.2.1 hE)⟩ rfl rfl hl.1 rfl (lv_room (Nat.le_of_ble_eq_true rfl)) dL_law_1624 ⟨hcc, hss⟩) (fun r4 u4 H locs hpo4 hP2 hP hS => ?_)
  obtain ⟨hr4, hq4⟩ := hpo4
  have hIV2 : IV u4 tt mm := iv_fr hIV hq4 (by decide) (by decide) (by decide) (by decide) (by decide) (by decide)
  have hI52 : IV5 u4 v _ _ := ⟨hIV2, tf_fr hI5.2 hq4 (by decide) (by decide) (by decide) (by decide)⟩
  refine lv_pop hx hb dL_law_1627 rfl ?_
  refine lv_goto (tgt := 1631) hx hb dL_law_1628 (by decide) ?_
  exact hk _ _ _ _ _ _ _ _ hok hP hP2 hI52 (by omega) (by omega) hS (lv_sub hl [0, 1, 2, 3] rfl)
