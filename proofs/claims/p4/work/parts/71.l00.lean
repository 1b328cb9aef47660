set_option maxHeartbeats 4000000 in
set_option maxRecDepth 100000 in
theorem law_0 {p : Program} {e : Env} {s : State} {m : MethodId} {below : List Frame} {meth : Method} {c : Code} (l : Launch) {b L : Nat} {xs : Nat → Int32} {cells slots : Nat} (C0 : lw_At p s m meth c b L xs) (hL : L ≤ 3072) (hcc : cells ≤ 600000) (hss : slots ≤ 7302250) (dC : Nat → ClassId) (dI : Nat → Nat → Nat) (G : GT) (cs cr : Nat → ClassId) (br adK adV : Nat → Nat) (hW : LWD s dC dI G cs cr br adK adV) (bq : Nat → Nat) (hQX : QXD s G br bq) (hT : Ty G (bq 11) 11) (tt mm : Nat) (f : Nat → va_E) (u v : RS) (H : Heap) (locs : List Loc) (ls : Array Slot) (hok : OKT G cs tt mm f) (hP : va_P (dC, dI) vwCl (va_pl (gL G) f) H) (hP2 : KP dC dI cr br u cs bq v H) (hI5 : IV5 u v tt mm) (htt : tt ≤ 700) (hmm : mm ≤ 3) (hS : va_S (AL s) s.heap H locs) (i : Nat) (hi : i + 6 ≤ L) (hl : lv_has ls 4 [(0, .ref b), (1, .ref (bq 11)), (2, .ref (br 0)), (3, .int (nI i))]) (hk : ∀ (tt mm : Nat) (f : Nat → va_E) (u v : RS) (H : Heap) (locs : List Loc) (ls : Array Slot), OKT G cs tt mm f → va_P (dC, dI) vwCl (va_pl (gL G) f) H → KP dC dI cr br u cs bq v H → IV5 u v tt mm → tt ≤ 700 → mm ≤ 3 → va_S (AL s) s.heap H locs → lv_has ls 4 [(0, .ref b), (1, .ref (bq 11)), (2, .ref (br 0)), (3, .int (nI i))] → W p l e room_1 s m #[Value.ref b] below meth c H locs cells slots (lw_Z below #[Value.ref b] s) (F0 m 1631 ls [])) : W p l e room_1 s m #[Value.ref b] below meth c H locs cells slots (lw_Z below #[Value.ref b] s) (F0 m 244 ls []) := by
  obtain ⟨hx, hb, hr, hml, hown, hts, hX, hbl, hlocks, hgv⟩ := id C0
  have hE := hW.2.2.2.2.2.1
  have hIV := hI5.1
  have hbA : ¬ AL s b := Nat.not_le.mpr hbl
  refine lv_aload_n hx hb dL_law_244 rfl (lv_at hl 1 rfl) ?_
  obtain ⟨y1, hz1a, hz1b, he1⟩ := ok_X11 hok hT
  refine vp_callSi (va_Run.run (va_runV (As := []) (rest := []) ⟨hx, hb, hml, hown, noTs⟩ (t_X11_status l dC dI H.size G cs tt mm (bq 11) hT) ⟨cbE 0 (wd_420 hE) (wd_115 hE) (wd_417 hE) rfl rfl (by decide +kernel) ⟨Nat.le_of_ble_eq_true rfl, Nat.le_of_ble_eq_true rfl⟩, (wd_418 hE), (wd_419 hE)⟩ ⟨PT.blind, th_recv hW.1 hP hT.1 he1 rfl, (th_pre (av := [.ref (bq 11)]) trivial hW.1 hP hok hW.2.2.1 hW.2.2.2.1 hE)⟩ rfl rfl hl.1 rfl (lv_room (Nat.le_of_ble_eq_true rfl)) dL_law_245 ⟨hcc, hss⟩)) (fun r1 hr1 => ?_)
  refine lv_pop hx hb dL_law_248 rfl ?_
  refine lv_aload_n hx hb dL_law_249 rfl (lv_at hl 2 rfl) ?_
  obtain ⟨ac, hac, hF2⟩ := hIV.2.1
  obtain ⟨v0, hv0, hF15⟩ := hIV.2.2.2.2.1
  obtain ⟨oo, hoo, hF30⟩ := hIV.2.2.2.2.2
  have hAB := hIV.1
  have hBG := ab_0 hAB
  have hGG := bg_g hBG
  refine vp_callSi (va_Run.run (va_runV (As := []) (rest := []) ⟨hx, hb, hml, hown, noTs⟩ (r_X12_status l dC dI H.size cr br u (rA u 1) rfl) ⟨cbE 0 (wd_1479 hE) (wd_126 hE) (wd_1476 hE) rfl rfl (by decide +kernel) ⟨Nat.le_of_ble_eq_true rfl, Nat.le_of_ble_eq_true rfl⟩, (wd_1477 hE), (wd_1478 hE)⟩ ⟨PR.blind, r_recv hW.2.1 hP2.1 rfl, (r_pre (av := [.ref (br 0)]) hW.2.1 hP2.1 hW.2.2.2.2.1 hE)⟩ rfl rfl hl.1 rfl (lv_room (Nat.le_of_ble_eq_true rfl)) dL_law_250 ⟨hcc, hss⟩)) (fun r2 hr2 => ?_)
  have hIV2 := hIV
  have hI52 := hI5
  refine lv_pop hx hb dL_law_253 rfl ?_
  refine lv_goto (tgt := 1631) hx hb dL_law_254 (by decide) ?_
  exact hk _ _ _ _ _ _ _ _ hok hP hP2 hI52 (by omega) (by omega) hS (lv_sub hl [0, 1, 2, 3] rfl)
set_option maxHeartbeats 4000000 in
set_option maxRecDepth 100000 in
theorem law_1 {p : Program} {e : Env} {s : State} {m : MethodId} {below : List Frame} {meth : Method} {c : Code} (l : Launch) {b L : Nat} {xs : Nat → Int32} {cells slots : Nat} (C0 : lw_At p s m meth c b L xs) (hL : L ≤ 3072) (hcc : cells ≤ 600000) (hss : slots ≤ 7302250) (dC : Nat → ClassId) (dI : Nat → Nat → Nat) (G : GT) (cs cr : Nat → ClassId) (br adK adV : Nat → Nat) (hW : LWD s dC dI G cs cr br adK adV) (bq : Nat → Nat) (hQX : QXD s G br bq) (hT : Ty G (bq 11) 11) (tt mm : Nat) (f : Nat → va_E) (u v : RS) (H : Heap) (locs : List Loc) (ls : Array Slot) (hok : OKT G cs tt mm f) (hP : va_P (dC, dI) vwCl (va_pl (gL G) f) H) (hP2 : KP dC dI cr br u cs bq v H) (hI5 : IV5 u v tt mm) (htt : tt ≤ 700) (hmm : mm ≤ 3) (hS : va_S (AL s) s.heap H locs) (i : Nat) (hi : i + 6 ≤ L) (hl : lv_has ls 4 [(0, .ref b), (1, .ref (bq 11)), (2, .ref (br 0)), (3, .int (nI i))]) (hk : ∀ (tt mm : Nat) (f : Nat → va_E) (u v : RS) (H : Heap) (locs : List Loc) (ls : Array Slot), OKT G cs tt mm f → va_P (dC, dI) vwCl (va_pl (gL G) f) H → KP dC dI cr br u cs bq v H → IV5 u v tt mm → tt ≤ 700 → mm ≤ 3 → va_S (AL s) s.heap H locs → lv_has ls 4 [(0, .ref b), (1, .ref (bq 11)), (2, .ref (br 0)), (3, .int (nI i))] → W p l e room_1 s m #[Value.ref b] below meth c H locs cells slots (lw_Z below #[Value.ref b] s) (F0 m 1631 ls [])) : W p l e room_1 s m #[Value.ref b] below meth c H locs cells slots (lw_Z below #[Value.ref b] s) (F0 m 257 ls []) := by
  obtain ⟨hx, hb, hr, hml, hown, hts, hX, hbl, hlocks, hgv⟩ := id C0
  have hE := hW.2.2.2.2.2.1
  have hIV := hI5.1
  have hbA : ¬ AL s b := Nat.not_le.mpr hbl
  refine lv_aload_n hx hb dL_law_257 rfl (lv_at hl 1 rfl) ?_
  refine lv_aload_n hx hb dL_law_258 rfl (lv_at hl 0 rfl) ?_
  refine lv_iload_n hx hb dL_law_259 rfl (lv_at hl 3 rfl) ?_
  refine lv_iconst (v := 1) hx hb dL_law_260 (by decide) ?_
  refine lv_iadd hx hb dL_law_261 ?_
  refine W.eq (g2 := F0 m 262 ls (.int (nI (i + 1)) :: [.ref b, .ref (bq 11)])) (congrArg (fun z : Int32 => F0 m 262 ls (.int z :: [.ref b, .ref (bq 11)])) (nI_add i 1)) ?_
  refine va_sld hx hb hX hbl hbA hS (vp_in_nI (by omega) (by omega)) dL_law_262 ?_
  refine lv_topi (fun y1 ey1 => ?_)
  refine lv_aload_n hx hb dL_law_263 rfl (lv_at hl 0 rfl) ?_
  refine lv_iload_n hx hb dL_law_264 rfl (lv_at hl 3 rfl) ?_
  refine lv_iconst (v := 2) hx hb dL_law_265 (by decide) ?_
  refine lv_iadd hx hb dL_law_266 ?_
  refine W.eq (g2 := F0 m 267 ls (.int (nI (i + 2)) :: [.ref b, .int y1, .ref (bq 11)])) (congrArg (fun z : Int32 => F0 m 267 ls (.int z :: [.ref b, .int y1, .ref (bq 11)])) (nI_add i 2)) ?_
  refine va_sld hx hb hX hbl hbA hS (vp_in_nI (by omega) (by omega)) dL_law_267 ?_
  refine lv_topi (fun y2 ey2 => ?_)
  refine lv_aload_n hx hb dL_law_268 rfl (lv_at hl 0 rfl) ?_
  refine lv_iload_n hx hb dL_law_269 rfl (lv_at hl 3 rfl) ?_
  refine lv_iconst (v := 3) hx hb dL_law_270 (by decide) ?_
  refine lv_iadd hx hb dL_law_271 ?_
  refine W.eq (g2 := F0 m 272 ls (.int (nI (i + 3)) :: [.ref b, .int y2, .int y1, .ref (bq 11)])) (congrArg (fun z : Int32 => F0 m 272 ls (.int z :: [.ref b, .int y2, .int y1, .ref (bq 11)])) (nI_add i 3)) ?_
  refine va_sld hx hb hX hbl hbA hS (vp_in_nI (by omega) (by omega)) dL_law_272 ?_
  refine lv_topi (fun y3 ey3 => ?_)
  refine lv_aload_n hx hb dL_law_273 rfl (lv_at hl 0 rfl) ?_
  refine lv_iload_n hx hb dL_law_274 rfl (lv_at hl 3 rfl) ?_
  refine lv_iconst (v := 4) hx hb dL_law_275 (by decide) ?_
  refine lv_iadd hx hb dL_law_276 ?_
  refine W.eq (g2 := F0 m 277 ls (.int (nI (i + 4)) :: [.ref b, .int y3, .int y2, .int y1, .ref (bq 11)])) (congrArg (fun z : Int32 => F0 m 277 ls (.int z :: [.ref b, .int y3, .int y2, .int y1, .ref (bq 11)])) (nI_add i 4)) ?_
  refine va_sld hx hb hX hbl hbA hS (vp_in_nI (by omega) (by omega)) dL_law_277 ?_
  refine lv_topi (fun y4 ey4 => ?_)
  refine lv_aload_n hx hb dL_law_278 rfl (lv_at hl 0 rfl) ?_
  refine lv_iload_n hx hb dL_law_279 rfl (lv_at hl 3 rfl) ?_
  refine lv_iconst (v := 5) hx hb dL_law_280 (by decide) ?_
  refine lv_iadd hx hb dL_law_281 ?_
  refine W.eq (g2 := F0 m 282 ls (.int (nI (i + 5)) :: [.ref b, .int y4, .int y3, .int y2, .int y1, .ref (bq 11)])) (congrArg (fun z : Int32 => F0 m 282 ls (.int z :: [.ref b, .int y4, .int y3, .int y2, .int y1, .ref (bq 11)])) (nI_add i 5)) ?_
  refine va_sld hx hb hX hbl hbA hS (vp_in_nI (by omega) (by omega)) dL_law_282 ?_
  refine lv_topi (fun y5 ey5 => ?_)
  rcases Nat.lt_or_ge 700 (tt + 20) with h20 | h20
  · obtain ⟨y6, hz6a, hz6b, he6⟩ := ok_X11 hok hT
    refine lx_i hW hQX hP2 hS (va_runV (As := [.int y1, .int y2, .int y3, .int y4, .int y5]) (rest := []) ⟨hx, hb, hml, hown, noTs⟩ (t_X11_feed_no l dC dI H.size G cs tt mm (bq 11) hT y1 y2 y3 y4 y5 h20) ⟨cbE 5 (wd_424 hE) (wd_115 hE) (wd_421 hE) rfl rfl (by decide +kernel) ⟨Nat.le_of_ble_eq_true rfl, Nat.le_of_ble_eq_true rfl⟩, (wd_422 hE), (wd_423 hE)⟩ ⟨PT.blind, th_recv hW.1 hP hT.1 he6 rfl, (th_pre (av := [.ref (bq 11), .int y1, .int y2, .int y3, .int y4, .int y5]) trivial hW.1 hP hok hW.2.2.1 hW.2.2.2.1 hE)⟩ rfl rfl hl.1 rfl (lv_room (Nat.le_of_ble_eq_true rfl)) dL_law_283 ⟨hcc, hss⟩) (fun r6 f H locs hr6 hok hP hP2 hS => ?_)
    refine lv_pop hx hb dL_law_286 rfl ?_
    refine lv_aload_n hx hb dL_law_287 rfl (lv_at hl 2 rfl) ?_
    refine lv_aload_n hx hb dL_law_288 rfl (lv_at hl 0 rfl) ?_
    refine lv_iload_n hx hb dL_law_289 rfl (lv_at hl 3 rfl) ?_
    refine lv_iconst (v := 1) hx hb dL_law_290 (by decide) ?_
    refine lv_iadd hx hb dL_law_291 ?_
    refine W.eq (g2 := F0 m 292 ls (.int (nI (i + 1)) :: [.ref b, .ref (br 0)])) (congrArg (fun z : Int32 => F0 m 292 ls (.int z :: [.ref b, .ref (br 0)])) (nI_add i 1)) ?_
    refine va_sld hx hb hX hbl hbA hS (vp_in_nI (by omega) (by omega)) dL_law_292 ?_
    refine lv_topi (fun y7 ey7 => ?_)
    refine lv_aload_n hx hb dL_law_293 rfl (lv_at hl 0 rfl) ?_
    refine lv_iload_n hx hb dL_law_294 rfl (lv_at hl 3 rfl) ?_
    refine lv_iconst (v := 2) hx hb dL_law_295 (by decide) ?_
    refine lv_iadd hx hb dL_law_296 ?_
    refine W.eq (g2 := F0 m 297 ls (.int (nI (i + 2)) :: [.ref b, .int y7, .ref (br 0)])) (congrArg (fun z : Int32 => F0 m 297 ls (.int z :: [.ref b, .int y7, .ref (br 0)])) (nI_add i 2)) ?_
    refine va_sld hx hb hX hbl hbA hS (vp_in_nI (by omega) (by omega)) dL_law_297 ?_
    refine lv_topi (fun y8 ey8 => ?_)
    refine lv_aload_n hx hb dL_law_298 rfl (lv_at hl 0 rfl) ?_
    refine lv_iload_n hx hb dL_law_299 rfl (lv_at hl 3 rfl) ?_
    refine lv_iconst (v := 3) hx hb dL_law_300 (by decide) ?_
    refine lv_iadd hx hb dL_law_301 ?_
    refine W.eq (g2 := F0 m 302 ls (.int (nI (i + 3)) :: [.ref b, .int y8, .int y7, .ref (br 0)])) (congrArg (fun z : Int32 => F0 m 302 ls (.int z :: [.ref b, .int y8, .int y7, .ref (br 0)])) (nI_add i 3)) ?_
    refine va_sld hx hb hX hbl hbA hS (vp_in_nI (by omega) (by omega)) dL_law_302 ?_
    refine lv_topi (fun y9 ey9 => ?_)
    refine lv_aload_n hx hb dL_law_303 rfl (lv_at hl 0 rfl) ?_
    refine lv_iload_n hx hb dL_law_304 rfl (lv_at hl 3 rfl) ?_
    refine lv_iconst (v := 4) hx hb dL_law_305 (by decide) ?_
    refine lv_iadd hx hb dL_law_306 ?_
    refine W.eq (g2 := F0 m 307 ls (.int (nI (i + 4)) :: [.ref b, .int y9, .int y8, .int y7, .ref (br 0)])) (congrArg (fun z : Int32 => F0 m 307 ls (.int z :: [.ref b, .int y9, .int y8, .int y7, .ref (br 0)])) (nI_add i 4)) ?_
    refine va_sld hx hb hX hbl hbA hS (vp_in_nI (by omega) (by omega)) dL_law_307 ?_
    refine lv_topi (fun y10 ey10 => ?_)
    refine lv_aload_n hx hb dL_law_308 rfl (lv_at hl 0 rfl) ?_
    refine lv_iload_n hx hb dL_law_309 rfl (lv_at hl 3 rfl) ?_
    refine lv_iconst (v := 5) hx hb dL_law_310 (by decide) ?_
    refine lv_iadd hx hb dL_law_311 ?_
    refine W.eq (g2 := F0 m 312 ls (.int (nI (i + 5)) :: [.ref b, .int y10, .int y9, .int y8, .int y7, .ref (br 0)])) (congrArg (fun z : Int32 => F0 m 312 ls (.int z :: [.ref b, .int y10, .int y9, .int y8, .int y7, .ref (br 0)])) (nI_add i 5)) ?_
    refine va_sld hx hb hX hbl hbA hS (vp_in_nI (by omega) (by omega)) dL_law_312 ?_
    refine lv_topi (fun y11 ey11 => ?_)
    obtain ⟨ac, hac, hF2⟩ := hIV.2.1
    obtain ⟨v0, hv0, hF15⟩ := hIV.2.2.2.2.1
    obtain ⟨oo, hoo, hF30⟩ := hIV.2.2.2.2.2
    have hAB := hIV.1
    have hBG := ab_0 hAB
    have hGG := bg_g hBG
    refine vp_callSi (va_Run.run (va_runV (As := [.int y7, .int y8, .int y9, .int y10, .int y11]) (rest := []) ⟨hx, hb, hml, hown, noTs⟩ (r_X12_feed_no l dC dI H.size cr br u (rA u 1) rfl y7 y8 y9 y10 y11 tt hIV.2.2.2.1 (by first | assumption | omega) (by first | assumption | omega)) ⟨cbE 5 (wd_1483 hE) (wd_126 hE) (wd_1480 hE) rfl rfl (by decide +kernel) ⟨Nat.le_of_ble_eq_true rfl, Nat.le_of_ble_eq_true rfl⟩, (wd_1481 hE), (wd_1482 hE)⟩ ⟨PR.blind, r_recv hW.2.1 hP2.1 rfl, (r_pre (av := [.ref (br 0), .int y7, .int y8, .int y9, .int y10, .int y11]) hW.2.1 hP2.1 hW.2.2.2.2.1 hE)⟩ rfl rfl hl.1 rfl (lv_room (Nat.le_of_ble_eq_true rfl)) dL_law_313 ⟨hcc, hss⟩)) (fun r12 hr12 => ?_)
    have hIV2 := hIV
    have hI52 := hI5
    refine lv_pop hx hb dL_law_316 rfl ?_
    refine lv_goto (tgt := 1631) hx hb dL_law_317 (by decide) ?_
    exact hk _ _ _ _ _ _ _ _ hok hP hP2 hI52 (by omega) (by omega) hS (lv_sub hl [0, 1, 2, 3] rfl)
  · obtain ⟨w, wA, wF, w34, w37, hw⟩ := z12 hQX.2.2.2.2.2.1 hT hok hP hP2.2
    refine lz_i hW hQX hP2.1 hS (va_runV (As := [.int y1, .int y2, .int y3, .int y4, .int y5]) (rest := []) ⟨hx, hb, hml, hown, noTs⟩ (q_X11_feed l dC dI H.size cs bq w (rA w 5) rfl y1 y2 y3 y4 y5 tt w37 h20 (by rw [wA]; exact hI5.2.1.1)) ⟨cbE 5 (wd_424 hE) (wd_115 hE) (wd_421 hE) rfl rfl (by decide +kernel) ⟨Nat.le_of_ble_eq_true rfl, Nat.le_of_ble_eq_true rfl⟩, (wd_422 hE), (wd_423 hE)⟩ ⟨PQ.blind, q_recv 11 (by decide) rfl (hW.1.sub [0, 1] rfl) hw rfl, (q_pre (av := [.ref (bq 11), .int y1, .int y2, .int y3, .int y4, .int y5]) (hW.1.sub [0, 1] rfl) hw hQX.1 hE)⟩ rfl rfl hl.1 rfl (lv_room (Nat.le_of_ble_eq_true rfl)) dL_law_283 ⟨hcc, hss⟩) (fun r13 w13 H locs hpo13 hw13 hkt hR hS => ?_)
    obtain ⟨hr13, p37, pFD, pFR⟩ := hpo13
    obtain ⟨f, hok, hP⟩ := z21 hW.2.2.2.1 hT hQX.2.2.2.2.2.1 hok hP hkt hw13 ((pFR.2.1 34 (by decide)).trans w34) p37 h20 hmm
    have hP2 : KP dC dI cr br u cs bq w13 H := ⟨hR, qv_of hw13⟩
    refine lv_pop hx hb dL_law_286 rfl ?_
    refine lv_aload_n hx hb dL_law_287 rfl (lv_at hl 2 rfl) ?_
    refine lv_aload_n hx hb dL_law_288 rfl (lv_at hl 0 rfl) ?_
    refine lv_iload_n hx hb dL_law_289 rfl (lv_at hl 3 rfl) ?_
    refine lv_iconst (v := 1) hx hb dL_law_290 (by decide) ?_
    refine lv_iadd hx hb dL_law_291 ?_
    refine W.eq (g2 := F0 m 292 ls (.int (nI (i + 1)) :: [.ref b, .ref (br 0)])) (congrArg (fun z : Int32 => F0 m 292 ls (.int z :: [.ref b, .ref (br 0)])) (nI_add i 1)) ?_
    refine va_sld hx hb hX hbl hbA hS (vp_in_nI (by omega) (by omega)) dL_law_292 ?_
    refine lv_topi (fun y14 ey14 => ?_)
    refine lv_aload_n hx hb dL_law_293 rfl (lv_at hl 0 rfl) ?_
    refine lv_iload_n hx hb dL_law_294 rfl (lv_at hl 3 rfl) ?_
    refine lv_iconst (v := 2) hx hb dL_law_295 (by decide) ?_
    refine lv_iadd hx hb dL_law_296 ?_
    refine W.eq (g2 := F0 m 297 ls (.int (nI (i + 2)) :: [.ref b, .int y14, .ref (br 0)])) (congrArg (fun z : Int32 => F0 m 297 ls (.int z :: [.ref b, .int y14, .ref (br 0)])) (nI_add i 2)) ?_
    refine va_sld hx hb hX hbl hbA hS (vp_in_nI (by omega) (by omega)) dL_law_297 ?_
    refine lv_topi (fun y15 ey15 => ?_)
    refine lv_aload_n hx hb dL_law_298 rfl (lv_at hl 0 rfl) ?_
    refine lv_iload_n hx hb dL_law_299 rfl (lv_at hl 3 rfl) ?_
    refine lv_iconst (v := 3) hx hb dL_law_300 (by decide) ?_
    refine lv_iadd hx hb dL_law_301 ?_
    refine W.eq (g2 := F0 m 302 ls (.int (nI (i + 3)) :: [.ref b, .int y15, .int y14, .ref (br 0)])) (congrArg (fun z : Int32 => F0 m 302 ls (.int z :: [.ref b, .int y15, .int y14, .ref (br 0)])) (nI_add i 3)) ?_
    refine va_sld hx hb hX hbl hbA hS (vp_in_nI (by omega) (by omega)) dL_law_302 ?_
    refine lv_topi (fun y16 ey16 => ?_)
    refine lv_aload_n hx hb dL_law_303 rfl (lv_at hl 0 rfl) ?_
    refine lv_iload_n hx hb dL_law_304 rfl (lv_at hl 3 rfl) ?_
    refine lv_iconst (v := 4) hx hb dL_law_305 (by decide) ?_
    refine lv_iadd hx hb dL_law_306 ?_
    refine W.eq (g2 := F0 m 307 ls (.int (nI (i + 4)) :: [.ref b, .int y16, .int y15, .int y14, .ref (br 0)])) (congrArg (fun z : Int32 => F0 m 307 ls (.int z :: [.ref b, .int y16, .int y15, .int y14, .ref (br 0)])) (nI_add i 4)) ?_
    refine va_sld hx hb hX hbl hbA hS (vp_in_nI (by omega) (by omega)) dL_law_307 ?_
    refine lv_topi (fun y17 ey17 => ?_)
    refine lv_aload_n hx hb dL_law_308 rfl (lv_at hl 0 rfl) ?_
    refine lv_iload_n hx hb dL_law_309 rfl (lv_at hl 3 rfl) ?_
    refine lv_iconst (v := 5) hx hb dL_law_310 (by decide) ?_
    refine lv_iadd hx hb dL_law_311 ?_
    refine W.eq (g2 := F0 m 312 ls (.int (nI (i + 5)) :: [.ref b, .int y17, .int y16, .int y15, .int y14, .ref (br 0)])) (congrArg (fun z : Int32 => F0 m 312 ls (.int z :: [.ref b, .int y17, .int y16, .int y15, .int y14, .ref (br 0)])) (nI_add i 5)) ?_
    refine va_sld hx hb hX hbl hbA hS (vp_in_nI (by omega) (by omega)) dL_law_312 ?_
    refine lv_topi (fun y18 ey18 => ?_)
    have hyy : y1 = y14 := ey1.trans ey14.symm
    have hyy : y2 = y15 := ey2.trans ey15.symm
    have hyy : y3 = y16 := ey3.trans ey16.symm
    have hyy : y4 = y17 := ey4.trans ey17.symm
    have hyy : y5 = y18 := ey5.trans ey18.symm
    obtain ⟨ac, hac, hF2⟩ := hIV.2.1
    obtain ⟨v0, hv0, hF15⟩ := hIV.2.2.2.2.1
    obtain ⟨oo, hoo, hF30⟩ := hIV.2.2.2.2.2
    have hAB := hIV.1
    have hBG := ab_0 hAB
    have hGG := bg_g hBG
    refine ly_i hW hQX hP hP2.2 hS (va_runV (As := [.int y14, .int y15, .int y16, .int y17, .int y18]) (rest := []) ⟨hx, hb, hml, hown, noTs⟩ (x_X12_feed l dC dI H.size cr br u (rA u 15) rfl y14 y15 y16 y17 y18 tt hIV.2.2.2.1 (by first | assumption | omega) hI5.2.1.2.1) ⟨cbE 5 (wd_1483 hE) (wd_126 hE) (wd_1480 hE) rfl rfl (by decide +kernel) ⟨Nat.le_of_ble_eq_true rfl, Nat.le_of_ble_eq_true rfl⟩, (wd_1481 hE), (wd_1482 hE)⟩ ⟨PR.blind, r_recv hW.2.1 hP2.1 rfl, (r_pre (av := [.ref (br 0), .int y14, .int y15, .int y16, .int y17, .int y18]) hW.2.1 hP2.1 hW.2.2.2.2.1 hE)⟩ rfl rfl hl.1 rfl (lv_room (Nat.le_of_ble_eq_true rfl)) dL_law_313 ⟨hcc, hss⟩) (fun r19 u19 H locs hpo19 hP2 hP hS => ?_)
    obtain ⟨hr19, h19_0, h19_1, hq19⟩ := hpo19
    have hIV2 : IV u19 (tt + 20) mm := ⟨by rw [hq19.1 1 (by decide)]; exact hIV.1, by rw [hq19.2.1 2 (by decide)]; exact hIV.2.1, by rw [hq19.2.1 3 (by decide)]; exact hIV.2.2.1, h19_0, by rw [hq19.2.1 15 (by decide)]; exact hIV.2.2.2.2.1, by rw [hq19.2.1 30 (by decide)]; exact hIV.2.2.2.2.2⟩
    have hyy1 : y14 = y1 := ey14.trans ey1.symm
    subst hyy1
    have hyy2 : y15 = y2 := ey15.trans ey2.symm
    subst hyy2
    have hyy3 : y16 = y3 := ey16.trans ey3.symm
    subst hyy3
    have hyy4 : y17 = y4 := ey17.trans ey4.symm
    subst hyy4
    have hyy5 : y18 = y5 := ey18.trans ey5.symm
    subst hyy5
    have hI52 : IV5 u19 w13 (tt + 20) mm := ⟨hIV2, ⟨pFD.1, h19_1.1, fd_eq pFD h19_1 (fun q hq => (congrFun (wA 5) q).trans (hI5.2.1.2.2 q hq))⟩, ft_mv hI5.2.2 ((pFR.2.1 3 (by decide)).trans (wF 3 (by decide))) ((pFR.2.1 7 (by decide)).trans (wF 7 (by decide))) ((pFR.2.1 8 (by decide)).trans (wF 8 (by decide))) ((pFR.2.1 9 (by decide)).trans (wF 9 (by decide))) (hq19.2.1 17 (by decide)) (hq19.2.1 18 (by decide)) (hq19.2.1 19 (by decide))⟩
    refine lv_pop hx hb dL_law_316 rfl ?_
    refine lv_goto (tgt := 1631) hx hb dL_law_317 (by decide) ?_
    exact hk _ _ _ _ _ _ _ _ hok hP hP2 hI52 (by omega) (by omega) hS (lv_sub hl [0, 1, 2, 3] rfl)
set_option maxHeartbeats 4000000 in
set_option maxRecDepth 100000 in
theorem law_2 {p : Program} {e : Env} {s : State} {m : MethodId} {below : List Frame} {meth : Method} {c : Code} (l : Launch) {b L : Nat} {xs : Nat → Int32} {cells slots : Nat} (C0 : lw_At p s m meth c b L xs) (hL : L ≤ 3072) (hcc : cells ≤ 600000) (hss : slots ≤ 7302250) (dC : Nat → ClassId) (dI : Nat → Nat → Nat) (G : GT) (cs cr : Nat → ClassId) (br adK adV : Nat → Nat) (hW : LWD s dC dI G cs cr br adK adV) (bq : Nat → Nat) (hQX : QXD s G br bq) (hT : Ty G (bq 11) 11) (tt mm : Nat) (f : Nat → va_E) (u v : RS) (H : Heap) (locs : List Loc) (ls : Array Slot) (hok : OKT G cs tt mm f) (hP : va_P (dC, dI) vwCl (va_pl (gL G) f) H) (hP2 : KP dC dI cr br u cs bq v H) (hI5 : IV5 u v tt mm) (htt : tt ≤ 700) (hmm : mm ≤ 3) (hS : va_S (AL s) s.heap H locs) (i : Nat) (hi : i + 6 ≤ L) (hl : lv_has ls 4 [(0, .ref b), (1, .ref (bq 11)), (2, .ref (br 0)), (3, .int (nI i))]) (hk : ∀ (tt mm : Nat) (f : Nat → va_E) (u v : RS) (H : Heap) (locs : List Loc) (ls : Array Slot), OKT G cs tt mm f → va_P (dC, dI) vwCl (va_pl (gL G) f) H → KP dC dI cr br u cs bq v H → IV5 u v tt mm → tt ≤ 700 → mm ≤ 3 → va_S (AL s) s.heap H locs → lv_has ls 4 [(0, .ref b), (1, .ref (bq 11)), (2, .ref (br 0)), (3, .int (nI i))] → W p l e room_1 s m #[Value.ref b] below meth c H locs cells slots (lw_Z below #[Value.ref b] s) (F0 m 1631 ls [])) : W p l e room_1 s m #[Value.ref b] below meth c H locs cells slots (lw_Z below #[Value.ref b] s) (F0 m 320 ls []) := by
  obtain ⟨hx, hb, hr, hml, hown, hts, hX, hbl, hlocks, hgv⟩ := id C0
  have hE := hW.2.2.2.2.2.1
  have hIV := hI5.1
  have hbA : ¬ AL s b := Nat.not_le.mpr hbl
  refine lv_aload_n hx hb dL_law_320 rfl (lv_at hl 1 rfl) ?_
  refine lv_aload_n hx hb dL_law_321 rfl (lv_at hl 0 rfl) ?_
  refine lv_iload_n hx hb dL_law_322 rfl (lv_at hl 3 rfl) ?_
  refine lv_iconst (v := 1) hx hb dL_law_323 (by decide) ?_
  refine lv_iadd hx hb dL_law_324 ?_
  refine W.eq (g2 := F0 m 325 ls (.int (nI (i + 1)) :: [.ref b, .ref (bq 11)])) (congrArg (fun z : Int32 => F0 m 325 ls (.int z :: [.ref b, .ref (bq 11)])) (nI_add i 1)) ?_
  refine va_sld hx hb hX hbl hbA hS (vp_in_nI (by omega) (by omega)) dL_law_325 ?_
  refine lv_topi (fun y1 ey1 => ?_)
  by_cases hin : 0 ≤ y1.toInt ∧ y1.toInt ≤ (tt : Int)
  · obtain ⟨xn, hxn, hyn⟩ := i_nat hin.1 hin.2
    rw [hyn]
    obtain ⟨w, wA, wF, w34, w37, hw⟩ := z12 hQX.2.2.2.2.2.1 hT hok hP hP2.2
    refine lzz_i hW hQX hP2.1 hS (va_runV (As := [.int (nI xn)]) (rest := []) ⟨hx, hb, hml, hown, noTs⟩ (z_X11_load l dC dI H.size cs bq w adK adV (gM G (bq 11)) cs tt mm (gM_up hT.2 hQX.2.2.2.2.2.2.1 (by decide)) (gM_up hT.2 hQX.2.2.2.2.2.2.2 (by decide)) (rA w 5) rfl (rA w 2) rfl (rA w 3) rfl (rA w 4) rfl (rA w 7) rfl xn tt w37 (by rw [wA]; exact hI5.2.1.1) hxn htt) ⟨cbE 1 (wd_432 hE) (wd_115 hE) (wd_429 hE) rfl rfl (by decide +kernel) ⟨Nat.le_of_ble_eq_true rfl, Nat.le_of_ble_eq_true rfl⟩, (wd_430 hE), (wd_431 hE)⟩ ⟨PZ.blind, q_recv 11 (by decide) rfl (hW.1.sub [0, 1] rfl) hw rfl, (lzz_pre (av := [.ref (bq 11), .int (nI xn)]) hW hQX hw hP hok hS)⟩ rfl rfl hl.1 rfl (lv_room (Nat.le_of_ble_eq_true rfl)) dL_law_326 ⟨hcc, hss⟩) (fun r2 w2 H locs hpo2 hw2 hF hR hS => ?_)
    obtain ⟨hr2, p3, p37, pFR⟩ := hpo2
    obtain ⟨f, hok, hP⟩ := z21b hW.2.2.2.1 hT hQX.2.2.2.2.2.1 hF hw2 ((pFR.2.1 34 (by decide)).trans w34) (t2 := 0) p37 (by decide) hmm
    have hP2 : KP dC dI cr br u cs bq w2 H := ⟨hR, qv_of hw2⟩
    refine lv_aload_n hx hb dL_law_329 rfl (lv_at hl 2 rfl) ?_
    refine lv_aload_n hx hb dL_law_330 rfl (lv_at hl 0 rfl) ?_
    refine lv_iload_n hx hb dL_law_331 rfl (lv_at hl 3 rfl) ?_
    refine lv_iconst (v := 1) hx hb dL_law_332 (by decide) ?_
    refine lv_iadd hx hb dL_law_333 ?_
    refine W.eq (g2 := F0 m 334 ls (.int (nI (i + 1)) :: [.ref b, .ref (br 0), .int r2])) (congrArg (fun z : Int32 => F0 m 334 ls (.int z :: [.ref b, .ref (br 0), .int r2])) (nI_add i 1)) ?_
    refine va_sld hx hb hX hbl hbA hS (vp_in_nI (by omega) (by omega)) dL_law_334 ?_
    refine lv_topi (fun y3 ey3 => ?_)
    have hyy : y1 = y3 := ey1.trans ey3.symm
    have hzz : y3 = nI xn := ey3.trans (ey1.symm.trans hyn)
    rw [hzz]
    obtain ⟨ac, hac, hF2⟩ := hIV.2.1
    obtain ⟨v0, hv0, hF15⟩ := hIV.2.2.2.2.1
    obtain ⟨oo, hoo, hF30⟩ := hIV.2.2.2.2.2
    have hAB := hIV.1
    have hBG := ab_0 hAB
    have hGG := bg_g hBG
    refine ly_i hW hQX hP hP2.2 hS (va_runV (As := [.int (nI xn)]) (rest := [.int r2]) ⟨hx, hb, hml, hown, noTs⟩ (x_X12_load l dC dI H.size cr br u adK adV (rA u 1) rfl (rA u 15) rfl xn tt ac v0 hIV.2.2.2.1 hF2 hF15 (by first | assumption | omega) (by first | assumption | omega) (by first | assumption | omega) (by first | assumption | omega) (by first | assumption | omega) hI5.2.1.2.1) ⟨cbE 1 (wd_1491 hE) (wd_126 hE) (wd_1488 hE) rfl rfl (by decide +kernel) ⟨Nat.le_of_ble_eq_true rfl, Nat.le_of_ble_eq_true rfl⟩, (wd_1489 hE), (wd_1490 hE)⟩ ⟨PRX.blind, r_recv hW.2.1 hP2.1 rfl, (ly_preX (av := [.ref (br 0), .int (nI xn)]) hW hP2.1 hS)⟩ rfl rfl hl.1 rfl (lv_room (Nat.le_of_ble_eq_true rfl)) dL_law_335 ⟨hcc, hss⟩) (fun r4 u4 H locs hpo4 hP2 hP hS => ?_)
    obtain ⟨hr4, h4_0, h4_1, h4_2, h4_3, h4_4, h4_5, hq4⟩ := hpo4
    have hIV2 : IV u4 0 mm := ⟨h4_0, h4_1, by rw [hq4.2.1 3 (by decide)]; exact hIV.2.2.1, h4_2, h4_3, by rw [hq4.2.1 30 (by decide)]; exact hIV.2.2.2.2.2⟩
    have hFT := ft_load (u := u4) (w := w2) (pLoad_cg (bA_eq hxn (fun q hq => (congrFun (wA 5) q).trans (hI5.2.1.2.2 q hq)))) p3 hr2 h4_4 h4_5 hr4
    have hI52 : IV5 u4 w2 0 mm := ⟨hIV2, ⟨by rw [pFR.1 5 (by decide), wA]; exact hI5.2.1.1, by rw [hq4.1 15 (by decide)]; exact hI5.2.1.2.1, fun _ h => absurd h (Nat.not_lt_zero _)⟩, hFT.1⟩
    obtain rfl := hFT.2
    refine lv_icmp_eq (tgt := 1631) hx hb dL_law_338 (by decide) (fun _ => ?_) (fun h => absurd rfl h)
    exact hk _ _ _ _ _ _ _ _ hok hP hP2 hI52 (by omega) (by omega) hS (lv_sub hl [0, 1, 2, 3] rfl)
  · have hin2 : y1.toInt < 0 ∨ (tt : Int) < y1.toInt := by omega
    obtain ⟨w, wA, wF, w34, w37, hw⟩ := z12 hQX.2.2.2.2.2.1 hT hok hP hP2.2
    refine lz_i hW hQX hP2.1 hS (va_runV (As := [.int y1]) (rest := []) ⟨hx, hb, hml, hown, noTs⟩ (q_X11_load_no l dC dI H.size cs bq w y1 tt w37 hin2 htt) ⟨cbE 1 (wd_432 hE) (wd_115 hE) (wd_429 hE) rfl rfl (by decide +kernel) ⟨Nat.le_of_ble_eq_true rfl, Nat.le_of_ble_eq_true rfl⟩, (wd_430 hE), (wd_431 hE)⟩ ⟨PQ.blind, q_recv 11 (by decide) rfl (hW.1.sub [0, 1] rfl) hw rfl, (q_pre (av := [.ref (bq 11), .int y1]) (hW.1.sub [0, 1] rfl) hw hQX.1 hE)⟩ rfl rfl hl.1 rfl (lv_room (Nat.le_of_ble_eq_true rfl)) dL_law_326 ⟨hcc, hss⟩) (fun r5 w5 H locs hpo5 hw5 hkt hR hS => ?_)
    obtain ⟨hr5, pFR⟩ := hpo5
    obtain ⟨f, hok, hP⟩ := z21 hW.2.2.2.1 hT hQX.2.2.2.2.2.1 hok hP hkt hw5 ((pFR.2.1 34 (by decide)).trans w34) ((pFR.2.1 37 (by decide)).trans w37) htt hmm
    have hP2 : KP dC dI cr br u cs bq w5 H := ⟨hR, qv_of hw5⟩
    subst hr5
    refine lv_aload_n hx hb dL_law_329 rfl (lv_at hl 2 rfl) ?_
    refine lv_aload_n hx hb dL_law_330 rfl (lv_at hl 0 rfl) ?_
    refine lv_iload_n hx hb dL_law_331 rfl (lv_at hl 3 rfl) ?_
    refine lv_iconst (v := 1) hx hb dL_law_332 (by decide) ?_
    refine lv_iadd hx hb dL_law_333 ?_
    refine W.eq (g2 := F0 m 334 ls (.int (nI (i + 1)) :: [.ref b, .ref (br 0), .int (-1)])) (congrArg (fun z : Int32 => F0 m 334 ls (.int z :: [.ref b, .ref (br 0), .int (-1)])) (nI_add i 1)) ?_
    refine va_sld hx hb hX hbl hbA hS (vp_in_nI (by omega) (by omega)) dL_law_334 ?_
    refine lv_topi (fun y6 ey6 => ?_)
    have hyy : y1 = y6 := ey1.trans ey6.symm
    have hzz : y1 = y6 := ey1.trans ey6.symm
    subst hzz
    obtain ⟨ac, hac, hF2⟩ := hIV.2.1
    obtain ⟨v0, hv0, hF15⟩ := hIV.2.2.2.2.1
    obtain ⟨oo, hoo, hF30⟩ := hIV.2.2.2.2.2
    have hAB := hIV.1
    have hBG := ab_0 hAB
    have hGG := bg_g hBG
    refine ly_i hW hQX hP hP2.2 hS (va_runV (As := [.int y1]) (rest := [.int (-1)]) ⟨hx, hb, hml, hown, noTs⟩ (r_X12_load_no l dC dI H.size cr br u (rA u 1) rfl y1 tt hIV.2.2.2.1 (by first | assumption | omega) (by first | assumption | omega)) ⟨cbE 1 (wd_1491 hE) (wd_126 hE) (wd_1488 hE) rfl rfl (by decide +kernel) ⟨Nat.le_of_ble_eq_true rfl, Nat.le_of_ble_eq_true rfl⟩, (wd_1489 hE), (wd_1490 hE)⟩ ⟨PR.blind, r_recv hW.2.1 hP2.1 rfl, (r_pre (av := [.ref (br 0), .int y1]) hW.2.1 hP2.1 hW.2.2.2.2.1 hE)⟩ rfl rfl hl.1 rfl (lv_room (Nat.le_of_ble_eq_true rfl)) dL_law_335 ⟨hcc, hss⟩) (fun r7 u7 H locs hpo7 hP2 hP hS => ?_)
    obtain ⟨hr7, hq7⟩ := hpo7
    subst hr7
    have hIV2 : IV u7 tt mm := iv_fr hIV hq7 (by decide) (by decide) (by decide) (by decide) (by decide) (by decide)
    have hTF := tf_cl (w := w5) hI5.2 ((pFR.1 5 (by decide)).trans (wA 5)) ((pFR.2.1 3 (by decide)).trans (wF 3 (by decide))) ((pFR.2.1 7 (by decide)).trans (wF 7 (by decide))) ((pFR.2.1 8 (by decide)).trans (wF 8 (by decide))) ((pFR.2.1 9 (by decide)).trans (wF 9 (by decide)))
    have hI52 : IV5 u7 w5 tt mm := ⟨hIV2, tf_fr hTF hq7 (by decide) (by decide) (by decide) (by decide)⟩
    refine lv_icmp_eq (tgt := 1631) hx hb dL_law_338 (by decide) (fun _ => ?_) (fun h => absurd rfl h)
    exact hk _ _ _ _ _ _ _ _ hok hP hP2 hI52 (by omega) (by omega) hS (lv_sub hl [0, 1, 2, 3] rfl)
set_option maxHeartbeats 4000000 in
set_option maxRecDepth 100000 in
theorem law_3 {p : Program} {e : Env} {s : State} {m : MethodId} {below : List Frame} {meth : Method} {c : Code} (l : Launch) {b L : Nat} {xs : Nat → Int32} {cells slots : Nat} (C0 : lw_At p s m meth c b L xs) (hL : L ≤ 3072) (hcc : cells ≤ 600000) (hss : slots ≤ 7302250) (dC : Nat → ClassId) (dI : Nat → Nat → Nat) (G : GT) (cs cr : Nat → ClassId) (br adK adV : Nat → Nat) (hW : LWD s dC dI G cs cr br adK adV) (bq : Nat → Nat) (hQX : QXD s G br bq) (hT : Ty G (bq 11) 11) (tt mm : Nat) (f : Nat → va_E) (u v : RS) (H : Heap) (locs : List Loc) (ls : Array Slot) (hok : OKT G cs tt mm f) (hP : va_P (dC, dI) vwCl (va_pl (gL G) f) H) (hP2 : KP dC dI cr br u cs bq v H) (hI5 : IV5 u v tt mm) (htt : tt ≤ 700) (hmm : mm ≤ 3) (hS : va_S (AL s) s.heap H locs) (i : Nat) (hi : i + 6 ≤ L) (hl : lv_has ls 4 [(0, .ref b), (1, .ref (bq 11)), (2, .ref (br 0)), (3, .int (nI i))]) (hk : ∀ (tt mm : Nat) (f : Nat → va_E) (u v : RS) (H : Heap) (locs : List Loc) (ls : Array Slot), OKT G cs tt mm f → va_P (dC, dI) vwCl (va_pl (gL G) f) H → KP dC dI cr br u cs bq v H → IV5 u v tt mm → tt ≤ 700 → mm ≤ 3 → va_S (AL s) s.heap H locs → lv_has ls 4 [(0, .ref b), (1, .ref (bq 11)), (2, .ref (br 0)), (3, .int (nI i))] → W p l e room_1 s m #[Value.ref b] below meth c H locs cells slots (lw_Z below #[Value.ref b] s) (F0 m 1631 ls [])) : W p l e room_1 s m #[Value.ref b] below meth c H locs cells slots (lw_Z below #[Value.ref b] s) (F0 m 343 ls []) := by
  obtain ⟨hx, hb, hr, hml, hown, hts, hX, hbl, hlocks, hgv⟩ := id C0
  have hE := hW.2.2.2.2.2.1
  have hIV := hI5.1
  have hbA : ¬ AL s b := Nat.not_le.mpr hbl
  refine lv_aload_n hx hb dL_law_343 rfl (lv_at hl 1 rfl) ?_
  refine lv_aload_n hx hb dL_law_344 rfl (lv_at hl 0 rfl) ?_
  refine lv_iload_n hx hb dL_law_345 rfl (lv_at hl 3 rfl) ?_
  refine lv_iconst (v := 1) hx hb dL_law_346 (by decide) ?_
  refine lv_iadd hx hb dL_law_347 ?_
  refine W.eq (g2 := F0 m 348 ls (.int (nI (i + 1)) :: [.ref b, .ref (bq 11)])) (congrArg (fun z : Int32 => F0 m 348 ls (.int z :: [.ref b, .ref (bq 11)])) (nI_add i 1)) ?_
  refine va_sld hx hb hX hbl hbA hS (vp_in_nI (by omega) (by omega)) dL_law_348 ?_
  refine lv_topi (fun y1 ey1 => ?_)
  rcases hI5.2.2 with ⟨g3, g17, g18, g19⟩ | ⟨g3, g7, g8, g9⟩
  · obtain ⟨w, wA, wF, w34, w37, hw⟩ := z12 hQX.2.2.2.2.2.1 hT hok hP hP2.2
    refine vp_callSi (va_Run.run (va_runV (As := [.int y1]) (rest := []) ⟨hx, hb, hml, hown, noTs⟩ (q_X11_fault_n l dC dI H.size cs bq w y1 ((wF 3 (by decide)).trans g3)) ⟨cbE 1 (wd_752 hE) (wd_115 hE) (wd_749 hE) rfl rfl (by decide +kernel) ⟨Nat.le_of_ble_eq_true rfl, Nat.le_of_ble_eq_true rfl⟩, (wd_750 hE), (wd_751 hE)⟩ ⟨PQ.blind, q_recv 11 (by decide) rfl (hW.1.sub [0, 1] rfl) hw rfl, (q_pre (av := [.ref (bq 11), .int y1]) (hW.1.sub [0, 1] rfl) hw hQX.1 hE)⟩ rfl rfl hl.1 rfl (lv_room (Nat.le_of_ble_eq_true rfl)) dL_law_349 ⟨hcc, hss⟩)) (fun r2 hr2 => ?_)
    refine lv_pop hx hb dL_law_352 rfl ?_
    refine lv_aload_n hx hb dL_law_353 rfl (lv_at hl 2 rfl) ?_
    refine lv_aload_n hx hb dL_law_354 rfl (lv_at hl 0 rfl) ?_
    refine lv_iload_n hx hb dL_law_355 rfl (lv_at hl 3 rfl) ?_
    refine lv_iconst (v := 1) hx hb dL_law_356 (by decide) ?_
    refine lv_iadd hx hb dL_law_357 ?_
    refine W.eq (g2 := F0 m 358 ls (.int (nI (i + 1)) :: [.ref b, .ref (br 0)])) (congrArg (fun z : Int32 => F0 m 358 ls (.int z :: [.ref b, .ref (br 0)])) (nI_add i 1)) ?_
    refine va_sld hx hb hX hbl hbA hS (vp_in_nI (by omega) (by omega)) dL_law_358 ?_
    refine lv_topi (fun y3 ey3 => ?_)
    have hyy : y1 = y3 := ey1.trans ey3.symm
    have hzz : y1 = y3 := ey1.trans ey3.symm
    subst hzz
    obtain ⟨ac, hac, hF2⟩ := hIV.2.1
    obtain ⟨v0, hv0, hF15⟩ := hIV.2.2.2.2.1
    obtain ⟨oo, hoo, hF30⟩ := hIV.2.2.2.2.2
    have hAB := hIV.1
    have hBG := ab_0 hAB
    have hGG := bg_g hBG
    refine vp_callSi (va_Run.run (va_runV (As := [.int y1]) (rest := []) ⟨hx, hb, hml, hown, noTs⟩ (x_X12_fault l dC dI H.size cr br u y1 (rF u 17) (rF u 18) (rF u 19) rfl rfl rfl) ⟨cbE 1 (wd_1625 hE) (wd_126 hE) (wd_1622 hE) rfl rfl (by decide +kernel) ⟨Nat.le_of_ble_eq_true rfl, Nat.le_of_ble_eq_true rfl⟩, (wd_1623 hE), (wd_1624 hE)⟩ ⟨PR.blind, r_recv hW.2.1 hP2.1 rfl, (r_pre (av := [.ref (br 0), .int y1]) hW.2.1 hP2.1 hW.2.2.2.2.1 hE)⟩ rfl rfl hl.1 rfl (lv_room (Nat.le_of_ble_eq_true rfl)) dL_law_359 ⟨hcc, hss⟩)) (fun r4 hr4 => ?_)
    have hIV2 := hIV
    have hI52 := hI5
    refine lv_pop hx hb dL_law_362 rfl ?_
    refine lv_goto (tgt := 1631) hx hb dL_law_363 (by decide) ?_
    exact hk _ _ _ _ _ _ _ _ hok hP hP2 hI52 (by omega) (by omega) hS (lv_sub hl [0, 1, 2, 3] rfl)
  · obtain ⟨w, wA, wF, w34, w37, hw⟩ := z12 hQX.2.2.2.2.2.1 hT hok hP hP2.2
    refine vp_callSi (va_Run.run (va_runV (As := [.int y1]) (rest := []) ⟨hx, hb, hml, hown, noTs⟩ (q_X11_fault l dC dI H.size cs bq w y1 (rF u 19) (rF u 17) (rF u 18) ((wF 3 (by decide)).trans g3) ((wF 7 (by decide)).trans g7) ((wF 8 (by decide)).trans g8) ((wF 9 (by decide)).trans g9)) ⟨cbE 1 (wd_752 hE) (wd_115 hE) (wd_749 hE) rfl rfl (by decide +kernel) ⟨Nat.le_of_ble_eq_true rfl, Nat.le_of_ble_eq_true rfl⟩, (wd_750 hE), (wd_751 hE)⟩ ⟨PQ.blind, q_recv 11 (by decide) rfl (hW.1.sub [0, 1] rfl) hw rfl, (q_pre (av := [.ref (bq 11), .int y1]) (hW.1.sub [0, 1] rfl) hw hQX.1 hE)⟩ rfl rfl hl.1 rfl (lv_room (Nat.le_of_ble_eq_true rfl)) dL_law_349 ⟨hcc, hss⟩)) (fun r5 hr5 => ?_)
    refine lv_pop hx hb dL_law_352 rfl ?_
    refine lv_aload_n hx hb dL_law_353 rfl (lv_at hl 2 rfl) ?_
    refine lv_aload_n hx hb dL_law_354 rfl (lv_at hl 0 rfl) ?_
    refine lv_iload_n hx hb dL_law_355 rfl (lv_at hl 3 rfl) ?_
    refine lv_iconst (v := 1) hx hb dL_law_356 (by decide) ?_
    refine lv_iadd hx hb dL_law_357 ?_
    refine W.eq (g2 := F0 m 358 ls (.int (nI (i + 1)) :: [.ref b, .ref (br 0)])) (congrArg (fun z : Int32 => F0 m 358 ls (.int z :: [.ref b, .ref (br 0)])) (nI_add i 1)) ?_
    refine va_sld hx hb hX hbl hbA hS (vp_in_nI (by omega) (by omega)) dL_law_358 ?_
    refine lv_topi (fun y6 ey6 => ?_)
    have hyy : y1 = y6 := ey1.trans ey6.symm
    have hzz : y1 = y6 := ey1.trans ey6.symm
    subst hzz
    obtain ⟨ac, hac, hF2⟩ := hIV.2.1
    obtain ⟨v0, hv0, hF15⟩ := hIV.2.2.2.2.1
    obtain ⟨oo, hoo, hF30⟩ := hIV.2.2.2.2.2
    have hAB := hIV.1
    have hBG := ab_0 hAB
    have hGG := bg_g hBG
    refine vp_callSi (va_Run.run (va_runV (As := [.int y1]) (rest := []) ⟨hx, hb, hml, hown, noTs⟩ (x_X12_fault l dC dI H.size cr br u y1 (rF u 17) (rF u 18) (rF u 19) rfl rfl rfl) ⟨cbE 1 (wd_1625 hE) (wd_126 hE) (wd_1622 hE) rfl rfl (by decide +kernel) ⟨Nat.le_of_ble_eq_true rfl, Nat.le_of_ble_eq_true rfl⟩, (wd_1623 hE), (wd_1624 hE)⟩ ⟨PR.blind, r_recv hW.2.1 hP2.1 rfl, (r_pre (av := [.ref (br 0), .int y1]) hW.2.1 hP2.1 hW.2.2.2.2.1 hE)⟩ rfl rfl hl.1 rfl (lv_room (Nat.le_of_ble_eq_true rfl)) dL_law_359 ⟨hcc, hss⟩)) (fun r7 hr7 => ?_)
    have hIV2 := hIV
    have hI52 := hI5
    refine lv_pop hx hb dL_law_362 rfl ?_
    refine lv_goto (tgt := 1631) hx hb dL_law_363 (by decide) ?_
    exact hk _ _ _ _ _ _ _ _ hok hP hP2 hI52 (by omega) (by omega) hS (lv_sub hl [0, 1, 2, 3] rfl)
set_option maxHeartbeats 4000000 in
set_option maxRecDepth 100000 in
theorem law_4 {p : Program} {e : Env} {s : State} {m : MethodId} {below : List Frame} {meth : Method} {c : Code} (l : Launch) {b L : Nat} {xs : Nat → Int32} {cells slots : Nat} (C0 : lw_At p s m meth c b L xs) (hL : L ≤ 3072) (hcc : cells ≤ 600000) (hss : slots ≤ 7302250) (dC : Nat → ClassId) (dI : Nat → Nat → Nat) (G : GT) (cs cr : Nat → ClassId) (br adK adV : Nat → Nat) (hW : LWD s dC dI G cs cr br adK adV) (bq : Nat → Nat) (hQX : QXD s G br bq) (hT : Ty G (bq 11) 11) (tt mm : Nat) (f : Nat → va_E) (u v : RS) (H : Heap) (locs : List Loc) (ls : Array Slot) (hok : OKT G cs tt mm f) (hP : va_P (dC, dI) vwCl (va_pl (gL G) f) H) (hP2 : KP dC dI cr br u cs bq v H) (hI5 : IV5 u v tt mm) (htt : tt ≤ 700) (hmm : mm ≤ 3) (hS : va_S (AL s) s.heap H locs) (i : Nat) (hi : i + 6 ≤ L) (hl : lv_has ls 4 [(0, .ref b), (1, .ref (bq 11)), (2, .ref (br 0)), (3, .int (nI i))]) (hk : ∀ (tt mm : Nat) (f : Nat → va_E) (u v : RS) (H : Heap) (locs : List Loc) (ls : Array Slot), OKT G cs tt mm f → va_P (dC, dI) vwCl (va_pl (gL G) f) H → KP dC dI cr br u cs bq v H → IV5 u v tt mm → tt ≤ 700 → mm ≤ 3 → va_S (AL s) s.heap H locs → lv_has ls 4 [(0, .ref b), (1, .ref (bq 11)), (2, .ref (br 0)), (3, .int (nI i))] → W p l e room_1 s m #[Value.ref b] below meth c H locs cells slots (lw_Z below #[Value.ref b] s) (F0 m 1631 ls [])) : W p l e room_1 s m #[Value.ref b] below meth c H locs cells slots (lw_Z below #[Value.ref b] s) (F0 m 366 ls []) := by
  obtain ⟨hx, hb, hr, hml, hown, hts, hX, hbl, hlocks, hgv⟩ := id C0
  have hE := hW.2.2.2.2.2.1
  have hIV := hI5.1
  have hbA : ¬ AL s b := Nat.not_le.mpr hbl
  refine lv_aload_n hx hb dL_law_366 rfl (lv_at hl 1 rfl) ?_
  refine lv_aload_n hx hb dL_law_367 rfl (lv_at hl 0 rfl) ?_
  refine lv_iload_n hx hb dL_law_368 rfl (lv_at hl 3 rfl) ?_
  refine lv_iconst (v := 1) hx hb dL_law_369 (by decide) ?_
  refine lv_iadd hx hb dL_law_370 ?_
  refine W.eq (g2 := F0 m 371 ls (.int (nI (i + 1)) :: [.ref b, .ref (bq 11)])) (congrArg (fun z : Int32 => F0 m 371 ls (.int z :: [.ref b, .ref (bq 11)])) (nI_add i 1)) ?_
  refine va_sld hx hb hX hbl hbA hS (vp_in_nI (by omega) (by omega)) dL_law_371 ?_
  refine lv_topi (fun y1 ey1 => ?_)
  obtain ⟨y2, hz2a, hz2b, he2⟩ := ok_X11 hok hT
  refine lx_i hW hQX hP2 hS (va_runV (As := [.int y1]) (rest := []) ⟨hx, hb, hml, hown, noTs⟩ (t_X11_many l dC dI H.size G cs tt mm (bq 11) hT y1) ⟨cbE 1 (wd_760 hE) (wd_115 hE) (wd_757 hE) rfl rfl (by decide +kernel) ⟨Nat.le_of_ble_eq_true rfl, Nat.le_of_ble_eq_true rfl⟩, (wd_758 hE), (wd_759 hE)⟩ ⟨PT.blind, th_recv hW.1 hP hT.1 he2 rfl, (th_pre (av := [.ref (bq 11), .int y1]) trivial hW.1 hP hok hW.2.2.1 hW.2.2.2.1 hE)⟩ rfl rfl hl.1 rfl (lv_room (Nat.le_of_ble_eq_true rfl)) dL_law_372 ⟨hcc, hss⟩) (fun r2 f H locs hr2 hok hP hP2 hS => ?_)
  refine lv_pop hx hb dL_law_375 rfl ?_
  refine lv_aload_n hx hb dL_law_376 rfl (lv_at hl 2 rfl) ?_
  refine lv_aload_n hx hb dL_law_377 rfl (lv_at hl 0 rfl) ?_
  refine lv_iload_n hx hb dL_law_378 rfl (lv_at hl 3 rfl) ?_
  refine lv_iconst (v := 1) hx hb dL_law_379 (by decide) ?_
  refine lv_iadd hx hb dL_law_380 ?_
  refine W.eq (g2 := F0 m 381 ls (.int (nI (i + 1)) :: [.ref b, .ref (br 0)])) (congrArg (fun z : Int32 => F0 m 381 ls (.int z :: [.ref b, .ref (br 0)])) (nI_add i 1)) ?_
  refine va_sld hx hb hX hbl hbA hS (vp_in_nI (by omega) (by omega)) dL_law_381 ?_
  refine lv_topi (fun y3 ey3 => ?_)
  obtain ⟨ac, hac, hF2⟩ := hIV.2.1
  obtain ⟨v0, hv0, hF15⟩ := hIV.2.2.2.2.1
  obtain ⟨oo, hoo, hF30⟩ := hIV.2.2.2.2.2
  have hAB := hIV.1
  have hBG := ab_0 hAB
  have hGG := bg_g hBG
  refine ly_i hW hQX hP hP2.2 hS (va_runV (As := [.int y3]) (rest := []) ⟨hx, hb, hml, hown, noTs⟩ (r_X12_many l dC dI H.size cr br u (rA u 1) rfl y3 (by first | assumption | omega)) ⟨cbE 1 (wd_1629 hE) (wd_126 hE) (wd_1626 hE) rfl rfl (by decide +kernel) ⟨Nat.le_of_ble_eq_true rfl, Nat.le_of_ble_eq_true rfl⟩, (wd_1627 hE), (wd_1628 hE)⟩ ⟨PR.blind, r_recv hW.2.1 hP2.1 rfl, (r_pre (av := [.ref (br 0), .int y3]) hW.2.1 hP2.1 hW.2.2.2.2.1 hE)⟩ rfl rfl hl.1 rfl (lv_room (Nat.le_of_ble_eq_true rfl)) dL_law_382 ⟨hcc, hss⟩) (fun r4 u4 H locs hpo4 hP2 hP hS => ?_)
  obtain ⟨hr4, hq4⟩ := hpo4
  have hIV2 : IV u4 tt mm := iv_fr hIV hq4 (by decide) (by decide) (by decide) (by decide) (by decide) (by decide)
  have hI52 : IV5 u4 v _ _ := ⟨hIV2, tf_fr hI5.2 hq4 (by decide) (by decide) (by decide) (by decide)⟩
  refine lv_pop hx hb dL_law_385 rfl ?_
  refine lv_goto (tgt := 1631) hx hb dL_law_386 (by decide) ?_
  exact hk _ _ _ _ _ _ _ _ hok hP hP2 hI52 (by omega) (by omega) hS (lv_sub hl [0, 1, 2, 3] rfl)
set_option maxHeartbeats 4000000 in
set_option maxRecDepth 100000 in
theorem law_5 {p : Program} {e : Env} {s : State} {m : MethodId} {below : List Frame} {meth : Method} {c : Code} (l : Launch) {b L : Nat} {xs : Nat → Int32} {cells slots : Nat} (C0 : lw_At p s m meth c b L xs) (hL : L ≤ 3072) (hcc : cells ≤ 600000) (hss : slots ≤ 7302250) (dC : Nat → ClassId) (dI : Nat → Nat → Nat) (G : GT) (cs cr : Nat → ClassId) (br adK adV : Nat → Nat) (hW : LWD s dC dI G cs cr br adK adV) (bq : Nat → Nat) (hQX : QXD s G br bq) (hT : Ty G (bq 11) 11) (tt mm : Nat) (f : Nat → va_E) (u v : RS) (H : Heap) (locs : List Loc) (ls : Array Slot) (hok : OKT G cs tt mm f) (hP : va_P (dC, dI) vwCl (va_pl (gL G) f) H) (hP2 : KP dC dI cr br u cs bq v H) (hI5 : IV5 u v tt mm) (htt : tt ≤ 700) (hmm : mm ≤ 3) (hS : va_S (AL s) s.heap H locs) (i : Nat) (hi : i + 6 ≤ L) (hl : lv_has ls 4 [(0, .ref b), (1, .ref (bq 11)), (2, .ref (br 0)), (3, .int (nI i))]) (hk : ∀ (tt mm : Nat) (f : Nat → va_E) (u v : RS) (H : Heap) (locs : List Loc) (ls : Array Slot), OKT G cs tt mm f → va_P (dC, dI) vwCl (va_pl (gL G) f) H → KP dC dI cr br u cs bq v H → IV5 u v tt mm → tt ≤ 700 → mm ≤ 3 → va_S (AL s) s.heap H locs → lv_has ls 4 [(0, .ref b), (1, .ref (bq 11)), (2, .ref (br 0)), (3, .int (nI i))] → W p l e room_1 s m #[Value.ref b] below meth c H locs cells slots (lw_Z below #[Value.ref b] s) (F0 m 1631 ls [])) : W p l e room_1 s m #[Value.ref b] below meth c H locs cells slots (lw_Z below #[Value.ref b] s) (F0 m 389 ls []) := by
  obtain ⟨hx, hb, hr, hml, hown, hts, hX, hbl, hlocks, hgv⟩ := id C0
  have hE := hW.2.2.2.2.2.1
  have hIV := hI5.1
  have hbA : ¬ AL s b := Nat.not_le.mpr hbl
  refine lv_aload_n hx hb dL_law_389 rfl (lv_at hl 1 rfl) ?_
  refine lv_aload_n hx hb dL_law_390 rfl (lv_at hl 0 rfl) ?_
  refine lv_iload_n hx hb dL_law_391 rfl (lv_at hl 3 rfl) ?_
  refine lv_iconst (v := 1) hx hb dL_law_392 (by decide) ?_
  refine lv_iadd hx hb dL_law_393 ?_
  refine W.eq (g2 := F0 m 394 ls (.int (nI (i + 1)) :: [.ref b, .ref (bq 11)])) (congrArg (fun z : Int32 => F0 m 394 ls (.int z :: [.ref b, .ref (bq 11)])) (nI_add i 1)) ?_
  refine va_sld hx hb hX hbl hbA hS (vp_in_nI (by omega) (by omega)) dL_law_394 ?_
  refine lv_topi (fun y1 ey1 => ?_)
  obtain ⟨y2, hz2a, hz2b, he2⟩ := ok_X11 hok hT
  refine lx_i hW hQX hP2 hS (va_runV (As := [.int y1]) (rest := []) ⟨hx, hb, hml, hown, noTs⟩ (t_X11_order l dC dI H.size G cs tt mm (bq 11) hT y1) ⟨cbE 1 (wd_795 hE) (wd_115 hE) (wd_792 hE) rfl rfl (by decide +kernel) ⟨Nat.le_of_ble_eq_true rfl, Nat.le_of_ble_eq_true rfl⟩, (wd_793 hE), (wd_794 hE)⟩ ⟨PT.blind, th_recv hW.1 hP hT.1 he2 rfl, (th_pre (av := [.ref (bq 11), .int y1]) trivial hW.1 hP hok hW.2.2.1 hW.2.2.2.1 hE)⟩ rfl rfl hl.1 rfl (lv_room (Nat.le_of_ble_eq_true rfl)) dL_law_395 ⟨hcc, hss⟩) (fun r2 f H locs hr2 hok hP hP2 hS => ?_)
  refine lv_pop hx hb dL_law_398 rfl ?_
  refine lv_aload_n hx hb dL_law_399 rfl (lv_at hl 2 rfl) ?_
  refine lv_aload_n hx hb dL_law_400 rfl (lv_at hl 0 rfl) ?_
  refine lv_iload_n hx hb dL_law_401 rfl (lv_at hl 3 rfl) ?_
  refine lv_iconst (v := 1) hx hb dL_law_402 (by decide) ?_
  refine lv_iadd hx hb dL_law_403 ?_
  refine W.eq (g2 := F0 m 404 ls (.int (nI (i + 1)) :: [.ref b, .ref (br 0)])) (congrArg (fun z : Int32 => F0 m 404 ls (.int z :: [.ref b, .ref (br 0)])) (nI_add i 1)) ?_
  refine va_sld hx hb hX hbl hbA hS (vp_in_nI (by omega) (by omega)) dL_law_404 ?_
  refine lv_topi (fun y3 ey3 => ?_)
  obtain ⟨ac, hac, hF2⟩ := hIV.2.1
  obtain ⟨v0, hv0, hF15⟩ := hIV.2.2.2.2.1
  obtain ⟨oo, hoo, hF30⟩ := hIV.2.2.2.2.2
  have hAB := hIV.1
  have hBG := ab_0 hAB
  have hGG := bg_g hBG
  refine ly_i hW hQX hP hP2.2 hS (va_runV (As := [.int y3]) (rest := []) ⟨hx, hb, hml, hown, noTs⟩ (r_X12_order l dC dI H.size cr br u (rA u 1) rfl y3 (by first | assumption | omega)) ⟨cbE 1 (wd_1641 hE) (wd_126 hE) (wd_1638 hE) rfl rfl (by decide +kernel) ⟨Nat.le_of_ble_eq_true rfl, Nat.le_of_ble_eq_true rfl⟩, (wd_1639 hE), (wd_1640 hE)⟩ ⟨PR.blind, r_recv hW.2.1 hP2.1 rfl, (r_pre (av := [.ref (br 0), .int y3]) hW.2.1 hP2.1 hW.2.2.2.2.1 hE)⟩ rfl rfl hl.1 rfl (lv_room (Nat.le_of_ble_eq_true rfl)) dL_law_405 ⟨hcc, hss⟩) (fun r4 u4 H locs hpo4 hP2 hP hS => ?_)
  obtain ⟨hr4, hq4⟩ := hpo4
  have hIV2 : IV u4 tt mm := iv_fr hIV hq4 (by decide) (by decide) (by decide) (by decide) (by decide) (by decide)
  have hI52 : IV5 u4 v _ _ := ⟨hIV2, tf_fr hI5.2 hq4 (by decide) (by decide) (by decide) (by decide)⟩
  refine lv_pop hx hb dL_law_408 rfl ?_
  refine lv_goto (tgt := 1631) hx hb dL_law_409 (by decide) ?_
  exact hk _ _ _ _ _ _ _ _ hok hP hP2 hI52 (by omega) (by omega) hS (lv_sub hl [0, 1, 2, 3] rfl)
set_option maxHeartbeats 4000000 in
set_option maxRecDepth 100000 in
theorem law_6 {p : Program} {e : Env} {s : State} {m : MethodId} {below : List Frame} {meth : Method} {c : Code} (l : Launch) {b L : Nat} {xs : Nat → Int32} {cells slots : Nat} (C0 : lw_At p s m meth c b L xs) (hL : L ≤ 3072) (hcc : cells ≤ 600000) (hss : slots ≤ 7302250) (dC : Nat → ClassId) (dI : Nat → Nat → Nat) (G : GT) (cs cr : Nat → ClassId) (br adK adV : Nat → Nat) (hW : LWD s dC dI G cs cr br adK adV) (bq : Nat → Nat) (hQX : QXD s G br bq) (hT : Ty G (bq 11) 11) (tt mm : Nat) (f : Nat → va_E) (u v : RS) (H : Heap) (locs : List Loc) (ls : Array Slot) (hok : OKT G cs tt mm f) (hP : va_P (dC, dI) vwCl (va_pl (gL G) f) H) (hP2 : KP dC dI cr br u cs bq v H) (hI5 : IV5 u v tt mm) (htt : tt ≤ 700) (hmm : mm ≤ 3) (hS : va_S (AL s) s.heap H locs) (i : Nat) (hi : i + 6 ≤ L) (hl : lv_has ls 4 [(0, .ref b), (1, .ref (bq 11)), (2, .ref (br 0)), (3, .int (nI i))]) (hk : ∀ (tt mm : Nat) (f : Nat → va_E) (u v : RS) (H : Heap) (locs : List Loc) (ls : Array Slot), OKT G cs tt mm f → va_P (dC, dI) vwCl (va_pl (gL G) f) H → KP dC dI cr br u cs bq v H → IV5 u v tt mm → tt ≤ 700 → mm ≤ 3 → va_S (AL s) s.heap H locs → lv_has ls 4 [(0, .ref b), (1, .ref (bq 11)), (2, .ref (br 0)), (3, .int (nI i))] → W p l e room_1 s m #[Value.ref b] below meth c H locs cells slots (lw_Z below #[Value.ref b] s) (F0 m 1631 ls [])) : W p l e room_1 s m #[Value.ref b] below meth c H locs cells slots (lw_Z below #[Value.ref b] s) (F0 m 412 ls []) := by
  obtain ⟨hx, hb, hr, hml, hown, hts, hX, hbl, hlocks, hgv⟩ := id C0
  have hE := hW.2.2.2.2.2.1
  have hIV := hI5.1
  have hbA : ¬ AL s b := Nat.not_le.mpr hbl
  refine lv_aload_n hx hb dL_law_412 rfl (lv_at hl 1 rfl) ?_
  refine lv_aload_n hx hb dL_law_413 rfl (lv_at hl 0 rfl) ?_
  refine lv_iload_n hx hb dL_law_414 rfl (lv_at hl 3 rfl) ?_
  refine lv_iconst (v := 1) hx hb dL_law_415 (by decide) ?_
  refine lv_iadd hx hb dL_law_416 ?_
  refine W.eq (g2 := F0 m 417 ls (.int (nI (i + 1)) :: [.ref b, .ref (bq 11)])) (congrArg (fun z : Int32 => F0 m 417 ls (.int z :: [.ref b, .ref (bq 11)])) (nI_add i 1)) ?_
  refine va_sld hx hb hX hbl hbA hS (vp_in_nI (by omega) (by omega)) dL_law_417 ?_
  refine lv_topi (fun y1 ey1 => ?_)
  refine lv_aload_n hx hb dL_law_418 rfl (lv_at hl 0 rfl) ?_
  refine lv_iload_n hx hb dL_law_419 rfl (lv_at hl 3 rfl) ?_
  refine lv_iconst (v := 2) hx hb dL_law_420 (by decide) ?_
  refine lv_iadd hx hb dL_law_421 ?_
  refine W.eq (g2 := F0 m 422 ls (.int (nI (i + 2)) :: [.ref b, .int y1, .ref (bq 11)])) (congrArg (fun z : Int32 => F0 m 422 ls (.int z :: [.ref b, .int y1, .ref (bq 11)])) (nI_add i 2)) ?_
  refine va_sld hx hb hX hbl hbA hS (vp_in_nI (by omega) (by omega)) dL_law_422 ?_
  refine lv_topi (fun y2 ey2 => ?_)
  obtain ⟨y3, hz3a, hz3b, he3⟩ := ok_X11 hok hT
  refine lx_i hW hQX hP2 hS (va_runV (As := [.int y1, .int y2]) (rest := []) ⟨hx, hb, hml, hown, noTs⟩ (t_X11_edge l dC dI H.size G cs tt mm (bq 11) hT y1 y2) ⟨cbE 2 (wd_801 hE) (wd_115 hE) (wd_798 hE) rfl rfl (by decide +kernel) ⟨Nat.le_of_ble_eq_true rfl, Nat.le_of_ble_eq_true rfl⟩, (wd_799 hE), (wd_800 hE)⟩ ⟨PT.blind, th_recv hW.1 hP hT.1 he3 rfl, (th_pre (av := [.ref (bq 11), .int y1, .int y2]) trivial hW.1 hP hok hW.2.2.1 hW.2.2.2.1 hE)⟩ rfl rfl hl.1 rfl (lv_room (Nat.le_of_ble_eq_true rfl)) dL_law_423 ⟨hcc, hss⟩) (fun r3 f H locs hr3 hok hP hP2 hS => ?_)
  refine lv_pop hx hb dL_law_426 rfl ?_
  refine lv_aload_n hx hb dL_law_427 rfl (lv_at hl 2 rfl) ?_
  refine lv_aload_n hx hb dL_law_428 rfl (lv_at hl 0 rfl) ?_
  refine lv_iload_n hx hb dL_law_429 rfl (lv_at hl 3 rfl) ?_
  refine lv_iconst (v := 1) hx hb dL_law_430 (by decide) ?_
  refine lv_iadd hx hb dL_law_431 ?_
  refine W.eq (g2 := F0 m 432 ls (.int (nI (i + 1)) :: [.ref b, .ref (br 0)])) (congrArg (fun z : Int32 => F0 m 432 ls (.int z :: [.ref b, .ref (br 0)])) (nI_add i 1)) ?_
  refine va_sld hx hb hX hbl hbA hS (vp_in_nI (by omega) (by omega)) dL_law_432 ?_
  refine lv_topi (fun y4 ey4 => ?_)
  refine lv_aload_n hx hb dL_law_433 rfl (lv_at hl 0 rfl) ?_
  refine lv_iload_n hx hb dL_law_434 rfl (lv_at hl 3 rfl) ?_
  refine lv_iconst (v := 2) hx hb dL_law_435 (by decide) ?_
  refine lv_iadd hx hb dL_law_436 ?_
  refine W.eq (g2 := F0 m 437 ls (.int (nI (i + 2)) :: [.ref b, .int y4, .ref (br 0)])) (congrArg (fun z : Int32 => F0 m 437 ls (.int z :: [.ref b, .int y4, .ref (br 0)])) (nI_add i 2)) ?_
  refine va_sld hx hb hX hbl hbA hS (vp_in_nI (by omega) (by omega)) dL_law_437 ?_
  refine lv_topi (fun y5 ey5 => ?_)
  obtain ⟨ac, hac, hF2⟩ := hIV.2.1
  obtain ⟨v0, hv0, hF15⟩ := hIV.2.2.2.2.1
  obtain ⟨oo, hoo, hF30⟩ := hIV.2.2.2.2.2
  have hAB := hIV.1
  have hBG := ab_0 hAB
  have hGG := bg_g hBG
  refine ly_i hW hQX hP hP2.2 hS (va_runV (As := [.int y4, .int y5]) (rest := []) ⟨hx, hb, hml, hown, noTs⟩ (r_X12_edge l dC dI H.size cr br u (rA u 1) rfl y4 y5 (by first | assumption | omega)) ⟨cbE 2 (wd_1645 hE) (wd_126 hE) (wd_1642 hE) rfl rfl (by decide +kernel) ⟨Nat.le_of_ble_eq_true rfl, Nat.le_of_ble_eq_true rfl⟩, (wd_1643 hE), (wd_1644 hE)⟩ ⟨PR.blind, r_recv hW.2.1 hP2.1 rfl, (r_pre (av := [.ref (br 0), .int y4, .int y5]) hW.2.1 hP2.1 hW.2.2.2.2.1 hE)⟩ rfl rfl hl.1 rfl (lv_room (Nat.le_of_ble_eq_true rfl)) dL_law_438 ⟨hcc, hss⟩) (fun r6 u6 H locs hpo6 hP2 hP hS => ?_)
  obtain ⟨hr6, hq6⟩ := hpo6
  have hIV2 : IV u6 tt mm := iv_fr hIV hq6 (by decide) (by decide) (by decide) (by decide) (by decide) (by decide)
  have hI52 : IV5 u6 v _ _ := ⟨hIV2, tf_fr hI5.2 hq6 (by decide) (by decide) (by decide) (by decide)⟩
  refine lv_pop hx hb dL_law_441 rfl ?_
  refine lv_goto (tgt := 1631) hx hb dL_law_442 (by decide) ?_
  exact hk _ _ _ _ _ _ _ _ hok hP hP2 hI52 (by omega) (by omega) hS (lv_sub hl [0, 1, 2, 3] rfl)
set_option maxHeartbeats 4000000 in
set_option maxRecDepth 100000 in
theorem law_7 {p : Program} {e : Env} {s : State} {m : MethodId} {below : List Frame} {meth : Method} {c : Code} (l : Launch) {b L : Nat} {xs : Nat → Int32} {cells slots : Nat} (C0 : lw_At p s m meth c b L xs) (hL : L ≤ 3072) (hcc : cells ≤ 600000) (hss : slots ≤ 7302250) (dC : Nat → ClassId) (dI : Nat → Nat → Nat) (G : GT) (cs cr : Nat → ClassId) (br adK adV : Nat → Nat) (hW : LWD s dC dI G cs cr br adK adV) (bq : Nat → Nat) (hQX : QXD s G br bq) (hT : Ty G (bq 11) 11) (tt mm : Nat) (f : Nat → va_E) (u v : RS) (H : Heap) (locs : List Loc) (ls : Array Slot) (hok : OKT G cs tt mm f) (hP : va_P (dC, dI) vwCl (va_pl (gL G) f) H) (hP2 : KP dC dI cr br u cs bq v H) (hI5 : IV5 u v tt mm) (htt : tt ≤ 700) (hmm : mm ≤ 3) (hS : va_S (AL s) s.heap H locs) (i : Nat) (hi : i + 6 ≤ L) (hl : lv_has ls 4 [(0, .ref b), (1, .ref (bq 11)), (2, .ref (br 0)), (3, .int (nI i))]) (hk : ∀ (tt mm : Nat) (f : Nat → va_E) (u v : RS) (H : Heap) (locs : List Loc) (ls : Array Slot), OKT G cs tt mm f → va_P (dC, dI) vwCl (va_pl (gL G) f) H → KP dC dI cr br u cs bq v H → IV5 u v tt mm → tt ≤ 700 → mm ≤ 3 → va_S (AL s) s.heap H locs → lv_has ls 4 [(0, .ref b), (1, .ref (bq 11)), (2, .ref (br 0)), (3, .int (nI i))] → W p l e room_1 s m #[Value.ref b] below meth c H locs cells slots (lw_Z below #[Value.ref b] s) (F0 m 1631 ls [])) : W p l e room_1 s m #[Value.ref b] below meth c H locs cells slots (lw_Z below #[Value.ref b] s) (F0 m 445 ls []) := by
  obtain ⟨hx, hb, hr, hml, hown, hts, hX, hbl, hlocks, hgv⟩ := id C0
  have hE := hW.2.2.2.2.2.1
  have hIV := hI5.1
  have hbA : ¬ AL s b := Nat.not_le.mpr hbl
  refine lv_aload_n hx hb dL_law_445 rfl (lv_at hl 1 rfl) ?_
  refine lv_aload_n hx hb dL_law_446 rfl (lv_at hl 0 rfl) ?_
  refine lv_iload_n hx hb dL_law_447 rfl (lv_at hl 3 rfl) ?_
  refine lv_iconst (v := 1) hx hb dL_law_448 (by decide) ?_
  refine lv_iadd hx hb dL_law_449 ?_
  refine W.eq (g2 := F0 m 450 ls (.int (nI (i + 1)) :: [.ref b, .ref (bq 11)])) (congrArg (fun z : Int32 => F0 m 450 ls (.int z :: [.ref b, .ref (bq 11)])) (nI_add i 1)) ?_
  refine va_sld hx hb hX hbl hbA hS (vp_in_nI (by omega) (by omega)) dL_law_450 ?_
  refine lv_topi (fun y1 ey1 => ?_)
  refine lv_aload_n hx hb dL_law_451 rfl (lv_at hl 0 rfl) ?_
  refine lv_iload_n hx hb dL_law_452 rfl (lv_at hl 3 rfl) ?_
  refine lv_iconst (v := 2) hx hb dL_law_453 (by decide) ?_
  refine lv_iadd hx hb dL_law_454 ?_
  refine W.eq (g2 := F0 m 455 ls (.int (nI (i + 2)) :: [.ref b, .int y1, .ref (bq 11)])) (congrArg (fun z : Int32 => F0 m 455 ls (.int z :: [.ref b, .int y1, .ref (bq 11)])) (nI_add i 2)) ?_
  refine va_sld hx hb hX hbl hbA hS (vp_in_nI (by omega) (by omega)) dL_law_455 ?_
  refine lv_topi (fun y2 ey2 => ?_)
  obtain ⟨y3, hz3a, hz3b, he3⟩ := ok_X11 hok hT
  refine lx_i hW hQX hP2 hS (va_runV (As := [.int y1, .int y2]) (rest := []) ⟨hx, hb, hml, hown, noTs⟩ (t_X11_word l dC dI H.size G cs tt mm (bq 11) hT y1 y2) ⟨cbE 2 (wd_813 hE) (wd_115 hE) (wd_810 hE) rfl rfl (by decide +kernel) ⟨Nat.le_of_ble_eq_true rfl, Nat.le_of_ble_eq_true rfl⟩, (wd_811 hE), (wd_812 hE)⟩ ⟨PT.blind, th_recv hW.1 hP hT.1 he3 rfl, (th_pre (av := [.ref (bq 11), .int y1, .int y2]) trivial hW.1 hP hok hW.2.2.1 hW.2.2.2.1 hE)⟩ rfl rfl hl.1 rfl (lv_room (Nat.le_of_ble_eq_true rfl)) dL_law_456 ⟨hcc, hss⟩) (fun r3 f H locs hr3 hok hP hP2 hS => ?_)
  refine lv_pop hx hb dL_law_459 rfl ?_
  refine lv_aload_n hx hb dL_law_460 rfl (lv_at hl 2 rfl) ?_
  refine lv_aload_n hx hb dL_law_461 rfl (lv_at hl 0 rfl) ?_
  refine lv_iload_n hx hb dL_law_462 rfl (lv_at hl 3 rfl) ?_
  refine lv_iconst (v := 1) hx hb dL_law_463 (by decide) ?_
  refine lv_iadd hx hb dL_law_464 ?_
  refine W.eq (g2 := F0 m 465 ls (.int (nI (i + 1)) :: [.ref b, .ref (br 0)])) (congrArg (fun z : Int32 => F0 m 465 ls (.int z :: [.ref b, .ref (br 0)])) (nI_add i 1)) ?_
  refine va_sld hx hb hX hbl hbA hS (vp_in_nI (by omega) (by omega)) dL_law_465 ?_
  refine lv_topi (fun y4 ey4 => ?_)
  refine lv_aload_n hx hb dL_law_466 rfl (lv_at hl 0 rfl) ?_
  refine lv_iload_n hx hb dL_law_467 rfl (lv_at hl 3 rfl) ?_
  refine lv_iconst (v := 2) hx hb dL_law_468 (by decide) ?_
  refine lv_iadd hx hb dL_law_469 ?_
  refine W.eq (g2 := F0 m 470 ls (.int (nI (i + 2)) :: [.ref b, .int y4, .ref (br 0)])) (congrArg (fun z : Int32 => F0 m 470 ls (.int z :: [.ref b, .int y4, .ref (br 0)])) (nI_add i 2)) ?_
  refine va_sld hx hb hX hbl hbA hS (vp_in_nI (by omega) (by omega)) dL_law_470 ?_
  refine lv_topi (fun y5 ey5 => ?_)
  obtain ⟨ac, hac, hF2⟩ := hIV.2.1
  obtain ⟨v0, hv0, hF15⟩ := hIV.2.2.2.2.1
  obtain ⟨oo, hoo, hF30⟩ := hIV.2.2.2.2.2
  have hAB := hIV.1
  have hBG := ab_0 hAB
  have hGG := bg_g hBG
  refine ly_i hW hQX hP hP2.2 hS (va_runV (As := [.int y4, .int y5]) (rest := []) ⟨hx, hb, hml, hown, noTs⟩ (r_X12_word l dC dI H.size cr br u (rA u 1) rfl y4 y5 (by first | assumption | omega)) ⟨cbE 2 (wd_1649 hE) (wd_126 hE) (wd_1646 hE) rfl rfl (by decide +kernel) ⟨Nat.le_of_ble_eq_true rfl, Nat.le_of_ble_eq_true rfl⟩, (wd_1647 hE), (wd_1648 hE)⟩ ⟨PR.blind, r_recv hW.2.1 hP2.1 rfl, (r_pre (av := [.ref (br 0), .int y4, .int y5]) hW.2.1 hP2.1 hW.2.2.2.2.1 hE)⟩ rfl rfl hl.1 rfl (lv_room (Nat.le_of_ble_eq_true rfl)) dL_law_471 ⟨hcc, hss⟩) (fun r6 u6 H locs hpo6 hP2 hP hS => ?_)
  obtain ⟨hr6, hq6⟩ := hpo6
  have hIV2 : IV u6 tt mm := iv_fr hIV hq6 (by decide) (by decide) (by decide) (by decide) (by decide) (by decide)
  have hI52 : IV5 u6 v _ _ := ⟨hIV2, tf_fr hI5.2 hq6 (by decide) (by decide) (by decide) (by decide)⟩
  refine lv_pop hx hb dL_law_474 rfl ?_
  refine lv_goto (tgt := 1631) hx hb dL_law_475 (by decide) ?_
  exact hk _ _ _ _ _ _ _ _ hok hP hP2 hI52 (by omega) (by omega) hS (lv_sub hl [0, 1, 2, 3] rfl)
set_option maxHeartbeats 4000000 in
set_option maxRecDepth 100000 in
theorem law_8 {p : Program} {e : Env} {s : State} {m : MethodId} {below : List Frame} {meth : Method} {c : Code} (l : Launch) {b L : Nat} {xs : Nat → Int32} {cells slots : Nat} (C0 : lw_At p s m meth c b L xs) (hL : L ≤ 3072) (hcc : cells ≤ 600000) (hss : slots ≤ 7302250) (dC : Nat → ClassId) (dI : Nat → Nat → Nat) (G : GT) (cs cr : Nat → ClassId) (br adK adV : Nat → Nat) (hW : LWD s dC dI G cs cr br adK adV) (bq : Nat → Nat) (hQX : QXD s G br bq) (hT : Ty G (bq 11) 11) (tt mm : Nat) (f : Nat → va_E) (u v : RS) (H : Heap) (locs : List Loc) (ls : Array Slot) (hok : OKT G cs tt mm f) (hP : va_P (dC, dI) vwCl (va_pl (gL G) f) H) (hP2 : KP dC dI cr br u cs bq v H) (hI5 : IV5 u v tt mm) (htt : tt ≤ 700) (hmm : mm ≤ 3) (hS : va_S (AL s) s.heap H locs) (i : Nat) (hi : i + 6 ≤ L) (hl : lv_has ls 4 [(0, .ref b), (1, .ref (bq 11)), (2, .ref (br 0)), (3, .int (nI i))]) (hk : ∀ (tt mm : Nat) (f : Nat → va_E) (u v : RS) (H : Heap) (locs : List Loc) (ls : Array Slot), OKT G cs tt mm f → va_P (dC, dI) vwCl (va_pl (gL G) f) H → KP dC dI cr br u cs bq v H → IV5 u v tt mm → tt ≤ 700 → mm ≤ 3 → va_S (AL s) s.heap H locs → lv_has ls 4 [(0, .ref b), (1, .ref (bq 11)), (2, .ref (br 0)), (3, .int (nI i))] → W p l e room_1 s m #[Value.ref b] below meth c H locs cells slots (lw_Z below #[Value.ref b] s) (F0 m 1631 ls [])) : W p l e room_1 s m #[Value.ref b] below meth c H locs cells slots (lw_Z below #[Value.ref b] s) (F0 m 478 ls []) := by
  obtain ⟨hx, hb, hr, hml, hown, hts, hX, hbl, hlocks, hgv⟩ := id C0
  have hE := hW.2.2.2.2.2.1
  have hIV := hI5.1
  have hbA : ¬ AL s b := Nat.not_le.mpr hbl
  refine lv_aload_n hx hb dL_law_478 rfl (lv_at hl 1 rfl) ?_
  refine lv_aload_n hx hb dL_law_479 rfl (lv_at hl 0 rfl) ?_
  refine lv_iload_n hx hb dL_law_480 rfl (lv_at hl 3 rfl) ?_
  refine lv_iconst (v := 1) hx hb dL_law_481 (by decide) ?_
  refine lv_iadd hx hb dL_law_482 ?_
  refine W.eq (g2 := F0 m 483 ls (.int (nI (i + 1)) :: [.ref b, .ref (bq 11)])) (congrArg (fun z : Int32 => F0 m 483 ls (.int z :: [.ref b, .ref (bq 11)])) (nI_add i 1)) ?_
  refine va_sld hx hb hX hbl hbA hS (vp_in_nI (by omega) (by omega)) dL_law_483 ?_
  refine lv_topi (fun y1 ey1 => ?_)
  refine lv_aload_n hx hb dL_law_484 rfl (lv_at hl 0 rfl) ?_
  refine lv_iload_n hx hb dL_law_485 rfl (lv_at hl 3 rfl) ?_
  refine lv_iconst (v := 2) hx hb dL_law_486 (by decide) ?_
  refine lv_iadd hx hb dL_law_487 ?_
  refine W.eq (g2 := F0 m 488 ls (.int (nI (i + 2)) :: [.ref b, .int y1, .ref (bq 11)])) (congrArg (fun z : Int32 => F0 m 488 ls (.int z :: [.ref b, .int y1, .ref (bq 11)])) (nI_add i 2)) ?_
  refine va_sld hx hb hX hbl hbA hS (vp_in_nI (by omega) (by omega)) dL_law_488 ?_
  refine lv_topi (fun y2 ey2 => ?_)
  obtain ⟨y3, hz3a, hz3b, he3⟩ := ok_X11 hok hT
  refine lx_i hW hQX hP2 hS (va_runV (As := [.int y1, .int y2]) (rest := []) ⟨hx, hb, hml, hown, noTs⟩ (t_X11_number l dC dI H.size G cs tt mm (bq 11) hT y1 y2) ⟨cbE 2 (wd_888 hE) (wd_115 hE) (wd_885 hE) rfl rfl (by decide +kernel) ⟨Nat.le_of_ble_eq_true rfl, Nat.le_of_ble_eq_true rfl⟩, (wd_886 hE), (wd_887 hE)⟩ ⟨PT.blind, th_recv hW.1 hP hT.1 he3 rfl, (th_pre (av := [.ref (bq 11), .int y1, .int y2]) trivial hW.1 hP hok hW.2.2.1 hW.2.2.2.1 hE)⟩ rfl rfl hl.1 rfl (lv_room (Nat.le_of_ble_eq_true rfl)) dL_law_489 ⟨hcc, hss⟩) (fun r3 f H locs hr3 hok hP hP2 hS => ?_)
  refine lv_pop hx hb dL_law_492 rfl ?_
  refine lv_aload_n hx hb dL_law_493 rfl (lv_at hl 2 rfl) ?_
  refine lv_aload_n hx hb dL_law_494 rfl (lv_at hl 0 rfl) ?_
  refine lv_iload_n hx hb dL_law_495 rfl (lv_at hl 3 rfl) ?_
  refine lv_iconst (v := 1) hx hb dL_law_496 (by decide) ?_
  refine lv_iadd hx hb dL_law_497 ?_
  refine W.eq (g2 := F0 m 498 ls (.int (nI (i + 1)) :: [.ref b, .ref (br 0)])) (congrArg (fun z : Int32 => F0 m 498 ls (.int z :: [.ref b, .ref (br 0)])) (nI_add i 1)) ?_
  refine va_sld hx hb hX hbl hbA hS (vp_in_nI (by omega) (by omega)) dL_law_498 ?_
  refine lv_topi (fun y4 ey4 => ?_)
  refine lv_aload_n hx hb dL_law_499 rfl (lv_at hl 0 rfl) ?_
  refine lv_iload_n hx hb dL_law_500 rfl (lv_at hl 3 rfl) ?_
  refine lv_iconst (v := 2) hx hb dL_law_501 (by decide) ?_
  refine lv_iadd hx hb dL_law_502 ?_
  refine W.eq (g2 := F0 m 503 ls (.int (nI (i + 2)) :: [.ref b, .int y4, .ref (br 0)])) (congrArg (fun z : Int32 => F0 m 503 ls (.int z :: [.ref b, .int y4, .ref (br 0)])) (nI_add i 2)) ?_
  refine va_sld hx hb hX hbl hbA hS (vp_in_nI (by omega) (by omega)) dL_law_503 ?_
  refine lv_topi (fun y5 ey5 => ?_)
  obtain ⟨ac, hac, hF2⟩ := hIV.2.1
  obtain ⟨v0, hv0, hF15⟩ := hIV.2.2.2.2.1
  obtain ⟨oo, hoo, hF30⟩ := hIV.2.2.2.2.2
  have hAB := hIV.1
  have hBG := ab_0 hAB
  have hGG := bg_g hBG
  refine ly_i hW hQX hP hP2.2 hS (va_runV (As := [.int y4, .int y5]) (rest := []) ⟨hx, hb, hml, hown, noTs⟩ (r_X12_number_ l dC dI H.size cr br u (rA u 1) rfl y4 y5 (by first | assumption | omega)) ⟨cbE 2 (wd_1679 hE) (wd_126 hE) (wd_1676 hE) rfl rfl (by decide +kernel) ⟨Nat.le_of_ble_eq_true rfl, Nat.le_of_ble_eq_true rfl⟩, (wd_1677 hE), (wd_1678 hE)⟩ ⟨PR.blind, r_recv hW.2.1 hP2.1 rfl, (r_pre (av := [.ref (br 0), .int y4, .int y5]) hW.2.1 hP2.1 hW.2.2.2.2.1 hE)⟩ rfl rfl hl.1 rfl (lv_room (Nat.le_of_ble_eq_true rfl)) dL_law_504 ⟨hcc, hss⟩) (fun r6 u6 H locs hpo6 hP2 hP hS => ?_)
  obtain ⟨hr6, hq6⟩ := hpo6
  have hIV2 : IV u6 tt mm := iv_fr hIV hq6 (by decide) (by decide) (by decide) (by decide) (by decide) (by decide)
  have hI52 : IV5 u6 v _ _ := ⟨hIV2, tf_fr hI5.2 hq6 (by decide) (by decide) (by decide) (by decide)⟩
  refine lv_pop hx hb dL_law_507 rfl ?_
  refine lv_goto (tgt := 1631) hx hb dL_law_508 (by decide) ?_
  exact hk _ _ _ _ _ _ _ _ hok hP hP2 hI52 (by omega) (by omega) hS (lv_sub hl [0, 1, 2, 3] rfl)
set_option maxHeartbeats 4000000 in
set_option maxRecDepth 100000 in
theorem law_9 {p : Program} {e : Env} {s : State} {m : MethodId} {below : List Frame} {meth : Method} {c : Code} (l : Launch) {b L : Nat} {xs : Nat → Int32} {cells slots : Nat} (C0 : lw_At p s m meth c b L xs) (hL : L ≤ 3072) (hcc : cells ≤ 600000) (hss : slots ≤ 7302250) (dC : Nat → ClassId) (dI : Nat → Nat → Nat) (G : GT) (cs cr : Nat → ClassId) (br adK adV : Nat → Nat) (hW : LWD s dC dI G cs cr br adK adV) (bq : Nat → Nat) (hQX : QXD s G br bq) (hT : Ty G (bq 11) 11) (tt mm : Nat) (f : Nat → va_E) (u v : RS) (H : Heap) (locs : List Loc) (ls : Array Slot) (hok : OKT G cs tt mm f) (hP : va_P (dC, dI) vwCl (va_pl (gL G) f) H) (hP2 : KP dC dI cr br u cs bq v H) (hI5 : IV5 u v tt mm) (htt : tt ≤ 700) (hmm : mm ≤ 3) (hS : va_S (AL s) s.heap H locs) (i : Nat) (hi : i + 6 ≤ L) (hl : lv_has ls 4 [(0, .ref b), (1, .ref (bq 11)), (2, .ref (br 0)), (3, .int (nI i))]) (hk : ∀ (tt mm : Nat) (f : Nat → va_E) (u v : RS) (H : Heap) (locs : List Loc) (ls : Array Slot), OKT G cs tt mm f → va_P (dC, dI) vwCl (va_pl (gL G) f) H → KP dC dI cr br u cs bq v H → IV5 u v tt mm → tt ≤ 700 → mm ≤ 3 → va_S (AL s) s.heap H locs → lv_has ls 4 [(0, .ref b), (1, .ref (bq 11)), (2, .ref (br 0)), (3, .int (nI i))] → W p l e room_1 s m #[Value.ref b] below meth c H locs cells slots (lw_Z below #[Value.ref b] s) (F0 m 1631 ls [])) : W p l e room_1 s m #[Value.ref b] below meth c H locs cells slots (lw_Z below #[Value.ref b] s) (F0 m 511 ls []) := by
  obtain ⟨hx, hb, hr, hml, hown, hts, hX, hbl, hlocks, hgv⟩ := id C0
  have hE := hW.2.2.2.2.2.1
  have hIV := hI5.1
  have hbA : ¬ AL s b := Nat.not_le.mpr hbl
  refine lv_aload_n hx hb dL_law_511 rfl (lv_at hl 1 rfl) ?_
  refine lv_aload_n hx hb dL_law_512 rfl (lv_at hl 0 rfl) ?_
  refine lv_iload_n hx hb dL_law_513 rfl (lv_at hl 3 rfl) ?_
  refine lv_iconst (v := 1) hx hb dL_law_514 (by decide) ?_
  refine lv_iadd hx hb dL_law_515 ?_
  refine W.eq (g2 := F0 m 516 ls (.int (nI (i + 1)) :: [.ref b, .ref (bq 11)])) (congrArg (fun z : Int32 => F0 m 516 ls (.int z :: [.ref b, .ref (bq 11)])) (nI_add i 1)) ?_
  refine va_sld hx hb hX hbl hbA hS (vp_in_nI (by omega) (by omega)) dL_law_516 ?_
  refine lv_topi (fun y1 ey1 => ?_)
  refine lv_aload_n hx hb dL_law_517 rfl (lv_at hl 0 rfl) ?_
  refine lv_iload_n hx hb dL_law_518 rfl (lv_at hl 3 rfl) ?_
  refine lv_iconst (v := 2) hx hb dL_law_519 (by decide) ?_
  refine lv_iadd hx hb dL_law_520 ?_
  refine W.eq (g2 := F0 m 521 ls (.int (nI (i + 2)) :: [.ref b, .int y1, .ref (bq 11)])) (congrArg (fun z : Int32 => F0 m 521 ls (.int z :: [.ref b, .int y1, .ref (bq 11)])) (nI_add i 2)) ?_
  refine va_sld hx hb hX hbl hbA hS (vp_in_nI (by omega) (by omega)) dL_law_521 ?_
  refine lv_topi (fun y2 ey2 => ?_)
  obtain ⟨y3, hz3a, hz3b, he3⟩ := ok_X11 hok hT
  refine lx_i hW hQX hP2 hS (va_runV (As := [.int y1, .int y2]) (rest := []) ⟨hx, hb, hml, hown, noTs⟩ (t_X11_step l dC dI H.size G cs tt mm (bq 11) hT y1 y2) ⟨cbE 2 (wd_893 hE) (wd_115 hE) (wd_890 hE) rfl rfl (by decide +kernel) ⟨Nat.le_of_ble_eq_true rfl, Nat.le_of_ble_eq_true rfl⟩, (wd_891 hE), (wd_892 hE)⟩ ⟨PT.blind, th_recv hW.1 hP hT.1 he3 rfl, (th_pre (av := [.ref (bq 11), .int y1, .int y2]) trivial hW.1 hP hok hW.2.2.1 hW.2.2.2.1 hE)⟩ rfl rfl hl.1 rfl (lv_room (Nat.le_of_ble_eq_true rfl)) dL_law_522 ⟨hcc, hss⟩) (fun r3 f H locs hr3 hok hP hP2 hS => ?_)
  refine lv_pop hx hb dL_law_525 rfl ?_
  refine lv_aload_n hx hb dL_law_526 rfl (lv_at hl 2 rfl) ?_
  refine lv_aload_n hx hb dL_law_527 rfl (lv_at hl 0 rfl) ?_
  refine lv_iload_n hx hb dL_law_528 rfl (lv_at hl 3 rfl) ?_
  refine lv_iconst (v := 1) hx hb dL_law_529 (by decide) ?_
  refine lv_iadd hx hb dL_law_530 ?_
  refine W.eq (g2 := F0 m 531 ls (.int (nI (i + 1)) :: [.ref b, .ref (br 0)])) (congrArg (fun z : Int32 => F0 m 531 ls (.int z :: [.ref b, .ref (br 0)])) (nI_add i 1)) ?_
  refine va_sld hx hb hX hbl hbA hS (vp_in_nI (by omega) (by omega)) dL_law_531 ?_
  refine lv_topi (fun y4 ey4 => ?_)
  refine lv_aload_n hx hb dL_law_532 rfl (lv_at hl 0 rfl) ?_
  refine lv_iload_n hx hb dL_law_533 rfl (lv_at hl 3 rfl) ?_
  refine lv_iconst (v := 2) hx hb dL_law_534 (by decide) ?_
  refine lv_iadd hx hb dL_law_535 ?_
  refine W.eq (g2 := F0 m 536 ls (.int (nI (i + 2)) :: [.ref b, .int y4, .ref (br 0)])) (congrArg (fun z : Int32 => F0 m 536 ls (.int z :: [.ref b, .int y4, .ref (br 0)])) (nI_add i 2)) ?_
  refine va_sld hx hb hX hbl hbA hS (vp_in_nI (by omega) (by omega)) dL_law_536 ?_
  refine lv_topi (fun y5 ey5 => ?_)
  obtain ⟨ac, hac, hF2⟩ := hIV.2.1
  obtain ⟨v0, hv0, hF15⟩ := hIV.2.2.2.2.1
  obtain ⟨oo, hoo, hF30⟩ := hIV.2.2.2.2.2
  have hAB := hIV.1
  have hBG := ab_0 hAB
  have hGG := bg_g hBG
  refine ly_i hW hQX hP hP2.2 hS (va_runV (As := [.int y4, .int y5]) (rest := []) ⟨hx, hb, hml, hown, noTs⟩ (r_X12_step_ l dC dI H.size cr br u (rA u 1) rfl y4 y5 (by first | assumption | omega)) ⟨cbE 2 (wd_1683 hE) (wd_126 hE) (wd_1680 hE) rfl rfl (by decide +kernel) ⟨Nat.le_of_ble_eq_true rfl, Nat.le_of_ble_eq_true rfl⟩, (wd_1681 hE), (wd_1682 hE)⟩ ⟨PR.blind, r_recv hW.2.1 hP2.1 rfl, (r_pre (av := [.ref (br 0), .int y4, .int y5]) hW.2.1 hP2.1 hW.2.2.2.2.1 hE)⟩ rfl rfl hl.1 rfl (lv_room (Nat.le_of_ble_eq_true rfl)) dL_law_537 ⟨hcc, hss⟩) (fun r6 u6 H locs hpo6 hP2 hP hS => ?_)
  obtain ⟨hr6, hq6⟩ := hpo6
  have hIV2 : IV u6 tt mm := iv_fr hIV hq6 (by decide) (by decide) (by decide) (by decide) (by decide) (by decide)
  have hI52 : IV5 u6 v _ _ := ⟨hIV2, tf_fr hI5.2 hq6 (by decide) (by decide) (by decide) (by decide)⟩
  refine lv_pop hx hb dL_law_540 rfl ?_
  refine lv_goto (tgt := 1631) hx hb dL_law_541 (by decide) ?_
  exact hk _ _ _ _ _ _ _ _ hok hP hP2 hI52 (by omega) (by omega) hS (lv_sub hl [0, 1, 2, 3] rfl)
set_option maxHeartbeats 4000000 in
set_option maxRecDepth 100000 in
theorem law_10 {p : Program} {e : Env} {s : State} {m : MethodId} {below : List Frame} {meth : Method} {c : Code} (l : Launch) {b L : Nat} {xs : Nat → Int32} {cells slots : Nat} (C0 : lw_At p s m meth c b L xs) (hL : L ≤ 3072) (hcc : cells ≤ 600000) (hss : slots ≤ 7302250) (dC : Nat → ClassId) (dI : Nat → Nat → Nat) (G : GT) (cs cr : Nat → ClassId) (br adK adV : Nat → Nat) (hW : LWD s dC dI G cs cr br adK adV) (bq : Nat → Nat) (hQX : QXD s G br bq) (hT : Ty G (bq 11) 11) (tt mm : Nat) (f : Nat → va_E) (u v : RS) (H : Heap) (locs : List Loc) (ls : Array Slot) (hok : OKT G cs tt mm f) (hP : va_P (dC, dI) vwCl (va_pl (gL G) f) H) (hP2 : KP dC dI cr br u cs bq v H) (hI5 : IV5 u v tt mm) (htt : tt ≤ 700) (hmm : mm ≤ 3) (hS : va_S (AL s) s.heap H locs) (i : Nat) (hi : i + 6 ≤ L) (hl : lv_has ls 4 [(0, .ref b), (1, .ref (bq 11)), (2, .ref (br 0)), (3, .int (nI i))]) (hk : ∀ (tt mm : Nat) (f : Nat → va_E) (u v : RS) (H : Heap) (locs : List Loc) (ls : Array Slot), OKT G cs tt mm f → va_P (dC, dI) vwCl (va_pl (gL G) f) H → KP dC dI cr br u cs bq v H → IV5 u v tt mm → tt ≤ 700 → mm ≤ 3 → va_S (AL s) s.heap H locs → lv_has ls 4 [(0, .ref b), (1, .ref (bq 11)), (2, .ref (br 0)), (3, .int (nI i))] → W p l e room_1 s m #[Value.ref b] below meth c H locs cells slots (lw_Z below #[Value.ref b] s) (F0 m 1631 ls [])) : W p l e room_1 s m #[Value.ref b] below meth c H locs cells slots (lw_Z below #[Value.ref b] s) (F0 m 544 ls []) := by
  obtain ⟨hx, hb, hr, hml, hown, hts, hX, hbl, hlocks, hgv⟩ := id C0
  have hE := hW.2.2.2.2.2.1
  have hIV := hI5.1
  have hbA : ¬ AL s b := Nat.not_le.mpr hbl
  refine lv_aload_n hx hb dL_law_544 rfl (lv_at hl 1 rfl) ?_
  refine lv_aload_n hx hb dL_law_545 rfl (lv_at hl 0 rfl) ?_
  refine lv_iload_n hx hb dL_law_546 rfl (lv_at hl 3 rfl) ?_
  refine lv_iconst (v := 1) hx hb dL_law_547 (by decide) ?_
  refine lv_iadd hx hb dL_law_548 ?_
  refine W.eq (g2 := F0 m 549 ls (.int (nI (i + 1)) :: [.ref b, .ref (bq 11)])) (congrArg (fun z : Int32 => F0 m 549 ls (.int z :: [.ref b, .ref (bq 11)])) (nI_add i 1)) ?_
  refine va_sld hx hb hX hbl hbA hS (vp_in_nI (by omega) (by omega)) dL_law_549 ?_
  refine lv_topi (fun y1 ey1 => ?_)
  refine lv_aload_n hx hb dL_law_550 rfl (lv_at hl 0 rfl) ?_
  refine lv_iload_n hx hb dL_law_551 rfl (lv_at hl 3 rfl) ?_
  refine lv_iconst (v := 2) hx hb dL_law_552 (by decide) ?_
  refine lv_iadd hx hb dL_law_553 ?_
  refine W.eq (g2 := F0 m 554 ls (.int (nI (i + 2)) :: [.ref b, .int y1, .ref (bq 11)])) (congrArg (fun z : Int32 => F0 m 554 ls (.int z :: [.ref b, .int y1, .ref (bq 11)])) (nI_add i 2)) ?_
  refine va_sld hx hb hX hbl hbA hS (vp_in_nI (by omega) (by omega)) dL_law_554 ?_
  refine lv_topi (fun y2 ey2 => ?_)
  obtain ⟨y3, hz3a, hz3b, he3⟩ := ok_X11 hok hT
  refine lx_i hW hQX hP2 hS (va_runV (As := [.int y1, .int y2]) (rest := []) ⟨hx, hb, hml, hown, noTs⟩ (t_X11_take l dC dI H.size G cs tt mm (bq 11) hT y1 y2) ⟨cbE 2 (wd_898 hE) (wd_115 hE) (wd_895 hE) rfl rfl (by decide +kernel) ⟨Nat.le_of_ble_eq_true rfl, Nat.le_of_ble_eq_true rfl⟩, (wd_896 hE), (wd_897 hE)⟩ ⟨PT.blind, th_recv hW.1 hP hT.1 he3 rfl, (th_pre (av := [.ref (bq 11), .int y1, .int y2]) trivial hW.1 hP hok hW.2.2.1 hW.2.2.2.1 hE)⟩ rfl rfl hl.1 rfl (lv_room (Nat.le_of_ble_eq_true rfl)) dL_law_555 ⟨hcc, hss⟩) (fun r3 f H locs hr3 hok hP hP2 hS => ?_)
  refine lv_pop hx hb dL_law_558 rfl ?_
  refine lv_aload_n hx hb dL_law_559 rfl (lv_at hl 2 rfl) ?_
  refine lv_aload_n hx hb dL_law_560 rfl (lv_at hl 0 rfl) ?_
  refine lv_iload_n hx hb dL_law_561 rfl (lv_at hl 3 rfl) ?_
  refine lv_iconst (v := 1) hx hb dL_law_562 (by decide) ?_
  refine lv_iadd hx hb dL_law_563 ?_
  refine W.eq (g2 := F0 m 564 ls (.int (nI (i + 1)) :: [.ref b, .ref (br 0)])) (congrArg (fun z : Int32 => F0 m 564 ls (.int z :: [.ref b, .ref (br 0)])) (nI_add i 1)) ?_
  refine va_sld hx hb hX hbl hbA hS (vp_in_nI (by omega) (by omega)) dL_law_564 ?_
  refine lv_topi (fun y4 ey4 => ?_)
  refine lv_aload_n hx hb dL_law_565 rfl (lv_at hl 0 rfl) ?_
  refine lv_iload_n hx hb dL_law_566 rfl (lv_at hl 3 rfl) ?_
  refine lv_iconst (v := 2) hx hb dL_law_567 (by decide) ?_
  refine lv_iadd hx hb dL_law_568 ?_
  refine W.eq (g2 := F0 m 569 ls (.int (nI (i + 2)) :: [.ref b, .int y4, .ref (br 0)])) (congrArg (fun z : Int32 => F0 m 569 ls (.int z :: [.ref b, .int y4, .ref (br 0)])) (nI_add i 2)) ?_
  refine va_sld hx hb hX hbl hbA hS (vp_in_nI (by omega) (by omega)) dL_law_569 ?_
  refine lv_topi (fun y5 ey5 => ?_)
  obtain ⟨ac, hac, hF2⟩ := hIV.2.1
  obtain ⟨v0, hv0, hF15⟩ := hIV.2.2.2.2.1
  obtain ⟨oo, hoo, hF30⟩ := hIV.2.2.2.2.2
  have hAB := hIV.1
  have hBG := ab_0 hAB
  have hGG := bg_g hBG
  refine ly_i hW hQX hP hP2.2 hS (va_runV (As := [.int y4, .int y5]) (rest := []) ⟨hx, hb, hml, hown, noTs⟩ (r_X12_take l dC dI H.size cr br u (rA u 1) rfl y4 y5 ac hF2 (by first | assumption | omega) (by first | assumption | omega)) ⟨cbE 2 (wd_1687 hE) (wd_126 hE) (wd_1684 hE) rfl rfl (by decide +kernel) ⟨Nat.le_of_ble_eq_true rfl, Nat.le_of_ble_eq_true rfl⟩, (wd_1685 hE), (wd_1686 hE)⟩ ⟨PR.blind, r_recv hW.2.1 hP2.1 rfl, (r_pre (av := [.ref (br 0), .int y4, .int y5]) hW.2.1 hP2.1 hW.2.2.2.2.1 hE)⟩ rfl rfl hl.1 rfl (lv_room (Nat.le_of_ble_eq_true rfl)) dL_law_570 ⟨hcc, hss⟩) (fun r6 u6 H locs hpo6 hP2 hP hS => ?_)
  obtain ⟨hr6, h6_0, h6_1, hq6⟩ := hpo6
  have hIV2 : IV u6 tt mm := iv_act hIV hq6 h6_0 h6_1 (by decide) (by decide) (by decide) (by decide)
  have hI52 : IV5 u6 v _ _ := ⟨hIV2, tf_fr hI5.2 hq6 (by decide) (by decide) (by decide) (by decide)⟩
  refine lv_pop hx hb dL_law_573 rfl ?_
  refine lv_goto (tgt := 1631) hx hb dL_law_574 (by decide) ?_
  exact hk _ _ _ _ _ _ _ _ hok hP hP2 hI52 (by omega) (by omega) hS (lv_sub hl [0, 1, 2, 3] rfl)
set_option maxHeartbeats 4000000 in
set_option maxRecDepth 100000 in
theorem law_11 {p : Program} {e : Env} {s : State} {m : MethodId} {below : List Frame} {meth : Method} {c : Code} (l : Launch) {b L : Nat} {xs : Nat → Int32} {cells slots : Nat} (C0 : lw_At p s m meth c b L xs) (hL : L ≤ 3072) (hcc : cells ≤ 600000) (hss : slots ≤ 7302250) (dC : Nat → ClassId) (dI : Nat → Nat → Nat) (G : GT) (cs cr : Nat → ClassId) (br adK adV : Nat → Nat) (hW : LWD s dC dI G cs cr br adK adV) (bq : Nat → Nat) (hQX : QXD s G br bq) (hT : Ty G (bq 11) 11) (tt mm : Nat) (f : Nat → va_E) (u v : RS) (H : Heap) (locs : List Loc) (ls : Array Slot) (hok : OKT G cs tt mm f) (hP : va_P (dC, dI) vwCl (va_pl (gL G) f) H) (hP2 : KP dC dI cr br u cs bq v H) (hI5 : IV5 u v tt mm) (htt : tt ≤ 700) (hmm : mm ≤ 3) (hS : va_S (AL s) s.heap H locs) (i : Nat) (hi : i + 6 ≤ L) (hl : lv_has ls 4 [(0, .ref b), (1, .ref (bq 11)), (2, .ref (br 0)), (3, .int (nI i))]) (hk : ∀ (tt mm : Nat) (f : Nat → va_E) (u v : RS) (H : Heap) (locs : List Loc) (ls : Array Slot), OKT G cs tt mm f → va_P (dC, dI) vwCl (va_pl (gL G) f) H → KP dC dI cr br u cs bq v H → IV5 u v tt mm → tt ≤ 700 → mm ≤ 3 → va_S (AL s) s.heap H locs → lv_has ls 4 [(0, .ref b), (1, .ref (bq 11)), (2, .ref (br 0)), (3, .int (nI i))] → W p l e room_1 s m #[Value.ref b] below meth c H locs cells slots (lw_Z below #[Value.ref b] s) (F0 m 1631 ls [])) : W p l e room_1 s m #[Value.ref b] below meth c H locs cells slots (lw_Z below #[Value.ref b] s) (F0 m 577 ls []) := by
  obtain ⟨hx, hb, hr, hml, hown, hts, hX, hbl, hlocks, hgv⟩ := id C0
  have hE := hW.2.2.2.2.2.1
  have hIV := hI5.1
  have hbA : ¬ AL s b := Nat.not_le.mpr hbl
  refine lv_aload_n hx hb dL_law_577 rfl (lv_at hl 1 rfl) ?_
  refine lv_aload_n hx hb dL_law_578 rfl (lv_at hl 0 rfl) ?_
  refine lv_iload_n hx hb dL_law_579 rfl (lv_at hl 3 rfl) ?_
  refine lv_iconst (v := 1) hx hb dL_law_580 (by decide) ?_
  refine lv_iadd hx hb dL_law_581 ?_
  refine W.eq (g2 := F0 m 582 ls (.int (nI (i + 1)) :: [.ref b, .ref (bq 11)])) (congrArg (fun z : Int32 => F0 m 582 ls (.int z :: [.ref b, .ref (bq 11)])) (nI_add i 1)) ?_
  refine va_sld hx hb hX hbl hbA hS (vp_in_nI (by omega) (by omega)) dL_law_582 ?_
  refine lv_topi (fun y1 ey1 => ?_)
  obtain ⟨y2, hz2a, hz2b, he2⟩ := ok_X11 hok hT
  refine lx_i hW hQX hP2 hS (va_runV (As := [.int y1]) (rest := []) ⟨hx, hb, hml, hown, noTs⟩ (t_X11_form l dC dI H.size G cs tt mm (bq 11) hT y1) ⟨cbE 1 (wd_910 hE) (wd_115 hE) (wd_907 hE) rfl rfl (by decide +kernel) ⟨Nat.le_of_ble_eq_true rfl, Nat.le_of_ble_eq_true rfl⟩, (wd_908 hE), (wd_909 hE)⟩ ⟨PT.blind, th_recv hW.1 hP hT.1 he2 rfl, (th_pre (av := [.ref (bq 11), .int y1]) trivial hW.1 hP hok hW.2.2.1 hW.2.2.2.1 hE)⟩ rfl rfl hl.1 rfl (lv_room (Nat.le_of_ble_eq_true rfl)) dL_law_583 ⟨hcc, hss⟩) (fun r2 f H locs hr2 hok hP hP2 hS => ?_)
  refine lv_pop hx hb dL_law_586 rfl ?_
  refine lv_aload_n hx hb dL_law_587 rfl (lv_at hl 2 rfl) ?_
  refine lv_aload_n hx hb dL_law_588 rfl (lv_at hl 0 rfl) ?_
  refine lv_iload_n hx hb dL_law_589 rfl (lv_at hl 3 rfl) ?_
  refine lv_iconst (v := 1) hx hb dL_law_590 (by decide) ?_
  refine lv_iadd hx hb dL_law_591 ?_
  refine W.eq (g2 := F0 m 592 ls (.int (nI (i + 1)) :: [.ref b, .ref (br 0)])) (congrArg (fun z : Int32 => F0 m 592 ls (.int z :: [.ref b, .ref (br 0)])) (nI_add i 1)) ?_
  refine va_sld hx hb hX hbl hbA hS (vp_in_nI (by omega) (by omega)) dL_law_592 ?_
  refine lv_topi (fun y3 ey3 => ?_)
  obtain ⟨ac, hac, hF2⟩ := hIV.2.1
  obtain ⟨v0, hv0, hF15⟩ := hIV.2.2.2.2.1
  obtain ⟨oo, hoo, hF30⟩ := hIV.2.2.2.2.2
  have hAB := hIV.1
  have hBG := ab_0 hAB
  have hGG := bg_g hBG
  refine ly_i hW hQX hP hP2.2 hS (va_runV (As := [.int y3]) (rest := []) ⟨hx, hb, hml, hown, noTs⟩ (r_X12_form l dC dI H.size cr br u (rA u 1) rfl y3 ac hF2 (by first | assumption | omega) (by first | assumption | omega)) ⟨cbE 1 (wd_1695 hE) (wd_126 hE) (wd_1692 hE) rfl rfl (by decide +kernel) ⟨Nat.le_of_ble_eq_true rfl, Nat.le_of_ble_eq_true rfl⟩, (wd_1693 hE), (wd_1694 hE)⟩ ⟨PR.blind, r_recv hW.2.1 hP2.1 rfl, (r_pre (av := [.ref (br 0), .int y3]) hW.2.1 hP2.1 hW.2.2.2.2.1 hE)⟩ rfl rfl hl.1 rfl (lv_room (Nat.le_of_ble_eq_true rfl)) dL_law_593 ⟨hcc, hss⟩) (fun r4 u4 H locs hpo4 hP2 hP hS => ?_)
  obtain ⟨hr4, h4_0, h4_1, hq4⟩ := hpo4
  have hIV2 : IV u4 tt mm := iv_act hIV hq4 h4_0 h4_1 (by decide) (by decide) (by decide) (by decide)
  have hI52 : IV5 u4 v _ _ := ⟨hIV2, tf_fr hI5.2 hq4 (by decide) (by decide) (by decide) (by decide)⟩
  refine lv_pop hx hb dL_law_596 rfl ?_
  refine lv_goto (tgt := 1631) hx hb dL_law_597 (by decide) ?_
  exact hk _ _ _ _ _ _ _ _ hok hP hP2 hI52 (by omega) (by omega) hS (lv_sub hl [0, 1, 2, 3] rfl)
set_option maxHeartbeats 4000000 in
set_option maxRecDepth 100000 in
theorem law_12 {p : Program} {e : Env} {s : State} {m : MethodId} {below : List Frame} {meth : Method} {c : Code} (l : Launch) {b L : Nat} {xs : Nat → Int32} {cells slots : Nat} (C0 : lw_At p s m meth c b L xs) (hL : L ≤ 3072) (hcc : cells ≤ 600000) (hss : slots ≤ 7302250) (dC : Nat → ClassId) (dI : Nat → Nat → Nat) (G : GT) (cs cr : Nat → ClassId) (br adK adV : Nat → Nat) (hW : LWD s dC dI G cs cr br adK adV) (bq : Nat → Nat) (hQX : QXD s G br bq) (hT : Ty G (bq 11) 11) (tt mm : Nat) (f : Nat → va_E) (u v : RS) (H : Heap) (locs : List Loc) (ls : Array Slot) (hok : OKT G cs tt mm f) (hP : va_P (dC, dI) vwCl (va_pl (gL G) f) H) (hP2 : KP dC dI cr br u cs bq v H) (hI5 : IV5 u v tt mm) (htt : tt ≤ 700) (hmm : mm ≤ 3) (hS : va_S (AL s) s.heap H locs) (i : Nat) (hi : i + 6 ≤ L) (hl : lv_has ls 4 [(0, .ref b), (1, .ref (bq 11)), (2, .ref (br 0)), (3, .int (nI i))]) (hk : ∀ (tt mm : Nat) (f : Nat → va_E) (u v : RS) (H : Heap) (locs : List Loc) (ls : Array Slot), OKT G cs tt mm f → va_P (dC, dI) vwCl (va_pl (gL G) f) H → KP dC dI cr br u cs bq v H → IV5 u v tt mm → tt ≤ 700 → mm ≤ 3 → va_S (AL s) s.heap H locs → lv_has ls 4 [(0, .ref b), (1, .ref (bq 11)), (2, .ref (br 0)), (3, .int (nI i))] → W p l e room_1 s m #[Value.ref b] below meth c H locs cells slots (lw_Z below #[Value.ref b] s) (F0 m 1631 ls [])) : W p l e room_1 s m #[Value.ref b] below meth c H locs cells slots (lw_Z below #[Value.ref b] s) (F0 m 600 ls []) := by
  obtain ⟨hx, hb, hr, hml, hown, hts, hX, hbl, hlocks, hgv⟩ := id C0
  have hE := hW.2.2.2.2.2.1
  have hIV := hI5.1
  have hbA : ¬ AL s b := Nat.not_le.mpr hbl
  refine lv_aload_n hx hb dL_law_600 rfl (lv_at hl 1 rfl) ?_
  refine lv_aload_n hx hb dL_law_601 rfl (lv_at hl 0 rfl) ?_
  refine lv_iload_n hx hb dL_law_602 rfl (lv_at hl 3 rfl) ?_
  refine lv_iconst (v := 1) hx hb dL_law_603 (by decide) ?_
  refine lv_iadd hx hb dL_law_604 ?_
  refine W.eq (g2 := F0 m 605 ls (.int (nI (i + 1)) :: [.ref b, .ref (bq 11)])) (congrArg (fun z : Int32 => F0 m 605 ls (.int z :: [.ref b, .ref (bq 11)])) (nI_add i 1)) ?_
  refine va_sld hx hb hX hbl hbA hS (vp_in_nI (by omega) (by omega)) dL_law_605 ?_
  refine lv_topi (fun y1 ey1 => ?_)
  refine lv_aload_n hx hb dL_law_606 rfl (lv_at hl 0 rfl) ?_
  refine lv_iload_n hx hb dL_law_607 rfl (lv_at hl 3 rfl) ?_
  refine lv_iconst (v := 2) hx hb dL_law_608 (by decide) ?_
  refine lv_iadd hx hb dL_law_609 ?_
  refine W.eq (g2 := F0 m 610 ls (.int (nI (i + 2)) :: [.ref b, .int y1, .ref (bq 11)])) (congrArg (fun z : Int32 => F0 m 610 ls (.int z :: [.ref b, .int y1, .ref (bq 11)])) (nI_add i 2)) ?_
  refine va_sld hx hb hX hbl hbA hS (vp_in_nI (by omega) (by omega)) dL_law_610 ?_
  refine lv_topi (fun y2 ey2 => ?_)
  obtain ⟨y3, hz3a, hz3b, he3⟩ := ok_X11 hok hT
  refine lx_i hW hQX hP2 hS (va_runV (As := [.int y1, .int y2]) (rest := []) ⟨hx, hb, hml, hown, noTs⟩ (t_X11_times l dC dI H.size G cs tt mm (bq 11) hT y1 y2) ⟨cbE 2 (wd_915 hE) (wd_115 hE) (wd_912 hE) rfl rfl (by decide +kernel) ⟨Nat.le_of_ble_eq_true rfl, Nat.le_of_ble_eq_true rfl⟩, (wd_913 hE), (wd_914 hE)⟩ ⟨PT.blind, th_recv hW.1 hP hT.1 he3 rfl, (th_pre (av := [.ref (bq 11), .int y1, .int y2]) trivial hW.1 hP hok hW.2.2.1 hW.2.2.2.1 hE)⟩ rfl rfl hl.1 rfl (lv_room (Nat.le_of_ble_eq_true rfl)) dL_law_611 ⟨hcc, hss⟩) (fun r3 f H locs hr3 hok hP hP2 hS => ?_)
  refine lv_pop hx hb dL_law_614 rfl ?_
  refine lv_aload_n hx hb dL_law_615 rfl (lv_at hl 2 rfl) ?_
  refine lv_aload_n hx hb dL_law_616 rfl (lv_at hl 0 rfl) ?_
  refine lv_iload_n hx hb dL_law_617 rfl (lv_at hl 3 rfl) ?_
  refine lv_iconst (v := 1) hx hb dL_law_618 (by decide) ?_
  refine lv_iadd hx hb dL_law_619 ?_
  refine W.eq (g2 := F0 m 620 ls (.int (nI (i + 1)) :: [.ref b, .ref (br 0)])) (congrArg (fun z : Int32 => F0 m 620 ls (.int z :: [.ref b, .ref (br 0)])) (nI_add i 1)) ?_
  refine va_sld hx hb hX hbl hbA hS (vp_in_nI (by omega) (by omega)) dL_law_620 ?_
  refine lv_topi (fun y4 ey4 => ?_)
  refine lv_aload_n hx hb dL_law_621 rfl (lv_at hl 0 rfl) ?_
  refine lv_iload_n hx hb dL_law_622 rfl (lv_at hl 3 rfl) ?_
  refine lv_iconst (v := 2) hx hb dL_law_623 (by decide) ?_
  refine lv_iadd hx hb dL_law_624 ?_
  refine W.eq (g2 := F0 m 625 ls (.int (nI (i + 2)) :: [.ref b, .int y4, .ref (br 0)])) (congrArg (fun z : Int32 => F0 m 625 ls (.int z :: [.ref b, .int y4, .ref (br 0)])) (nI_add i 2)) ?_
  refine va_sld hx hb hX hbl hbA hS (vp_in_nI (by omega) (by omega)) dL_law_625 ?_
  refine lv_topi (fun y5 ey5 => ?_)
  obtain ⟨ac, hac, hF2⟩ := hIV.2.1
  obtain ⟨v0, hv0, hF15⟩ := hIV.2.2.2.2.1
  obtain ⟨oo, hoo, hF30⟩ := hIV.2.2.2.2.2
  have hAB := hIV.1
  have hBG := ab_0 hAB
  have hGG := bg_g hBG
  refine ly_i hW hQX hP hP2.2 hS (va_runV (As := [.int y4, .int y5]) (rest := []) ⟨hx, hb, hml, hown, noTs⟩ (r_X12_times l dC dI H.size cr br u (rA u 1) rfl y4 y5 ac hF2 (by first | assumption | omega) (by first | assumption | omega)) ⟨cbE 2 (wd_1699 hE) (wd_126 hE) (wd_1696 hE) rfl rfl (by decide +kernel) ⟨Nat.le_of_ble_eq_true rfl, Nat.le_of_ble_eq_true rfl⟩, (wd_1697 hE), (wd_1698 hE)⟩ ⟨PR.blind, r_recv hW.2.1 hP2.1 rfl, (r_pre (av := [.ref (br 0), .int y4, .int y5]) hW.2.1 hP2.1 hW.2.2.2.2.1 hE)⟩ rfl rfl hl.1 rfl (lv_room (Nat.le_of_ble_eq_true rfl)) dL_law_626 ⟨hcc, hss⟩) (fun r6 u6 H locs hpo6 hP2 hP hS => ?_)
  obtain ⟨hr6, h6_0, h6_1, hq6⟩ := hpo6
  have hIV2 : IV u6 tt mm := iv_act hIV hq6 h6_0 h6_1 (by decide) (by decide) (by decide) (by decide)
  have hI52 : IV5 u6 v _ _ := ⟨hIV2, tf_fr hI5.2 hq6 (by decide) (by decide) (by decide) (by decide)⟩
  refine lv_pop hx hb dL_law_629 rfl ?_
  refine lv_goto (tgt := 1631) hx hb dL_law_630 (by decide) ?_
  exact hk _ _ _ _ _ _ _ _ hok hP hP2 hI52 (by omega) (by omega) hS (lv_sub hl [0, 1, 2, 3] rfl)
set_option maxHeartbeats 4000000 in
set_option maxRecDepth 100000 in
theorem law_13 {p : Program} {e : Env} {s : State} {m : MethodId} {below : List Frame} {meth : Method} {c : Code} (l : Launch) {b L : Nat} {xs : Nat → Int32} {cells slots : Nat} (C0 : lw_At p s m meth c b L xs) (hL : L ≤ 3072) (hcc : cells ≤ 600000) (hss : slots ≤ 7302250) (dC : Nat → ClassId) (dI : Nat → Nat → Nat) (G : GT) (cs cr : Nat → ClassId) (br adK adV : Nat → Nat) (hW : LWD s dC dI G cs cr br adK adV) (bq : Nat → Nat) (hQX : QXD s G br bq) (hT : Ty G (bq 11) 11) (tt mm : Nat) (f : Nat → va_E) (u v : RS) (H : Heap) (locs : List Loc) (ls : Array Slot) (hok : OKT G cs tt mm f) (hP : va_P (dC, dI) vwCl (va_pl (gL G) f) H) (hP2 : KP dC dI cr br u cs bq v H) (hI5 : IV5 u v tt mm) (htt : tt ≤ 700) (hmm : mm ≤ 3) (hS : va_S (AL s) s.heap H locs) (i : Nat) (hi : i + 6 ≤ L) (hl : lv_has ls 4 [(0, .ref b), (1, .ref (bq 11)), (2, .ref (br 0)), (3, .int (nI i))]) (hk : ∀ (tt mm : Nat) (f : Nat → va_E) (u v : RS) (H : Heap) (locs : List Loc) (ls : Array Slot), OKT G cs tt mm f → va_P (dC, dI) vwCl (va_pl (gL G) f) H → KP dC dI cr br u cs bq v H → IV5 u v tt mm → tt ≤ 700 → mm ≤ 3 → va_S (AL s) s.heap H locs → lv_has ls 4 [(0, .ref b), (1, .ref (bq 11)), (2, .ref (br 0)), (3, .int (nI i))] → W p l e room_1 s m #[Value.ref b] below meth c H locs cells slots (lw_Z below #[Value.ref b] s) (F0 m 1631 ls [])) : W p l e room_1 s m #[Value.ref b] below meth c H locs cells slots (lw_Z below #[Value.ref b] s) (F0 m 633 ls []) := by
  obtain ⟨hx, hb, hr, hml, hown, hts, hX, hbl, hlocks, hgv⟩ := id C0
  have hE := hW.2.2.2.2.2.1
  have hIV := hI5.1
  have hbA : ¬ AL s b := Nat.not_le.mpr hbl
  refine lv_aload_n hx hb dL_law_633 rfl (lv_at hl 1 rfl) ?_
  refine lv_aload_n hx hb dL_law_634 rfl (lv_at hl 0 rfl) ?_
  refine lv_iload_n hx hb dL_law_635 rfl (lv_at hl 3 rfl) ?_
  refine lv_iconst (v := 1) hx hb dL_law_636 (by decide) ?_
  refine lv_iadd hx hb dL_law_637 ?_
  refine W.eq (g2 := F0 m 638 ls (.int (nI (i + 1)) :: [.ref b, .ref (bq 11)])) (congrArg (fun z : Int32 => F0 m 638 ls (.int z :: [.ref b, .ref (bq 11)])) (nI_add i 1)) ?_
  refine va_sld hx hb hX hbl hbA hS (vp_in_nI (by omega) (by omega)) dL_law_638 ?_
  refine lv_topi (fun y1 ey1 => ?_)
  obtain ⟨y2, hz2a, hz2b, he2⟩ := ok_X11 hok hT
  refine lx_i hW hQX hP2 hS (va_runV (As := [.int y1]) (rest := []) ⟨hx, hb, hml, hown, noTs⟩ (t_X11_turned l dC dI H.size G cs tt mm (bq 11) hT y1) ⟨cbE 1 (wd_926 hE) (wd_115 hE) (wd_923 hE) rfl rfl (by decide +kernel) ⟨Nat.le_of_ble_eq_true rfl, Nat.le_of_ble_eq_true rfl⟩, (wd_924 hE), (wd_925 hE)⟩ ⟨PT.blind, th_recv hW.1 hP hT.1 he2 rfl, (th_pre (av := [.ref (bq 11), .int y1]) trivial hW.1 hP hok hW.2.2.1 hW.2.2.2.1 hE)⟩ rfl rfl hl.1 rfl (lv_room (Nat.le_of_ble_eq_true rfl)) dL_law_639 ⟨hcc, hss⟩) (fun r2 f H locs hr2 hok hP hP2 hS => ?_)
  refine lv_pop hx hb dL_law_642 rfl ?_
  refine lv_aload_n hx hb dL_law_643 rfl (lv_at hl 2 rfl) ?_
  refine lv_aload_n hx hb dL_law_644 rfl (lv_at hl 0 rfl) ?_
  refine lv_iload_n hx hb dL_law_645 rfl (lv_at hl 3 rfl) ?_
  refine lv_iconst (v := 1) hx hb dL_law_646 (by decide) ?_
  refine lv_iadd hx hb dL_law_647 ?_
  refine W.eq (g2 := F0 m 648 ls (.int (nI (i + 1)) :: [.ref b, .ref (br 0)])) (congrArg (fun z : Int32 => F0 m 648 ls (.int z :: [.ref b, .ref (br 0)])) (nI_add i 1)) ?_
  refine va_sld hx hb hX hbl hbA hS (vp_in_nI (by omega) (by omega)) dL_law_648 ?_
  refine lv_topi (fun y3 ey3 => ?_)
  obtain ⟨ac, hac, hF2⟩ := hIV.2.1
  obtain ⟨v0, hv0, hF15⟩ := hIV.2.2.2.2.1
  obtain ⟨oo, hoo, hF30⟩ := hIV.2.2.2.2.2
  have hAB := hIV.1
  have hBG := ab_0 hAB
  have hGG := bg_g hBG
  refine ly_i hW hQX hP hP2.2 hS (va_runV (As := [.int y3]) (rest := []) ⟨hx, hb, hml, hown, noTs⟩ (r_X12_turned l dC dI H.size cr br u (rA u 1) rfl y3 ac hF2 (by first | assumption | omega) (by first | assumption | omega)) ⟨cbE 1 (wd_1713 hE) (wd_126 hE) (wd_1710 hE) rfl rfl (by decide +kernel) ⟨Nat.le_of_ble_eq_true rfl, Nat.le_of_ble_eq_true rfl⟩, (wd_1711 hE), (wd_1712 hE)⟩ ⟨PR.blind, r_recv hW.2.1 hP2.1 rfl, (r_pre (av := [.ref (br 0), .int y3]) hW.2.1 hP2.1 hW.2.2.2.2.1 hE)⟩ rfl rfl hl.1 rfl (lv_room (Nat.le_of_ble_eq_true rfl)) dL_law_649 ⟨hcc, hss⟩) (fun r4 u4 H locs hpo4 hP2 hP hS => ?_)
  obtain ⟨hr4, h4_0, h4_1, hq4⟩ := hpo4
  have hIV2 : IV u4 tt mm := iv_act hIV hq4 h4_0 h4_1 (by decide) (by decide) (by decide) (by decide)
  have hI52 : IV5 u4 v _ _ := ⟨hIV2, tf_fr hI5.2 hq4 (by decide) (by decide) (by decide) (by decide)⟩
  refine lv_pop hx hb dL_law_652 rfl ?_
  refine lv_goto (tgt := 1631) hx hb dL_law_653 (by decide) ?_
  exact hk _ _ _ _ _ _ _ _ hok hP hP2 hI52 (by omega) (by omega) hS (lv_sub hl [0, 1, 2, 3] rfl)
set_option maxHeartbeats 4000000 in
set_option maxRecDepth 100000 in
theorem law_14 {p : Program} {e : Env} {s : State} {m : MethodId} {below : List Frame} {meth : Method} {c : Code} (l : Launch) {b L : Nat} {xs : Nat → Int32} {cells slots : Nat} (C0 : lw_At p s m meth c b L xs) (hL : L ≤ 3072) (hcc : cells ≤ 600000) (hss : slots ≤ 7302250) (dC : Nat → ClassId) (dI : Nat → Nat → Nat) (G : GT) (cs cr : Nat → ClassId) (br adK adV : Nat → Nat) (hW : LWD s dC dI G cs cr br adK adV) (bq : Nat → Nat) (hQX : QXD s G br bq) (hT : Ty G (bq 11) 11) (tt mm : Nat) (f : Nat → va_E) (u v : RS) (H : Heap) (locs : List Loc) (ls : Array Slot) (hok : OKT G cs tt mm f) (hP : va_P (dC, dI) vwCl (va_pl (gL G) f) H) (hP2 : KP dC dI cr br u cs bq v H) (hI5 : IV5 u v tt mm) (htt : tt ≤ 700) (hmm : mm ≤ 3) (hS : va_S (AL s) s.heap H locs) (i : Nat) (hi : i + 6 ≤ L) (hl : lv_has ls 4 [(0, .ref b), (1, .ref (bq 11)), (2, .ref (br 0)), (3, .int (nI i))]) (hk : ∀ (tt mm : Nat) (f : Nat → va_E) (u v : RS) (H : Heap) (locs : List Loc) (ls : Array Slot), OKT G cs tt mm f → va_P (dC, dI) vwCl (va_pl (gL G) f) H → KP dC dI cr br u cs bq v H → IV5 u v tt mm → tt ≤ 700 → mm ≤ 3 → va_S (AL s) s.heap H locs → lv_has ls 4 [(0, .ref b), (1, .ref (bq 11)), (2, .ref (br 0)), (3, .int (nI i))] → W p l e room_1 s m #[Value.ref b] below meth c H locs cells slots (lw_Z below #[Value.ref b] s) (F0 m 1631 ls [])) : W p l e room_1 s m #[Value.ref b] below meth c H locs cells slots (lw_Z below #[Value.ref b] s) (F0 m 656 ls []) := by
  obtain ⟨hx, hb, hr, hml, hown, hts, hX, hbl, hlocks, hgv⟩ := id C0
  have hE := hW.2.2.2.2.2.1
  have hIV := hI5.1
  have hbA : ¬ AL s b := Nat.not_le.mpr hbl
  refine lv_aload_n hx hb dL_law_656 rfl (lv_at hl 1 rfl) ?_
  refine lv_aload_n hx hb dL_law_657 rfl (lv_at hl 0 rfl) ?_
  refine lv_iload_n hx hb dL_law_658 rfl (lv_at hl 3 rfl) ?_
  refine lv_iconst (v := 1) hx hb dL_law_659 (by decide) ?_
  refine lv_iadd hx hb dL_law_660 ?_
  refine W.eq (g2 := F0 m 661 ls (.int (nI (i + 1)) :: [.ref b, .ref (bq 11)])) (congrArg (fun z : Int32 => F0 m 661 ls (.int z :: [.ref b, .ref (bq 11)])) (nI_add i 1)) ?_
  refine va_sld hx hb hX hbl hbA hS (vp_in_nI (by omega) (by omega)) dL_law_661 ?_
  refine lv_topi (fun y1 ey1 => ?_)
  refine lv_aload_n hx hb dL_law_662 rfl (lv_at hl 0 rfl) ?_
  refine lv_iload_n hx hb dL_law_663 rfl (lv_at hl 3 rfl) ?_
  refine lv_iconst (v := 2) hx hb dL_law_664 (by decide) ?_
  refine lv_iadd hx hb dL_law_665 ?_
  refine W.eq (g2 := F0 m 666 ls (.int (nI (i + 2)) :: [.ref b, .int y1, .ref (bq 11)])) (congrArg (fun z : Int32 => F0 m 666 ls (.int z :: [.ref b, .int y1, .ref (bq 11)])) (nI_add i 2)) ?_
  refine va_sld hx hb hX hbl hbA hS (vp_in_nI (by omega) (by omega)) dL_law_666 ?_
  refine lv_topi (fun y2 ey2 => ?_)
  obtain ⟨y3, hz3a, hz3b, he3⟩ := ok_X11 hok hT
  refine lx_i hW hQX hP2 hS (va_runV (As := [.int y1, .int y2]) (rest := []) ⟨hx, hb, hml, hown, noTs⟩ (t_X11_power l dC dI H.size G cs tt mm (bq 11) hT y1 y2) ⟨cbE 2 (wd_937 hE) (wd_115 hE) (wd_934 hE) rfl rfl (by decide +kernel) ⟨Nat.le_of_ble_eq_true rfl, Nat.le_of_ble_eq_true rfl⟩, (wd_935 hE), (wd_936 hE)⟩ ⟨PT.blind, th_recv hW.1 hP hT.1 he3 rfl, (th_pre (av := [.ref (bq 11), .int y1, .int y2]) trivial hW.1 hP hok hW.2.2.1 hW.2.2.2.1 hE)⟩ rfl rfl hl.1 rfl (lv_room (Nat.le_of_ble_eq_true rfl)) dL_law_667 ⟨hcc, hss⟩) (fun r3 f H locs hr3 hok hP hP2 hS => ?_)
  refine lv_pop hx hb dL_law_670 rfl ?_
  refine lv_aload_n hx hb dL_law_671 rfl (lv_at hl 2 rfl) ?_
  refine lv_aload_n hx hb dL_law_672 rfl (lv_at hl 0 rfl) ?_
  refine lv_iload_n hx hb dL_law_673 rfl (lv_at hl 3 rfl) ?_
  refine lv_iconst (v := 1) hx hb dL_law_674 (by decide) ?_
  refine lv_iadd hx hb dL_law_675 ?_
  refine W.eq (g2 := F0 m 676 ls (.int (nI (i + 1)) :: [.ref b, .ref (br 0)])) (congrArg (fun z : Int32 => F0 m 676 ls (.int z :: [.ref b, .ref (br 0)])) (nI_add i 1)) ?_
  refine va_sld hx hb hX hbl hbA hS (vp_in_nI (by omega) (by omega)) dL_law_676 ?_
  refine lv_topi (fun y4 ey4 => ?_)
  refine lv_aload_n hx hb dL_law_677 rfl (lv_at hl 0 rfl) ?_
  refine lv_iload_n hx hb dL_law_678 rfl (lv_at hl 3 rfl) ?_
  refine lv_iconst (v := 2) hx hb dL_law_679 (by decide) ?_
  refine lv_iadd hx hb dL_law_680 ?_
  refine W.eq (g2 := F0 m 681 ls (.int (nI (i + 2)) :: [.ref b, .int y4, .ref (br 0)])) (congrArg (fun z : Int32 => F0 m 681 ls (.int z :: [.ref b, .int y4, .ref (br 0)])) (nI_add i 2)) ?_
  refine va_sld hx hb hX hbl hbA hS (vp_in_nI (by omega) (by omega)) dL_law_681 ?_
  refine lv_topi (fun y5 ey5 => ?_)
  obtain ⟨ac, hac, hF2⟩ := hIV.2.1
  obtain ⟨v0, hv0, hF15⟩ := hIV.2.2.2.2.1
  obtain ⟨oo, hoo, hF30⟩ := hIV.2.2.2.2.2
  have hAB := hIV.1
  have hBG := ab_0 hAB
  have hGG := bg_g hBG
  refine ly_i hW hQX hP hP2.2 hS (va_runV (As := [.int y4, .int y5]) (rest := []) ⟨hx, hb, hml, hown, noTs⟩ (r_X12_power l dC dI H.size cr br u (rA u 1) rfl y4 y5 ac hF2 (by first | assumption | omega) (by first | assumption | omega)) ⟨cbE 2 (wd_1721 hE) (wd_126 hE) (wd_1718 hE) rfl rfl (by decide +kernel) ⟨Nat.le_of_ble_eq_true rfl, Nat.le_of_ble_eq_true rfl⟩, (wd_1719 hE), (wd_1720 hE)⟩ ⟨PR.blind, r_recv hW.2.1 hP2.1 rfl, (r_pre (av := [.ref (br 0), .int y4, .int y5]) hW.2.1 hP2.1 hW.2.2.2.2.1 hE)⟩ rfl rfl hl.1 rfl (lv_room (Nat.le_of_ble_eq_true rfl)) dL_law_682 ⟨hcc, hss⟩) (fun r6 u6 H locs hpo6 hP2 hP hS => ?_)
  obtain ⟨hr6, h6_0, h6_1, hq6⟩ := hpo6
  have hIV2 : IV u6 tt mm := iv_act hIV hq6 h6_0 h6_1 (by decide) (by decide) (by decide) (by decide)
  have hI52 : IV5 u6 v _ _ := ⟨hIV2, tf_fr hI5.2 hq6 (by decide) (by decide) (by decide) (by decide)⟩
  refine lv_pop hx hb dL_law_685 rfl ?_
  refine lv_goto (tgt := 1631) hx hb dL_law_686 (by decide) ?_
  exact hk _ _ _ _ _ _ _ _ hok hP hP2 hI52 (by omega) (by omega) hS (lv_sub hl [0, 1, 2, 3] rfl)
set_option maxHeartbeats 4000000 in
set_option maxRecDepth 100000 in
theorem law_15 {p : Program} {e : Env} {s : State} {m : MethodId} {below : List Frame} {meth : Method} {c : Code} (l : Launch) {b L : Nat} {xs : Nat → Int32} {cells slots : Nat} (C0 : lw_At p s m meth c b L xs) (hL : L ≤ 3072) (hcc : cells ≤ 600000) (hss : slots ≤ 7302250) (dC : Nat → ClassId) (dI : Nat → Nat → Nat) (G : GT) (cs cr : Nat → ClassId) (br adK adV : Nat → Nat) (hW : LWD s dC dI G cs cr br adK adV) (bq : Nat → Nat) (hQX : QXD s G br bq) (hT : Ty G (bq 11) 11) (tt mm : Nat) (f : Nat → va_E) (u v : RS) (H : Heap) (locs : List Loc) (ls : Array Slot) (hok : OKT G cs tt mm f) (hP : va_P (dC, dI) vwCl (va_pl (gL G) f) H) (hP2 : KP dC dI cr br u cs bq v H) (hI5 : IV5 u v tt mm) (htt : tt ≤ 700) (hmm : mm ≤ 3) (hS : va_S (AL s) s.heap H locs) (i : Nat) (hi : i + 6 ≤ L) (hl : lv_has ls 4 [(0, .ref b), (1, .ref (bq 11)), (2, .ref (br 0)), (3, .int (nI i))]) (hk : ∀ (tt mm : Nat) (f : Nat → va_E) (u v : RS) (H : Heap) (locs : List Loc) (ls : Array Slot), OKT G cs tt mm f → va_P (dC, dI) vwCl (va_pl (gL G) f) H → KP dC dI cr br u cs bq v H → IV5 u v tt mm → tt ≤ 700 → mm ≤ 3 → va_S (AL s) s.heap H locs → lv_has ls 4 [(0, .ref b), (1, .ref (bq 11)), (2, .ref (br 0)), (3, .int (nI i))] → W p l e room_1 s m #[Value.ref b] below meth c H locs cells slots (lw_Z below #[Value.ref b] s) (F0 m 1631 ls [])) : W p l e room_1 s m #[Value.ref b] below meth c H locs cells slots (lw_Z below #[Value.ref b] s) (F0 m 689 ls []) := by
  obtain ⟨hx, hb, hr, hml, hown, hts, hX, hbl, hlocks, hgv⟩ := id C0
  have hE := hW.2.2.2.2.2.1
  have hIV := hI5.1
  have hbA : ¬ AL s b := Nat.not_le.mpr hbl
  refine lv_aload_n hx hb dL_law_689 rfl (lv_at hl 1 rfl) ?_
  refine lv_aload_n hx hb dL_law_690 rfl (lv_at hl 0 rfl) ?_
  refine lv_iload_n hx hb dL_law_691 rfl (lv_at hl 3 rfl) ?_
  refine lv_iconst (v := 1) hx hb dL_law_692 (by decide) ?_
  refine lv_iadd hx hb dL_law_693 ?_
  refine W.eq (g2 := F0 m 694 ls (.int (nI (i + 1)) :: [.ref b, .ref (bq 11)])) (congrArg (fun z : Int32 => F0 m 694 ls (.int z :: [.ref b, .ref (bq 11)])) (nI_add i 1)) ?_
  refine va_sld hx hb hX hbl hbA hS (vp_in_nI (by omega) (by omega)) dL_law_694 ?_
  refine lv_topi (fun y1 ey1 => ?_)
  obtain ⟨y2, hz2a, hz2b, he2⟩ := ok_X11 hok hT
  refine lx_i hW hQX hP2 hS (va_runV (As := [.int y1]) (rest := []) ⟨hx, hb, hml, hown, noTs⟩ (t_X11_core l dC dI H.size G cs tt mm (bq 11) hT y1) ⟨cbE 1 (wd_959 hE) (wd_115 hE) (wd_956 hE) rfl rfl (by decide +kernel) ⟨Nat.le_of_ble_eq_true rfl, Nat.le_of_ble_eq_true rfl⟩, (wd_957 hE), (wd_958 hE)⟩ ⟨PT.blind, th_recv hW.1 hP hT.1 he2 rfl, (th_pre (av := [.ref (bq 11), .int y1]) trivial hW.1 hP hok hW.2.2.1 hW.2.2.2.1 hE)⟩ rfl rfl hl.1 rfl (lv_room (Nat.le_of_ble_eq_true rfl)) dL_law_695 ⟨hcc, hss⟩) (fun r2 f H locs hr2 hok hP hP2 hS => ?_)
  refine lv_pop hx hb dL_law_698 rfl ?_
  refine lv_aload_n hx hb dL_law_699 rfl (lv_at hl 2 rfl) ?_
  refine lv_aload_n hx hb dL_law_700 rfl (lv_at hl 0 rfl) ?_
  refine lv_iload_n hx hb dL_law_701 rfl (lv_at hl 3 rfl) ?_
  refine lv_iconst (v := 1) hx hb dL_law_702 (by decide) ?_
  refine lv_iadd hx hb dL_law_703 ?_
  refine W.eq (g2 := F0 m 704 ls (.int (nI (i + 1)) :: [.ref b, .ref (br 0)])) (congrArg (fun z : Int32 => F0 m 704 ls (.int z :: [.ref b, .ref (br 0)])) (nI_add i 1)) ?_
  refine va_sld hx hb hX hbl hbA hS (vp_in_nI (by omega) (by omega)) dL_law_704 ?_
  refine lv_topi (fun y3 ey3 => ?_)
  obtain ⟨ac, hac, hF2⟩ := hIV.2.1
  obtain ⟨v0, hv0, hF15⟩ := hIV.2.2.2.2.1
  obtain ⟨oo, hoo, hF30⟩ := hIV.2.2.2.2.2
  have hAB := hIV.1
  have hBG := ab_0 hAB
  have hGG := bg_g hBG
  refine ly_i hW hQX hP hP2.2 hS (va_runV (As := [.int y3]) (rest := []) ⟨hx, hb, hml, hown, noTs⟩ (r_X12_core l dC dI H.size cr br u (rA u 1) rfl y3 ac hF2 (by first | assumption | omega) (by first | assumption | omega)) ⟨cbE 1 (wd_1729 hE) (wd_126 hE) (wd_1726 hE) rfl rfl (by decide +kernel) ⟨Nat.le_of_ble_eq_true rfl, Nat.le_of_ble_eq_true rfl⟩, (wd_1727 hE), (wd_1728 hE)⟩ ⟨PR.blind, r_recv hW.2.1 hP2.1 rfl, (r_pre (av := [.ref (br 0), .int y3]) hW.2.1 hP2.1 hW.2.2.2.2.1 hE)⟩ rfl rfl hl.1 rfl (lv_room (Nat.le_of_ble_eq_true rfl)) dL_law_705 ⟨hcc, hss⟩) (fun r4 u4 H locs hpo4 hP2 hP hS => ?_)
  obtain ⟨hr4, h4_0, h4_1, hq4⟩ := hpo4
  have hIV2 : IV u4 tt mm := iv_act hIV hq4 h4_0 h4_1 (by decide) (by decide) (by decide) (by decide)
  have hI52 : IV5 u4 v _ _ := ⟨hIV2, tf_fr hI5.2 hq4 (by decide) (by decide) (by decide) (by decide)⟩
  refine lv_pop hx hb dL_law_708 rfl ?_
  refine lv_goto (tgt := 1631) hx hb dL_law_709 (by decide) ?_
  exact hk _ _ _ _ _ _ _ _ hok hP hP2 hI52 (by omega) (by omega) hS (lv_sub hl [0, 1, 2, 3] rfl)
set_option maxHeartbeats 4000000 in
set_option maxRecDepth 100000 in
theorem law_16 {p : Program} {e : Env} {s : State} {m : MethodId} {below : List Frame} {meth : Method} {c : Code} (l : Launch) {b L : Nat} {xs : Nat → Int32} {cells slots : Nat} (C0 : lw_At p s m meth c b L xs) (hL : L ≤ 3072) (hcc : cells ≤ 600000) (hss : slots ≤ 7302250) (dC : Nat → ClassId) (dI : Nat → Nat → Nat) (G : GT) (cs cr : Nat → ClassId) (br adK adV : Nat → Nat) (hW : LWD s dC dI G cs cr br adK adV) (bq : Nat → Nat) (hQX : QXD s G br bq) (hT : Ty G (bq 11) 11) (tt mm : Nat) (f : Nat → va_E) (u v : RS) (H : Heap) (locs : List Loc) (ls : Array Slot) (hok : OKT G cs tt mm f) (hP : va_P (dC, dI) vwCl (va_pl (gL G) f) H) (hP2 : KP dC dI cr br u cs bq v H) (hI5 : IV5 u v tt mm) (htt : tt ≤ 700) (hmm : mm ≤ 3) (hS : va_S (AL s) s.heap H locs) (i : Nat) (hi : i + 6 ≤ L) (hl : lv_has ls 4 [(0, .ref b), (1, .ref (bq 11)), (2, .ref (br 0)), (3, .int (nI i))]) (hk : ∀ (tt mm : Nat) (f : Nat → va_E) (u v : RS) (H : Heap) (locs : List Loc) (ls : Array Slot), OKT G cs tt mm f → va_P (dC, dI) vwCl (va_pl (gL G) f) H → KP dC dI cr br u cs bq v H → IV5 u v tt mm → tt ≤ 700 → mm ≤ 3 → va_S (AL s) s.heap H locs → lv_has ls 4 [(0, .ref b), (1, .ref (bq 11)), (2, .ref (br 0)), (3, .int (nI i))] → W p l e room_1 s m #[Value.ref b] below meth c H locs cells slots (lw_Z below #[Value.ref b] s) (F0 m 1631 ls [])) : W p l e room_1 s m #[Value.ref b] below meth c H locs cells slots (lw_Z below #[Value.ref b] s) (F0 m 712 ls []) := by
  obtain ⟨hx, hb, hr, hml, hown, hts, hX, hbl, hlocks, hgv⟩ := id C0
  have hE := hW.2.2.2.2.2.1
  have hIV := hI5.1
  have hbA : ¬ AL s b := Nat.not_le.mpr hbl
  refine lv_aload_n hx hb dL_law_712 rfl (lv_at hl 1 rfl) ?_
  refine lv_aload_n hx hb dL_law_713 rfl (lv_at hl 0 rfl) ?_
  refine lv_iload_n hx hb dL_law_714 rfl (lv_at hl 3 rfl) ?_
  refine lv_iconst (v := 1) hx hb dL_law_715 (by decide) ?_
  refine lv_iadd hx hb dL_law_716 ?_
  refine W.eq (g2 := F0 m 717 ls (.int (nI (i + 1)) :: [.ref b, .ref (bq 11)])) (congrArg (fun z : Int32 => F0 m 717 ls (.int z :: [.ref b, .ref (bq 11)])) (nI_add i 1)) ?_
  refine va_sld hx hb hX hbl hbA hS (vp_in_nI (by omega) (by omega)) dL_law_717 ?_
  refine lv_topi (fun y1 ey1 => ?_)
  refine lv_aload_n hx hb dL_law_718 rfl (lv_at hl 0 rfl) ?_
  refine lv_iload_n hx hb dL_law_719 rfl (lv_at hl 3 rfl) ?_
  refine lv_iconst (v := 2) hx hb dL_law_720 (by decide) ?_
  refine lv_iadd hx hb dL_law_721 ?_
  refine W.eq (g2 := F0 m 722 ls (.int (nI (i + 2)) :: [.ref b, .int y1, .ref (bq 11)])) (congrArg (fun z : Int32 => F0 m 722 ls (.int z :: [.ref b, .int y1, .ref (bq 11)])) (nI_add i 2)) ?_
  refine va_sld hx hb hX hbl hbA hS (vp_in_nI (by omega) (by omega)) dL_law_722 ?_
  refine lv_topi (fun y2 ey2 => ?_)
  refine lv_aload_n hx hb dL_law_723 rfl (lv_at hl 0 rfl) ?_
  refine lv_iload_n hx hb dL_law_724 rfl (lv_at hl 3 rfl) ?_
  refine lv_iconst (v := 3) hx hb dL_law_725 (by decide) ?_
  refine lv_iadd hx hb dL_law_726 ?_
  refine W.eq (g2 := F0 m 727 ls (.int (nI (i + 3)) :: [.ref b, .int y2, .int y1, .ref (bq 11)])) (congrArg (fun z : Int32 => F0 m 727 ls (.int z :: [.ref b, .int y2, .int y1, .ref (bq 11)])) (nI_add i 3)) ?_
  refine va_sld hx hb hX hbl hbA hS (vp_in_nI (by omega) (by omega)) dL_law_727 ?_
  refine lv_topi (fun y3 ey3 => ?_)
  obtain ⟨y4, hz4a, hz4b, he4⟩ := ok_X11 hok hT
  refine lx_i hW hQX hP2 hS (va_runV (As := [.int y1, .int y2, .int y3]) (rest := []) ⟨hx, hb, hml, hown, noTs⟩ (t_X11_spell l dC dI H.size G cs tt mm (bq 11) hT y1 y2 y3) ⟨cbE 3 (wd_975 hE) (wd_115 hE) (wd_972 hE) rfl rfl (by decide +kernel) ⟨Nat.le_of_ble_eq_true rfl, Nat.le_of_ble_eq_true rfl⟩, (wd_973 hE), (wd_974 hE)⟩ ⟨PT.blind, th_recv hW.1 hP hT.1 he4 rfl, (th_pre (av := [.ref (bq 11), .int y1, .int y2, .int y3]) trivial hW.1 hP hok hW.2.2.1 hW.2.2.2.1 hE)⟩ rfl rfl hl.1 rfl (lv_room (Nat.le_of_ble_eq_true rfl)) dL_law_728 ⟨hcc, hss⟩) (fun r4 f H locs hr4 hok hP hP2 hS => ?_)
  refine lv_pop hx hb dL_law_731 rfl ?_
  refine lv_aload_n hx hb dL_law_732 rfl (lv_at hl 2 rfl) ?_
  refine lv_aload_n hx hb dL_law_733 rfl (lv_at hl 0 rfl) ?_
  refine lv_iload_n hx hb dL_law_734 rfl (lv_at hl 3 rfl) ?_
  refine lv_iconst (v := 1) hx hb dL_law_735 (by decide) ?_
  refine lv_iadd hx hb dL_law_736 ?_
  refine W.eq (g2 := F0 m 737 ls (.int (nI (i + 1)) :: [.ref b, .ref (br 0)])) (congrArg (fun z : Int32 => F0 m 737 ls (.int z :: [.ref b, .ref (br 0)])) (nI_add i 1)) ?_
  refine va_sld hx hb hX hbl hbA hS (vp_in_nI (by omega) (by omega)) dL_law_737 ?_
  refine lv_topi (fun y5 ey5 => ?_)
  refine lv_aload_n hx hb dL_law_738 rfl (lv_at hl 0 rfl) ?_
  refine lv_iload_n hx hb dL_law_739 rfl (lv_at hl 3 rfl) ?_
  refine lv_iconst (v := 2) hx hb dL_law_740 (by decide) ?_
  refine lv_iadd hx hb dL_law_741 ?_
  refine W.eq (g2 := F0 m 742 ls (.int (nI (i + 2)) :: [.ref b, .int y5, .ref (br 0)])) (congrArg (fun z : Int32 => F0 m 742 ls (.int z :: [.ref b, .int y5, .ref (br 0)])) (nI_add i 2)) ?_
  refine va_sld hx hb hX hbl hbA hS (vp_in_nI (by omega) (by omega)) dL_law_742 ?_
  refine lv_topi (fun y6 ey6 => ?_)
  refine lv_aload_n hx hb dL_law_743 rfl (lv_at hl 0 rfl) ?_
  refine lv_iload_n hx hb dL_law_744 rfl (lv_at hl 3 rfl) ?_
  refine lv_iconst (v := 3) hx hb dL_law_745 (by decide) ?_
  refine lv_iadd hx hb dL_law_746 ?_
  refine W.eq (g2 := F0 m 747 ls (.int (nI (i + 3)) :: [.ref b, .int y6, .int y5, .ref (br 0)])) (congrArg (fun z : Int32 => F0 m 747 ls (.int z :: [.ref b, .int y6, .int y5, .ref (br 0)])) (nI_add i 3)) ?_
  refine va_sld hx hb hX hbl hbA hS (vp_in_nI (by omega) (by omega)) dL_law_747 ?_
  refine lv_topi (fun y7 ey7 => ?_)
  obtain ⟨ac, hac, hF2⟩ := hIV.2.1
  obtain ⟨v0, hv0, hF15⟩ := hIV.2.2.2.2.1
  obtain ⟨oo, hoo, hF30⟩ := hIV.2.2.2.2.2
  have hAB := hIV.1
  have hBG := ab_0 hAB
  have hGG := bg_g hBG
  refine ly_i hW hQX hP hP2.2 hS (va_runV (As := [.int y5, .int y6, .int y7]) (rest := []) ⟨hx, hb, hml, hown, noTs⟩ (r_X12_spell l dC dI H.size cr br u (rA u 1) rfl y5 y6 y7 ac hF2 (by first | assumption | omega) (by first | assumption | omega)) ⟨cbE 3 (wd_1925 hE) (wd_126 hE) (wd_1922 hE) rfl rfl (by decide +kernel) ⟨Nat.le_of_ble_eq_true rfl, Nat.le_of_ble_eq_true rfl⟩, (wd_1923 hE), (wd_1924 hE)⟩ ⟨PR.blind, r_recv hW.2.1 hP2.1 rfl, (r_pre (av := [.ref (br 0), .int y5, .int y6, .int y7]) hW.2.1 hP2.1 hW.2.2.2.2.1 hE)⟩ rfl rfl hl.1 rfl (lv_room (Nat.le_of_ble_eq_true rfl)) dL_law_748 ⟨hcc, hss⟩) (fun r8 u8 H locs hpo8 hP2 hP hS => ?_)
  obtain ⟨hr8, h8_0, h8_1, hq8⟩ := hpo8
  have hIV2 : IV u8 tt mm := iv_act hIV hq8 h8_0 h8_1 (by decide) (by decide) (by decide) (by decide)
  have hI52 : IV5 u8 v _ _ := ⟨hIV2, tf_fr hI5.2 hq8 (by decide) (by decide) (by decide) (by decide)⟩
  refine lv_pop hx hb dL_law_751 rfl ?_
  refine lv_goto (tgt := 1631) hx hb dL_law_752 (by decide) ?_
  exact hk _ _ _ _ _ _ _ _ hok hP hP2 hI52 (by omega) (by omega) hS (lv_sub hl [0, 1, 2, 3] rfl)
set_option maxHeartbeats 4000000 in
set_option maxRecDepth 100000 in
theorem law_17 {p : Program} {e : Env} {s : State} {m : MethodId} {below : List Frame} {meth : Method} {c : Code} (l : Launch) {b L : Nat} {xs : Nat → Int32} {cells slots : Nat} (C0 : lw_At p s m meth c b L xs) (hL : L ≤ 3072) (hcc : cells ≤ 600000) (hss : slots ≤ 7302250) (dC : Nat → ClassId) (dI : Nat → Nat → Nat) (G : GT) (cs cr : Nat → ClassId) (br adK adV : Nat → Nat) (hW : LWD s dC dI G cs cr br adK adV) (bq : Nat → Nat) (hQX : QXD s G br bq) (hT : Ty G (bq 11) 11) (tt mm : Nat) (f : Nat → va_E) (u v : RS) (H : Heap) (locs : List Loc) (ls : Array Slot) (hok : OKT G cs tt mm f) (hP : va_P (dC, dI) vwCl (va_pl (gL G) f) H) (hP2 : KP dC dI cr br u cs bq v H) (hI5 : IV5 u v tt mm) (htt : tt ≤ 700) (hmm : mm ≤ 3) (hS : va_S (AL s) s.heap H locs) (i : Nat) (hi : i + 6 ≤ L) (hl : lv_has ls 4 [(0, .ref b), (1, .ref (bq 11)), (2, .ref (br 0)), (3, .int (nI i))]) (hk : ∀ (tt mm : Nat) (f : Nat → va_E) (u v : RS) (H : Heap) (locs : List Loc) (ls : Array Slot), OKT G cs tt mm f → va_P (dC, dI) vwCl (va_pl (gL G) f) H → KP dC dI cr br u cs bq v H → IV5 u v tt mm → tt ≤ 700 → mm ≤ 3 → va_S (AL s) s.heap H locs → lv_has ls 4 [(0, .ref b), (1, .ref (bq 11)), (2, .ref (br 0)), (3, .int (nI i))] → W p l e room_1 s m #[Value.ref b] below meth c H locs cells slots (lw_Z below #[Value.ref b] s) (F0 m 1631 ls [])) : W p l e room_1 s m #[Value.ref b] below meth c H locs cells slots (lw_Z below #[Value.ref b] s) (F0 m 755 ls []) := by
  obtain ⟨hx, hb, hr, hml, hown, hts, hX, hbl, hlocks, hgv⟩ := id C0
  have hE := hW.2.2.2.2.2.1
  have hIV := hI5.1
  have hbA : ¬ AL s b := Nat.not_le.mpr hbl
  refine lv_aload_n hx hb dL_law_755 rfl (lv_at hl 1 rfl) ?_
  refine lv_aload_n hx hb dL_law_756 rfl (lv_at hl 0 rfl) ?_
  refine lv_iload_n hx hb dL_law_757 rfl (lv_at hl 3 rfl) ?_
  refine lv_iconst (v := 1) hx hb dL_law_758 (by decide) ?_
  refine lv_iadd hx hb dL_law_759 ?_
  refine W.eq (g2 := F0 m 760 ls (.int (nI (i + 1)) :: [.ref b, .ref (bq 11)])) (congrArg (fun z : Int32 => F0 m 760 ls (.int z :: [.ref b, .ref (bq 11)])) (nI_add i 1)) ?_
  refine va_sld hx hb hX hbl hbA hS (vp_in_nI (by omega) (by omega)) dL_law_760 ?_
  refine lv_topi (fun y1 ey1 => ?_)
  obtain ⟨y2, hz2a, hz2b, he2⟩ := ok_X11 hok hT
  refine lx_i hW hQX hP2 hS (va_runV (As := [.int y1]) (rest := []) ⟨hx, hb, hml, hown, noTs⟩ (t_X11_drop l dC dI H.size G cs tt mm (bq 11) hT y1) ⟨cbE 1 (wd_1033 hE) (wd_115 hE) (wd_1030 hE) rfl rfl (by decide +kernel) ⟨Nat.le_of_ble_eq_true rfl, Nat.le_of_ble_eq_true rfl⟩, (wd_1031 hE), (wd_1032 hE)⟩ ⟨PT.blind, th_recv hW.1 hP hT.1 he2 rfl, (th_pre (av := [.ref (bq 11), .int y1]) trivial hW.1 hP hok hW.2.2.1 hW.2.2.2.1 hE)⟩ rfl rfl hl.1 rfl (lv_room (Nat.le_of_ble_eq_true rfl)) dL_law_761 ⟨hcc, hss⟩) (fun r2 f H locs hr2 hok hP hP2 hS => ?_)
  refine lv_pop hx hb dL_law_764 rfl ?_
  refine lv_aload_n hx hb dL_law_765 rfl (lv_at hl 2 rfl) ?_
  refine lv_aload_n hx hb dL_law_766 rfl (lv_at hl 0 rfl) ?_
  refine lv_iload_n hx hb dL_law_767 rfl (lv_at hl 3 rfl) ?_
  refine lv_iconst (v := 1) hx hb dL_law_768 (by decide) ?_
  refine lv_iadd hx hb dL_law_769 ?_
  refine W.eq (g2 := F0 m 770 ls (.int (nI (i + 1)) :: [.ref b, .ref (br 0)])) (congrArg (fun z : Int32 => F0 m 770 ls (.int z :: [.ref b, .ref (br 0)])) (nI_add i 1)) ?_
  refine va_sld hx hb hX hbl hbA hS (vp_in_nI (by omega) (by omega)) dL_law_770 ?_
  refine lv_topi (fun y3 ey3 => ?_)
  obtain ⟨ac, hac, hF2⟩ := hIV.2.1
  obtain ⟨v0, hv0, hF15⟩ := hIV.2.2.2.2.1
  obtain ⟨oo, hoo, hF30⟩ := hIV.2.2.2.2.2
  have hAB := hIV.1
  have hBG := ab_0 hAB
  have hGG := bg_g hBG
  refine ly_i hW hQX hP hP2.2 hS (va_runV (As := [.int y3]) (rest := []) ⟨hx, hb, hml, hown, noTs⟩ (r_X12_drop l dC dI H.size cr br u (rA u 1) rfl y3 ac hF2 (by first | assumption | omega) (by first | assumption | omega)) ⟨cbE 1 (wd_1741 hE) (wd_126 hE) (wd_1738 hE) rfl rfl (by decide +kernel) ⟨Nat.le_of_ble_eq_true rfl, Nat.le_of_ble_eq_true rfl⟩, (wd_1739 hE), (wd_1740 hE)⟩ ⟨PR.blind, r_recv hW.2.1 hP2.1 rfl, (r_pre (av := [.ref (br 0), .int y3]) hW.2.1 hP2.1 hW.2.2.2.2.1 hE)⟩ rfl rfl hl.1 rfl (lv_room (Nat.le_of_ble_eq_true rfl)) dL_law_771 ⟨hcc, hss⟩) (fun r4 u4 H locs hpo4 hP2 hP hS => ?_)
  obtain ⟨hr4, h4_0, h4_1, hq4⟩ := hpo4
  have hIV2 : IV u4 tt mm := iv_act hIV hq4 h4_0 h4_1 (by decide) (by decide) (by decide) (by decide)
  have hI52 : IV5 u4 v _ _ := ⟨hIV2, tf_fr hI5.2 hq4 (by decide) (by decide) (by decide) (by decide)⟩
  refine lv_pop hx hb dL_law_774 rfl ?_
  refine lv_goto (tgt := 1631) hx hb dL_law_775 (by decide) ?_
  exact hk _ _ _ _ _ _ _ _ hok hP hP2 hI52 (by omega) (by omega) hS (lv_sub hl [0, 1, 2, 3] rfl)
