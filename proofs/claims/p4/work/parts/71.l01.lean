set_option maxHeartbeats 4000000 in
set_option maxRecDepth 100000 in
theorem law_18 {p : Program} {e : Env} {s : State} {m : MethodId} {below : List Frame} {meth : Method} {c : Code} (l : Launch) {b L : Nat} {xs : Nat → Int32} {cells slots : Nat} (C0 : lw_At p s m meth c b L xs) (hL : L ≤ 3072) (hcc : cells ≤ 600000) (hss : slots ≤ 7302250) (dC : Nat → ClassId) (dI : Nat → Nat → Nat) (G : GT) (cs cr : Nat → ClassId) (br adK adV : Nat → Nat) (hW : LWD s dC dI G cs cr br adK adV) (bq : Nat → Nat) (hQX : QXD s G br bq) (hT : Ty G (bq 11) 11) (tt mm : Nat) (f : Nat → va_E) (u v : RS) (H : Heap) (locs : List Loc) (ls : Array Slot) (hok : OKT G cs tt mm f) (hP : va_P (dC, dI) vwCl (va_pl (gL G) f) H) (hP2 : KP dC dI cr br u cs bq v H) (hI5 : IV5 u v tt mm) (htt : tt ≤ 700) (hmm : mm ≤ 3) (hS : va_S (AL s) s.heap H locs) (i : Nat) (hi : i + 6 ≤ L) (hl : lv_has ls 4 [(0, .ref b), (1, .ref (bq 11)), (2, .ref (br 0)), (3, .int (nI i))]) (hk : ∀ (tt mm : Nat) (f : Nat → va_E) (u v : RS) (H : Heap) (locs : List Loc) (ls : Array Slot), OKT G cs tt mm f → va_P (dC, dI) vwCl (va_pl (gL G) f) H → KP dC dI cr br u cs bq v H → IV5 u v tt mm → tt ≤ 700 → mm ≤ 3 → va_S (AL s) s.heap H locs → lv_has ls 4 [(0, .ref b), (1, .ref (bq 11)), (2, .ref (br 0)), (3, .int (nI i))] → W p l e room_1 s m #[Value.ref b] below meth c H locs cells slots (lw_Z below #[Value.ref b] s) (F0 m 1631 ls [])) : W p l e room_1 s m #[Value.ref b] below meth c H locs cells slots (lw_Z below #[Value.ref b] s) (F0 m 778 ls []) := by
  obtain ⟨hx, hb, hr, hml, hown, hts, hX, hbl, hlocks, hgv⟩ := id C0
  have hE := hW.2.2.2.2.2.1
  have hIV := hI5.1
  have hbA : ¬ AL s b := Nat.not_le.mpr hbl
  refine lv_aload_n hx hb dL_law_778 rfl (lv_at hl 1 rfl) ?_
  obtain ⟨y1, hz1a, hz1b, he1⟩ := ok_X11 hok hT
  refine lx_i hW hQX hP2 hS (va_runV (As := []) (rest := []) ⟨hx, hb, hml, hown, noTs⟩ (t_X11_undo l dC dI H.size G cs tt mm (bq 11) hT) ⟨cbE 0 (wd_1042 hE) (wd_115 hE) (wd_1039 hE) rfl rfl (by decide +kernel) ⟨Nat.le_of_ble_eq_true rfl, Nat.le_of_ble_eq_true rfl⟩, (wd_1040 hE), (wd_1041 hE)⟩ ⟨PT.blind, th_recv hW.1 hP hT.1 he1 rfl, (th_pre (av := [.ref (bq 11)]) trivial hW.1 hP hok hW.2.2.1 hW.2.2.2.1 hE)⟩ rfl rfl hl.1 rfl (lv_room (Nat.le_of_ble_eq_true rfl)) dL_law_779 ⟨hcc, hss⟩) (fun r1 f H locs hr1 hok hP hP2 hS => ?_)
  refine lv_pop hx hb dL_law_782 rfl ?_
  refine lv_aload_n hx hb dL_law_783 rfl (lv_at hl 2 rfl) ?_
  obtain ⟨ac, hac, hF2⟩ := hIV.2.1
  obtain ⟨v0, hv0, hF15⟩ := hIV.2.2.2.2.1
  obtain ⟨oo, hoo, hF30⟩ := hIV.2.2.2.2.2
  have hAB := hIV.1
  have hBG := ab_0 hAB
  have hGG := bg_g hBG
  refine ly_i hW hQX hP hP2.2 hS (va_runV (As := []) (rest := []) ⟨hx, hb, hml, hown, noTs⟩ (r_X12_undo l dC dI H.size cr br u (rA u 1) rfl ac hF2 (by first | assumption | omega) (by first | assumption | omega)) ⟨cbE 0 (wd_1745 hE) (wd_126 hE) (wd_1742 hE) rfl rfl (by decide +kernel) ⟨Nat.le_of_ble_eq_true rfl, Nat.le_of_ble_eq_true rfl⟩, (wd_1743 hE), (wd_1744 hE)⟩ ⟨PR.blind, r_recv hW.2.1 hP2.1 rfl, (r_pre (av := [.ref (br 0)]) hW.2.1 hP2.1 hW.2.2.2.2.1 hE)⟩ rfl rfl hl.1 rfl (lv_room (Nat.le_of_ble_eq_true rfl)) dL_law_784 ⟨hcc, hss⟩) (fun r2 u2 H locs hpo2 hP2 hP hS => ?_)
  obtain ⟨hr2, h2_0, h2_1, hq2⟩ := hpo2
  have hIV2 : IV u2 tt mm := iv_act hIV hq2 h2_0 h2_1 (by decide) (by decide) (by decide) (by decide)
  have hI52 : IV5 u2 v _ _ := ⟨hIV2, tf_fr hI5.2 hq2 (by decide) (by decide) (by decide) (by decide)⟩
  refine lv_pop hx hb dL_law_787 rfl ?_
  refine lv_goto (tgt := 1631) hx hb dL_law_788 (by decide) ?_
  exact hk _ _ _ _ _ _ _ _ hok hP hP2 hI52 (by omega) (by omega) hS (lv_sub hl [0, 1, 2, 3] rfl)
set_option maxHeartbeats 4000000 in
set_option maxRecDepth 100000 in
theorem law_19 {p : Program} {e : Env} {s : State} {m : MethodId} {below : List Frame} {meth : Method} {c : Code} (l : Launch) {b L : Nat} {xs : Nat → Int32} {cells slots : Nat} (C0 : lw_At p s m meth c b L xs) (hL : L ≤ 3072) (hcc : cells ≤ 600000) (hss : slots ≤ 7302250) (dC : Nat → ClassId) (dI : Nat → Nat → Nat) (G : GT) (cs cr : Nat → ClassId) (br adK adV : Nat → Nat) (hW : LWD s dC dI G cs cr br adK adV) (bq : Nat → Nat) (hQX : QXD s G br bq) (hT : Ty G (bq 11) 11) (tt mm : Nat) (f : Nat → va_E) (u v : RS) (H : Heap) (locs : List Loc) (ls : Array Slot) (hok : OKT G cs tt mm f) (hP : va_P (dC, dI) vwCl (va_pl (gL G) f) H) (hP2 : KP dC dI cr br u cs bq v H) (hI5 : IV5 u v tt mm) (htt : tt ≤ 700) (hmm : mm ≤ 3) (hS : va_S (AL s) s.heap H locs) (i : Nat) (hi : i + 6 ≤ L) (hl : lv_has ls 4 [(0, .ref b), (1, .ref (bq 11)), (2, .ref (br 0)), (3, .int (nI i))]) (hk : ∀ (tt mm : Nat) (f : Nat → va_E) (u v : RS) (H : Heap) (locs : List Loc) (ls : Array Slot), OKT G cs tt mm f → va_P (dC, dI) vwCl (va_pl (gL G) f) H → KP dC dI cr br u cs bq v H → IV5 u v tt mm → tt ≤ 700 → mm ≤ 3 → va_S (AL s) s.heap H locs → lv_has ls 4 [(0, .ref b), (1, .ref (bq 11)), (2, .ref (br 0)), (3, .int (nI i))] → W p l e room_1 s m #[Value.ref b] below meth c H locs cells slots (lw_Z below #[Value.ref b] s) (F0 m 1631 ls [])) : W p l e room_1 s m #[Value.ref b] below meth c H locs cells slots (lw_Z below #[Value.ref b] s) (F0 m 791 ls []) := by
  obtain ⟨hx, hb, hr, hml, hown, hts, hX, hbl, hlocks, hgv⟩ := id C0
  have hE := hW.2.2.2.2.2.1
  have hIV := hI5.1
  have hbA : ¬ AL s b := Nat.not_le.mpr hbl
  refine lv_aload_n hx hb dL_law_791 rfl (lv_at hl 1 rfl) ?_
  rcases Nat.lt_or_ge mm 3 with h3 | h3
  · obtain ⟨y1, hz1a, hz1b, he1⟩ := ok_X11 hok hT
    refine lx_i hW hQX hP2 hS (va_runV (As := []) (rest := []) ⟨hx, hb, hml, hown, noTs⟩ (t_X11_mark l dC dI H.size G cs tt mm (bq 11) hT h3) ⟨cbE 0 (wd_1050 hE) (wd_115 hE) (wd_1047 hE) rfl rfl (by decide +kernel) ⟨Nat.le_of_ble_eq_true rfl, Nat.le_of_ble_eq_true rfl⟩, (wd_1048 hE), (wd_1049 hE)⟩ ⟨PT.blind, th_recv hW.1 hP hT.1 he1 rfl, (th_pre (av := [.ref (bq 11)]) trivial hW.1 hP hok hW.2.2.1 hW.2.2.2.1 hE)⟩ rfl rfl hl.1 rfl (lv_room (Nat.le_of_ble_eq_true rfl)) dL_law_792 ⟨hcc, hss⟩) (fun r1 f H locs hr1 hok hP hP2 hS => ?_)
    refine lv_pop hx hb dL_law_795 rfl ?_
    refine lv_aload_n hx hb dL_law_796 rfl (lv_at hl 2 rfl) ?_
    obtain ⟨ac, hac, hF2⟩ := hIV.2.1
    obtain ⟨v0, hv0, hF15⟩ := hIV.2.2.2.2.1
    obtain ⟨oo, hoo, hF30⟩ := hIV.2.2.2.2.2
    have hAB := hIV.1
    have hBG := ab_0 hAB
    have hGG := bg_g hBG
    refine ly_i hW hQX hP hP2.2 hS (va_runV (As := []) (rest := []) ⟨hx, hb, hml, hown, noTs⟩ (r_X12_mark l dC dI H.size cr br u (rA u 1) rfl mm hIV.2.2.1 (by first | assumption | omega) (by first | assumption | omega)) ⟨cbE 0 (wd_1749 hE) (wd_126 hE) (wd_1746 hE) rfl rfl (by decide +kernel) ⟨Nat.le_of_ble_eq_true rfl, Nat.le_of_ble_eq_true rfl⟩, (wd_1747 hE), (wd_1748 hE)⟩ ⟨PR.blind, r_recv hW.2.1 hP2.1 rfl, (r_pre (av := [.ref (br 0)]) hW.2.1 hP2.1 hW.2.2.2.2.1 hE)⟩ rfl rfl hl.1 rfl (lv_room (Nat.le_of_ble_eq_true rfl)) dL_law_797 ⟨hcc, hss⟩) (fun r2 u2 H locs hpo2 hP2 hP hS => ?_)
    obtain ⟨hr2, h2_0, h2_1, hq2⟩ := hpo2
    have hIV2 : IV u2 _ _ := ⟨h2_0, by rw [hq2.2.1 2 (by decide)]; exact hIV.2.1, h2_1, by rw [hq2.2.1 10 (by decide)]; exact hIV.2.2.2.1, by rw [hq2.2.1 15 (by decide)]; exact hIV.2.2.2.2.1, by rw [hq2.2.1 30 (by decide)]; exact hIV.2.2.2.2.2⟩
    have hI52 : IV5 u2 v _ _ := ⟨hIV2, tf_fr hI5.2 hq2 (by decide) (by decide) (by decide) (by decide)⟩
    refine lv_pop hx hb dL_law_800 rfl ?_
    refine lv_goto (tgt := 1631) hx hb dL_law_801 (by decide) ?_
    exact hk _ _ _ _ _ _ _ _ hok hP hP2 hI52 (by omega) (by omega) hS (lv_sub hl [0, 1, 2, 3] rfl)
  · have h3 : mm = 3 := by omega
    obtain ⟨y3, hz3a, hz3b, he3⟩ := ok_X11 hok hT
    refine lx_i hW hQX hP2 hS (va_runV (As := []) (rest := []) ⟨hx, hb, hml, hown, noTs⟩ (t_X11_mark_no l dC dI H.size G cs tt mm (bq 11) hT h3) ⟨cbE 0 (wd_1050 hE) (wd_115 hE) (wd_1047 hE) rfl rfl (by decide +kernel) ⟨Nat.le_of_ble_eq_true rfl, Nat.le_of_ble_eq_true rfl⟩, (wd_1048 hE), (wd_1049 hE)⟩ ⟨PT.blind, th_recv hW.1 hP hT.1 he3 rfl, (th_pre (av := [.ref (bq 11)]) trivial hW.1 hP hok hW.2.2.1 hW.2.2.2.1 hE)⟩ rfl rfl hl.1 rfl (lv_room (Nat.le_of_ble_eq_true rfl)) dL_law_792 ⟨hcc, hss⟩) (fun r3 f H locs hr3 hok hP hP2 hS => ?_)
    refine lv_pop hx hb dL_law_795 rfl ?_
    refine lv_aload_n hx hb dL_law_796 rfl (lv_at hl 2 rfl) ?_
    obtain ⟨ac, hac, hF2⟩ := hIV.2.1
    obtain ⟨v0, hv0, hF15⟩ := hIV.2.2.2.2.1
    obtain ⟨oo, hoo, hF30⟩ := hIV.2.2.2.2.2
    have hAB := hIV.1
    have hBG := ab_0 hAB
    have hGG := bg_g hBG
    refine ly_i hW hQX hP hP2.2 hS (va_runV (As := []) (rest := []) ⟨hx, hb, hml, hown, noTs⟩ (r_X12_mark_no l dC dI H.size cr br u (rA u 1) rfl mm hIV.2.2.1 (by first | assumption | omega) (by first | assumption | omega)) ⟨cbE 0 (wd_1749 hE) (wd_126 hE) (wd_1746 hE) rfl rfl (by decide +kernel) ⟨Nat.le_of_ble_eq_true rfl, Nat.le_of_ble_eq_true rfl⟩, (wd_1747 hE), (wd_1748 hE)⟩ ⟨PR.blind, r_recv hW.2.1 hP2.1 rfl, (r_pre (av := [.ref (br 0)]) hW.2.1 hP2.1 hW.2.2.2.2.1 hE)⟩ rfl rfl hl.1 rfl (lv_room (Nat.le_of_ble_eq_true rfl)) dL_law_797 ⟨hcc, hss⟩) (fun r4 u4 H locs hpo4 hP2 hP hS => ?_)
    obtain ⟨hr4, h4_0, h4_1, hq4⟩ := hpo4
    have hIV2 : IV u4 _ _ := ⟨h4_0, by rw [hq4.2.1 2 (by decide)]; exact hIV.2.1, h4_1, by rw [hq4.2.1 10 (by decide)]; exact hIV.2.2.2.1, by rw [hq4.2.1 15 (by decide)]; exact hIV.2.2.2.2.1, by rw [hq4.2.1 30 (by decide)]; exact hIV.2.2.2.2.2⟩
    have hI52 : IV5 u4 v _ _ := ⟨hIV2, tf_fr hI5.2 hq4 (by decide) (by decide) (by decide) (by decide)⟩
    refine lv_pop hx hb dL_law_800 rfl ?_
    refine lv_goto (tgt := 1631) hx hb dL_law_801 (by decide) ?_
    exact hk _ _ _ _ _ _ _ _ hok hP hP2 hI52 (by omega) (by omega) hS (lv_sub hl [0, 1, 2, 3] rfl)
set_option maxHeartbeats 4000000 in
set_option maxRecDepth 100000 in
theorem law_20 {p : Program} {e : Env} {s : State} {m : MethodId} {below : List Frame} {meth : Method} {c : Code} (l : Launch) {b L : Nat} {xs : Nat → Int32} {cells slots : Nat} (C0 : lw_At p s m meth c b L xs) (hL : L ≤ 3072) (hcc : cells ≤ 600000) (hss : slots ≤ 7302250) (dC : Nat → ClassId) (dI : Nat → Nat → Nat) (G : GT) (cs cr : Nat → ClassId) (br adK adV : Nat → Nat) (hW : LWD s dC dI G cs cr br adK adV) (bq : Nat → Nat) (hQX : QXD s G br bq) (hT : Ty G (bq 11) 11) (tt mm : Nat) (f : Nat → va_E) (u v : RS) (H : Heap) (locs : List Loc) (ls : Array Slot) (hok : OKT G cs tt mm f) (hP : va_P (dC, dI) vwCl (va_pl (gL G) f) H) (hP2 : KP dC dI cr br u cs bq v H) (hI5 : IV5 u v tt mm) (htt : tt ≤ 700) (hmm : mm ≤ 3) (hS : va_S (AL s) s.heap H locs) (i : Nat) (hi : i + 6 ≤ L) (hl : lv_has ls 4 [(0, .ref b), (1, .ref (bq 11)), (2, .ref (br 0)), (3, .int (nI i))]) (hk : ∀ (tt mm : Nat) (f : Nat → va_E) (u v : RS) (H : Heap) (locs : List Loc) (ls : Array Slot), OKT G cs tt mm f → va_P (dC, dI) vwCl (va_pl (gL G) f) H → KP dC dI cr br u cs bq v H → IV5 u v tt mm → tt ≤ 700 → mm ≤ 3 → va_S (AL s) s.heap H locs → lv_has ls 4 [(0, .ref b), (1, .ref (bq 11)), (2, .ref (br 0)), (3, .int (nI i))] → W p l e room_1 s m #[Value.ref b] below meth c H locs cells slots (lw_Z below #[Value.ref b] s) (F0 m 1631 ls [])) : W p l e room_1 s m #[Value.ref b] below meth c H locs cells slots (lw_Z below #[Value.ref b] s) (F0 m 804 ls []) := by
  obtain ⟨hx, hb, hr, hml, hown, hts, hX, hbl, hlocks, hgv⟩ := id C0
  have hE := hW.2.2.2.2.2.1
  have hIV := hI5.1
  have hbA : ¬ AL s b := Nat.not_le.mpr hbl
  refine lv_aload_n hx hb dL_law_804 rfl (lv_at hl 1 rfl) ?_
  rcases Nat.eq_zero_or_pos mm with h3 | h3
  · subst h3
    have h3 : (0 : Nat) = 0 := rfl
    obtain ⟨y1, hz1a, hz1b, he1⟩ := ok_X11 hok hT
    refine lx_i hW hQX hP2 hS (va_runV (As := []) (rest := []) ⟨hx, hb, hml, hown, noTs⟩ (t_X11_back_no l dC dI H.size G cs tt 0 (bq 11) hT) ⟨cbE 0 (wd_1059 hE) (wd_115 hE) (wd_1056 hE) rfl rfl (by decide +kernel) ⟨Nat.le_of_ble_eq_true rfl, Nat.le_of_ble_eq_true rfl⟩, (wd_1057 hE), (wd_1058 hE)⟩ ⟨PT.blind, th_recv hW.1 hP hT.1 he1 rfl, (th_pre (av := [.ref (bq 11)]) trivial hW.1 hP hok hW.2.2.1 hW.2.2.2.1 hE)⟩ rfl rfl hl.1 rfl (lv_room (Nat.le_of_ble_eq_true rfl)) dL_law_805 ⟨hcc, hss⟩) (fun r1 f H locs hr1 hok hP hP2 hS => ?_)
    refine lv_pop hx hb dL_law_808 rfl ?_
    refine lv_aload_n hx hb dL_law_809 rfl (lv_at hl 2 rfl) ?_
    obtain ⟨ac, hac, hF2⟩ := hIV.2.1
    obtain ⟨v0, hv0, hF15⟩ := hIV.2.2.2.2.1
    obtain ⟨oo, hoo, hF30⟩ := hIV.2.2.2.2.2
    have hAB := hIV.1
    have hBG := ab_0 hAB
    have hGG := bg_g hBG
    refine ly_i hW hQX hP hP2.2 hS (va_runV (As := []) (rest := []) ⟨hx, hb, hml, hown, noTs⟩ (r_X12_back_no l dC dI H.size cr br u (rA u 1) rfl 0 hIV.2.2.1 (by first | assumption | omega) (by first | assumption | omega)) ⟨cbE 0 (wd_1753 hE) (wd_126 hE) (wd_1750 hE) rfl rfl (by decide +kernel) ⟨Nat.le_of_ble_eq_true rfl, Nat.le_of_ble_eq_true rfl⟩, (wd_1751 hE), (wd_1752 hE)⟩ ⟨PR.blind, r_recv hW.2.1 hP2.1 rfl, (r_pre (av := [.ref (br 0)]) hW.2.1 hP2.1 hW.2.2.2.2.1 hE)⟩ rfl rfl hl.1 rfl (lv_room (Nat.le_of_ble_eq_true rfl)) dL_law_810 ⟨hcc, hss⟩) (fun r2 u2 H locs hpo2 hP2 hP hS => ?_)
    obtain ⟨hr2, h2_0, h2_1, hq2⟩ := hpo2
    have hIV2 : IV u2 _ _ := ⟨h2_0, by rw [hq2.2.1 2 (by decide)]; exact hIV.2.1, h2_1, by rw [hq2.2.1 10 (by decide)]; exact hIV.2.2.2.1, by rw [hq2.2.1 15 (by decide)]; exact hIV.2.2.2.2.1, by rw [hq2.2.1 30 (by decide)]; exact hIV.2.2.2.2.2⟩
    have hI52 : IV5 u2 v _ _ := ⟨hIV2, tf_fr hI5.2 hq2 (by decide) (by decide) (by decide) (by decide)⟩
    refine lv_pop hx hb dL_law_813 rfl ?_
    refine lv_goto (tgt := 1631) hx hb dL_law_814 (by decide) ?_
    exact hk _ _ _ _ _ _ _ _ hok hP hP2 hI52 (by omega) (by omega) hS (lv_sub hl [0, 1, 2, 3] rfl)
  · have h3b : 0 < mm ∧ mm ≤ 3 := ⟨h3, hmm⟩
    obtain ⟨y3, hz3a, hz3b, he3⟩ := ok_X11 hok hT
    refine lx_i hW hQX hP2 hS (va_runV (As := []) (rest := []) ⟨hx, hb, hml, hown, noTs⟩ (t_X11_back l dC dI H.size G cs tt mm (bq 11) hT h3) ⟨cbE 0 (wd_1059 hE) (wd_115 hE) (wd_1056 hE) rfl rfl (by decide +kernel) ⟨Nat.le_of_ble_eq_true rfl, Nat.le_of_ble_eq_true rfl⟩, (wd_1057 hE), (wd_1058 hE)⟩ ⟨PT.blind, th_recv hW.1 hP hT.1 he3 rfl, (th_pre (av := [.ref (bq 11)]) trivial hW.1 hP hok hW.2.2.1 hW.2.2.2.1 hE)⟩ rfl rfl hl.1 rfl (lv_room (Nat.le_of_ble_eq_true rfl)) dL_law_805 ⟨hcc, hss⟩) (fun r3 f H locs hr3 hok hP hP2 hS => ?_)
    refine lv_pop hx hb dL_law_808 rfl ?_
    refine lv_aload_n hx hb dL_law_809 rfl (lv_at hl 2 rfl) ?_
    obtain ⟨ac, hac, hF2⟩ := hIV.2.1
    obtain ⟨v0, hv0, hF15⟩ := hIV.2.2.2.2.1
    obtain ⟨oo, hoo, hF30⟩ := hIV.2.2.2.2.2
    have hAB := hIV.1
    have hBG := ab_0 hAB
    have hGG := bg_g hBG
    refine ly_i hW hQX hP hP2.2 hS (va_runV (As := []) (rest := []) ⟨hx, hb, hml, hown, noTs⟩ (r_X12_back l dC dI H.size cr br u (rA u 1) rfl mm hIV.2.2.1 (by first | assumption | omega) (by first | assumption | omega)) ⟨cbE 0 (wd_1753 hE) (wd_126 hE) (wd_1750 hE) rfl rfl (by decide +kernel) ⟨Nat.le_of_ble_eq_true rfl, Nat.le_of_ble_eq_true rfl⟩, (wd_1751 hE), (wd_1752 hE)⟩ ⟨PR.blind, r_recv hW.2.1 hP2.1 rfl, (r_pre (av := [.ref (br 0)]) hW.2.1 hP2.1 hW.2.2.2.2.1 hE)⟩ rfl rfl hl.1 rfl (lv_room (Nat.le_of_ble_eq_true rfl)) dL_law_810 ⟨hcc, hss⟩) (fun r4 u4 H locs hpo4 hP2 hP hS => ?_)
    obtain ⟨hr4, h4_0, h4_1, hq4⟩ := hpo4
    have hIV2 : IV u4 _ _ := ⟨h4_0, by rw [hq4.2.1 2 (by decide)]; exact hIV.2.1, h4_1, by rw [hq4.2.1 10 (by decide)]; exact hIV.2.2.2.1, by rw [hq4.2.1 15 (by decide)]; exact hIV.2.2.2.2.1, by rw [hq4.2.1 30 (by decide)]; exact hIV.2.2.2.2.2⟩
    have hI52 : IV5 u4 v _ _ := ⟨hIV2, tf_fr hI5.2 hq4 (by decide) (by decide) (by decide) (by decide)⟩
    refine lv_pop hx hb dL_law_813 rfl ?_
    refine lv_goto (tgt := 1631) hx hb dL_law_814 (by decide) ?_
    exact hk _ _ _ _ _ _ _ _ hok hP hP2 hI52 (by omega) (by omega) hS (lv_sub hl [0, 1, 2, 3] rfl)
set_option maxHeartbeats 4000000 in
set_option maxRecDepth 100000 in
theorem law_21 {p : Program} {e : Env} {s : State} {m : MethodId} {below : List Frame} {meth : Method} {c : Code} (l : Launch) {b L : Nat} {xs : Nat → Int32} {cells slots : Nat} (C0 : lw_At p s m meth c b L xs) (hL : L ≤ 3072) (hcc : cells ≤ 600000) (hss : slots ≤ 7302250) (dC : Nat → ClassId) (dI : Nat → Nat → Nat) (G : GT) (cs cr : Nat → ClassId) (br adK adV : Nat → Nat) (hW : LWD s dC dI G cs cr br adK adV) (bq : Nat → Nat) (hQX : QXD s G br bq) (hT : Ty G (bq 11) 11) (tt mm : Nat) (f : Nat → va_E) (u v : RS) (H : Heap) (locs : List Loc) (ls : Array Slot) (hok : OKT G cs tt mm f) (hP : va_P (dC, dI) vwCl (va_pl (gL G) f) H) (hP2 : KP dC dI cr br u cs bq v H) (hI5 : IV5 u v tt mm) (htt : tt ≤ 700) (hmm : mm ≤ 3) (hS : va_S (AL s) s.heap H locs) (i : Nat) (hi : i + 6 ≤ L) (hl : lv_has ls 4 [(0, .ref b), (1, .ref (bq 11)), (2, .ref (br 0)), (3, .int (nI i))]) (hk : ∀ (tt mm : Nat) (f : Nat → va_E) (u v : RS) (H : Heap) (locs : List Loc) (ls : Array Slot), OKT G cs tt mm f → va_P (dC, dI) vwCl (va_pl (gL G) f) H → KP dC dI cr br u cs bq v H → IV5 u v tt mm → tt ≤ 700 → mm ≤ 3 → va_S (AL s) s.heap H locs → lv_has ls 4 [(0, .ref b), (1, .ref (bq 11)), (2, .ref (br 0)), (3, .int (nI i))] → W p l e room_1 s m #[Value.ref b] below meth c H locs cells slots (lw_Z below #[Value.ref b] s) (F0 m 1631 ls [])) : W p l e room_1 s m #[Value.ref b] below meth c H locs cells slots (lw_Z below #[Value.ref b] s) (F0 m 817 ls []) := by
  obtain ⟨hx, hb, hr, hml, hown, hts, hX, hbl, hlocks, hgv⟩ := id C0
  have hE := hW.2.2.2.2.2.1
  have hIV := hI5.1
  have hbA : ¬ AL s b := Nat.not_le.mpr hbl
  refine lv_aload_n hx hb dL_law_817 rfl (lv_at hl 1 rfl) ?_
  refine lv_aload_n hx hb dL_law_818 rfl (lv_at hl 0 rfl) ?_
  refine lv_iload_n hx hb dL_law_819 rfl (lv_at hl 3 rfl) ?_
  refine lv_iconst (v := 1) hx hb dL_law_820 (by decide) ?_
  refine lv_iadd hx hb dL_law_821 ?_
  refine W.eq (g2 := F0 m 822 ls (.int (nI (i + 1)) :: [.ref b, .ref (bq 11)])) (congrArg (fun z : Int32 => F0 m 822 ls (.int z :: [.ref b, .ref (bq 11)])) (nI_add i 1)) ?_
  refine va_sld hx hb hX hbl hbA hS (vp_in_nI (by omega) (by omega)) dL_law_822 ?_
  refine lv_topi (fun y1 ey1 => ?_)
  refine lv_aload_n hx hb dL_law_823 rfl (lv_at hl 0 rfl) ?_
  refine lv_iload_n hx hb dL_law_824 rfl (lv_at hl 3 rfl) ?_
  refine lv_iconst (v := 2) hx hb dL_law_825 (by decide) ?_
  refine lv_iadd hx hb dL_law_826 ?_
  refine W.eq (g2 := F0 m 827 ls (.int (nI (i + 2)) :: [.ref b, .int y1, .ref (bq 11)])) (congrArg (fun z : Int32 => F0 m 827 ls (.int z :: [.ref b, .int y1, .ref (bq 11)])) (nI_add i 2)) ?_
  refine va_sld hx hb hX hbl hbA hS (vp_in_nI (by omega) (by omega)) dL_law_827 ?_
  refine lv_topi (fun y2 ey2 => ?_)
  obtain ⟨y3, hz3a, hz3b, he3⟩ := ok_X11 hok hT
  refine lx_i hW hQX hP2 hS (va_runV (As := [.int y1, .int y2]) (rest := []) ⟨hx, hb, hml, hown, noTs⟩ (t_X11_alike l dC dI H.size G cs tt mm (bq 11) hT y1 y2) ⟨cbE 2 (wd_1063 hE) (wd_115 hE) (wd_1060 hE) rfl rfl (by decide +kernel) ⟨Nat.le_of_ble_eq_true rfl, Nat.le_of_ble_eq_true rfl⟩, (wd_1061 hE), (wd_1062 hE)⟩ ⟨PT.blind, th_recv hW.1 hP hT.1 he3 rfl, (th_pre (av := [.ref (bq 11), .int y1, .int y2]) trivial hW.1 hP hok hW.2.2.1 hW.2.2.2.1 hE)⟩ rfl rfl hl.1 rfl (lv_room (Nat.le_of_ble_eq_true rfl)) dL_law_828 ⟨hcc, hss⟩) (fun r3 f H locs hr3 hok hP hP2 hS => ?_)
  refine lv_pop hx hb dL_law_831 rfl ?_
  refine lv_aload_n hx hb dL_law_832 rfl (lv_at hl 2 rfl) ?_
  refine lv_aload_n hx hb dL_law_833 rfl (lv_at hl 0 rfl) ?_
  refine lv_iload_n hx hb dL_law_834 rfl (lv_at hl 3 rfl) ?_
  refine lv_iconst (v := 1) hx hb dL_law_835 (by decide) ?_
  refine lv_iadd hx hb dL_law_836 ?_
  refine W.eq (g2 := F0 m 837 ls (.int (nI (i + 1)) :: [.ref b, .ref (br 0)])) (congrArg (fun z : Int32 => F0 m 837 ls (.int z :: [.ref b, .ref (br 0)])) (nI_add i 1)) ?_
  refine va_sld hx hb hX hbl hbA hS (vp_in_nI (by omega) (by omega)) dL_law_837 ?_
  refine lv_topi (fun y4 ey4 => ?_)
  refine lv_aload_n hx hb dL_law_838 rfl (lv_at hl 0 rfl) ?_
  refine lv_iload_n hx hb dL_law_839 rfl (lv_at hl 3 rfl) ?_
  refine lv_iconst (v := 2) hx hb dL_law_840 (by decide) ?_
  refine lv_iadd hx hb dL_law_841 ?_
  refine W.eq (g2 := F0 m 842 ls (.int (nI (i + 2)) :: [.ref b, .int y4, .ref (br 0)])) (congrArg (fun z : Int32 => F0 m 842 ls (.int z :: [.ref b, .int y4, .ref (br 0)])) (nI_add i 2)) ?_
  refine va_sld hx hb hX hbl hbA hS (vp_in_nI (by omega) (by omega)) dL_law_842 ?_
  refine lv_topi (fun y5 ey5 => ?_)
  obtain ⟨ac, hac, hF2⟩ := hIV.2.1
  obtain ⟨v0, hv0, hF15⟩ := hIV.2.2.2.2.1
  obtain ⟨oo, hoo, hF30⟩ := hIV.2.2.2.2.2
  have hAB := hIV.1
  have hBG := ab_0 hAB
  have hGG := bg_g hBG
  refine ly_i hW hQX hP hP2.2 hS (va_runV (As := [.int y4, .int y5]) (rest := []) ⟨hx, hb, hml, hown, noTs⟩ (r_X12_alike l dC dI H.size cr br u (rA u 1) rfl y4 y5 (by first | assumption | omega)) ⟨cbE 2 (wd_1757 hE) (wd_126 hE) (wd_1754 hE) rfl rfl (by decide +kernel) ⟨Nat.le_of_ble_eq_true rfl, Nat.le_of_ble_eq_true rfl⟩, (wd_1755 hE), (wd_1756 hE)⟩ ⟨PR.blind, r_recv hW.2.1 hP2.1 rfl, (r_pre (av := [.ref (br 0), .int y4, .int y5]) hW.2.1 hP2.1 hW.2.2.2.2.1 hE)⟩ rfl rfl hl.1 rfl (lv_room (Nat.le_of_ble_eq_true rfl)) dL_law_843 ⟨hcc, hss⟩) (fun r6 u6 H locs hpo6 hP2 hP hS => ?_)
  obtain ⟨hr6, hq6⟩ := hpo6
  have hIV2 : IV u6 tt mm := iv_fr hIV hq6 (by decide) (by decide) (by decide) (by decide) (by decide) (by decide)
  have hI52 : IV5 u6 v _ _ := ⟨hIV2, tf_fr hI5.2 hq6 (by decide) (by decide) (by decide) (by decide)⟩
  refine lv_pop hx hb dL_law_846 rfl ?_
  refine lv_goto (tgt := 1631) hx hb dL_law_847 (by decide) ?_
  exact hk _ _ _ _ _ _ _ _ hok hP hP2 hI52 (by omega) (by omega) hS (lv_sub hl [0, 1, 2, 3] rfl)
set_option maxHeartbeats 4000000 in
set_option maxRecDepth 100000 in
theorem law_22 {p : Program} {e : Env} {s : State} {m : MethodId} {below : List Frame} {meth : Method} {c : Code} (l : Launch) {b L : Nat} {xs : Nat → Int32} {cells slots : Nat} (C0 : lw_At p s m meth c b L xs) (hL : L ≤ 3072) (hcc : cells ≤ 600000) (hss : slots ≤ 7302250) (dC : Nat → ClassId) (dI : Nat → Nat → Nat) (G : GT) (cs cr : Nat → ClassId) (br adK adV : Nat → Nat) (hW : LWD s dC dI G cs cr br adK adV) (bq : Nat → Nat) (hQX : QXD s G br bq) (hT : Ty G (bq 11) 11) (tt mm : Nat) (f : Nat → va_E) (u v : RS) (H : Heap) (locs : List Loc) (ls : Array Slot) (hok : OKT G cs tt mm f) (hP : va_P (dC, dI) vwCl (va_pl (gL G) f) H) (hP2 : KP dC dI cr br u cs bq v H) (hI5 : IV5 u v tt mm) (htt : tt ≤ 700) (hmm : mm ≤ 3) (hS : va_S (AL s) s.heap H locs) (i : Nat) (hi : i + 6 ≤ L) (hl : lv_has ls 4 [(0, .ref b), (1, .ref (bq 11)), (2, .ref (br 0)), (3, .int (nI i))]) (hk : ∀ (tt mm : Nat) (f : Nat → va_E) (u v : RS) (H : Heap) (locs : List Loc) (ls : Array Slot), OKT G cs tt mm f → va_P (dC, dI) vwCl (va_pl (gL G) f) H → KP dC dI cr br u cs bq v H → IV5 u v tt mm → tt ≤ 700 → mm ≤ 3 → va_S (AL s) s.heap H locs → lv_has ls 4 [(0, .ref b), (1, .ref (bq 11)), (2, .ref (br 0)), (3, .int (nI i))] → W p l e room_1 s m #[Value.ref b] below meth c H locs cells slots (lw_Z below #[Value.ref b] s) (F0 m 1631 ls [])) : W p l e room_1 s m #[Value.ref b] below meth c H locs cells slots (lw_Z below #[Value.ref b] s) (F0 m 850 ls []) := by
  obtain ⟨hx, hb, hr, hml, hown, hts, hX, hbl, hlocks, hgv⟩ := id C0
  have hE := hW.2.2.2.2.2.1
  have hIV := hI5.1
  have hbA : ¬ AL s b := Nat.not_le.mpr hbl
  refine lv_aload_n hx hb dL_law_850 rfl (lv_at hl 1 rfl) ?_
  refine lv_aload_n hx hb dL_law_851 rfl (lv_at hl 0 rfl) ?_
  refine lv_iload_n hx hb dL_law_852 rfl (lv_at hl 3 rfl) ?_
  refine lv_iconst (v := 1) hx hb dL_law_853 (by decide) ?_
  refine lv_iadd hx hb dL_law_854 ?_
  refine W.eq (g2 := F0 m 855 ls (.int (nI (i + 1)) :: [.ref b, .ref (bq 11)])) (congrArg (fun z : Int32 => F0 m 855 ls (.int z :: [.ref b, .ref (bq 11)])) (nI_add i 1)) ?_
  refine va_sld hx hb hX hbl hbA hS (vp_in_nI (by omega) (by omega)) dL_law_855 ?_
  refine lv_topi (fun y1 ey1 => ?_)
  obtain ⟨y2, hz2a, hz2b, he2⟩ := ok_X11 hok hT
  refine lx_i hW hQX hP2 hS (va_runV (As := [.int y1]) (rest := []) ⟨hx, hb, hml, hown, noTs⟩ (t_X11_steps l dC dI H.size G cs tt mm (bq 11) hT y1) ⟨cbE 1 (wd_1071 hE) (wd_115 hE) (wd_1068 hE) rfl rfl (by decide +kernel) ⟨Nat.le_of_ble_eq_true rfl, Nat.le_of_ble_eq_true rfl⟩, (wd_1069 hE), (wd_1070 hE)⟩ ⟨PT.blind, th_recv hW.1 hP hT.1 he2 rfl, (th_pre (av := [.ref (bq 11), .int y1]) trivial hW.1 hP hok hW.2.2.1 hW.2.2.2.1 hE)⟩ rfl rfl hl.1 rfl (lv_room (Nat.le_of_ble_eq_true rfl)) dL_law_856 ⟨hcc, hss⟩) (fun r2 f H locs hr2 hok hP hP2 hS => ?_)
  refine lv_pop hx hb dL_law_859 rfl ?_
  refine lv_aload_n hx hb dL_law_860 rfl (lv_at hl 2 rfl) ?_
  refine lv_aload_n hx hb dL_law_861 rfl (lv_at hl 0 rfl) ?_
  refine lv_iload_n hx hb dL_law_862 rfl (lv_at hl 3 rfl) ?_
  refine lv_iconst (v := 1) hx hb dL_law_863 (by decide) ?_
  refine lv_iadd hx hb dL_law_864 ?_
  refine W.eq (g2 := F0 m 865 ls (.int (nI (i + 1)) :: [.ref b, .ref (br 0)])) (congrArg (fun z : Int32 => F0 m 865 ls (.int z :: [.ref b, .ref (br 0)])) (nI_add i 1)) ?_
  refine va_sld hx hb hX hbl hbA hS (vp_in_nI (by omega) (by omega)) dL_law_865 ?_
  refine lv_topi (fun y3 ey3 => ?_)
  obtain ⟨ac, hac, hF2⟩ := hIV.2.1
  obtain ⟨v0, hv0, hF15⟩ := hIV.2.2.2.2.1
  obtain ⟨oo, hoo, hF30⟩ := hIV.2.2.2.2.2
  have hAB := hIV.1
  have hBG := ab_0 hAB
  have hGG := bg_g hBG
  refine ly_i hW hQX hP hP2.2 hS (va_runV (As := [.int y3]) (rest := []) ⟨hx, hb, hml, hown, noTs⟩ (r_X12_steps l dC dI H.size cr br u (rA u 1) rfl y3 (by first | assumption | omega)) ⟨cbE 1 (wd_1773 hE) (wd_126 hE) (wd_1770 hE) rfl rfl (by decide +kernel) ⟨Nat.le_of_ble_eq_true rfl, Nat.le_of_ble_eq_true rfl⟩, (wd_1771 hE), (wd_1772 hE)⟩ ⟨PR.blind, r_recv hW.2.1 hP2.1 rfl, (r_pre (av := [.ref (br 0), .int y3]) hW.2.1 hP2.1 hW.2.2.2.2.1 hE)⟩ rfl rfl hl.1 rfl (lv_room (Nat.le_of_ble_eq_true rfl)) dL_law_866 ⟨hcc, hss⟩) (fun r4 u4 H locs hpo4 hP2 hP hS => ?_)
  obtain ⟨hr4, hq4⟩ := hpo4
  have hIV2 : IV u4 tt mm := iv_fr hIV hq4 (by decide) (by decide) (by decide) (by decide) (by decide) (by decide)
  have hI52 : IV5 u4 v _ _ := ⟨hIV2, tf_fr hI5.2 hq4 (by decide) (by decide) (by decide) (by decide)⟩
  refine lv_pop hx hb dL_law_869 rfl ?_
  refine lv_goto (tgt := 1631) hx hb dL_law_870 (by decide) ?_
  exact hk _ _ _ _ _ _ _ _ hok hP hP2 hI52 (by omega) (by omega) hS (lv_sub hl [0, 1, 2, 3] rfl)
set_option maxHeartbeats 4000000 in
set_option maxRecDepth 100000 in
theorem law_23 {p : Program} {e : Env} {s : State} {m : MethodId} {below : List Frame} {meth : Method} {c : Code} (l : Launch) {b L : Nat} {xs : Nat → Int32} {cells slots : Nat} (C0 : lw_At p s m meth c b L xs) (hL : L ≤ 3072) (hcc : cells ≤ 600000) (hss : slots ≤ 7302250) (dC : Nat → ClassId) (dI : Nat → Nat → Nat) (G : GT) (cs cr : Nat → ClassId) (br adK adV : Nat → Nat) (hW : LWD s dC dI G cs cr br adK adV) (bq : Nat → Nat) (hQX : QXD s G br bq) (hT : Ty G (bq 11) 11) (tt mm : Nat) (f : Nat → va_E) (u v : RS) (H : Heap) (locs : List Loc) (ls : Array Slot) (hok : OKT G cs tt mm f) (hP : va_P (dC, dI) vwCl (va_pl (gL G) f) H) (hP2 : KP dC dI cr br u cs bq v H) (hI5 : IV5 u v tt mm) (htt : tt ≤ 700) (hmm : mm ≤ 3) (hS : va_S (AL s) s.heap H locs) (i : Nat) (hi : i + 6 ≤ L) (hl : lv_has ls 4 [(0, .ref b), (1, .ref (bq 11)), (2, .ref (br 0)), (3, .int (nI i))]) (hk : ∀ (tt mm : Nat) (f : Nat → va_E) (u v : RS) (H : Heap) (locs : List Loc) (ls : Array Slot), OKT G cs tt mm f → va_P (dC, dI) vwCl (va_pl (gL G) f) H → KP dC dI cr br u cs bq v H → IV5 u v tt mm → tt ≤ 700 → mm ≤ 3 → va_S (AL s) s.heap H locs → lv_has ls 4 [(0, .ref b), (1, .ref (bq 11)), (2, .ref (br 0)), (3, .int (nI i))] → W p l e room_1 s m #[Value.ref b] below meth c H locs cells slots (lw_Z below #[Value.ref b] s) (F0 m 1631 ls [])) : W p l e room_1 s m #[Value.ref b] below meth c H locs cells slots (lw_Z below #[Value.ref b] s) (F0 m 873 ls []) := by
  obtain ⟨hx, hb, hr, hml, hown, hts, hX, hbl, hlocks, hgv⟩ := id C0
  have hE := hW.2.2.2.2.2.1
  have hIV := hI5.1
  have hbA : ¬ AL s b := Nat.not_le.mpr hbl
  refine lv_aload_n hx hb dL_law_873 rfl (lv_at hl 1 rfl) ?_
  refine lv_aload_n hx hb dL_law_874 rfl (lv_at hl 0 rfl) ?_
  refine lv_iload_n hx hb dL_law_875 rfl (lv_at hl 3 rfl) ?_
  refine lv_iconst (v := 1) hx hb dL_law_876 (by decide) ?_
  refine lv_iadd hx hb dL_law_877 ?_
  refine W.eq (g2 := F0 m 878 ls (.int (nI (i + 1)) :: [.ref b, .ref (bq 11)])) (congrArg (fun z : Int32 => F0 m 878 ls (.int z :: [.ref b, .ref (bq 11)])) (nI_add i 1)) ?_
  refine va_sld hx hb hX hbl hbA hS (vp_in_nI (by omega) (by omega)) dL_law_878 ?_
  refine lv_topi (fun y1 ey1 => ?_)
  obtain ⟨y2, hz2a, hz2b, he2⟩ := ok_X11 hok hT
  refine lx_i hW hQX hP2 hS (va_runV (As := [.int y1]) (rest := []) ⟨hx, hb, hml, hown, noTs⟩ (t_X11_length l dC dI H.size G cs tt mm (bq 11) hT y1) ⟨cbE 1 (wd_1075 hE) (wd_115 hE) (wd_1072 hE) rfl rfl (by decide +kernel) ⟨Nat.le_of_ble_eq_true rfl, Nat.le_of_ble_eq_true rfl⟩, (wd_1073 hE), (wd_1074 hE)⟩ ⟨PT.blind, th_recv hW.1 hP hT.1 he2 rfl, (th_pre (av := [.ref (bq 11), .int y1]) trivial hW.1 hP hok hW.2.2.1 hW.2.2.2.1 hE)⟩ rfl rfl hl.1 rfl (lv_room (Nat.le_of_ble_eq_true rfl)) dL_law_879 ⟨hcc, hss⟩) (fun r2 f H locs hr2 hok hP hP2 hS => ?_)
  refine lv_pop hx hb dL_law_882 rfl ?_
  refine lv_aload_n hx hb dL_law_883 rfl (lv_at hl 2 rfl) ?_
  refine lv_aload_n hx hb dL_law_884 rfl (lv_at hl 0 rfl) ?_
  refine lv_iload_n hx hb dL_law_885 rfl (lv_at hl 3 rfl) ?_
  refine lv_iconst (v := 1) hx hb dL_law_886 (by decide) ?_
  refine lv_iadd hx hb dL_law_887 ?_
  refine W.eq (g2 := F0 m 888 ls (.int (nI (i + 1)) :: [.ref b, .ref (br 0)])) (congrArg (fun z : Int32 => F0 m 888 ls (.int z :: [.ref b, .ref (br 0)])) (nI_add i 1)) ?_
  refine va_sld hx hb hX hbl hbA hS (vp_in_nI (by omega) (by omega)) dL_law_888 ?_
  refine lv_topi (fun y3 ey3 => ?_)
  obtain ⟨ac, hac, hF2⟩ := hIV.2.1
  obtain ⟨v0, hv0, hF15⟩ := hIV.2.2.2.2.1
  obtain ⟨oo, hoo, hF30⟩ := hIV.2.2.2.2.2
  have hAB := hIV.1
  have hBG := ab_0 hAB
  have hGG := bg_g hBG
  refine ly_i hW hQX hP hP2.2 hS (va_runV (As := [.int y3]) (rest := []) ⟨hx, hb, hml, hown, noTs⟩ (r_X12_length l dC dI H.size cr br u (rA u 1) rfl y3 (by first | assumption | omega)) ⟨cbE 1 (wd_1777 hE) (wd_126 hE) (wd_1774 hE) rfl rfl (by decide +kernel) ⟨Nat.le_of_ble_eq_true rfl, Nat.le_of_ble_eq_true rfl⟩, (wd_1775 hE), (wd_1776 hE)⟩ ⟨PR.blind, r_recv hW.2.1 hP2.1 rfl, (r_pre (av := [.ref (br 0), .int y3]) hW.2.1 hP2.1 hW.2.2.2.2.1 hE)⟩ rfl rfl hl.1 rfl (lv_room (Nat.le_of_ble_eq_true rfl)) dL_law_889 ⟨hcc, hss⟩) (fun r4 u4 H locs hpo4 hP2 hP hS => ?_)
  obtain ⟨hr4, hq4⟩ := hpo4
  have hIV2 : IV u4 tt mm := iv_fr hIV hq4 (by decide) (by decide) (by decide) (by decide) (by decide) (by decide)
  have hI52 : IV5 u4 v _ _ := ⟨hIV2, tf_fr hI5.2 hq4 (by decide) (by decide) (by decide) (by decide)⟩
  refine lv_pop hx hb dL_law_892 rfl ?_
  refine lv_goto (tgt := 1631) hx hb dL_law_893 (by decide) ?_
  exact hk _ _ _ _ _ _ _ _ hok hP hP2 hI52 (by omega) (by omega) hS (lv_sub hl [0, 1, 2, 3] rfl)
set_option maxHeartbeats 4000000 in
set_option maxRecDepth 100000 in
theorem law_24 {p : Program} {e : Env} {s : State} {m : MethodId} {below : List Frame} {meth : Method} {c : Code} (l : Launch) {b L : Nat} {xs : Nat → Int32} {cells slots : Nat} (C0 : lw_At p s m meth c b L xs) (hL : L ≤ 3072) (hcc : cells ≤ 600000) (hss : slots ≤ 7302250) (dC : Nat → ClassId) (dI : Nat → Nat → Nat) (G : GT) (cs cr : Nat → ClassId) (br adK adV : Nat → Nat) (hW : LWD s dC dI G cs cr br adK adV) (bq : Nat → Nat) (hQX : QXD s G br bq) (hT : Ty G (bq 11) 11) (tt mm : Nat) (f : Nat → va_E) (u v : RS) (H : Heap) (locs : List Loc) (ls : Array Slot) (hok : OKT G cs tt mm f) (hP : va_P (dC, dI) vwCl (va_pl (gL G) f) H) (hP2 : KP dC dI cr br u cs bq v H) (hI5 : IV5 u v tt mm) (htt : tt ≤ 700) (hmm : mm ≤ 3) (hS : va_S (AL s) s.heap H locs) (i : Nat) (hi : i + 6 ≤ L) (hl : lv_has ls 4 [(0, .ref b), (1, .ref (bq 11)), (2, .ref (br 0)), (3, .int (nI i))]) (hk : ∀ (tt mm : Nat) (f : Nat → va_E) (u v : RS) (H : Heap) (locs : List Loc) (ls : Array Slot), OKT G cs tt mm f → va_P (dC, dI) vwCl (va_pl (gL G) f) H → KP dC dI cr br u cs bq v H → IV5 u v tt mm → tt ≤ 700 → mm ≤ 3 → va_S (AL s) s.heap H locs → lv_has ls 4 [(0, .ref b), (1, .ref (bq 11)), (2, .ref (br 0)), (3, .int (nI i))] → W p l e room_1 s m #[Value.ref b] below meth c H locs cells slots (lw_Z below #[Value.ref b] s) (F0 m 1631 ls [])) : W p l e room_1 s m #[Value.ref b] below meth c H locs cells slots (lw_Z below #[Value.ref b] s) (F0 m 896 ls []) := by
  obtain ⟨hx, hb, hr, hml, hown, hts, hX, hbl, hlocks, hgv⟩ := id C0
  have hE := hW.2.2.2.2.2.1
  have hIV := hI5.1
  have hbA : ¬ AL s b := Nat.not_le.mpr hbl
  refine lv_aload_n hx hb dL_law_896 rfl (lv_at hl 1 rfl) ?_
  refine lv_aload_n hx hb dL_law_897 rfl (lv_at hl 0 rfl) ?_
  refine lv_iload_n hx hb dL_law_898 rfl (lv_at hl 3 rfl) ?_
  refine lv_iconst (v := 1) hx hb dL_law_899 (by decide) ?_
  refine lv_iadd hx hb dL_law_900 ?_
  refine W.eq (g2 := F0 m 901 ls (.int (nI (i + 1)) :: [.ref b, .ref (bq 11)])) (congrArg (fun z : Int32 => F0 m 901 ls (.int z :: [.ref b, .ref (bq 11)])) (nI_add i 1)) ?_
  refine va_sld hx hb hX hbl hbA hS (vp_in_nI (by omega) (by omega)) dL_law_901 ?_
  refine lv_topi (fun y1 ey1 => ?_)
  obtain ⟨y2, hz2a, hz2b, he2⟩ := ok_X11 hok hT
  refine lx_i hW hQX hP2 hS (va_runV (As := [.int y1]) (rest := []) ⟨hx, hb, hml, hown, noTs⟩ (t_X11_orderOf l dC dI H.size G cs tt mm (bq 11) hT y1) ⟨cbE 1 (wd_1083 hE) (wd_115 hE) (wd_1080 hE) rfl rfl (by decide +kernel) ⟨Nat.le_of_ble_eq_true rfl, Nat.le_of_ble_eq_true rfl⟩, (wd_1081 hE), (wd_1082 hE)⟩ ⟨PT.blind, th_recv hW.1 hP hT.1 he2 rfl, (th_pre (av := [.ref (bq 11), .int y1]) trivial hW.1 hP hok hW.2.2.1 hW.2.2.2.1 hE)⟩ rfl rfl hl.1 rfl (lv_room (Nat.le_of_ble_eq_true rfl)) dL_law_902 ⟨hcc, hss⟩) (fun r2 f H locs hr2 hok hP hP2 hS => ?_)
  refine lv_pop hx hb dL_law_905 rfl ?_
  refine lv_aload_n hx hb dL_law_906 rfl (lv_at hl 2 rfl) ?_
  refine lv_aload_n hx hb dL_law_907 rfl (lv_at hl 0 rfl) ?_
  refine lv_iload_n hx hb dL_law_908 rfl (lv_at hl 3 rfl) ?_
  refine lv_iconst (v := 1) hx hb dL_law_909 (by decide) ?_
  refine lv_iadd hx hb dL_law_910 ?_
  refine W.eq (g2 := F0 m 911 ls (.int (nI (i + 1)) :: [.ref b, .ref (br 0)])) (congrArg (fun z : Int32 => F0 m 911 ls (.int z :: [.ref b, .ref (br 0)])) (nI_add i 1)) ?_
  refine va_sld hx hb hX hbl hbA hS (vp_in_nI (by omega) (by omega)) dL_law_911 ?_
  refine lv_topi (fun y3 ey3 => ?_)
  obtain ⟨ac, hac, hF2⟩ := hIV.2.1
  obtain ⟨v0, hv0, hF15⟩ := hIV.2.2.2.2.1
  obtain ⟨oo, hoo, hF30⟩ := hIV.2.2.2.2.2
  have hAB := hIV.1
  have hBG := ab_0 hAB
  have hGG := bg_g hBG
  refine ly_i hW hQX hP hP2.2 hS (va_runV (As := [.int y3]) (rest := []) ⟨hx, hb, hml, hown, noTs⟩ (r_X12_orderOf l dC dI H.size cr br u (rA u 1) rfl y3 (by first | assumption | omega)) ⟨cbE 1 (wd_1785 hE) (wd_126 hE) (wd_1782 hE) rfl rfl (by decide +kernel) ⟨Nat.le_of_ble_eq_true rfl, Nat.le_of_ble_eq_true rfl⟩, (wd_1783 hE), (wd_1784 hE)⟩ ⟨PR.blind, r_recv hW.2.1 hP2.1 rfl, (r_pre (av := [.ref (br 0), .int y3]) hW.2.1 hP2.1 hW.2.2.2.2.1 hE)⟩ rfl rfl hl.1 rfl (lv_room (Nat.le_of_ble_eq_true rfl)) dL_law_912 ⟨hcc, hss⟩) (fun r4 u4 H locs hpo4 hP2 hP hS => ?_)
  obtain ⟨hr4, hq4⟩ := hpo4
  have hIV2 : IV u4 tt mm := iv_fr hIV hq4 (by decide) (by decide) (by decide) (by decide) (by decide) (by decide)
  have hI52 : IV5 u4 v _ _ := ⟨hIV2, tf_fr hI5.2 hq4 (by decide) (by decide) (by decide) (by decide)⟩
  refine lv_pop hx hb dL_law_915 rfl ?_
  refine lv_goto (tgt := 1631) hx hb dL_law_916 (by decide) ?_
  exact hk _ _ _ _ _ _ _ _ hok hP hP2 hI52 (by omega) (by omega) hS (lv_sub hl [0, 1, 2, 3] rfl)
set_option maxHeartbeats 4000000 in
set_option maxRecDepth 100000 in
theorem law_25 {p : Program} {e : Env} {s : State} {m : MethodId} {below : List Frame} {meth : Method} {c : Code} (l : Launch) {b L : Nat} {xs : Nat → Int32} {cells slots : Nat} (C0 : lw_At p s m meth c b L xs) (hL : L ≤ 3072) (hcc : cells ≤ 600000) (hss : slots ≤ 7302250) (dC : Nat → ClassId) (dI : Nat → Nat → Nat) (G : GT) (cs cr : Nat → ClassId) (br adK adV : Nat → Nat) (hW : LWD s dC dI G cs cr br adK adV) (bq : Nat → Nat) (hQX : QXD s G br bq) (hT : Ty G (bq 11) 11) (tt mm : Nat) (f : Nat → va_E) (u v : RS) (H : Heap) (locs : List Loc) (ls : Array Slot) (hok : OKT G cs tt mm f) (hP : va_P (dC, dI) vwCl (va_pl (gL G) f) H) (hP2 : KP dC dI cr br u cs bq v H) (hI5 : IV5 u v tt mm) (htt : tt ≤ 700) (hmm : mm ≤ 3) (hS : va_S (AL s) s.heap H locs) (i : Nat) (hi : i + 6 ≤ L) (hl : lv_has ls 4 [(0, .ref b), (1, .ref (bq 11)), (2, .ref (br 0)), (3, .int (nI i))]) (hk : ∀ (tt mm : Nat) (f : Nat → va_E) (u v : RS) (H : Heap) (locs : List Loc) (ls : Array Slot), OKT G cs tt mm f → va_P (dC, dI) vwCl (va_pl (gL G) f) H → KP dC dI cr br u cs bq v H → IV5 u v tt mm → tt ≤ 700 → mm ≤ 3 → va_S (AL s) s.heap H locs → lv_has ls 4 [(0, .ref b), (1, .ref (bq 11)), (2, .ref (br 0)), (3, .int (nI i))] → W p l e room_1 s m #[Value.ref b] below meth c H locs cells slots (lw_Z below #[Value.ref b] s) (F0 m 1631 ls [])) : W p l e room_1 s m #[Value.ref b] below meth c H locs cells slots (lw_Z below #[Value.ref b] s) (F0 m 919 ls []) := by
  obtain ⟨hx, hb, hr, hml, hown, hts, hX, hbl, hlocks, hgv⟩ := id C0
  have hE := hW.2.2.2.2.2.1
  have hIV := hI5.1
  have hbA : ¬ AL s b := Nat.not_le.mpr hbl
  refine lv_aload_n hx hb dL_law_919 rfl (lv_at hl 1 rfl) ?_
  refine lv_aload_n hx hb dL_law_920 rfl (lv_at hl 0 rfl) ?_
  refine lv_iload_n hx hb dL_law_921 rfl (lv_at hl 3 rfl) ?_
  refine lv_iconst (v := 1) hx hb dL_law_922 (by decide) ?_
  refine lv_iadd hx hb dL_law_923 ?_
  refine W.eq (g2 := F0 m 924 ls (.int (nI (i + 1)) :: [.ref b, .ref (bq 11)])) (congrArg (fun z : Int32 => F0 m 924 ls (.int z :: [.ref b, .ref (bq 11)])) (nI_add i 1)) ?_
  refine va_sld hx hb hX hbl hbA hS (vp_in_nI (by omega) (by omega)) dL_law_924 ?_
  refine lv_topi (fun y1 ey1 => ?_)
  refine lv_aload_n hx hb dL_law_925 rfl (lv_at hl 0 rfl) ?_
  refine lv_iload_n hx hb dL_law_926 rfl (lv_at hl 3 rfl) ?_
  refine lv_iconst (v := 2) hx hb dL_law_927 (by decide) ?_
  refine lv_iadd hx hb dL_law_928 ?_
  refine W.eq (g2 := F0 m 929 ls (.int (nI (i + 2)) :: [.ref b, .int y1, .ref (bq 11)])) (congrArg (fun z : Int32 => F0 m 929 ls (.int z :: [.ref b, .int y1, .ref (bq 11)])) (nI_add i 2)) ?_
  refine va_sld hx hb hX hbl hbA hS (vp_in_nI (by omega) (by omega)) dL_law_929 ?_
  refine lv_topi (fun y2 ey2 => ?_)
  obtain ⟨y3, hz3a, hz3b, he3⟩ := ok_X11 hok hT
  refine lx_i hW hQX hP2 hS (va_runV (As := [.int y1, .int y2]) (rest := []) ⟨hx, hb, hml, hown, noTs⟩ (t_X11_kin l dC dI H.size G cs tt mm (bq 11) hT y1 y2) ⟨cbE 2 (wd_1097 hE) (wd_115 hE) (wd_1094 hE) rfl rfl (by decide +kernel) ⟨Nat.le_of_ble_eq_true rfl, Nat.le_of_ble_eq_true rfl⟩, (wd_1095 hE), (wd_1096 hE)⟩ ⟨PT.blind, th_recv hW.1 hP hT.1 he3 rfl, (th_pre (av := [.ref (bq 11), .int y1, .int y2]) trivial hW.1 hP hok hW.2.2.1 hW.2.2.2.1 hE)⟩ rfl rfl hl.1 rfl (lv_room (Nat.le_of_ble_eq_true rfl)) dL_law_930 ⟨hcc, hss⟩) (fun r3 f H locs hr3 hok hP hP2 hS => ?_)
  refine lv_pop hx hb dL_law_933 rfl ?_
  refine lv_aload_n hx hb dL_law_934 rfl (lv_at hl 2 rfl) ?_
  refine lv_aload_n hx hb dL_law_935 rfl (lv_at hl 0 rfl) ?_
  refine lv_iload_n hx hb dL_law_936 rfl (lv_at hl 3 rfl) ?_
  refine lv_iconst (v := 1) hx hb dL_law_937 (by decide) ?_
  refine lv_iadd hx hb dL_law_938 ?_
  refine W.eq (g2 := F0 m 939 ls (.int (nI (i + 1)) :: [.ref b, .ref (br 0)])) (congrArg (fun z : Int32 => F0 m 939 ls (.int z :: [.ref b, .ref (br 0)])) (nI_add i 1)) ?_
  refine va_sld hx hb hX hbl hbA hS (vp_in_nI (by omega) (by omega)) dL_law_939 ?_
  refine lv_topi (fun y4 ey4 => ?_)
  refine lv_aload_n hx hb dL_law_940 rfl (lv_at hl 0 rfl) ?_
  refine lv_iload_n hx hb dL_law_941 rfl (lv_at hl 3 rfl) ?_
  refine lv_iconst (v := 2) hx hb dL_law_942 (by decide) ?_
  refine lv_iadd hx hb dL_law_943 ?_
  refine W.eq (g2 := F0 m 944 ls (.int (nI (i + 2)) :: [.ref b, .int y4, .ref (br 0)])) (congrArg (fun z : Int32 => F0 m 944 ls (.int z :: [.ref b, .int y4, .ref (br 0)])) (nI_add i 2)) ?_
  refine va_sld hx hb hX hbl hbA hS (vp_in_nI (by omega) (by omega)) dL_law_944 ?_
  refine lv_topi (fun y5 ey5 => ?_)
  obtain ⟨ac, hac, hF2⟩ := hIV.2.1
  obtain ⟨v0, hv0, hF15⟩ := hIV.2.2.2.2.1
  obtain ⟨oo, hoo, hF30⟩ := hIV.2.2.2.2.2
  have hAB := hIV.1
  have hBG := ab_0 hAB
  have hGG := bg_g hBG
  refine ly_i hW hQX hP hP2.2 hS (va_runV (As := [.int y4, .int y5]) (rest := []) ⟨hx, hb, hml, hown, noTs⟩ (r_X12_kin l dC dI H.size cr br u (rA u 1) rfl y4 y5 (by first | assumption | omega)) ⟨cbE 2 (wd_1796 hE) (wd_126 hE) (wd_1793 hE) rfl rfl (by decide +kernel) ⟨Nat.le_of_ble_eq_true rfl, Nat.le_of_ble_eq_true rfl⟩, (wd_1794 hE), (wd_1795 hE)⟩ ⟨PR.blind, r_recv hW.2.1 hP2.1 rfl, (r_pre (av := [.ref (br 0), .int y4, .int y5]) hW.2.1 hP2.1 hW.2.2.2.2.1 hE)⟩ rfl rfl hl.1 rfl (lv_room (Nat.le_of_ble_eq_true rfl)) dL_law_945 ⟨hcc, hss⟩) (fun r6 u6 H locs hpo6 hP2 hP hS => ?_)
  obtain ⟨hr6, hq6⟩ := hpo6
  have hIV2 : IV u6 tt mm := iv_fr hIV hq6 (by decide) (by decide) (by decide) (by decide) (by decide) (by decide)
  have hI52 : IV5 u6 v _ _ := ⟨hIV2, tf_fr hI5.2 hq6 (by decide) (by decide) (by decide) (by decide)⟩
  refine lv_pop hx hb dL_law_948 rfl ?_
  refine lv_goto (tgt := 1631) hx hb dL_law_949 (by decide) ?_
  exact hk _ _ _ _ _ _ _ _ hok hP hP2 hI52 (by omega) (by omega) hS (lv_sub hl [0, 1, 2, 3] rfl)
set_option maxHeartbeats 4000000 in
set_option maxRecDepth 100000 in
theorem law_26 {p : Program} {e : Env} {s : State} {m : MethodId} {below : List Frame} {meth : Method} {c : Code} (l : Launch) {b L : Nat} {xs : Nat → Int32} {cells slots : Nat} (C0 : lw_At p s m meth c b L xs) (hL : L ≤ 3072) (hcc : cells ≤ 600000) (hss : slots ≤ 7302250) (dC : Nat → ClassId) (dI : Nat → Nat → Nat) (G : GT) (cs cr : Nat → ClassId) (br adK adV : Nat → Nat) (hW : LWD s dC dI G cs cr br adK adV) (bq : Nat → Nat) (hQX : QXD s G br bq) (hT : Ty G (bq 11) 11) (tt mm : Nat) (f : Nat → va_E) (u v : RS) (H : Heap) (locs : List Loc) (ls : Array Slot) (hok : OKT G cs tt mm f) (hP : va_P (dC, dI) vwCl (va_pl (gL G) f) H) (hP2 : KP dC dI cr br u cs bq v H) (hI5 : IV5 u v tt mm) (htt : tt ≤ 700) (hmm : mm ≤ 3) (hS : va_S (AL s) s.heap H locs) (i : Nat) (hi : i + 6 ≤ L) (hl : lv_has ls 4 [(0, .ref b), (1, .ref (bq 11)), (2, .ref (br 0)), (3, .int (nI i))]) (hk : ∀ (tt mm : Nat) (f : Nat → va_E) (u v : RS) (H : Heap) (locs : List Loc) (ls : Array Slot), OKT G cs tt mm f → va_P (dC, dI) vwCl (va_pl (gL G) f) H → KP dC dI cr br u cs bq v H → IV5 u v tt mm → tt ≤ 700 → mm ≤ 3 → va_S (AL s) s.heap H locs → lv_has ls 4 [(0, .ref b), (1, .ref (bq 11)), (2, .ref (br 0)), (3, .int (nI i))] → W p l e room_1 s m #[Value.ref b] below meth c H locs cells slots (lw_Z below #[Value.ref b] s) (F0 m 1631 ls [])) : W p l e room_1 s m #[Value.ref b] below meth c H locs cells slots (lw_Z below #[Value.ref b] s) (F0 m 952 ls []) := by
  obtain ⟨hx, hb, hr, hml, hown, hts, hX, hbl, hlocks, hgv⟩ := id C0
  have hE := hW.2.2.2.2.2.1
  have hIV := hI5.1
  have hbA : ¬ AL s b := Nat.not_le.mpr hbl
  refine lv_aload_n hx hb dL_law_952 rfl (lv_at hl 1 rfl) ?_
  refine lv_aload_n hx hb dL_law_953 rfl (lv_at hl 0 rfl) ?_
  refine lv_iload_n hx hb dL_law_954 rfl (lv_at hl 3 rfl) ?_
  refine lv_iconst (v := 1) hx hb dL_law_955 (by decide) ?_
  refine lv_iadd hx hb dL_law_956 ?_
  refine W.eq (g2 := F0 m 957 ls (.int (nI (i + 1)) :: [.ref b, .ref (bq 11)])) (congrArg (fun z : Int32 => F0 m 957 ls (.int z :: [.ref b, .ref (bq 11)])) (nI_add i 1)) ?_
  refine va_sld hx hb hX hbl hbA hS (vp_in_nI (by omega) (by omega)) dL_law_957 ?_
  refine lv_topi (fun y1 ey1 => ?_)
  refine lv_aload_n hx hb dL_law_958 rfl (lv_at hl 0 rfl) ?_
  refine lv_iload_n hx hb dL_law_959 rfl (lv_at hl 3 rfl) ?_
  refine lv_iconst (v := 2) hx hb dL_law_960 (by decide) ?_
  refine lv_iadd hx hb dL_law_961 ?_
  refine W.eq (g2 := F0 m 962 ls (.int (nI (i + 2)) :: [.ref b, .int y1, .ref (bq 11)])) (congrArg (fun z : Int32 => F0 m 962 ls (.int z :: [.ref b, .int y1, .ref (bq 11)])) (nI_add i 2)) ?_
  refine va_sld hx hb hX hbl hbA hS (vp_in_nI (by omega) (by omega)) dL_law_962 ?_
  refine lv_topi (fun y2 ey2 => ?_)
  refine lv_aload_n hx hb dL_law_963 rfl (lv_at hl 0 rfl) ?_
  refine lv_iload_n hx hb dL_law_964 rfl (lv_at hl 3 rfl) ?_
  refine lv_iconst (v := 3) hx hb dL_law_965 (by decide) ?_
  refine lv_iadd hx hb dL_law_966 ?_
  refine W.eq (g2 := F0 m 967 ls (.int (nI (i + 3)) :: [.ref b, .int y2, .int y1, .ref (bq 11)])) (congrArg (fun z : Int32 => F0 m 967 ls (.int z :: [.ref b, .int y2, .int y1, .ref (bq 11)])) (nI_add i 3)) ?_
  refine va_sld hx hb hX hbl hbA hS (vp_in_nI (by omega) (by omega)) dL_law_967 ?_
  refine lv_topi (fun y3 ey3 => ?_)
  obtain ⟨y4, hz4a, hz4b, he4⟩ := ok_X11 hok hT
  refine lx_i hW hQX hP2 hS (va_runV (As := [.int y1, .int y2, .int y3]) (rest := []) ⟨hx, hb, hml, hown, noTs⟩ (t_X11_kinBy l dC dI H.size G cs tt mm (bq 11) hT y1 y2 y3) ⟨cbE 3 (wd_1173 hE) (wd_115 hE) (wd_1170 hE) rfl rfl (by decide +kernel) ⟨Nat.le_of_ble_eq_true rfl, Nat.le_of_ble_eq_true rfl⟩, (wd_1171 hE), (wd_1172 hE)⟩ ⟨PT.blind, th_recv hW.1 hP hT.1 he4 rfl, (th_pre (av := [.ref (bq 11), .int y1, .int y2, .int y3]) trivial hW.1 hP hok hW.2.2.1 hW.2.2.2.1 hE)⟩ rfl rfl hl.1 rfl (lv_room (Nat.le_of_ble_eq_true rfl)) dL_law_968 ⟨hcc, hss⟩) (fun r4 f H locs hr4 hok hP hP2 hS => ?_)
  refine lv_pop hx hb dL_law_971 rfl ?_
  refine lv_aload_n hx hb dL_law_972 rfl (lv_at hl 2 rfl) ?_
  refine lv_aload_n hx hb dL_law_973 rfl (lv_at hl 0 rfl) ?_
  refine lv_iload_n hx hb dL_law_974 rfl (lv_at hl 3 rfl) ?_
  refine lv_iconst (v := 1) hx hb dL_law_975 (by decide) ?_
  refine lv_iadd hx hb dL_law_976 ?_
  refine W.eq (g2 := F0 m 977 ls (.int (nI (i + 1)) :: [.ref b, .ref (br 0)])) (congrArg (fun z : Int32 => F0 m 977 ls (.int z :: [.ref b, .ref (br 0)])) (nI_add i 1)) ?_
  refine va_sld hx hb hX hbl hbA hS (vp_in_nI (by omega) (by omega)) dL_law_977 ?_
  refine lv_topi (fun y5 ey5 => ?_)
  refine lv_aload_n hx hb dL_law_978 rfl (lv_at hl 0 rfl) ?_
  refine lv_iload_n hx hb dL_law_979 rfl (lv_at hl 3 rfl) ?_
  refine lv_iconst (v := 2) hx hb dL_law_980 (by decide) ?_
  refine lv_iadd hx hb dL_law_981 ?_
  refine W.eq (g2 := F0 m 982 ls (.int (nI (i + 2)) :: [.ref b, .int y5, .ref (br 0)])) (congrArg (fun z : Int32 => F0 m 982 ls (.int z :: [.ref b, .int y5, .ref (br 0)])) (nI_add i 2)) ?_
  refine va_sld hx hb hX hbl hbA hS (vp_in_nI (by omega) (by omega)) dL_law_982 ?_
  refine lv_topi (fun y6 ey6 => ?_)
  refine lv_aload_n hx hb dL_law_983 rfl (lv_at hl 0 rfl) ?_
  refine lv_iload_n hx hb dL_law_984 rfl (lv_at hl 3 rfl) ?_
  refine lv_iconst (v := 3) hx hb dL_law_985 (by decide) ?_
  refine lv_iadd hx hb dL_law_986 ?_
  refine W.eq (g2 := F0 m 987 ls (.int (nI (i + 3)) :: [.ref b, .int y6, .int y5, .ref (br 0)])) (congrArg (fun z : Int32 => F0 m 987 ls (.int z :: [.ref b, .int y6, .int y5, .ref (br 0)])) (nI_add i 3)) ?_
  refine va_sld hx hb hX hbl hbA hS (vp_in_nI (by omega) (by omega)) dL_law_987 ?_
  refine lv_topi (fun y7 ey7 => ?_)
  obtain ⟨ac, hac, hF2⟩ := hIV.2.1
  obtain ⟨v0, hv0, hF15⟩ := hIV.2.2.2.2.1
  obtain ⟨oo, hoo, hF30⟩ := hIV.2.2.2.2.2
  have hAB := hIV.1
  have hBG := ab_0 hAB
  have hGG := bg_g hBG
  refine ly_i hW hQX hP hP2.2 hS (va_runV (As := [.int y5, .int y6, .int y7]) (rest := []) ⟨hx, hb, hml, hown, noTs⟩ (r_X12_kinBy l dC dI H.size cr br u (rA u 1) rfl y5 y6 y7 (by first | assumption | omega)) ⟨cbE 3 (wd_1816 hE) (wd_126 hE) (wd_1813 hE) rfl rfl (by decide +kernel) ⟨Nat.le_of_ble_eq_true rfl, Nat.le_of_ble_eq_true rfl⟩, (wd_1814 hE), (wd_1815 hE)⟩ ⟨PR.blind, r_recv hW.2.1 hP2.1 rfl, (r_pre (av := [.ref (br 0), .int y5, .int y6, .int y7]) hW.2.1 hP2.1 hW.2.2.2.2.1 hE)⟩ rfl rfl hl.1 rfl (lv_room (Nat.le_of_ble_eq_true rfl)) dL_law_988 ⟨hcc, hss⟩) (fun r8 u8 H locs hpo8 hP2 hP hS => ?_)
  obtain ⟨hr8, hq8⟩ := hpo8
  have hIV2 : IV u8 tt mm := iv_fr hIV hq8 (by decide) (by decide) (by decide) (by decide) (by decide) (by decide)
  have hI52 : IV5 u8 v _ _ := ⟨hIV2, tf_fr hI5.2 hq8 (by decide) (by decide) (by decide) (by decide)⟩
  refine lv_pop hx hb dL_law_991 rfl ?_
  refine lv_goto (tgt := 1631) hx hb dL_law_992 (by decide) ?_
  exact hk _ _ _ _ _ _ _ _ hok hP hP2 hI52 (by omega) (by omega) hS (lv_sub hl [0, 1, 2, 3] rfl)
set_option maxHeartbeats 4000000 in
set_option maxRecDepth 100000 in
theorem law_27 {p : Program} {e : Env} {s : State} {m : MethodId} {below : List Frame} {meth : Method} {c : Code} (l : Launch) {b L : Nat} {xs : Nat → Int32} {cells slots : Nat} (C0 : lw_At p s m meth c b L xs) (hL : L ≤ 3072) (hcc : cells ≤ 600000) (hss : slots ≤ 7302250) (dC : Nat → ClassId) (dI : Nat → Nat → Nat) (G : GT) (cs cr : Nat → ClassId) (br adK adV : Nat → Nat) (hW : LWD s dC dI G cs cr br adK adV) (bq : Nat → Nat) (hQX : QXD s G br bq) (hT : Ty G (bq 11) 11) (tt mm : Nat) (f : Nat → va_E) (u v : RS) (H : Heap) (locs : List Loc) (ls : Array Slot) (hok : OKT G cs tt mm f) (hP : va_P (dC, dI) vwCl (va_pl (gL G) f) H) (hP2 : KP dC dI cr br u cs bq v H) (hI5 : IV5 u v tt mm) (htt : tt ≤ 700) (hmm : mm ≤ 3) (hS : va_S (AL s) s.heap H locs) (i : Nat) (hi : i + 6 ≤ L) (hl : lv_has ls 4 [(0, .ref b), (1, .ref (bq 11)), (2, .ref (br 0)), (3, .int (nI i))]) (hk : ∀ (tt mm : Nat) (f : Nat → va_E) (u v : RS) (H : Heap) (locs : List Loc) (ls : Array Slot), OKT G cs tt mm f → va_P (dC, dI) vwCl (va_pl (gL G) f) H → KP dC dI cr br u cs bq v H → IV5 u v tt mm → tt ≤ 700 → mm ≤ 3 → va_S (AL s) s.heap H locs → lv_has ls 4 [(0, .ref b), (1, .ref (bq 11)), (2, .ref (br 0)), (3, .int (nI i))] → W p l e room_1 s m #[Value.ref b] below meth c H locs cells slots (lw_Z below #[Value.ref b] s) (F0 m 1631 ls [])) : W p l e room_1 s m #[Value.ref b] below meth c H locs cells slots (lw_Z below #[Value.ref b] s) (F0 m 995 ls []) := by
  obtain ⟨hx, hb, hr, hml, hown, hts, hX, hbl, hlocks, hgv⟩ := id C0
  have hE := hW.2.2.2.2.2.1
  have hIV := hI5.1
  have hbA : ¬ AL s b := Nat.not_le.mpr hbl
  refine lv_aload_n hx hb dL_law_995 rfl (lv_at hl 1 rfl) ?_
  refine lv_aload_n hx hb dL_law_996 rfl (lv_at hl 0 rfl) ?_
  refine lv_iload_n hx hb dL_law_997 rfl (lv_at hl 3 rfl) ?_
  refine lv_iconst (v := 1) hx hb dL_law_998 (by decide) ?_
  refine lv_iadd hx hb dL_law_999 ?_
  refine W.eq (g2 := F0 m 1000 ls (.int (nI (i + 1)) :: [.ref b, .ref (bq 11)])) (congrArg (fun z : Int32 => F0 m 1000 ls (.int z :: [.ref b, .ref (bq 11)])) (nI_add i 1)) ?_
  refine va_sld hx hb hX hbl hbA hS (vp_in_nI (by omega) (by omega)) dL_law_1000 ?_
  refine lv_topi (fun y1 ey1 => ?_)
  obtain ⟨y2, hz2a, hz2b, he2⟩ := ok_X11 hok hT
  refine lx_i hW hQX hP2 hS (va_runV (As := [.int y1]) (rest := []) ⟨hx, hb, hml, hown, noTs⟩ (t_X11_kins l dC dI H.size G cs tt mm (bq 11) hT y1) ⟨cbE 1 (wd_1185 hE) (wd_115 hE) (wd_1182 hE) rfl rfl (by decide +kernel) ⟨Nat.le_of_ble_eq_true rfl, Nat.le_of_ble_eq_true rfl⟩, (wd_1183 hE), (wd_1184 hE)⟩ ⟨PT.blind, th_recv hW.1 hP hT.1 he2 rfl, (th_pre (av := [.ref (bq 11), .int y1]) trivial hW.1 hP hok hW.2.2.1 hW.2.2.2.1 hE)⟩ rfl rfl hl.1 rfl (lv_room (Nat.le_of_ble_eq_true rfl)) dL_law_1001 ⟨hcc, hss⟩) (fun r2 f H locs hr2 hok hP hP2 hS => ?_)
  refine lv_pop hx hb dL_law_1004 rfl ?_
  refine lv_aload_n hx hb dL_law_1005 rfl (lv_at hl 2 rfl) ?_
  refine lv_aload_n hx hb dL_law_1006 rfl (lv_at hl 0 rfl) ?_
  refine lv_iload_n hx hb dL_law_1007 rfl (lv_at hl 3 rfl) ?_
  refine lv_iconst (v := 1) hx hb dL_law_1008 (by decide) ?_
  refine lv_iadd hx hb dL_law_1009 ?_
  refine W.eq (g2 := F0 m 1010 ls (.int (nI (i + 1)) :: [.ref b, .ref (br 0)])) (congrArg (fun z : Int32 => F0 m 1010 ls (.int z :: [.ref b, .ref (br 0)])) (nI_add i 1)) ?_
  refine va_sld hx hb hX hbl hbA hS (vp_in_nI (by omega) (by omega)) dL_law_1010 ?_
  refine lv_topi (fun y3 ey3 => ?_)
  obtain ⟨ac, hac, hF2⟩ := hIV.2.1
  obtain ⟨v0, hv0, hF15⟩ := hIV.2.2.2.2.1
  obtain ⟨oo, hoo, hF30⟩ := hIV.2.2.2.2.2
  have hAB := hIV.1
  have hBG := ab_0 hAB
  have hGG := bg_g hBG
  refine ly_i hW hQX hP hP2.2 hS (va_runV (As := [.int y3]) (rest := []) ⟨hx, hb, hml, hown, noTs⟩ (r_X12_kins l dC dI H.size cr br u (rA u 1) rfl y3 (by first | assumption | omega)) ⟨cbE 1 (wd_1820 hE) (wd_126 hE) (wd_1817 hE) rfl rfl (by decide +kernel) ⟨Nat.le_of_ble_eq_true rfl, Nat.le_of_ble_eq_true rfl⟩, (wd_1818 hE), (wd_1819 hE)⟩ ⟨PR.blind, r_recv hW.2.1 hP2.1 rfl, (r_pre (av := [.ref (br 0), .int y3]) hW.2.1 hP2.1 hW.2.2.2.2.1 hE)⟩ rfl rfl hl.1 rfl (lv_room (Nat.le_of_ble_eq_true rfl)) dL_law_1011 ⟨hcc, hss⟩) (fun r4 u4 H locs hpo4 hP2 hP hS => ?_)
  obtain ⟨hr4, hq4⟩ := hpo4
  have hIV2 : IV u4 tt mm := iv_fr hIV hq4 (by decide) (by decide) (by decide) (by decide) (by decide) (by decide)
  have hI52 : IV5 u4 v _ _ := ⟨hIV2, tf_fr hI5.2 hq4 (by decide) (by decide) (by decide) (by decide)⟩
  refine lv_pop hx hb dL_law_1014 rfl ?_
  refine lv_goto (tgt := 1631) hx hb dL_law_1015 (by decide) ?_
  exact hk _ _ _ _ _ _ _ _ hok hP hP2 hI52 (by omega) (by omega) hS (lv_sub hl [0, 1, 2, 3] rfl)
set_option maxHeartbeats 4000000 in
set_option maxRecDepth 100000 in
theorem law_28 {p : Program} {e : Env} {s : State} {m : MethodId} {below : List Frame} {meth : Method} {c : Code} (l : Launch) {b L : Nat} {xs : Nat → Int32} {cells slots : Nat} (C0 : lw_At p s m meth c b L xs) (hL : L ≤ 3072) (hcc : cells ≤ 600000) (hss : slots ≤ 7302250) (dC : Nat → ClassId) (dI : Nat → Nat → Nat) (G : GT) (cs cr : Nat → ClassId) (br adK adV : Nat → Nat) (hW : LWD s dC dI G cs cr br adK adV) (bq : Nat → Nat) (hQX : QXD s G br bq) (hT : Ty G (bq 11) 11) (tt mm : Nat) (f : Nat → va_E) (u v : RS) (H : Heap) (locs : List Loc) (ls : Array Slot) (hok : OKT G cs tt mm f) (hP : va_P (dC, dI) vwCl (va_pl (gL G) f) H) (hP2 : KP dC dI cr br u cs bq v H) (hI5 : IV5 u v tt mm) (htt : tt ≤ 700) (hmm : mm ≤ 3) (hS : va_S (AL s) s.heap H locs) (i : Nat) (hi : i + 6 ≤ L) (hl : lv_has ls 4 [(0, .ref b), (1, .ref (bq 11)), (2, .ref (br 0)), (3, .int (nI i))]) (hk : ∀ (tt mm : Nat) (f : Nat → va_E) (u v : RS) (H : Heap) (locs : List Loc) (ls : Array Slot), OKT G cs tt mm f → va_P (dC, dI) vwCl (va_pl (gL G) f) H → KP dC dI cr br u cs bq v H → IV5 u v tt mm → tt ≤ 700 → mm ≤ 3 → va_S (AL s) s.heap H locs → lv_has ls 4 [(0, .ref b), (1, .ref (bq 11)), (2, .ref (br 0)), (3, .int (nI i))] → W p l e room_1 s m #[Value.ref b] below meth c H locs cells slots (lw_Z below #[Value.ref b] s) (F0 m 1631 ls [])) : W p l e room_1 s m #[Value.ref b] below meth c H locs cells slots (lw_Z below #[Value.ref b] s) (F0 m 1018 ls []) := by
  obtain ⟨hx, hb, hr, hml, hown, hts, hX, hbl, hlocks, hgv⟩ := id C0
  have hE := hW.2.2.2.2.2.1
  have hIV := hI5.1
  have hbA : ¬ AL s b := Nat.not_le.mpr hbl
  refine lv_aload_n hx hb dL_law_1018 rfl (lv_at hl 1 rfl) ?_
  refine lv_aload_n hx hb dL_law_1019 rfl (lv_at hl 0 rfl) ?_
  refine lv_iload_n hx hb dL_law_1020 rfl (lv_at hl 3 rfl) ?_
  refine lv_iconst (v := 1) hx hb dL_law_1021 (by decide) ?_
  refine lv_iadd hx hb dL_law_1022 ?_
  refine W.eq (g2 := F0 m 1023 ls (.int (nI (i + 1)) :: [.ref b, .ref (bq 11)])) (congrArg (fun z : Int32 => F0 m 1023 ls (.int z :: [.ref b, .ref (bq 11)])) (nI_add i 1)) ?_
  refine va_sld hx hb hX hbl hbA hS (vp_in_nI (by omega) (by omega)) dL_law_1023 ?_
  refine lv_topi (fun y1 ey1 => ?_)
  refine lv_aload_n hx hb dL_law_1024 rfl (lv_at hl 0 rfl) ?_
  refine lv_iload_n hx hb dL_law_1025 rfl (lv_at hl 3 rfl) ?_
  refine lv_iconst (v := 2) hx hb dL_law_1026 (by decide) ?_
  refine lv_iadd hx hb dL_law_1027 ?_
  refine W.eq (g2 := F0 m 1028 ls (.int (nI (i + 2)) :: [.ref b, .int y1, .ref (bq 11)])) (congrArg (fun z : Int32 => F0 m 1028 ls (.int z :: [.ref b, .int y1, .ref (bq 11)])) (nI_add i 2)) ?_
  refine va_sld hx hb hX hbl hbA hS (vp_in_nI (by omega) (by omega)) dL_law_1028 ?_
  refine lv_topi (fun y2 ey2 => ?_)
  obtain ⟨y3, hz3a, hz3b, he3⟩ := ok_X11 hok hT
  refine lx_i hW hQX hP2 hS (va_runV (As := [.int y1, .int y2]) (rest := []) ⟨hx, hb, hml, hown, noTs⟩ (t_X11_net l dC dI H.size G cs tt mm (bq 11) hT y1 y2) ⟨cbE 2 (wd_1189 hE) (wd_115 hE) (wd_1186 hE) rfl rfl (by decide +kernel) ⟨Nat.le_of_ble_eq_true rfl, Nat.le_of_ble_eq_true rfl⟩, (wd_1187 hE), (wd_1188 hE)⟩ ⟨PT.blind, th_recv hW.1 hP hT.1 he3 rfl, (th_pre (av := [.ref (bq 11), .int y1, .int y2]) trivial hW.1 hP hok hW.2.2.1 hW.2.2.2.1 hE)⟩ rfl rfl hl.1 rfl (lv_room (Nat.le_of_ble_eq_true rfl)) dL_law_1029 ⟨hcc, hss⟩) (fun r3 f H locs hr3 hok hP hP2 hS => ?_)
  refine lv_pop hx hb dL_law_1032 rfl ?_
  refine lv_aload_n hx hb dL_law_1033 rfl (lv_at hl 2 rfl) ?_
  refine lv_aload_n hx hb dL_law_1034 rfl (lv_at hl 0 rfl) ?_
  refine lv_iload_n hx hb dL_law_1035 rfl (lv_at hl 3 rfl) ?_
  refine lv_iconst (v := 1) hx hb dL_law_1036 (by decide) ?_
  refine lv_iadd hx hb dL_law_1037 ?_
  refine W.eq (g2 := F0 m 1038 ls (.int (nI (i + 1)) :: [.ref b, .ref (br 0)])) (congrArg (fun z : Int32 => F0 m 1038 ls (.int z :: [.ref b, .ref (br 0)])) (nI_add i 1)) ?_
  refine va_sld hx hb hX hbl hbA hS (vp_in_nI (by omega) (by omega)) dL_law_1038 ?_
  refine lv_topi (fun y4 ey4 => ?_)
  refine lv_aload_n hx hb dL_law_1039 rfl (lv_at hl 0 rfl) ?_
  refine lv_iload_n hx hb dL_law_1040 rfl (lv_at hl 3 rfl) ?_
  refine lv_iconst (v := 2) hx hb dL_law_1041 (by decide) ?_
  refine lv_iadd hx hb dL_law_1042 ?_
  refine W.eq (g2 := F0 m 1043 ls (.int (nI (i + 2)) :: [.ref b, .int y4, .ref (br 0)])) (congrArg (fun z : Int32 => F0 m 1043 ls (.int z :: [.ref b, .int y4, .ref (br 0)])) (nI_add i 2)) ?_
  refine va_sld hx hb hX hbl hbA hS (vp_in_nI (by omega) (by omega)) dL_law_1043 ?_
  refine lv_topi (fun y5 ey5 => ?_)
  obtain ⟨ac, hac, hF2⟩ := hIV.2.1
  obtain ⟨v0, hv0, hF15⟩ := hIV.2.2.2.2.1
  obtain ⟨oo, hoo, hF30⟩ := hIV.2.2.2.2.2
  have hAB := hIV.1
  have hBG := ab_0 hAB
  have hGG := bg_g hBG
  refine ly_i hW hQX hP hP2.2 hS (va_runV (As := [.int y4, .int y5]) (rest := []) ⟨hx, hb, hml, hown, noTs⟩ (r_X12_net l dC dI H.size cr br u (rA u 1) rfl y4 y5 (by first | assumption | omega)) ⟨cbE 2 (wd_1824 hE) (wd_126 hE) (wd_1821 hE) rfl rfl (by decide +kernel) ⟨Nat.le_of_ble_eq_true rfl, Nat.le_of_ble_eq_true rfl⟩, (wd_1822 hE), (wd_1823 hE)⟩ ⟨PR.blind, r_recv hW.2.1 hP2.1 rfl, (r_pre (av := [.ref (br 0), .int y4, .int y5]) hW.2.1 hP2.1 hW.2.2.2.2.1 hE)⟩ rfl rfl hl.1 rfl (lv_room (Nat.le_of_ble_eq_true rfl)) dL_law_1044 ⟨hcc, hss⟩) (fun r6 u6 H locs hpo6 hP2 hP hS => ?_)
  obtain ⟨hr6, hq6⟩ := hpo6
  have hIV2 : IV u6 tt mm := iv_fr hIV hq6 (by decide) (by decide) (by decide) (by decide) (by decide) (by decide)
  have hI52 : IV5 u6 v _ _ := ⟨hIV2, tf_fr hI5.2 hq6 (by decide) (by decide) (by decide) (by decide)⟩
  refine lv_pop hx hb dL_law_1047 rfl ?_
  refine lv_goto (tgt := 1631) hx hb dL_law_1048 (by decide) ?_
  exact hk _ _ _ _ _ _ _ _ hok hP hP2 hI52 (by omega) (by omega) hS (lv_sub hl [0, 1, 2, 3] rfl)
set_option maxHeartbeats 4000000 in
set_option maxRecDepth 100000 in
theorem law_29 {p : Program} {e : Env} {s : State} {m : MethodId} {below : List Frame} {meth : Method} {c : Code} (l : Launch) {b L : Nat} {xs : Nat → Int32} {cells slots : Nat} (C0 : lw_At p s m meth c b L xs) (hL : L ≤ 3072) (hcc : cells ≤ 600000) (hss : slots ≤ 7302250) (dC : Nat → ClassId) (dI : Nat → Nat → Nat) (G : GT) (cs cr : Nat → ClassId) (br adK adV : Nat → Nat) (hW : LWD s dC dI G cs cr br adK adV) (bq : Nat → Nat) (hQX : QXD s G br bq) (hT : Ty G (bq 11) 11) (tt mm : Nat) (f : Nat → va_E) (u v : RS) (H : Heap) (locs : List Loc) (ls : Array Slot) (hok : OKT G cs tt mm f) (hP : va_P (dC, dI) vwCl (va_pl (gL G) f) H) (hP2 : KP dC dI cr br u cs bq v H) (hI5 : IV5 u v tt mm) (htt : tt ≤ 700) (hmm : mm ≤ 3) (hS : va_S (AL s) s.heap H locs) (i : Nat) (hi : i + 6 ≤ L) (hl : lv_has ls 4 [(0, .ref b), (1, .ref (bq 11)), (2, .ref (br 0)), (3, .int (nI i))]) (hk : ∀ (tt mm : Nat) (f : Nat → va_E) (u v : RS) (H : Heap) (locs : List Loc) (ls : Array Slot), OKT G cs tt mm f → va_P (dC, dI) vwCl (va_pl (gL G) f) H → KP dC dI cr br u cs bq v H → IV5 u v tt mm → tt ≤ 700 → mm ≤ 3 → va_S (AL s) s.heap H locs → lv_has ls 4 [(0, .ref b), (1, .ref (bq 11)), (2, .ref (br 0)), (3, .int (nI i))] → W p l e room_1 s m #[Value.ref b] below meth c H locs cells slots (lw_Z below #[Value.ref b] s) (F0 m 1631 ls [])) : W p l e room_1 s m #[Value.ref b] below meth c H locs cells slots (lw_Z below #[Value.ref b] s) (F0 m 1051 ls []) := by
  obtain ⟨hx, hb, hr, hml, hown, hts, hX, hbl, hlocks, hgv⟩ := id C0
  have hE := hW.2.2.2.2.2.1
  have hIV := hI5.1
  have hbA : ¬ AL s b := Nat.not_le.mpr hbl
  refine lv_aload_n hx hb dL_law_1051 rfl (lv_at hl 1 rfl) ?_
  refine lv_aload_n hx hb dL_law_1052 rfl (lv_at hl 0 rfl) ?_
  refine lv_iload_n hx hb dL_law_1053 rfl (lv_at hl 3 rfl) ?_
  refine lv_iconst (v := 1) hx hb dL_law_1054 (by decide) ?_
  refine lv_iadd hx hb dL_law_1055 ?_
  refine W.eq (g2 := F0 m 1056 ls (.int (nI (i + 1)) :: [.ref b, .ref (bq 11)])) (congrArg (fun z : Int32 => F0 m 1056 ls (.int z :: [.ref b, .ref (bq 11)])) (nI_add i 1)) ?_
  refine va_sld hx hb hX hbl hbA hS (vp_in_nI (by omega) (by omega)) dL_law_1056 ?_
  refine lv_topi (fun y1 ey1 => ?_)
  refine lv_aload_n hx hb dL_law_1057 rfl (lv_at hl 0 rfl) ?_
  refine lv_iload_n hx hb dL_law_1058 rfl (lv_at hl 3 rfl) ?_
  refine lv_iconst (v := 2) hx hb dL_law_1059 (by decide) ?_
  refine lv_iadd hx hb dL_law_1060 ?_
  refine W.eq (g2 := F0 m 1061 ls (.int (nI (i + 2)) :: [.ref b, .int y1, .ref (bq 11)])) (congrArg (fun z : Int32 => F0 m 1061 ls (.int z :: [.ref b, .int y1, .ref (bq 11)])) (nI_add i 2)) ?_
  refine va_sld hx hb hX hbl hbA hS (vp_in_nI (by omega) (by omega)) dL_law_1061 ?_
  refine lv_topi (fun y2 ey2 => ?_)
  obtain ⟨y3, hz3a, hz3b, he3⟩ := ok_X11 hok hT
  refine lx_i hW hQX hP2 hS (va_runV (As := [.int y1, .int y2]) (rest := []) ⟨hx, hb, hml, hown, noTs⟩ (t_X11_central l dC dI H.size G cs tt mm (bq 11) hT y1 y2) ⟨cbE 2 (wd_1194 hE) (wd_115 hE) (wd_1191 hE) rfl rfl (by decide +kernel) ⟨Nat.le_of_ble_eq_true rfl, Nat.le_of_ble_eq_true rfl⟩, (wd_1192 hE), (wd_1193 hE)⟩ ⟨PT.blind, th_recv hW.1 hP hT.1 he3 rfl, (th_pre (av := [.ref (bq 11), .int y1, .int y2]) trivial hW.1 hP hok hW.2.2.1 hW.2.2.2.1 hE)⟩ rfl rfl hl.1 rfl (lv_room (Nat.le_of_ble_eq_true rfl)) dL_law_1062 ⟨hcc, hss⟩) (fun r3 f H locs hr3 hok hP hP2 hS => ?_)
  refine lv_pop hx hb dL_law_1065 rfl ?_
  refine lv_aload_n hx hb dL_law_1066 rfl (lv_at hl 2 rfl) ?_
  refine lv_aload_n hx hb dL_law_1067 rfl (lv_at hl 0 rfl) ?_
  refine lv_iload_n hx hb dL_law_1068 rfl (lv_at hl 3 rfl) ?_
  refine lv_iconst (v := 1) hx hb dL_law_1069 (by decide) ?_
  refine lv_iadd hx hb dL_law_1070 ?_
  refine W.eq (g2 := F0 m 1071 ls (.int (nI (i + 1)) :: [.ref b, .ref (br 0)])) (congrArg (fun z : Int32 => F0 m 1071 ls (.int z :: [.ref b, .ref (br 0)])) (nI_add i 1)) ?_
  refine va_sld hx hb hX hbl hbA hS (vp_in_nI (by omega) (by omega)) dL_law_1071 ?_
  refine lv_topi (fun y4 ey4 => ?_)
  refine lv_aload_n hx hb dL_law_1072 rfl (lv_at hl 0 rfl) ?_
  refine lv_iload_n hx hb dL_law_1073 rfl (lv_at hl 3 rfl) ?_
  refine lv_iconst (v := 2) hx hb dL_law_1074 (by decide) ?_
  refine lv_iadd hx hb dL_law_1075 ?_
  refine W.eq (g2 := F0 m 1076 ls (.int (nI (i + 2)) :: [.ref b, .int y4, .ref (br 0)])) (congrArg (fun z : Int32 => F0 m 1076 ls (.int z :: [.ref b, .int y4, .ref (br 0)])) (nI_add i 2)) ?_
  refine va_sld hx hb hX hbl hbA hS (vp_in_nI (by omega) (by omega)) dL_law_1076 ?_
  refine lv_topi (fun y5 ey5 => ?_)
  obtain ⟨ac, hac, hF2⟩ := hIV.2.1
  obtain ⟨v0, hv0, hF15⟩ := hIV.2.2.2.2.1
  obtain ⟨oo, hoo, hF30⟩ := hIV.2.2.2.2.2
  have hAB := hIV.1
  have hBG := ab_0 hAB
  have hGG := bg_g hBG
  refine ly_i hW hQX hP hP2.2 hS (va_runV (As := [.int y4, .int y5]) (rest := []) ⟨hx, hb, hml, hown, noTs⟩ (r_X12_central l dC dI H.size cr br u (rA u 1) rfl y4 y5 (by first | assumption | omega)) ⟨cbE 2 (wd_1828 hE) (wd_126 hE) (wd_1825 hE) rfl rfl (by decide +kernel) ⟨Nat.le_of_ble_eq_true rfl, Nat.le_of_ble_eq_true rfl⟩, (wd_1826 hE), (wd_1827 hE)⟩ ⟨PR.blind, r_recv hW.2.1 hP2.1 rfl, (r_pre (av := [.ref (br 0), .int y4, .int y5]) hW.2.1 hP2.1 hW.2.2.2.2.1 hE)⟩ rfl rfl hl.1 rfl (lv_room (Nat.le_of_ble_eq_true rfl)) dL_law_1077 ⟨hcc, hss⟩) (fun r6 u6 H locs hpo6 hP2 hP hS => ?_)
  obtain ⟨hr6, hq6⟩ := hpo6
  have hIV2 : IV u6 tt mm := iv_fr hIV hq6 (by decide) (by decide) (by decide) (by decide) (by decide) (by decide)
  have hI52 : IV5 u6 v _ _ := ⟨hIV2, tf_fr hI5.2 hq6 (by decide) (by decide) (by decide) (by decide)⟩
  refine lv_pop hx hb dL_law_1080 rfl ?_
  refine lv_goto (tgt := 1631) hx hb dL_law_1081 (by decide) ?_
  exact hk _ _ _ _ _ _ _ _ hok hP hP2 hI52 (by omega) (by omega) hS (lv_sub hl [0, 1, 2, 3] rfl)
set_option maxHeartbeats 4000000 in
set_option maxRecDepth 100000 in
theorem law_30 {p : Program} {e : Env} {s : State} {m : MethodId} {below : List Frame} {meth : Method} {c : Code} (l : Launch) {b L : Nat} {xs : Nat → Int32} {cells slots : Nat} (C0 : lw_At p s m meth c b L xs) (hL : L ≤ 3072) (hcc : cells ≤ 600000) (hss : slots ≤ 7302250) (dC : Nat → ClassId) (dI : Nat → Nat → Nat) (G : GT) (cs cr : Nat → ClassId) (br adK adV : Nat → Nat) (hW : LWD s dC dI G cs cr br adK adV) (bq : Nat → Nat) (hQX : QXD s G br bq) (hT : Ty G (bq 11) 11) (tt mm : Nat) (f : Nat → va_E) (u v : RS) (H : Heap) (locs : List Loc) (ls : Array Slot) (hok : OKT G cs tt mm f) (hP : va_P (dC, dI) vwCl (va_pl (gL G) f) H) (hP2 : KP dC dI cr br u cs bq v H) (hI5 : IV5 u v tt mm) (htt : tt ≤ 700) (hmm : mm ≤ 3) (hS : va_S (AL s) s.heap H locs) (i : Nat) (hi : i + 6 ≤ L) (hl : lv_has ls 4 [(0, .ref b), (1, .ref (bq 11)), (2, .ref (br 0)), (3, .int (nI i))]) (hk : ∀ (tt mm : Nat) (f : Nat → va_E) (u v : RS) (H : Heap) (locs : List Loc) (ls : Array Slot), OKT G cs tt mm f → va_P (dC, dI) vwCl (va_pl (gL G) f) H → KP dC dI cr br u cs bq v H → IV5 u v tt mm → tt ≤ 700 → mm ≤ 3 → va_S (AL s) s.heap H locs → lv_has ls 4 [(0, .ref b), (1, .ref (bq 11)), (2, .ref (br 0)), (3, .int (nI i))] → W p l e room_1 s m #[Value.ref b] below meth c H locs cells slots (lw_Z below #[Value.ref b] s) (F0 m 1631 ls [])) : W p l e room_1 s m #[Value.ref b] below meth c H locs cells slots (lw_Z below #[Value.ref b] s) (F0 m 1084 ls []) := by
  obtain ⟨hx, hb, hr, hml, hown, hts, hX, hbl, hlocks, hgv⟩ := id C0
  have hE := hW.2.2.2.2.2.1
  have hIV := hI5.1
  have hbA : ¬ AL s b := Nat.not_le.mpr hbl
  refine lv_aload_n hx hb dL_law_1084 rfl (lv_at hl 1 rfl) ?_
  refine lv_aload_n hx hb dL_law_1085 rfl (lv_at hl 0 rfl) ?_
  refine lv_iload_n hx hb dL_law_1086 rfl (lv_at hl 3 rfl) ?_
  refine lv_iconst (v := 1) hx hb dL_law_1087 (by decide) ?_
  refine lv_iadd hx hb dL_law_1088 ?_
  refine W.eq (g2 := F0 m 1089 ls (.int (nI (i + 1)) :: [.ref b, .ref (bq 11)])) (congrArg (fun z : Int32 => F0 m 1089 ls (.int z :: [.ref b, .ref (bq 11)])) (nI_add i 1)) ?_
  refine va_sld hx hb hX hbl hbA hS (vp_in_nI (by omega) (by omega)) dL_law_1089 ?_
  refine lv_topi (fun y1 ey1 => ?_)
  obtain ⟨y2, hz2a, hz2b, he2⟩ := ok_X11 hok hT
  refine lx_i hW hQX hP2 hS (va_runV (As := [.int y1]) (rest := []) ⟨hx, hb, hml, hown, noTs⟩ (t_X11_centre l dC dI H.size G cs tt mm (bq 11) hT y1) ⟨cbE 1 (wd_1207 hE) (wd_115 hE) (wd_1204 hE) rfl rfl (by decide +kernel) ⟨Nat.le_of_ble_eq_true rfl, Nat.le_of_ble_eq_true rfl⟩, (wd_1205 hE), (wd_1206 hE)⟩ ⟨PT.blind, th_recv hW.1 hP hT.1 he2 rfl, (th_pre (av := [.ref (bq 11), .int y1]) trivial hW.1 hP hok hW.2.2.1 hW.2.2.2.1 hE)⟩ rfl rfl hl.1 rfl (lv_room (Nat.le_of_ble_eq_true rfl)) dL_law_1090 ⟨hcc, hss⟩) (fun r2 f H locs hr2 hok hP hP2 hS => ?_)
  refine lv_pop hx hb dL_law_1093 rfl ?_
  refine lv_aload_n hx hb dL_law_1094 rfl (lv_at hl 2 rfl) ?_
  refine lv_aload_n hx hb dL_law_1095 rfl (lv_at hl 0 rfl) ?_
  refine lv_iload_n hx hb dL_law_1096 rfl (lv_at hl 3 rfl) ?_
  refine lv_iconst (v := 1) hx hb dL_law_1097 (by decide) ?_
  refine lv_iadd hx hb dL_law_1098 ?_
  refine W.eq (g2 := F0 m 1099 ls (.int (nI (i + 1)) :: [.ref b, .ref (br 0)])) (congrArg (fun z : Int32 => F0 m 1099 ls (.int z :: [.ref b, .ref (br 0)])) (nI_add i 1)) ?_
  refine va_sld hx hb hX hbl hbA hS (vp_in_nI (by omega) (by omega)) dL_law_1099 ?_
  refine lv_topi (fun y3 ey3 => ?_)
  obtain ⟨ac, hac, hF2⟩ := hIV.2.1
  obtain ⟨v0, hv0, hF15⟩ := hIV.2.2.2.2.1
  obtain ⟨oo, hoo, hF30⟩ := hIV.2.2.2.2.2
  have hAB := hIV.1
  have hBG := ab_0 hAB
  have hGG := bg_g hBG
  refine ly_i hW hQX hP hP2.2 hS (va_runV (As := [.int y3]) (rest := []) ⟨hx, hb, hml, hown, noTs⟩ (r_X12_centre l dC dI H.size cr br u (rA u 1) rfl y3 (by first | assumption | omega)) ⟨cbE 1 (wd_1836 hE) (wd_126 hE) (wd_1833 hE) rfl rfl (by decide +kernel) ⟨Nat.le_of_ble_eq_true rfl, Nat.le_of_ble_eq_true rfl⟩, (wd_1834 hE), (wd_1835 hE)⟩ ⟨PR.blind, r_recv hW.2.1 hP2.1 rfl, (r_pre (av := [.ref (br 0), .int y3]) hW.2.1 hP2.1 hW.2.2.2.2.1 hE)⟩ rfl rfl hl.1 rfl (lv_room (Nat.le_of_ble_eq_true rfl)) dL_law_1100 ⟨hcc, hss⟩) (fun r4 u4 H locs hpo4 hP2 hP hS => ?_)
  obtain ⟨hr4, hq4⟩ := hpo4
  have hIV2 : IV u4 tt mm := iv_fr hIV hq4 (by decide) (by decide) (by decide) (by decide) (by decide) (by decide)
  have hI52 : IV5 u4 v _ _ := ⟨hIV2, tf_fr hI5.2 hq4 (by decide) (by decide) (by decide) (by decide)⟩
  refine lv_pop hx hb dL_law_1103 rfl ?_
  refine lv_goto (tgt := 1631) hx hb dL_law_1104 (by decide) ?_
  exact hk _ _ _ _ _ _ _ _ hok hP hP2 hI52 (by omega) (by omega) hS (lv_sub hl [0, 1, 2, 3] rfl)
set_option maxHeartbeats 4000000 in
set_option maxRecDepth 100000 in
theorem law_31 {p : Program} {e : Env} {s : State} {m : MethodId} {below : List Frame} {meth : Method} {c : Code} (l : Launch) {b L : Nat} {xs : Nat → Int32} {cells slots : Nat} (C0 : lw_At p s m meth c b L xs) (hL : L ≤ 3072) (hcc : cells ≤ 600000) (hss : slots ≤ 7302250) (dC : Nat → ClassId) (dI : Nat → Nat → Nat) (G : GT) (cs cr : Nat → ClassId) (br adK adV : Nat → Nat) (hW : LWD s dC dI G cs cr br adK adV) (bq : Nat → Nat) (hQX : QXD s G br bq) (hT : Ty G (bq 11) 11) (tt mm : Nat) (f : Nat → va_E) (u v : RS) (H : Heap) (locs : List Loc) (ls : Array Slot) (hok : OKT G cs tt mm f) (hP : va_P (dC, dI) vwCl (va_pl (gL G) f) H) (hP2 : KP dC dI cr br u cs bq v H) (hI5 : IV5 u v tt mm) (htt : tt ≤ 700) (hmm : mm ≤ 3) (hS : va_S (AL s) s.heap H locs) (i : Nat) (hi : i + 6 ≤ L) (hl : lv_has ls 4 [(0, .ref b), (1, .ref (bq 11)), (2, .ref (br 0)), (3, .int (nI i))]) (hk : ∀ (tt mm : Nat) (f : Nat → va_E) (u v : RS) (H : Heap) (locs : List Loc) (ls : Array Slot), OKT G cs tt mm f → va_P (dC, dI) vwCl (va_pl (gL G) f) H → KP dC dI cr br u cs bq v H → IV5 u v tt mm → tt ≤ 700 → mm ≤ 3 → va_S (AL s) s.heap H locs → lv_has ls 4 [(0, .ref b), (1, .ref (bq 11)), (2, .ref (br 0)), (3, .int (nI i))] → W p l e room_1 s m #[Value.ref b] below meth c H locs cells slots (lw_Z below #[Value.ref b] s) (F0 m 1631 ls [])) : W p l e room_1 s m #[Value.ref b] below meth c H locs cells slots (lw_Z below #[Value.ref b] s) (F0 m 1107 ls []) := by
  obtain ⟨hx, hb, hr, hml, hown, hts, hX, hbl, hlocks, hgv⟩ := id C0
  have hE := hW.2.2.2.2.2.1
  have hIV := hI5.1
  have hbA : ¬ AL s b := Nat.not_le.mpr hbl
  refine lv_aload_n hx hb dL_law_1107 rfl (lv_at hl 1 rfl) ?_
  refine lv_aload_n hx hb dL_law_1108 rfl (lv_at hl 0 rfl) ?_
  refine lv_iload_n hx hb dL_law_1109 rfl (lv_at hl 3 rfl) ?_
  refine lv_iconst (v := 1) hx hb dL_law_1110 (by decide) ?_
  refine lv_iadd hx hb dL_law_1111 ?_
  refine W.eq (g2 := F0 m 1112 ls (.int (nI (i + 1)) :: [.ref b, .ref (bq 11)])) (congrArg (fun z : Int32 => F0 m 1112 ls (.int z :: [.ref b, .ref (bq 11)])) (nI_add i 1)) ?_
  refine va_sld hx hb hX hbl hbA hS (vp_in_nI (by omega) (by omega)) dL_law_1112 ?_
  refine lv_topi (fun y1 ey1 => ?_)
  refine lv_aload_n hx hb dL_law_1113 rfl (lv_at hl 0 rfl) ?_
  refine lv_iload_n hx hb dL_law_1114 rfl (lv_at hl 3 rfl) ?_
  refine lv_iconst (v := 2) hx hb dL_law_1115 (by decide) ?_
  refine lv_iadd hx hb dL_law_1116 ?_
  refine W.eq (g2 := F0 m 1117 ls (.int (nI (i + 2)) :: [.ref b, .int y1, .ref (bq 11)])) (congrArg (fun z : Int32 => F0 m 1117 ls (.int z :: [.ref b, .int y1, .ref (bq 11)])) (nI_add i 2)) ?_
  refine va_sld hx hb hX hbl hbA hS (vp_in_nI (by omega) (by omega)) dL_law_1117 ?_
  refine lv_topi (fun y2 ey2 => ?_)
  obtain ⟨y3, hz3a, hz3b, he3⟩ := ok_X11 hok hT
  refine lx_i hW hQX hP2 hS (va_runV (As := [.int y1, .int y2]) (rest := []) ⟨hx, hb, hml, hown, noTs⟩ (t_X11_having l dC dI H.size G cs tt mm (bq 11) hT y1 y2) ⟨cbE 2 (wd_1211 hE) (wd_115 hE) (wd_1208 hE) rfl rfl (by decide +kernel) ⟨Nat.le_of_ble_eq_true rfl, Nat.le_of_ble_eq_true rfl⟩, (wd_1209 hE), (wd_1210 hE)⟩ ⟨PT.blind, th_recv hW.1 hP hT.1 he3 rfl, (th_pre (av := [.ref (bq 11), .int y1, .int y2]) trivial hW.1 hP hok hW.2.2.1 hW.2.2.2.1 hE)⟩ rfl rfl hl.1 rfl (lv_room (Nat.le_of_ble_eq_true rfl)) dL_law_1118 ⟨hcc, hss⟩) (fun r3 f H locs hr3 hok hP hP2 hS => ?_)
  refine lv_pop hx hb dL_law_1121 rfl ?_
  refine lv_aload_n hx hb dL_law_1122 rfl (lv_at hl 2 rfl) ?_
  refine lv_aload_n hx hb dL_law_1123 rfl (lv_at hl 0 rfl) ?_
  refine lv_iload_n hx hb dL_law_1124 rfl (lv_at hl 3 rfl) ?_
  refine lv_iconst (v := 1) hx hb dL_law_1125 (by decide) ?_
  refine lv_iadd hx hb dL_law_1126 ?_
  refine W.eq (g2 := F0 m 1127 ls (.int (nI (i + 1)) :: [.ref b, .ref (br 0)])) (congrArg (fun z : Int32 => F0 m 1127 ls (.int z :: [.ref b, .ref (br 0)])) (nI_add i 1)) ?_
  refine va_sld hx hb hX hbl hbA hS (vp_in_nI (by omega) (by omega)) dL_law_1127 ?_
  refine lv_topi (fun y4 ey4 => ?_)
  refine lv_aload_n hx hb dL_law_1128 rfl (lv_at hl 0 rfl) ?_
  refine lv_iload_n hx hb dL_law_1129 rfl (lv_at hl 3 rfl) ?_
  refine lv_iconst (v := 2) hx hb dL_law_1130 (by decide) ?_
  refine lv_iadd hx hb dL_law_1131 ?_
  refine W.eq (g2 := F0 m 1132 ls (.int (nI (i + 2)) :: [.ref b, .int y4, .ref (br 0)])) (congrArg (fun z : Int32 => F0 m 1132 ls (.int z :: [.ref b, .int y4, .ref (br 0)])) (nI_add i 2)) ?_
  refine va_sld hx hb hX hbl hbA hS (vp_in_nI (by omega) (by omega)) dL_law_1132 ?_
  refine lv_topi (fun y5 ey5 => ?_)
  obtain ⟨ac, hac, hF2⟩ := hIV.2.1
  obtain ⟨v0, hv0, hF15⟩ := hIV.2.2.2.2.1
  obtain ⟨oo, hoo, hF30⟩ := hIV.2.2.2.2.2
  have hAB := hIV.1
  have hBG := ab_0 hAB
  have hGG := bg_g hBG
  refine ly_i hW hQX hP hP2.2 hS (va_runV (As := [.int y4, .int y5]) (rest := []) ⟨hx, hb, hml, hown, noTs⟩ (r_X12_having l dC dI H.size cr br u (rA u 1) rfl y4 y5 (by first | assumption | omega)) ⟨cbE 2 (wd_1840 hE) (wd_126 hE) (wd_1837 hE) rfl rfl (by decide +kernel) ⟨Nat.le_of_ble_eq_true rfl, Nat.le_of_ble_eq_true rfl⟩, (wd_1838 hE), (wd_1839 hE)⟩ ⟨PR.blind, r_recv hW.2.1 hP2.1 rfl, (r_pre (av := [.ref (br 0), .int y4, .int y5]) hW.2.1 hP2.1 hW.2.2.2.2.1 hE)⟩ rfl rfl hl.1 rfl (lv_room (Nat.le_of_ble_eq_true rfl)) dL_law_1133 ⟨hcc, hss⟩) (fun r6 u6 H locs hpo6 hP2 hP hS => ?_)
  obtain ⟨hr6, hq6⟩ := hpo6
  have hIV2 : IV u6 tt mm := iv_fr hIV hq6 (by decide) (by decide) (by decide) (by decide) (by decide) (by decide)
  have hI52 : IV5 u6 v _ _ := ⟨hIV2, tf_fr hI5.2 hq6 (by decide) (by decide) (by decide) (by decide)⟩
  refine lv_pop hx hb dL_law_1136 rfl ?_
  refine lv_goto (tgt := 1631) hx hb dL_law_1137 (by decide) ?_
  exact hk _ _ _ _ _ _ _ _ hok hP hP2 hI52 (by omega) (by omega) hS (lv_sub hl [0, 1, 2, 3] rfl)
set_option maxHeartbeats 4000000 in
set_option maxRecDepth 100000 in
theorem law_32 {p : Program} {e : Env} {s : State} {m : MethodId} {below : List Frame} {meth : Method} {c : Code} (l : Launch) {b L : Nat} {xs : Nat → Int32} {cells slots : Nat} (C0 : lw_At p s m meth c b L xs) (hL : L ≤ 3072) (hcc : cells ≤ 600000) (hss : slots ≤ 7302250) (dC : Nat → ClassId) (dI : Nat → Nat → Nat) (G : GT) (cs cr : Nat → ClassId) (br adK adV : Nat → Nat) (hW : LWD s dC dI G cs cr br adK adV) (bq : Nat → Nat) (hQX : QXD s G br bq) (hT : Ty G (bq 11) 11) (tt mm : Nat) (f : Nat → va_E) (u v : RS) (H : Heap) (locs : List Loc) (ls : Array Slot) (hok : OKT G cs tt mm f) (hP : va_P (dC, dI) vwCl (va_pl (gL G) f) H) (hP2 : KP dC dI cr br u cs bq v H) (hI5 : IV5 u v tt mm) (htt : tt ≤ 700) (hmm : mm ≤ 3) (hS : va_S (AL s) s.heap H locs) (i : Nat) (hi : i + 6 ≤ L) (hl : lv_has ls 4 [(0, .ref b), (1, .ref (bq 11)), (2, .ref (br 0)), (3, .int (nI i))]) (hk : ∀ (tt mm : Nat) (f : Nat → va_E) (u v : RS) (H : Heap) (locs : List Loc) (ls : Array Slot), OKT G cs tt mm f → va_P (dC, dI) vwCl (va_pl (gL G) f) H → KP dC dI cr br u cs bq v H → IV5 u v tt mm → tt ≤ 700 → mm ≤ 3 → va_S (AL s) s.heap H locs → lv_has ls 4 [(0, .ref b), (1, .ref (bq 11)), (2, .ref (br 0)), (3, .int (nI i))] → W p l e room_1 s m #[Value.ref b] below meth c H locs cells slots (lw_Z below #[Value.ref b] s) (F0 m 1631 ls [])) : W p l e room_1 s m #[Value.ref b] below meth c H locs cells slots (lw_Z below #[Value.ref b] s) (F0 m 1140 ls []) := by
  obtain ⟨hx, hb, hr, hml, hown, hts, hX, hbl, hlocks, hgv⟩ := id C0
  have hE := hW.2.2.2.2.2.1
  have hIV := hI5.1
  have hbA : ¬ AL s b := Nat.not_le.mpr hbl
  refine lv_aload_n hx hb dL_law_1140 rfl (lv_at hl 1 rfl) ?_
  refine lv_aload_n hx hb dL_law_1141 rfl (lv_at hl 0 rfl) ?_
  refine lv_iload_n hx hb dL_law_1142 rfl (lv_at hl 3 rfl) ?_
  refine lv_iconst (v := 1) hx hb dL_law_1143 (by decide) ?_
  refine lv_iadd hx hb dL_law_1144 ?_
  refine W.eq (g2 := F0 m 1145 ls (.int (nI (i + 1)) :: [.ref b, .ref (bq 11)])) (congrArg (fun z : Int32 => F0 m 1145 ls (.int z :: [.ref b, .ref (bq 11)])) (nI_add i 1)) ?_
  refine va_sld hx hb hX hbl hbA hS (vp_in_nI (by omega) (by omega)) dL_law_1145 ?_
  refine lv_topi (fun y1 ey1 => ?_)
  obtain ⟨y2, hz2a, hz2b, he2⟩ := ok_X11 hok hT
  refine lx_i hW hQX hP2 hS (va_runV (As := [.int y1]) (rest := []) ⟨hx, hb, hml, hown, noTs⟩ (t_X11_root l dC dI H.size G cs tt mm (bq 11) hT y1) ⟨cbE 1 (wd_1215 hE) (wd_115 hE) (wd_1212 hE) rfl rfl (by decide +kernel) ⟨Nat.le_of_ble_eq_true rfl, Nat.le_of_ble_eq_true rfl⟩, (wd_1213 hE), (wd_1214 hE)⟩ ⟨PT.blind, th_recv hW.1 hP hT.1 he2 rfl, (th_pre (av := [.ref (bq 11), .int y1]) trivial hW.1 hP hok hW.2.2.1 hW.2.2.2.1 hE)⟩ rfl rfl hl.1 rfl (lv_room (Nat.le_of_ble_eq_true rfl)) dL_law_1146 ⟨hcc, hss⟩) (fun r2 f H locs hr2 hok hP hP2 hS => ?_)
  refine lv_pop hx hb dL_law_1149 rfl ?_
  refine lv_aload_n hx hb dL_law_1150 rfl (lv_at hl 2 rfl) ?_
  refine lv_aload_n hx hb dL_law_1151 rfl (lv_at hl 0 rfl) ?_
  refine lv_iload_n hx hb dL_law_1152 rfl (lv_at hl 3 rfl) ?_
  refine lv_iconst (v := 1) hx hb dL_law_1153 (by decide) ?_
  refine lv_iadd hx hb dL_law_1154 ?_
  refine W.eq (g2 := F0 m 1155 ls (.int (nI (i + 1)) :: [.ref b, .ref (br 0)])) (congrArg (fun z : Int32 => F0 m 1155 ls (.int z :: [.ref b, .ref (br 0)])) (nI_add i 1)) ?_
  refine va_sld hx hb hX hbl hbA hS (vp_in_nI (by omega) (by omega)) dL_law_1155 ?_
  refine lv_topi (fun y3 ey3 => ?_)
  obtain ⟨ac, hac, hF2⟩ := hIV.2.1
  obtain ⟨v0, hv0, hF15⟩ := hIV.2.2.2.2.1
  obtain ⟨oo, hoo, hF30⟩ := hIV.2.2.2.2.2
  have hAB := hIV.1
  have hBG := ab_0 hAB
  have hGG := bg_g hBG
  refine ly_i hW hQX hP hP2.2 hS (va_runV (As := [.int y3]) (rest := []) ⟨hx, hb, hml, hown, noTs⟩ (r_X12_root l dC dI H.size cr br u (rA u 1) rfl y3 (by first | assumption | omega)) ⟨cbE 1 (wd_1844 hE) (wd_126 hE) (wd_1841 hE) rfl rfl (by decide +kernel) ⟨Nat.le_of_ble_eq_true rfl, Nat.le_of_ble_eq_true rfl⟩, (wd_1842 hE), (wd_1843 hE)⟩ ⟨PR.blind, r_recv hW.2.1 hP2.1 rfl, (r_pre (av := [.ref (br 0), .int y3]) hW.2.1 hP2.1 hW.2.2.2.2.1 hE)⟩ rfl rfl hl.1 rfl (lv_room (Nat.le_of_ble_eq_true rfl)) dL_law_1156 ⟨hcc, hss⟩) (fun r4 u4 H locs hpo4 hP2 hP hS => ?_)
  obtain ⟨hr4, hq4⟩ := hpo4
  have hIV2 : IV u4 tt mm := iv_fr hIV hq4 (by decide) (by decide) (by decide) (by decide) (by decide) (by decide)
  have hI52 : IV5 u4 v _ _ := ⟨hIV2, tf_fr hI5.2 hq4 (by decide) (by decide) (by decide) (by decide)⟩
  refine lv_pop hx hb dL_law_1159 rfl ?_
  refine lv_goto (tgt := 1631) hx hb dL_law_1160 (by decide) ?_
  exact hk _ _ _ _ _ _ _ _ hok hP hP2 hI52 (by omega) (by omega) hS (lv_sub hl [0, 1, 2, 3] rfl)
set_option maxHeartbeats 4000000 in
set_option maxRecDepth 100000 in
theorem law_33 {p : Program} {e : Env} {s : State} {m : MethodId} {below : List Frame} {meth : Method} {c : Code} (l : Launch) {b L : Nat} {xs : Nat → Int32} {cells slots : Nat} (C0 : lw_At p s m meth c b L xs) (hL : L ≤ 3072) (hcc : cells ≤ 600000) (hss : slots ≤ 7302250) (dC : Nat → ClassId) (dI : Nat → Nat → Nat) (G : GT) (cs cr : Nat → ClassId) (br adK adV : Nat → Nat) (hW : LWD s dC dI G cs cr br adK adV) (bq : Nat → Nat) (hQX : QXD s G br bq) (hT : Ty G (bq 11) 11) (tt mm : Nat) (f : Nat → va_E) (u v : RS) (H : Heap) (locs : List Loc) (ls : Array Slot) (hok : OKT G cs tt mm f) (hP : va_P (dC, dI) vwCl (va_pl (gL G) f) H) (hP2 : KP dC dI cr br u cs bq v H) (hI5 : IV5 u v tt mm) (htt : tt ≤ 700) (hmm : mm ≤ 3) (hS : va_S (AL s) s.heap H locs) (i : Nat) (hi : i + 6 ≤ L) (hl : lv_has ls 4 [(0, .ref b), (1, .ref (bq 11)), (2, .ref (br 0)), (3, .int (nI i))]) (hk : ∀ (tt mm : Nat) (f : Nat → va_E) (u v : RS) (H : Heap) (locs : List Loc) (ls : Array Slot), OKT G cs tt mm f → va_P (dC, dI) vwCl (va_pl (gL G) f) H → KP dC dI cr br u cs bq v H → IV5 u v tt mm → tt ≤ 700 → mm ≤ 3 → va_S (AL s) s.heap H locs → lv_has ls 4 [(0, .ref b), (1, .ref (bq 11)), (2, .ref (br 0)), (3, .int (nI i))] → W p l e room_1 s m #[Value.ref b] below meth c H locs cells slots (lw_Z below #[Value.ref b] s) (F0 m 1631 ls [])) : W p l e room_1 s m #[Value.ref b] below meth c H locs cells slots (lw_Z below #[Value.ref b] s) (F0 m 1163 ls []) := by
  obtain ⟨hx, hb, hr, hml, hown, hts, hX, hbl, hlocks, hgv⟩ := id C0
  have hE := hW.2.2.2.2.2.1
  have hIV := hI5.1
  have hbA : ¬ AL s b := Nat.not_le.mpr hbl
  refine lv_aload_n hx hb dL_law_1163 rfl (lv_at hl 1 rfl) ?_
  refine lv_aload_n hx hb dL_law_1164 rfl (lv_at hl 0 rfl) ?_
  refine lv_iload_n hx hb dL_law_1165 rfl (lv_at hl 3 rfl) ?_
  refine lv_iconst (v := 1) hx hb dL_law_1166 (by decide) ?_
  refine lv_iadd hx hb dL_law_1167 ?_
  refine W.eq (g2 := F0 m 1168 ls (.int (nI (i + 1)) :: [.ref b, .ref (bq 11)])) (congrArg (fun z : Int32 => F0 m 1168 ls (.int z :: [.ref b, .ref (bq 11)])) (nI_add i 1)) ?_
  refine va_sld hx hb hX hbl hbA hS (vp_in_nI (by omega) (by omega)) dL_law_1168 ?_
  refine lv_topi (fun y1 ey1 => ?_)
  refine lv_aload_n hx hb dL_law_1169 rfl (lv_at hl 0 rfl) ?_
  refine lv_iload_n hx hb dL_law_1170 rfl (lv_at hl 3 rfl) ?_
  refine lv_iconst (v := 2) hx hb dL_law_1171 (by decide) ?_
  refine lv_iadd hx hb dL_law_1172 ?_
  refine W.eq (g2 := F0 m 1173 ls (.int (nI (i + 2)) :: [.ref b, .int y1, .ref (bq 11)])) (congrArg (fun z : Int32 => F0 m 1173 ls (.int z :: [.ref b, .int y1, .ref (bq 11)])) (nI_add i 2)) ?_
  refine va_sld hx hb hX hbl hbA hS (vp_in_nI (by omega) (by omega)) dL_law_1173 ?_
  refine lv_topi (fun y2 ey2 => ?_)
  obtain ⟨y3, hz3a, hz3b, he3⟩ := ok_X11 hok hT
  refine lx_i hW hQX hP2 hS (va_runV (As := [.int y1, .int y2]) (rest := []) ⟨hx, hb, hml, hown, noTs⟩ (t_X11_swaps l dC dI H.size G cs tt mm (bq 11) hT y1 y2) ⟨cbE 2 (wd_1238 hE) (wd_115 hE) (wd_1235 hE) rfl rfl (by decide +kernel) ⟨Nat.le_of_ble_eq_true rfl, Nat.le_of_ble_eq_true rfl⟩, (wd_1236 hE), (wd_1237 hE)⟩ ⟨PT.blind, th_recv hW.1 hP hT.1 he3 rfl, (th_pre (av := [.ref (bq 11), .int y1, .int y2]) trivial hW.1 hP hok hW.2.2.1 hW.2.2.2.1 hE)⟩ rfl rfl hl.1 rfl (lv_room (Nat.le_of_ble_eq_true rfl)) dL_law_1174 ⟨hcc, hss⟩) (fun r3 f H locs hr3 hok hP hP2 hS => ?_)
  refine lv_pop hx hb dL_law_1177 rfl ?_
  refine lv_aload_n hx hb dL_law_1178 rfl (lv_at hl 2 rfl) ?_
  refine lv_aload_n hx hb dL_law_1179 rfl (lv_at hl 0 rfl) ?_
  refine lv_iload_n hx hb dL_law_1180 rfl (lv_at hl 3 rfl) ?_
  refine lv_iconst (v := 1) hx hb dL_law_1181 (by decide) ?_
  refine lv_iadd hx hb dL_law_1182 ?_
  refine W.eq (g2 := F0 m 1183 ls (.int (nI (i + 1)) :: [.ref b, .ref (br 0)])) (congrArg (fun z : Int32 => F0 m 1183 ls (.int z :: [.ref b, .ref (br 0)])) (nI_add i 1)) ?_
  refine va_sld hx hb hX hbl hbA hS (vp_in_nI (by omega) (by omega)) dL_law_1183 ?_
  refine lv_topi (fun y4 ey4 => ?_)
  refine lv_aload_n hx hb dL_law_1184 rfl (lv_at hl 0 rfl) ?_
  refine lv_iload_n hx hb dL_law_1185 rfl (lv_at hl 3 rfl) ?_
  refine lv_iconst (v := 2) hx hb dL_law_1186 (by decide) ?_
  refine lv_iadd hx hb dL_law_1187 ?_
  refine W.eq (g2 := F0 m 1188 ls (.int (nI (i + 2)) :: [.ref b, .int y4, .ref (br 0)])) (congrArg (fun z : Int32 => F0 m 1188 ls (.int z :: [.ref b, .int y4, .ref (br 0)])) (nI_add i 2)) ?_
  refine va_sld hx hb hX hbl hbA hS (vp_in_nI (by omega) (by omega)) dL_law_1188 ?_
  refine lv_topi (fun y5 ey5 => ?_)
  obtain ⟨ac, hac, hF2⟩ := hIV.2.1
  obtain ⟨v0, hv0, hF15⟩ := hIV.2.2.2.2.1
  obtain ⟨oo, hoo, hF30⟩ := hIV.2.2.2.2.2
  have hAB := hIV.1
  have hBG := ab_0 hAB
  have hGG := bg_g hBG
  refine ly_i hW hQX hP hP2.2 hS (va_runV (As := [.int y4, .int y5]) (rest := []) ⟨hx, hb, hml, hown, noTs⟩ (r_X12_swaps l dC dI H.size cr br u (rA u 1) rfl y4 y5 (by first | assumption | omega)) ⟨cbE 2 (wd_1856 hE) (wd_126 hE) (wd_1853 hE) rfl rfl (by decide +kernel) ⟨Nat.le_of_ble_eq_true rfl, Nat.le_of_ble_eq_true rfl⟩, (wd_1854 hE), (wd_1855 hE)⟩ ⟨PR.blind, r_recv hW.2.1 hP2.1 rfl, (r_pre (av := [.ref (br 0), .int y4, .int y5]) hW.2.1 hP2.1 hW.2.2.2.2.1 hE)⟩ rfl rfl hl.1 rfl (lv_room (Nat.le_of_ble_eq_true rfl)) dL_law_1189 ⟨hcc, hss⟩) (fun r6 u6 H locs hpo6 hP2 hP hS => ?_)
  obtain ⟨hr6, hq6⟩ := hpo6
  have hIV2 : IV u6 tt mm := iv_fr hIV hq6 (by decide) (by decide) (by decide) (by decide) (by decide) (by decide)
  have hI52 : IV5 u6 v _ _ := ⟨hIV2, tf_fr hI5.2 hq6 (by decide) (by decide) (by decide) (by decide)⟩
  refine lv_pop hx hb dL_law_1192 rfl ?_
  refine lv_goto (tgt := 1631) hx hb dL_law_1193 (by decide) ?_
  exact hk _ _ _ _ _ _ _ _ hok hP hP2 hI52 (by omega) (by omega) hS (lv_sub hl [0, 1, 2, 3] rfl)
set_option maxHeartbeats 4000000 in
set_option maxRecDepth 100000 in
theorem law_34 {p : Program} {e : Env} {s : State} {m : MethodId} {below : List Frame} {meth : Method} {c : Code} (l : Launch) {b L : Nat} {xs : Nat → Int32} {cells slots : Nat} (C0 : lw_At p s m meth c b L xs) (hL : L ≤ 3072) (hcc : cells ≤ 600000) (hss : slots ≤ 7302250) (dC : Nat → ClassId) (dI : Nat → Nat → Nat) (G : GT) (cs cr : Nat → ClassId) (br adK adV : Nat → Nat) (hW : LWD s dC dI G cs cr br adK adV) (bq : Nat → Nat) (hQX : QXD s G br bq) (hT : Ty G (bq 11) 11) (tt mm : Nat) (f : Nat → va_E) (u v : RS) (H : Heap) (locs : List Loc) (ls : Array Slot) (hok : OKT G cs tt mm f) (hP : va_P (dC, dI) vwCl (va_pl (gL G) f) H) (hP2 : KP dC dI cr br u cs bq v H) (hI5 : IV5 u v tt mm) (htt : tt ≤ 700) (hmm : mm ≤ 3) (hS : va_S (AL s) s.heap H locs) (i : Nat) (hi : i + 6 ≤ L) (hl : lv_has ls 4 [(0, .ref b), (1, .ref (bq 11)), (2, .ref (br 0)), (3, .int (nI i))]) (hk : ∀ (tt mm : Nat) (f : Nat → va_E) (u v : RS) (H : Heap) (locs : List Loc) (ls : Array Slot), OKT G cs tt mm f → va_P (dC, dI) vwCl (va_pl (gL G) f) H → KP dC dI cr br u cs bq v H → IV5 u v tt mm → tt ≤ 700 → mm ≤ 3 → va_S (AL s) s.heap H locs → lv_has ls 4 [(0, .ref b), (1, .ref (bq 11)), (2, .ref (br 0)), (3, .int (nI i))] → W p l e room_1 s m #[Value.ref b] below meth c H locs cells slots (lw_Z below #[Value.ref b] s) (F0 m 1631 ls [])) : W p l e room_1 s m #[Value.ref b] below meth c H locs cells slots (lw_Z below #[Value.ref b] s) (F0 m 1196 ls []) := by
  obtain ⟨hx, hb, hr, hml, hown, hts, hX, hbl, hlocks, hgv⟩ := id C0
  have hE := hW.2.2.2.2.2.1
  have hIV := hI5.1
  have hbA : ¬ AL s b := Nat.not_le.mpr hbl
  refine lv_aload_n hx hb dL_law_1196 rfl (lv_at hl 1 rfl) ?_
  refine lv_aload_n hx hb dL_law_1197 rfl (lv_at hl 0 rfl) ?_
  refine lv_iload_n hx hb dL_law_1198 rfl (lv_at hl 3 rfl) ?_
  refine lv_iconst (v := 1) hx hb dL_law_1199 (by decide) ?_
  refine lv_iadd hx hb dL_law_1200 ?_
  refine W.eq (g2 := F0 m 1201 ls (.int (nI (i + 1)) :: [.ref b, .ref (bq 11)])) (congrArg (fun z : Int32 => F0 m 1201 ls (.int z :: [.ref b, .ref (bq 11)])) (nI_add i 1)) ?_
  refine va_sld hx hb hX hbl hbA hS (vp_in_nI (by omega) (by omega)) dL_law_1201 ?_
  refine lv_topi (fun y1 ey1 => ?_)
  obtain ⟨y2, hz2a, hz2b, he2⟩ := ok_X11 hok hT
  refine lx_i hW hQX hP2 hS (va_runV (As := [.int y1]) (rest := []) ⟨hx, hb, hml, hown, noTs⟩ (t_X11_alikes l dC dI H.size G cs tt mm (bq 11) hT y1) ⟨cbE 1 (wd_1242 hE) (wd_115 hE) (wd_1239 hE) rfl rfl (by decide +kernel) ⟨Nat.le_of_ble_eq_true rfl, Nat.le_of_ble_eq_true rfl⟩, (wd_1240 hE), (wd_1241 hE)⟩ ⟨PT.blind, th_recv hW.1 hP hT.1 he2 rfl, (th_pre (av := [.ref (bq 11), .int y1]) trivial hW.1 hP hok hW.2.2.1 hW.2.2.2.1 hE)⟩ rfl rfl hl.1 rfl (lv_room (Nat.le_of_ble_eq_true rfl)) dL_law_1202 ⟨hcc, hss⟩) (fun r2 f H locs hr2 hok hP hP2 hS => ?_)
  refine lv_pop hx hb dL_law_1205 rfl ?_
  refine lv_aload_n hx hb dL_law_1206 rfl (lv_at hl 2 rfl) ?_
  refine lv_aload_n hx hb dL_law_1207 rfl (lv_at hl 0 rfl) ?_
  refine lv_iload_n hx hb dL_law_1208 rfl (lv_at hl 3 rfl) ?_
  refine lv_iconst (v := 1) hx hb dL_law_1209 (by decide) ?_
  refine lv_iadd hx hb dL_law_1210 ?_
  refine W.eq (g2 := F0 m 1211 ls (.int (nI (i + 1)) :: [.ref b, .ref (br 0)])) (congrArg (fun z : Int32 => F0 m 1211 ls (.int z :: [.ref b, .ref (br 0)])) (nI_add i 1)) ?_
  refine va_sld hx hb hX hbl hbA hS (vp_in_nI (by omega) (by omega)) dL_law_1211 ?_
  refine lv_topi (fun y3 ey3 => ?_)
  obtain ⟨ac, hac, hF2⟩ := hIV.2.1
  obtain ⟨v0, hv0, hF15⟩ := hIV.2.2.2.2.1
  obtain ⟨oo, hoo, hF30⟩ := hIV.2.2.2.2.2
  have hAB := hIV.1
  have hBG := ab_0 hAB
  have hGG := bg_g hBG
  refine ly_i hW hQX hP hP2.2 hS (va_runV (As := [.int y3]) (rest := []) ⟨hx, hb, hml, hown, noTs⟩ (r_X12_alikes l dC dI H.size cr br u (rA u 1) rfl y3 (by first | assumption | omega)) ⟨cbE 1 (wd_1765 hE) (wd_126 hE) (wd_1762 hE) rfl rfl (by decide +kernel) ⟨Nat.le_of_ble_eq_true rfl, Nat.le_of_ble_eq_true rfl⟩, (wd_1763 hE), (wd_1764 hE)⟩ ⟨PR.blind, r_recv hW.2.1 hP2.1 rfl, (r_pre (av := [.ref (br 0), .int y3]) hW.2.1 hP2.1 hW.2.2.2.2.1 hE)⟩ rfl rfl hl.1 rfl (lv_room (Nat.le_of_ble_eq_true rfl)) dL_law_1212 ⟨hcc, hss⟩) (fun r4 u4 H locs hpo4 hP2 hP hS => ?_)
  obtain ⟨hr4, hq4⟩ := hpo4
  have hIV2 : IV u4 tt mm := iv_fr hIV hq4 (by decide) (by decide) (by decide) (by decide) (by decide) (by decide)
  have hI52 : IV5 u4 v _ _ := ⟨hIV2, tf_fr hI5.2 hq4 (by decide) (by decide) (by decide) (by decide)⟩
  refine lv_pop hx hb dL_law_1215 rfl ?_
  refine lv_goto (tgt := 1631) hx hb dL_law_1216 (by decide) ?_
  exact hk _ _ _ _ _ _ _ _ hok hP hP2 hI52 (by omega) (by omega) hS (lv_sub hl [0, 1, 2, 3] rfl)
set_option maxHeartbeats 4000000 in
set_option maxRecDepth 100000 in
theorem law_35 {p : Program} {e : Env} {s : State} {m : MethodId} {below : List Frame} {meth : Method} {c : Code} (l : Launch) {b L : Nat} {xs : Nat → Int32} {cells slots : Nat} (C0 : lw_At p s m meth c b L xs) (hL : L ≤ 3072) (hcc : cells ≤ 600000) (hss : slots ≤ 7302250) (dC : Nat → ClassId) (dI : Nat → Nat → Nat) (G : GT) (cs cr : Nat → ClassId) (br adK adV : Nat → Nat) (hW : LWD s dC dI G cs cr br adK adV) (bq : Nat → Nat) (hQX : QXD s G br bq) (hT : Ty G (bq 11) 11) (tt mm : Nat) (f : Nat → va_E) (u v : RS) (H : Heap) (locs : List Loc) (ls : Array Slot) (hok : OKT G cs tt mm f) (hP : va_P (dC, dI) vwCl (va_pl (gL G) f) H) (hP2 : KP dC dI cr br u cs bq v H) (hI5 : IV5 u v tt mm) (htt : tt ≤ 700) (hmm : mm ≤ 3) (hS : va_S (AL s) s.heap H locs) (i : Nat) (hi : i + 6 ≤ L) (hl : lv_has ls 4 [(0, .ref b), (1, .ref (bq 11)), (2, .ref (br 0)), (3, .int (nI i))]) (hk : ∀ (tt mm : Nat) (f : Nat → va_E) (u v : RS) (H : Heap) (locs : List Loc) (ls : Array Slot), OKT G cs tt mm f → va_P (dC, dI) vwCl (va_pl (gL G) f) H → KP dC dI cr br u cs bq v H → IV5 u v tt mm → tt ≤ 700 → mm ≤ 3 → va_S (AL s) s.heap H locs → lv_has ls 4 [(0, .ref b), (1, .ref (bq 11)), (2, .ref (br 0)), (3, .int (nI i))] → W p l e room_1 s m #[Value.ref b] below meth c H locs cells slots (lw_Z below #[Value.ref b] s) (F0 m 1631 ls [])) : W p l e room_1 s m #[Value.ref b] below meth c H locs cells slots (lw_Z below #[Value.ref b] s) (F0 m 1219 ls []) := by
  obtain ⟨hx, hb, hr, hml, hown, hts, hX, hbl, hlocks, hgv⟩ := id C0
  have hE := hW.2.2.2.2.2.1
  have hIV := hI5.1
  have hbA : ¬ AL s b := Nat.not_le.mpr hbl
  refine lv_aload_n hx hb dL_law_1219 rfl (lv_at hl 1 rfl) ?_
  refine lv_aload_n hx hb dL_law_1220 rfl (lv_at hl 0 rfl) ?_
  refine lv_iload_n hx hb dL_law_1221 rfl (lv_at hl 3 rfl) ?_
  refine lv_iconst (v := 1) hx hb dL_law_1222 (by decide) ?_
  refine lv_iadd hx hb dL_law_1223 ?_
  refine W.eq (g2 := F0 m 1224 ls (.int (nI (i + 1)) :: [.ref b, .ref (bq 11)])) (congrArg (fun z : Int32 => F0 m 1224 ls (.int z :: [.ref b, .ref (bq 11)])) (nI_add i 1)) ?_
  refine va_sld hx hb hX hbl hbA hS (vp_in_nI (by omega) (by omega)) dL_law_1224 ?_
  refine lv_topi (fun y1 ey1 => ?_)
  obtain ⟨y2, hz2a, hz2b, he2⟩ := ok_X11 hok hT
  refine lx_i hW hQX hP2 hS (va_runV (As := [.int y1]) (rest := []) ⟨hx, hb, hml, hown, noTs⟩ (t_X11_twin l dC dI H.size G cs tt mm (bq 11) hT y1) ⟨cbE 1 (wd_1246 hE) (wd_115 hE) (wd_1243 hE) rfl rfl (by decide +kernel) ⟨Nat.le_of_ble_eq_true rfl, Nat.le_of_ble_eq_true rfl⟩, (wd_1244 hE), (wd_1245 hE)⟩ ⟨PT.blind, th_recv hW.1 hP hT.1 he2 rfl, (th_pre (av := [.ref (bq 11), .int y1]) trivial hW.1 hP hok hW.2.2.1 hW.2.2.2.1 hE)⟩ rfl rfl hl.1 rfl (lv_room (Nat.le_of_ble_eq_true rfl)) dL_law_1225 ⟨hcc, hss⟩) (fun r2 f H locs hr2 hok hP hP2 hS => ?_)
  refine lv_pop hx hb dL_law_1228 rfl ?_
  refine lv_aload_n hx hb dL_law_1229 rfl (lv_at hl 2 rfl) ?_
  refine lv_aload_n hx hb dL_law_1230 rfl (lv_at hl 0 rfl) ?_
  refine lv_iload_n hx hb dL_law_1231 rfl (lv_at hl 3 rfl) ?_
  refine lv_iconst (v := 1) hx hb dL_law_1232 (by decide) ?_
  refine lv_iadd hx hb dL_law_1233 ?_
  refine W.eq (g2 := F0 m 1234 ls (.int (nI (i + 1)) :: [.ref b, .ref (br 0)])) (congrArg (fun z : Int32 => F0 m 1234 ls (.int z :: [.ref b, .ref (br 0)])) (nI_add i 1)) ?_
  refine va_sld hx hb hX hbl hbA hS (vp_in_nI (by omega) (by omega)) dL_law_1234 ?_
  refine lv_topi (fun y3 ey3 => ?_)
  obtain ⟨ac, hac, hF2⟩ := hIV.2.1
  obtain ⟨v0, hv0, hF15⟩ := hIV.2.2.2.2.1
  obtain ⟨oo, hoo, hF30⟩ := hIV.2.2.2.2.2
  have hAB := hIV.1
  have hBG := ab_0 hAB
  have hGG := bg_g hBG
  refine ly_i hW hQX hP hP2.2 hS (va_runV (As := [.int y3]) (rest := []) ⟨hx, hb, hml, hown, noTs⟩ (r_X12_twin l dC dI H.size cr br u (rA u 1) rfl y3 (by first | assumption | omega)) ⟨cbE 1 (wd_1769 hE) (wd_126 hE) (wd_1766 hE) rfl rfl (by decide +kernel) ⟨Nat.le_of_ble_eq_true rfl, Nat.le_of_ble_eq_true rfl⟩, (wd_1767 hE), (wd_1768 hE)⟩ ⟨PR.blind, r_recv hW.2.1 hP2.1 rfl, (r_pre (av := [.ref (br 0), .int y3]) hW.2.1 hP2.1 hW.2.2.2.2.1 hE)⟩ rfl rfl hl.1 rfl (lv_room (Nat.le_of_ble_eq_true rfl)) dL_law_1235 ⟨hcc, hss⟩) (fun r4 u4 H locs hpo4 hP2 hP hS => ?_)
  obtain ⟨hr4, hq4⟩ := hpo4
  have hIV2 : IV u4 tt mm := iv_fr hIV hq4 (by decide) (by decide) (by decide) (by decide) (by decide) (by decide)
  have hI52 : IV5 u4 v _ _ := ⟨hIV2, tf_fr hI5.2 hq4 (by decide) (by decide) (by decide) (by decide)⟩
  refine lv_pop hx hb dL_law_1238 rfl ?_
  refine lv_goto (tgt := 1631) hx hb dL_law_1239 (by decide) ?_
  exact hk _ _ _ _ _ _ _ _ hok hP hP2 hI52 (by omega) (by omega) hS (lv_sub hl [0, 1, 2, 3] rfl)
set_option maxHeartbeats 4000000 in
set_option maxRecDepth 100000 in
theorem law_36 {p : Program} {e : Env} {s : State} {m : MethodId} {below : List Frame} {meth : Method} {c : Code} (l : Launch) {b L : Nat} {xs : Nat → Int32} {cells slots : Nat} (C0 : lw_At p s m meth c b L xs) (hL : L ≤ 3072) (hcc : cells ≤ 600000) (hss : slots ≤ 7302250) (dC : Nat → ClassId) (dI : Nat → Nat → Nat) (G : GT) (cs cr : Nat → ClassId) (br adK adV : Nat → Nat) (hW : LWD s dC dI G cs cr br adK adV) (bq : Nat → Nat) (hQX : QXD s G br bq) (hT : Ty G (bq 11) 11) (tt mm : Nat) (f : Nat → va_E) (u v : RS) (H : Heap) (locs : List Loc) (ls : Array Slot) (hok : OKT G cs tt mm f) (hP : va_P (dC, dI) vwCl (va_pl (gL G) f) H) (hP2 : KP dC dI cr br u cs bq v H) (hI5 : IV5 u v tt mm) (htt : tt ≤ 700) (hmm : mm ≤ 3) (hS : va_S (AL s) s.heap H locs) (i : Nat) (hi : i + 6 ≤ L) (hl : lv_has ls 4 [(0, .ref b), (1, .ref (bq 11)), (2, .ref (br 0)), (3, .int (nI i))]) (hk : ∀ (tt mm : Nat) (f : Nat → va_E) (u v : RS) (H : Heap) (locs : List Loc) (ls : Array Slot), OKT G cs tt mm f → va_P (dC, dI) vwCl (va_pl (gL G) f) H → KP dC dI cr br u cs bq v H → IV5 u v tt mm → tt ≤ 700 → mm ≤ 3 → va_S (AL s) s.heap H locs → lv_has ls 4 [(0, .ref b), (1, .ref (bq 11)), (2, .ref (br 0)), (3, .int (nI i))] → W p l e room_1 s m #[Value.ref b] below meth c H locs cells slots (lw_Z below #[Value.ref b] s) (F0 m 1631 ls [])) : W p l e room_1 s m #[Value.ref b] below meth c H locs cells slots (lw_Z below #[Value.ref b] s) (F0 m 1242 ls []) := by
  obtain ⟨hx, hb, hr, hml, hown, hts, hX, hbl, hlocks, hgv⟩ := id C0
  have hE := hW.2.2.2.2.2.1
  have hIV := hI5.1
  have hbA : ¬ AL s b := Nat.not_le.mpr hbl
  refine lv_aload_n hx hb dL_law_1242 rfl (lv_at hl 1 rfl) ?_
  refine lv_aload_n hx hb dL_law_1243 rfl (lv_at hl 0 rfl) ?_
  refine lv_iload_n hx hb dL_law_1244 rfl (lv_at hl 3 rfl) ?_
  refine lv_iconst (v := 1) hx hb dL_law_1245 (by decide) ?_
  refine lv_iadd hx hb dL_law_1246 ?_
  refine W.eq (g2 := F0 m 1247 ls (.int (nI (i + 1)) :: [.ref b, .ref (bq 11)])) (congrArg (fun z : Int32 => F0 m 1247 ls (.int z :: [.ref b, .ref (bq 11)])) (nI_add i 1)) ?_
  refine va_sld hx hb hX hbl hbA hS (vp_in_nI (by omega) (by omega)) dL_law_1247 ?_
  refine lv_topi (fun y1 ey1 => ?_)
  refine lv_aload_n hx hb dL_law_1248 rfl (lv_at hl 0 rfl) ?_
  refine lv_iload_n hx hb dL_law_1249 rfl (lv_at hl 3 rfl) ?_
  refine lv_iconst (v := 2) hx hb dL_law_1250 (by decide) ?_
  refine lv_iadd hx hb dL_law_1251 ?_
  refine W.eq (g2 := F0 m 1252 ls (.int (nI (i + 2)) :: [.ref b, .int y1, .ref (bq 11)])) (congrArg (fun z : Int32 => F0 m 1252 ls (.int z :: [.ref b, .int y1, .ref (bq 11)])) (nI_add i 2)) ?_
  refine va_sld hx hb hX hbl hbA hS (vp_in_nI (by omega) (by omega)) dL_law_1252 ?_
  refine lv_topi (fun y2 ey2 => ?_)
  obtain ⟨y3, hz3a, hz3b, he3⟩ := ok_X11 hok hT
  refine lx_i hW hQX hP2 hS (va_runV (As := [.int y1, .int y2]) (rest := []) ⟨hx, hb, hml, hown, noTs⟩ (t_X11_apart l dC dI H.size G cs tt mm (bq 11) hT y1 y2) ⟨cbE 2 (wd_1250 hE) (wd_115 hE) (wd_1247 hE) rfl rfl (by decide +kernel) ⟨Nat.le_of_ble_eq_true rfl, Nat.le_of_ble_eq_true rfl⟩, (wd_1248 hE), (wd_1249 hE)⟩ ⟨PT.blind, th_recv hW.1 hP hT.1 he3 rfl, (th_pre (av := [.ref (bq 11), .int y1, .int y2]) trivial hW.1 hP hok hW.2.2.1 hW.2.2.2.1 hE)⟩ rfl rfl hl.1 rfl (lv_room (Nat.le_of_ble_eq_true rfl)) dL_law_1253 ⟨hcc, hss⟩) (fun r3 f H locs hr3 hok hP hP2 hS => ?_)
  refine lv_pop hx hb dL_law_1256 rfl ?_
  refine lv_aload_n hx hb dL_law_1257 rfl (lv_at hl 2 rfl) ?_
  refine lv_aload_n hx hb dL_law_1258 rfl (lv_at hl 0 rfl) ?_
  refine lv_iload_n hx hb dL_law_1259 rfl (lv_at hl 3 rfl) ?_
  refine lv_iconst (v := 1) hx hb dL_law_1260 (by decide) ?_
  refine lv_iadd hx hb dL_law_1261 ?_
  refine W.eq (g2 := F0 m 1262 ls (.int (nI (i + 1)) :: [.ref b, .ref (br 0)])) (congrArg (fun z : Int32 => F0 m 1262 ls (.int z :: [.ref b, .ref (br 0)])) (nI_add i 1)) ?_
  refine va_sld hx hb hX hbl hbA hS (vp_in_nI (by omega) (by omega)) dL_law_1262 ?_
  refine lv_topi (fun y4 ey4 => ?_)
  refine lv_aload_n hx hb dL_law_1263 rfl (lv_at hl 0 rfl) ?_
  refine lv_iload_n hx hb dL_law_1264 rfl (lv_at hl 3 rfl) ?_
  refine lv_iconst (v := 2) hx hb dL_law_1265 (by decide) ?_
  refine lv_iadd hx hb dL_law_1266 ?_
  refine W.eq (g2 := F0 m 1267 ls (.int (nI (i + 2)) :: [.ref b, .int y4, .ref (br 0)])) (congrArg (fun z : Int32 => F0 m 1267 ls (.int z :: [.ref b, .int y4, .ref (br 0)])) (nI_add i 2)) ?_
  refine va_sld hx hb hX hbl hbA hS (vp_in_nI (by omega) (by omega)) dL_law_1267 ?_
  refine lv_topi (fun y5 ey5 => ?_)
  obtain ⟨ac, hac, hF2⟩ := hIV.2.1
  obtain ⟨v0, hv0, hF15⟩ := hIV.2.2.2.2.1
  obtain ⟨oo, hoo, hF30⟩ := hIV.2.2.2.2.2
  have hAB := hIV.1
  have hBG := ab_0 hAB
  have hGG := bg_g hBG
  refine ly_i hW hQX hP hP2.2 hS (va_runV (As := [.int y4, .int y5]) (rest := []) ⟨hx, hb, hml, hown, noTs⟩ (r_X12_apart l dC dI H.size cr br u (rA u 1) rfl y4 y5 (by first | assumption | omega)) ⟨cbE 2 (wd_1860 hE) (wd_126 hE) (wd_1857 hE) rfl rfl (by decide +kernel) ⟨Nat.le_of_ble_eq_true rfl, Nat.le_of_ble_eq_true rfl⟩, (wd_1858 hE), (wd_1859 hE)⟩ ⟨PR.blind, r_recv hW.2.1 hP2.1 rfl, (r_pre (av := [.ref (br 0), .int y4, .int y5]) hW.2.1 hP2.1 hW.2.2.2.2.1 hE)⟩ rfl rfl hl.1 rfl (lv_room (Nat.le_of_ble_eq_true rfl)) dL_law_1268 ⟨hcc, hss⟩) (fun r6 u6 H locs hpo6 hP2 hP hS => ?_)
  obtain ⟨hr6, hq6⟩ := hpo6
  have hIV2 : IV u6 tt mm := iv_fr hIV hq6 (by decide) (by decide) (by decide) (by decide) (by decide) (by decide)
  have hI52 : IV5 u6 v _ _ := ⟨hIV2, tf_fr hI5.2 hq6 (by decide) (by decide) (by decide) (by decide)⟩
  refine lv_pop hx hb dL_law_1271 rfl ?_
  refine lv_goto (tgt := 1631) hx hb dL_law_1272 (by decide) ?_
  exact hk _ _ _ _ _ _ _ _ hok hP hP2 hI52 (by omega) (by omega) hS (lv_sub hl [0, 1, 2, 3] rfl)
set_option maxHeartbeats 4000000 in
set_option maxRecDepth 100000 in
theorem law_37 {p : Program} {e : Env} {s : State} {m : MethodId} {below : List Frame} {meth : Method} {c : Code} (l : Launch) {b L : Nat} {xs : Nat → Int32} {cells slots : Nat} (C0 : lw_At p s m meth c b L xs) (hL : L ≤ 3072) (hcc : cells ≤ 600000) (hss : slots ≤ 7302250) (dC : Nat → ClassId) (dI : Nat → Nat → Nat) (G : GT) (cs cr : Nat → ClassId) (br adK adV : Nat → Nat) (hW : LWD s dC dI G cs cr br adK adV) (bq : Nat → Nat) (hQX : QXD s G br bq) (hT : Ty G (bq 11) 11) (tt mm : Nat) (f : Nat → va_E) (u v : RS) (H : Heap) (locs : List Loc) (ls : Array Slot) (hok : OKT G cs tt mm f) (hP : va_P (dC, dI) vwCl (va_pl (gL G) f) H) (hP2 : KP dC dI cr br u cs bq v H) (hI5 : IV5 u v tt mm) (htt : tt ≤ 700) (hmm : mm ≤ 3) (hS : va_S (AL s) s.heap H locs) (i : Nat) (hi : i + 6 ≤ L) (hl : lv_has ls 4 [(0, .ref b), (1, .ref (bq 11)), (2, .ref (br 0)), (3, .int (nI i))]) (hk : ∀ (tt mm : Nat) (f : Nat → va_E) (u v : RS) (H : Heap) (locs : List Loc) (ls : Array Slot), OKT G cs tt mm f → va_P (dC, dI) vwCl (va_pl (gL G) f) H → KP dC dI cr br u cs bq v H → IV5 u v tt mm → tt ≤ 700 → mm ≤ 3 → va_S (AL s) s.heap H locs → lv_has ls 4 [(0, .ref b), (1, .ref (bq 11)), (2, .ref (br 0)), (3, .int (nI i))] → W p l e room_1 s m #[Value.ref b] below meth c H locs cells slots (lw_Z below #[Value.ref b] s) (F0 m 1631 ls [])) : W p l e room_1 s m #[Value.ref b] below meth c H locs cells slots (lw_Z below #[Value.ref b] s) (F0 m 1275 ls []) := by
  obtain ⟨hx, hb, hr, hml, hown, hts, hX, hbl, hlocks, hgv⟩ := id C0
  have hE := hW.2.2.2.2.2.1
  have hIV := hI5.1
  have hbA : ¬ AL s b := Nat.not_le.mpr hbl
  refine lv_aload_n hx hb dL_law_1275 rfl (lv_at hl 1 rfl) ?_
  refine lv_aload_n hx hb dL_law_1276 rfl (lv_at hl 0 rfl) ?_
  refine lv_iload_n hx hb dL_law_1277 rfl (lv_at hl 3 rfl) ?_
  refine lv_iconst (v := 1) hx hb dL_law_1278 (by decide) ?_
  refine lv_iadd hx hb dL_law_1279 ?_
  refine W.eq (g2 := F0 m 1280 ls (.int (nI (i + 1)) :: [.ref b, .ref (bq 11)])) (congrArg (fun z : Int32 => F0 m 1280 ls (.int z :: [.ref b, .ref (bq 11)])) (nI_add i 1)) ?_
  refine va_sld hx hb hX hbl hbA hS (vp_in_nI (by omega) (by omega)) dL_law_1280 ?_
  refine lv_topi (fun y1 ey1 => ?_)
  refine lv_aload_n hx hb dL_law_1281 rfl (lv_at hl 0 rfl) ?_
  refine lv_iload_n hx hb dL_law_1282 rfl (lv_at hl 3 rfl) ?_
  refine lv_iconst (v := 2) hx hb dL_law_1283 (by decide) ?_
  refine lv_iadd hx hb dL_law_1284 ?_
  refine W.eq (g2 := F0 m 1285 ls (.int (nI (i + 2)) :: [.ref b, .int y1, .ref (bq 11)])) (congrArg (fun z : Int32 => F0 m 1285 ls (.int z :: [.ref b, .int y1, .ref (bq 11)])) (nI_add i 2)) ?_
  refine va_sld hx hb hX hbl hbA hS (vp_in_nI (by omega) (by omega)) dL_law_1285 ?_
  refine lv_topi (fun y2 ey2 => ?_)
  obtain ⟨y3, hz3a, hz3b, he3⟩ := ok_X11 hok hT
  refine lx_i hW hQX hP2 hS (va_runV (As := [.int y1, .int y2]) (rest := []) ⟨hx, hb, hml, hown, noTs⟩ (t_X11_moves l dC dI H.size G cs tt mm (bq 11) hT y1 y2) ⟨cbE 2 (wd_1258 hE) (wd_115 hE) (wd_1255 hE) rfl rfl (by decide +kernel) ⟨Nat.le_of_ble_eq_true rfl, Nat.le_of_ble_eq_true rfl⟩, (wd_1256 hE), (wd_1257 hE)⟩ ⟨PT.blind, th_recv hW.1 hP hT.1 he3 rfl, (th_pre (av := [.ref (bq 11), .int y1, .int y2]) trivial hW.1 hP hok hW.2.2.1 hW.2.2.2.1 hE)⟩ rfl rfl hl.1 rfl (lv_room (Nat.le_of_ble_eq_true rfl)) dL_law_1286 ⟨hcc, hss⟩) (fun r3 f H locs hr3 hok hP hP2 hS => ?_)
  refine lv_pop hx hb dL_law_1289 rfl ?_
  refine lv_aload_n hx hb dL_law_1290 rfl (lv_at hl 2 rfl) ?_
  refine lv_aload_n hx hb dL_law_1291 rfl (lv_at hl 0 rfl) ?_
  refine lv_iload_n hx hb dL_law_1292 rfl (lv_at hl 3 rfl) ?_
  refine lv_iconst (v := 1) hx hb dL_law_1293 (by decide) ?_
  refine lv_iadd hx hb dL_law_1294 ?_
  refine W.eq (g2 := F0 m 1295 ls (.int (nI (i + 1)) :: [.ref b, .ref (br 0)])) (congrArg (fun z : Int32 => F0 m 1295 ls (.int z :: [.ref b, .ref (br 0)])) (nI_add i 1)) ?_
  refine va_sld hx hb hX hbl hbA hS (vp_in_nI (by omega) (by omega)) dL_law_1295 ?_
  refine lv_topi (fun y4 ey4 => ?_)
  refine lv_aload_n hx hb dL_law_1296 rfl (lv_at hl 0 rfl) ?_
  refine lv_iload_n hx hb dL_law_1297 rfl (lv_at hl 3 rfl) ?_
  refine lv_iconst (v := 2) hx hb dL_law_1298 (by decide) ?_
  refine lv_iadd hx hb dL_law_1299 ?_
  refine W.eq (g2 := F0 m 1300 ls (.int (nI (i + 2)) :: [.ref b, .int y4, .ref (br 0)])) (congrArg (fun z : Int32 => F0 m 1300 ls (.int z :: [.ref b, .int y4, .ref (br 0)])) (nI_add i 2)) ?_
  refine va_sld hx hb hX hbl hbA hS (vp_in_nI (by omega) (by omega)) dL_law_1300 ?_
  refine lv_topi (fun y5 ey5 => ?_)
  obtain ⟨ac, hac, hF2⟩ := hIV.2.1
  obtain ⟨v0, hv0, hF15⟩ := hIV.2.2.2.2.1
  obtain ⟨oo, hoo, hF30⟩ := hIV.2.2.2.2.2
  have hAB := hIV.1
  have hBG := ab_0 hAB
  have hGG := bg_g hBG
  refine ly_i hW hQX hP hP2.2 hS (va_runV (As := [.int y4, .int y5]) (rest := []) ⟨hx, hb, hml, hown, noTs⟩ (r_X12_moves l dC dI H.size cr br u (rA u 1) rfl y4 y5 (by first | assumption | omega)) ⟨cbE 2 (wd_1872 hE) (wd_126 hE) (wd_1869 hE) rfl rfl (by decide +kernel) ⟨Nat.le_of_ble_eq_true rfl, Nat.le_of_ble_eq_true rfl⟩, (wd_1870 hE), (wd_1871 hE)⟩ ⟨PR.blind, r_recv hW.2.1 hP2.1 rfl, (r_pre (av := [.ref (br 0), .int y4, .int y5]) hW.2.1 hP2.1 hW.2.2.2.2.1 hE)⟩ rfl rfl hl.1 rfl (lv_room (Nat.le_of_ble_eq_true rfl)) dL_law_1301 ⟨hcc, hss⟩) (fun r6 u6 H locs hpo6 hP2 hP hS => ?_)
  obtain ⟨hr6, hq6⟩ := hpo6
  have hIV2 : IV u6 tt mm := iv_fr hIV hq6 (by decide) (by decide) (by decide) (by decide) (by decide) (by decide)
  have hI52 : IV5 u6 v _ _ := ⟨hIV2, tf_fr hI5.2 hq6 (by decide) (by decide) (by decide) (by decide)⟩
  refine lv_pop hx hb dL_law_1304 rfl ?_
  refine lv_goto (tgt := 1631) hx hb dL_law_1305 (by decide) ?_
  exact hk _ _ _ _ _ _ _ _ hok hP hP2 hI52 (by omega) (by omega) hS (lv_sub hl [0, 1, 2, 3] rfl)
set_option maxHeartbeats 4000000 in
set_option maxRecDepth 100000 in
theorem law_38 {p : Program} {e : Env} {s : State} {m : MethodId} {below : List Frame} {meth : Method} {c : Code} (l : Launch) {b L : Nat} {xs : Nat → Int32} {cells slots : Nat} (C0 : lw_At p s m meth c b L xs) (hL : L ≤ 3072) (hcc : cells ≤ 600000) (hss : slots ≤ 7302250) (dC : Nat → ClassId) (dI : Nat → Nat → Nat) (G : GT) (cs cr : Nat → ClassId) (br adK adV : Nat → Nat) (hW : LWD s dC dI G cs cr br adK adV) (bq : Nat → Nat) (hQX : QXD s G br bq) (hT : Ty G (bq 11) 11) (tt mm : Nat) (f : Nat → va_E) (u v : RS) (H : Heap) (locs : List Loc) (ls : Array Slot) (hok : OKT G cs tt mm f) (hP : va_P (dC, dI) vwCl (va_pl (gL G) f) H) (hP2 : KP dC dI cr br u cs bq v H) (hI5 : IV5 u v tt mm) (htt : tt ≤ 700) (hmm : mm ≤ 3) (hS : va_S (AL s) s.heap H locs) (i : Nat) (hi : i + 6 ≤ L) (hl : lv_has ls 4 [(0, .ref b), (1, .ref (bq 11)), (2, .ref (br 0)), (3, .int (nI i))]) (hk : ∀ (tt mm : Nat) (f : Nat → va_E) (u v : RS) (H : Heap) (locs : List Loc) (ls : Array Slot), OKT G cs tt mm f → va_P (dC, dI) vwCl (va_pl (gL G) f) H → KP dC dI cr br u cs bq v H → IV5 u v tt mm → tt ≤ 700 → mm ≤ 3 → va_S (AL s) s.heap H locs → lv_has ls 4 [(0, .ref b), (1, .ref (bq 11)), (2, .ref (br 0)), (3, .int (nI i))] → W p l e room_1 s m #[Value.ref b] below meth c H locs cells slots (lw_Z below #[Value.ref b] s) (F0 m 1631 ls [])) : W p l e room_1 s m #[Value.ref b] below meth c H locs cells slots (lw_Z below #[Value.ref b] s) (F0 m 1308 ls []) := by
  obtain ⟨hx, hb, hr, hml, hown, hts, hX, hbl, hlocks, hgv⟩ := id C0
  have hE := hW.2.2.2.2.2.1
  have hIV := hI5.1
  have hbA : ¬ AL s b := Nat.not_le.mpr hbl
  refine lv_aload_n hx hb dL_law_1308 rfl (lv_at hl 1 rfl) ?_
  refine lv_aload_n hx hb dL_law_1309 rfl (lv_at hl 0 rfl) ?_
  refine lv_iload_n hx hb dL_law_1310 rfl (lv_at hl 3 rfl) ?_
  refine lv_iconst (v := 1) hx hb dL_law_1311 (by decide) ?_
  refine lv_iadd hx hb dL_law_1312 ?_
  refine W.eq (g2 := F0 m 1313 ls (.int (nI (i + 1)) :: [.ref b, .ref (bq 11)])) (congrArg (fun z : Int32 => F0 m 1313 ls (.int z :: [.ref b, .ref (bq 11)])) (nI_add i 1)) ?_
  refine va_sld hx hb hX hbl hbA hS (vp_in_nI (by omega) (by omega)) dL_law_1313 ?_
  refine lv_topi (fun y1 ey1 => ?_)
  refine lv_aload_n hx hb dL_law_1314 rfl (lv_at hl 0 rfl) ?_
  refine lv_iload_n hx hb dL_law_1315 rfl (lv_at hl 3 rfl) ?_
  refine lv_iconst (v := 2) hx hb dL_law_1316 (by decide) ?_
  refine lv_iadd hx hb dL_law_1317 ?_
  refine W.eq (g2 := F0 m 1318 ls (.int (nI (i + 2)) :: [.ref b, .int y1, .ref (bq 11)])) (congrArg (fun z : Int32 => F0 m 1318 ls (.int z :: [.ref b, .int y1, .ref (bq 11)])) (nI_add i 2)) ?_
  refine va_sld hx hb hX hbl hbA hS (vp_in_nI (by omega) (by omega)) dL_law_1318 ?_
  refine lv_topi (fun y2 ey2 => ?_)
  refine lv_aload_n hx hb dL_law_1319 rfl (lv_at hl 0 rfl) ?_
  refine lv_iload_n hx hb dL_law_1320 rfl (lv_at hl 3 rfl) ?_
  refine lv_iconst (v := 3) hx hb dL_law_1321 (by decide) ?_
  refine lv_iadd hx hb dL_law_1322 ?_
  refine W.eq (g2 := F0 m 1323 ls (.int (nI (i + 3)) :: [.ref b, .int y2, .int y1, .ref (bq 11)])) (congrArg (fun z : Int32 => F0 m 1323 ls (.int z :: [.ref b, .int y2, .int y1, .ref (bq 11)])) (nI_add i 3)) ?_
  refine va_sld hx hb hX hbl hbA hS (vp_in_nI (by omega) (by omega)) dL_law_1323 ?_
  refine lv_topi (fun y3 ey3 => ?_)
  obtain ⟨y4, hz4a, hz4b, he4⟩ := ok_X11 hok hT
  refine lx_i hW hQX hP2 hS (va_runV (As := [.int y1, .int y2, .int y3]) (rest := []) ⟨hx, hb, hml, hown, noTs⟩ (t_X11_way l dC dI H.size G cs tt mm (bq 11) hT y1 y2 y3) ⟨cbE 3 (wd_1262 hE) (wd_115 hE) (wd_1259 hE) rfl rfl (by decide +kernel) ⟨Nat.le_of_ble_eq_true rfl, Nat.le_of_ble_eq_true rfl⟩, (wd_1260 hE), (wd_1261 hE)⟩ ⟨PT.blind, th_recv hW.1 hP hT.1 he4 rfl, (th_pre (av := [.ref (bq 11), .int y1, .int y2, .int y3]) trivial hW.1 hP hok hW.2.2.1 hW.2.2.2.1 hE)⟩ rfl rfl hl.1 rfl (lv_room (Nat.le_of_ble_eq_true rfl)) dL_law_1324 ⟨hcc, hss⟩) (fun r4 f H locs hr4 hok hP hP2 hS => ?_)
  refine lv_pop hx hb dL_law_1327 rfl ?_
  refine lv_aload_n hx hb dL_law_1328 rfl (lv_at hl 2 rfl) ?_
  refine lv_aload_n hx hb dL_law_1329 rfl (lv_at hl 0 rfl) ?_
  refine lv_iload_n hx hb dL_law_1330 rfl (lv_at hl 3 rfl) ?_
  refine lv_iconst (v := 1) hx hb dL_law_1331 (by decide) ?_
  refine lv_iadd hx hb dL_law_1332 ?_
  refine W.eq (g2 := F0 m 1333 ls (.int (nI (i + 1)) :: [.ref b, .ref (br 0)])) (congrArg (fun z : Int32 => F0 m 1333 ls (.int z :: [.ref b, .ref (br 0)])) (nI_add i 1)) ?_
  refine va_sld hx hb hX hbl hbA hS (vp_in_nI (by omega) (by omega)) dL_law_1333 ?_
  refine lv_topi (fun y5 ey5 => ?_)
  refine lv_aload_n hx hb dL_law_1334 rfl (lv_at hl 0 rfl) ?_
  refine lv_iload_n hx hb dL_law_1335 rfl (lv_at hl 3 rfl) ?_
  refine lv_iconst (v := 2) hx hb dL_law_1336 (by decide) ?_
  refine lv_iadd hx hb dL_law_1337 ?_
  refine W.eq (g2 := F0 m 1338 ls (.int (nI (i + 2)) :: [.ref b, .int y5, .ref (br 0)])) (congrArg (fun z : Int32 => F0 m 1338 ls (.int z :: [.ref b, .int y5, .ref (br 0)])) (nI_add i 2)) ?_
  refine va_sld hx hb hX hbl hbA hS (vp_in_nI (by omega) (by omega)) dL_law_1338 ?_
  refine lv_topi (fun y6 ey6 => ?_)
  refine lv_aload_n hx hb dL_law_1339 rfl (lv_at hl 0 rfl) ?_
  refine lv_iload_n hx hb dL_law_1340 rfl (lv_at hl 3 rfl) ?_
  refine lv_iconst (v := 3) hx hb dL_law_1341 (by decide) ?_
  refine lv_iadd hx hb dL_law_1342 ?_
  refine W.eq (g2 := F0 m 1343 ls (.int (nI (i + 3)) :: [.ref b, .int y6, .int y5, .ref (br 0)])) (congrArg (fun z : Int32 => F0 m 1343 ls (.int z :: [.ref b, .int y6, .int y5, .ref (br 0)])) (nI_add i 3)) ?_
  refine va_sld hx hb hX hbl hbA hS (vp_in_nI (by omega) (by omega)) dL_law_1343 ?_
  refine lv_topi (fun y7 ey7 => ?_)
  obtain ⟨ac, hac, hF2⟩ := hIV.2.1
  obtain ⟨v0, hv0, hF15⟩ := hIV.2.2.2.2.1
  obtain ⟨oo, hoo, hF30⟩ := hIV.2.2.2.2.2
  have hAB := hIV.1
  have hBG := ab_0 hAB
  have hGG := bg_g hBG
  refine ly_i hW hQX hP hP2.2 hS (va_runV (As := [.int y5, .int y6, .int y7]) (rest := []) ⟨hx, hb, hml, hown, noTs⟩ (r_X12_way l dC dI H.size cr br u (rA u 1) rfl y5 y6 y7 (by first | assumption | omega)) ⟨cbE 3 (wd_1876 hE) (wd_126 hE) (wd_1873 hE) rfl rfl (by decide +kernel) ⟨Nat.le_of_ble_eq_true rfl, Nat.le_of_ble_eq_true rfl⟩, (wd_1874 hE), (wd_1875 hE)⟩ ⟨PR.blind, r_recv hW.2.1 hP2.1 rfl, (r_pre (av := [.ref (br 0), .int y5, .int y6, .int y7]) hW.2.1 hP2.1 hW.2.2.2.2.1 hE)⟩ rfl rfl hl.1 rfl (lv_room (Nat.le_of_ble_eq_true rfl)) dL_law_1344 ⟨hcc, hss⟩) (fun r8 u8 H locs hpo8 hP2 hP hS => ?_)
  obtain ⟨hr8, hq8⟩ := hpo8
  have hIV2 : IV u8 tt mm := iv_fr hIV hq8 (by decide) (by decide) (by decide) (by decide) (by decide) (by decide)
  have hI52 : IV5 u8 v _ _ := ⟨hIV2, tf_fr hI5.2 hq8 (by decide) (by decide) (by decide) (by decide)⟩
  refine lv_pop hx hb dL_law_1347 rfl ?_
  refine lv_goto (tgt := 1631) hx hb dL_law_1348 (by decide) ?_
  exact hk _ _ _ _ _ _ _ _ hok hP hP2 hI52 (by omega) (by omega) hS (lv_sub hl [0, 1, 2, 3] rfl)
