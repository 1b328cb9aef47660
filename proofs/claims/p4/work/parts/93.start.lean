set_option maxHeartbeats 4000000 in
set_option maxRecDepth 100000 in
theorem whole_start {p : Program} {e : Env} {s : State} {m : MethodId} {below : List Frame} {meth : Method} {c : Code} (l : Launch) (hflags : l.flags = flags0) {b L : Nat} {xs : Nat → Int32} (hL : L ≤ 3072) (C0 : lw_At p s m meth c b L xs) : W p l e room_1 s m #[Value.ref b] below meth c s.heap [] 0 0 (lw_Z below #[Value.ref b] s) (entryFrame m ([Value.ref b] : List Value).toArray 4) := by
  obtain ⟨hx, hb, hr, hml, hown, hts, hX, hbl, hlocks, hgv⟩ := id C0
  have hE : EX s := ex_of hts
  have hM : AMX s := amx_start hts
  have hA : ∀ q : Nat, s.heap.size ≤ q → AL s q := fun _ h => h
  obtain ⟨c0, iS0, hKn0⟩ := u_known (C := RX0) (T := TX0) (N := 5) (n := 5) (ly_X0 hE (args := #[Value.ref b])) (fun _ h9 => h9) (wd_282 hE)
  obtain ⟨c1, iS1, hKn1⟩ := u_known (C := RX1) (T := TX1) (N := 1) (n := 1) (ly_X1 hE (args := #[Value.ref b])) (fun _ h9 => h9) (wd_349 hE)
  obtain ⟨c2, iS2, hKn2⟩ := u_known (C := RX3) (T := TX3) (N := 3) (n := 3) (ly_X3 hE (args := #[Value.ref b])) (fun _ h9 => h9) (wd_155 hE)
  obtain ⟨c3, iS3, hKn3⟩ := u_known (C := RX4) (T := TX4) (N := 8) (n := 8) (ly_X4 hE (args := #[Value.ref b])) (fun _ h9 => h9) (wd_274 hE)
  obtain ⟨c4, iS4, hKn4⟩ := u_known (C := RX5) (T := TX5) (N := 10) (n := 10) (ly_X5 hE (args := #[Value.ref b])) (fun _ h9 => h9) (wd_175 hE)
  obtain ⟨c5, iS5, hKn5⟩ := u_known (C := RX6) (T := TX6) (N := 3) (n := 3) (ly_X6 hE (args := #[Value.ref b])) (fun _ h9 => h9) (wd_333 hE)
  obtain ⟨c6, iS6, hKn6⟩ := u_known (C := RX7) (T := TX7) (N := 1) (n := 1) (ly_X7 hE (args := #[Value.ref b])) (fun _ h9 => h9) (wd_144 hE)
  obtain ⟨c7, iS7, hKn7⟩ := u_known (C := RX8) (T := TX8) (N := 2) (n := 2) (ly_X8 hE (args := #[Value.ref b])) (fun _ h9 => h9) (wd_259 hE)
  obtain ⟨c8, iS8, hKn8⟩ := u_known (C := RX9) (T := TX9) (N := 6) (n := 6) (ly_X9 hE (args := #[Value.ref b])) (fun _ h9 => h9) (wd_181 hE)
  obtain ⟨c9, iS9, hKn9⟩ := u_known (C := RX10) (T := TX10) (N := 4) (n := 4) (ly_X10 hE (args := #[Value.ref b])) (fun _ h9 => h9) (wd_209 hE)
  obtain ⟨c10, iS10, hKn10⟩ := u_known (C := RX11) (T := TX11) (N := 19) (n := 19) (ly_X11 hE (args := #[Value.ref b])) (fun _ h9 => h9) (wd_136 hE)
  obtain ⟨c11, iS11, hKn11⟩ := u_known (C := RX12) (T := TX12) (N := 31) (n := 31) (ly_X12 hE (args := #[Value.ref b])) (fun _ h9 => h9) (wd_1370 hE)
  obtain ⟨dC, dI, hKc⟩ : ∃ (dC : Nat → ClassId) (dI : Nat → Nat → Nat), ∀ (k : Nat) (q : vw_C), vwCl[k]? = some q → u_Kn s q.1 q.2.1 q.2.2 (dC k) (dI k) := by
    refine ⟨fun k => if k = 0 then c0 else if k = 1 then c1 else if k = 2 then c2 else if k = 3 then c3 else if k = 4 then c4 else if k = 5 then c5 else if k = 6 then c6 else if k = 7 then c7 else if k = 8 then c8 else if k = 9 then c9 else if k = 10 then c10 else c11, fun k => if k = 0 then iS0 else if k = 1 then iS1 else if k = 2 then iS2 else if k = 3 then iS3 else if k = 4 then iS4 else if k = 5 then iS5 else if k = 6 then iS6 else if k = 7 then iS7 else if k = 8 then iS8 else if k = 9 then iS9 else if k = 10 then iS10 else iS11, ?_⟩
    intro k q hq
    match k, hq with
    | 0, hq => cases hq; exact hKn0
    | 1, hq => cases hq; exact hKn1
    | 2, hq => cases hq; exact hKn2
    | 3, hq => cases hq; exact hKn3
    | 4, hq => cases hq; exact hKn4
    | 5, hq => cases hq; exact hKn5
    | 6, hq => cases hq; exact hKn6
    | 7, hq => cases hq; exact hKn7
    | 8, hq => cases hq; exact hKn8
    | 9, hq => cases hq; exact hKn9
    | 10, hq => cases hq; exact hKn10
    | 11, hq => cases hq; exact hKn11
    | k + 12, hq => simp [vwCl] at hq
  have hS : va_S (AL s) s.heap s.heap [] := va_S.rf
  have hK : va_K (dC, dI) vwCl [] s := ⟨hKc, fun k q h => by simp at h⟩
  have hP : va_P (dC, dI) vwCl [] s.heap := fun k q h => by simp at h
  have hD : va_D (AL s) [] := ⟨fun i j p q h => by simp at h, fun k q h => by simp at h⟩
  have hl := lv_entry ([.ref b]) (n := 4) (Nat.le_of_ble_eq_true rfl)
  rw [lg_entry_eq]
  generalize (lg_sl ([.ref b]) ++ List.replicate (4 - (lg_sl ([.ref b])).length) Slot.unset).toArray = ls at hl ⊢
  have hl : lv_has ls 4 [(0, .ref b)] := hl
  refine va_new (ci := 10) (fs := [.null, .null, .null, .null, .int 0, .int 0, .null, .int 0, .null, .null, .null, .null, .null, .null, .null, .null, .null, .null, .null]) (C := RX11) (T := TX11) (N := 19) hx hb (ly_X11 hE) (fun _ h9 => h9) tyX11 tyX11_ok hown (wd_135 hE) (wd_136 hE) (wd_115 hE) hK hP hD hS hA rfl (by decide +kernel) (Nat.le_of_ble_eq_true rfl) (Nat.le_of_ble_eq_true rfl) dL_law_0 (fun q1 H hP hD hS => ?_)
  have hP : va_P (dC, dI) vwCl [(q1, .inr (10, [.null, .null, .null, .null, .int 0, .int 0, .null, .int 0, .null, .null, .null, .null, .null, .null, .null, .null, .null, .null, .null]))] H := hP
  have hD : va_D (AL s) [(q1, .inr (10, [.null, .null, .null, .null, .int 0, .int 0, .null, .int 0, .null, .null, .null, .null, .null, .null, .null, .null, .null, .null, .null]))] := hD
  refine W.widen (k := 1) (n := 19) (Nat.le_of_ble_eq_true rfl) (Nat.le_of_ble_eq_true rfl) ?_
  refine lv_dup hx hb dL_law_3 rfl ?_
  refine cl_v (wc := [(q1, .inr (10, [.null, .null, .null, .null, .int 0, .int 0, .null, .int 0, .null, .null, .null, .null, .null, .null, .null, .null, .null, .null, .null]))]) (wr := []) [0] [] rfl rfl (by decide) (by decide) hK hP hD hS hA (va_runI (As := []) (rest := [.ref q1]) ⟨hx, hb, hml, hown, noTs⟩ (c_X11_init l dC dI H.size q1) ⟨cbE 0 (wd_139 hE) (wd_115 hE) (wd_137 hE) rfl rfl (by decide +kernel) ⟨Nat.le_of_ble_eq_true rfl, Nat.le_of_ble_eq_true rfl⟩, rfl, (wd_138 hE)⟩ ⟨PcE.blind, (pre_E (av := [.ref q1]) (wc := [(q1, .inr (10, [.null, .null, .null, .null, .int 0, .int 0, .null, .int 0, .null, .null, .null, .null, .null, .null, .null, .null, .null, .null, .null]))]) (tysc := []) [0] [] rfl (by decide) rfl rfl hK hP hD hE)⟩ rfl rfl hl.1 rfl (lv_room (Nat.le_of_ble_eq_true rfl)) dL_law_4 ⟨Nat.le_of_ble_eq_true rfl, Nat.le_of_ble_eq_true rfl⟩) (fun u1 H locs hw1 hK hP hD hS => ?_)
  obtain ⟨g1, c1⟩ := u1
  have hK1 : va_K (dC, dI) vwCl (TYS (csX c1)) s := ka_X (c2 := c1) hK
  have hC1 : CE (csX c1) c1 := ce_X (c2 := c1) hK
  have hP : va_P (dC, dI) vwCl (wX (adX q1 g1) c1) H := by unfold wX; rw [← gx_world]; exact hP
  have hD : va_D (AL s) (wX (adX q1 g1) c1) := by unfold wX; rw [← gx_world]; exact hD
  have hI := wX_ij hD
  have hAd := fun k (hk : k < 144) => wX_A hD hk
  have hK : va_K (dC, dI) vwCl [] s := ⟨hKc, fun k q h => by simp at h⟩
  refine W.widen (k := 144) (n := 25318) (Nat.le_of_ble_eq_true rfl) (Nat.le_of_ble_eq_true rfl) ?_
  refine lv_astore_n (lv' := [(1, .ref q1), (0, .ref b)]) hx hb dL_law_7 rfl hl (by decide) rfl (fun ls hl => ?_)
  refine va_new (ci := 11) (fs := [.null, .int 0, .int 0, .int 0, .null, .int 0, .null, .null, .null, .null, .int 0, .int 0, .int 0, .int 0, .int 0, .int 0, .int 0, .int 0, .int 0, .int 0, .int 0, .int 0, .int 0, .null, .null, .null, .null, .null, .null, .null, .int 0]) (C := RX12) (T := TX12) (N := 31) hx hb (ly_X12 hE) (fun _ h9 => h9) tyX12 tyX12_ok hown (wd_1369 hE) (wd_1370 hE) (wd_126 hE) hK hP hD hS hA rfl (by decide +kernel) (Nat.le_of_ble_eq_true rfl) (Nat.le_of_ble_eq_true rfl) dL_law_8 (fun q2 H hP hD hS => ?_)
  obtain ⟨hq2, hne, hP1, hP2, hlt⟩ := dn_last hD hP
  refine W.widen (k := 145) (n := 25349) (Nat.le_of_ble_eq_true rfl) (Nat.le_of_ble_eq_true rfl) ?_
  refine lv_dup hx hb dL_law_11 rfl ?_
  have hF : ∀ q, va_A [(q2, ob0R)] H.size q → AL s q := fun q h => h.elim (fun ⟨k, e9, hk⟩ => by have h9 := List.mem_singleton.mp (List.mem_of_getElem? hk); cases h9; exact hq2) (fun h => Nat.le_trans hS.1 h)
  have hpre : ∀ U : State, U.heap = H → s.WarmedH U.vm → PcX [.ref q2] H.size dC dI [] [(q2, ob0R)] ([.ref q2] : List Value).toArray U := fun U hU hW => ⟨rfl, ⟨by rw [hU], by rw [hU]; exact hP2, va_K.moved hW.alike hK, ⟨fun i j p q hp hq _ => by have h1 := (List.getElem?_eq_some_iff.mp hp).1; have h2 := (List.getElem?_eq_some_iff.mp hq).1; simp at h1 h2; omega, fun _ _ _ => trivial⟩, hE.warm hW⟩, hM.moved hW.alike⟩
  refine va_callv (va_runI (As := []) (rest := [.ref q2]) ⟨hx, hb, hml, hown, noTs⟩ (c_X12_init l dC dI H.size q2) ⟨cbE 0 (wd_1373 hE) (wd_126 hE) (wd_1371 hE) rfl rfl (by decide +kernel) ⟨Nat.le_of_ble_eq_true rfl, Nat.le_of_ble_eq_true rfl⟩, rfl, (wd_1372 hE)⟩ ⟨PcX.blind, hpre⟩ rfl rfl hl.1 rfl (lv_room (Nat.le_of_ble_eq_true rfl)) dL_law_12 ⟨Nat.le_of_ble_eq_true rfl, Nat.le_of_ble_eq_true rfl⟩) hS (fun q _ h => hF q h) hF (fun u2 t H1 locs1 ht hvm hw2 hB hz1 hk1 hS1 => ?_)
  obtain ⟨br, cr⟩ := u2
  have hw2 : br 0 = q2 := hw2
  obtain ⟨hP3, hK3, hD3⟩ := hB
  have hP3 : va_P (dC, dI) vwCl (rW cr br u0R) t.heap := hP3
  rw [ht] at hP3
  have hK3 : va_K (dC, dI) vwCl (RTY cr) s := va_K.moved hvm.symm hK3
  have hD3 : va_D (va_A [(q2, ob0R)] H.size) (rW cr br u0R) := hD3
  have hbr : ∀ i, i < 108 → br i = q2 ∨ H.size ≤ br i := fun i hi => (hD3.2 i _ (rW_at hi)).elim (fun ⟨k, e9, hk⟩ => by have h9 := List.mem_singleton.mp (List.mem_of_getElem? hk); exact Or.inl (congrArg Prod.fst h9)) Or.inr
  have hP4 : va_P (dC, dI) vwCl (wX (adX q1 g1) c1) H1 := pl_keep hP1 (fun k q hq hl9 => hk1 _ hl9 (fun h => h.elim (fun ⟨k9, e9, hk9⟩ => by have h9 := List.mem_singleton.mp (List.mem_of_getElem? hk9); exact hne k q hq (congrArg Prod.fst h9)) (fun h => absurd hl9 (Nat.not_lt.mpr h))))
  obtain ⟨adK, adV, hSX, r0, r1, r2, r3⟩ := sx_start hts hgv
  have hWD : LWD s dC dI (GX (adX q1 g1)) (csX c1) cr br adK adV := by
    refine ⟨hK1, hK3, gx_nd hI, gx_WT hI, rj_D hD3, hE, fun a ha => ?_, fun i hi => ?_, fun i hi hm => ?_, hSX, r0, r1, r2, r3⟩
    · obtain ⟨k, hk, _, rfl⟩ := gx_mem.mp ha
      exact hAd k hk
    · rcases hbr i hi with h | h
      · rw [h]; exact hq2
      · exact Nat.le_trans hS.1 h
    · obtain ⟨k, hk, _, e9⟩ := gx_mem.mp hm
      rcases hbr i hi with h | h
      · exact hne k _ (wX_at hk) (e9.trans h)
      · have h9 := (hP1 k _ (wX_at hk)).lt
        have h8 : adX q1 g1 k < H.size := h9
        omega
  refine lv_astore_n (lv' := [(2, .ref q2), (1, .ref q1), (0, .ref b)]) hx hb dL_law_15 rfl hl (by decide) rfl (fun ls hl => ?_)
  refine lv_iconst (v := 0) hx hb dL_law_16 (by decide) ?_
  refine lv_istore_n (lv' := [(3, .int 0), (2, .ref q2), (1, .ref q1), (0, .ref b)]) hx hb dL_law_17 rfl hl (by decide) rfl (fun ls hl => ?_)
  have hT0 : Ty (GX (adX q1 g1)) (bqX (adX q1 g1) 11) 11 := gx_mk hI (k := 0) (by decide) (by decide) (by decide)
  have hQX : QXD s (GX (adX q1 g1)) br (bqX (adX q1 g1)) := by
    refine ⟨bqX_J hI, fun i hi => ?_, fun i hi => bqX_no hI hi, fun i hi j hj h => ?_, hT0, bqX_lk hI, wt_X11_0 (gx_WT hI) hT0, wt_X11_1 (gx_WT hI) hT0⟩
    · obtain ⟨k, hk, e9⟩ := bqX_at (ad := adX q1 g1) hi
      rw [e9]; exact hAd k hk
    · obtain ⟨k, hk, e9⟩ := bqX_at (ad := adX q1 g1) hj
      rcases hbr i hi with h8 | h8
      · exact hne k _ (wX_at hk) (e9.symm.trans (h.symm.trans h8))
      · have h9 := (hP1 k _ (wX_at hk)).lt
        have h7 : adX q1 g1 k < H.size := h9
        rw [h, e9] at h8
        omega
  have hB0 : BY (fun _ => (0 : Int32)) := fun _ => rfl
  have hI5 : IV5 u0R v0Q 0 0 := ⟨iv_u0, ⟨hB0, hB0, fun _ h => absurd h (Nat.not_lt_zero _)⟩, Or.inl ⟨rfl, rfl, rfl, rfl⟩⟩
  exact law_loop l C0 hL (by decide) (by decide) dC dI (GX (adX q1 g1)) (csX c1) cr br adK adV hWD (bqX (adX q1 g1)) hQX hT0 (L + 6 - 0) 0 0 0 (fX (adX q1 g1) c1) u0R v0Q H1 _ ls rfl (Nat.zero_le _) (gx_OKT hI hC1) (gx_P hI hP4) ⟨hP3, gx_Q hC1 hP4⟩ hI5 (by decide) (by decide) hS1 (by rw [hw2]; exact lv_sub hl [3, 2, 1, 0] rfl)
