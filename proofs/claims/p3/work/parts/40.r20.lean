def bA (f : Nat → Int32) (n k : Nat) : Int32 := if k < n then f k &&& 255 else -1
theorem and255 (x : Int32) : 0 ≤ (x &&& 255).toInt ∧ (x &&& 255).toInt ≤ 255 := by
  obtain ⟨j, hj, e⟩ := pk_andE x (m := 255) 8 (by decide)
  have hj2 : j < 256 := hj
  rw [e, nI_toInt (by omega)]
  omega
theorem bA_f (f : Nat → Int32) (n k : Nat) : ((bA f n k).toInt = -1 ∧ n ≤ k) ∨ (k < n ∧ 0 ≤ (bA f n k).toInt ∧ (bA f n k).toInt ≤ 255) := by
  unfold bA
  by_cases h : k < n
  · rw [if_pos h]
    exact Or.inr ⟨h, and255 _⟩
  · rw [if_neg h]
    exact Or.inl ⟨rfl, by omega⟩
theorem mn_f {x y z : Int32} {X Y : Int} (h : z = if y < x then y else x) (ex : x.toInt = X) (ey : y.toInt = Y) : (z.toInt = X ∧ X ≤ Y) ∨ (z.toInt = Y ∧ Y ≤ X) := by
  by_cases q : y < x
  · rw [if_pos q] at h
    rw [b_lt ey ex] at q
    rw [h]
    omega
  · rw [if_neg q] at h
    rw [b_lt ey ex] at q
    rw [h]
    omega
def fN (u : RS) (k : Nat) : Nat := (rF u k).toNatClampNeg
theorem fN_of {u : RS} {k x : Nat} (h : rF u k = nI x) (hx : x < 2 ^ 31) : fN u k = x := by unfold fN; rw [h, nI_clamp hx]
/-- where the reader stands in a text of n bytes -/
def TK (u : RS) (n : Nat) : Prop := rF u 13 = nI (fN u 13) ∧ rF u 14 = nI (fN u 14) ∧ rF u 15 = nI (fN u 15) ∧ fN u 13 ≤ fN u 14 ∧ fN u 14 ≤ n ∧ fN u 15 ≤ 9999
theorem tk_mk {u : RS} {n x y z : Nat} (h1 : rF u 13 = nI x) (h2 : rF u 14 = nI y) (h3 : rF u 15 = nI z) (hxy : x ≤ y) (hy : y ≤ n) (hn : n ≤ 700) (hz : z ≤ 9999) : TK u n ∧ fN u 13 = x ∧ fN u 14 = y := by
  have e1 := fN_of h1 (by omega)
  have e2 := fN_of h2 (by omega)
  have e3 := fN_of h3 (by omega)
  refine ⟨⟨by rw [e1]; exact h1, by rw [e2]; exact h2, by rw [e3]; exact h3, by omega, by omega, by omega⟩, e1, e2⟩
theorem tk_fr {u u1 : RS} {n : Nat} {js ks : List Nat} {lb : Bool} (h : TK u n) (hf : FR js ks lb u u1) (h13 : 13 ∉ ks) (h14 : 14 ∉ ks) (h15 : 15 ∉ ks) : TK u1 n ∧ fN u1 13 = fN u 13 ∧ fN u1 14 = fN u 14 := by
  have e1 := hf.2.1 13 h13
  have e2 := hf.2.1 14 h14
  have e3 := hf.2.1 15 h15
  have f1 : fN u1 13 = fN u 13 := by unfold fN; rw [e1]
  have f2 : fN u1 14 = fN u 14 := by unfold fN; rw [e2]
  have f3 : fN u1 15 = fN u 15 := by unfold fN; rw [e3]
  refine ⟨⟨by rw [e1, f1]; exact h.1, by rw [e2, f2]; exact h.2.1, by rw [e3, f3]; exact h.2.2.1, ?_⟩, f1, f2⟩
  rw [f1, f2, f3]
  exact h.2.2.2
theorem bg_of {a a' : Nat → Int32} (hB : BG a) (hG : GG a') (hm : GM a a') (h2 : a' 2 = a 2) (hw : ∀ k, 34 ≤ k → k < 554 → a' k = a k) : BG a' := by
  have e3 : wN a' = wN a := by unfold wN; rw [h2]
  have hw10 := bg_w hB
  refine ⟨hG, by rw [e3, h2]; exact hw10.1, by omega, fun x hx => ?_⟩
  rw [e3] at hx
  exact wg_one hm (bg_g hB) (fun k hk => hw _ (by omega) (by omega)) (bg_row hB hx)
theorem bg_zero {a : Nat → Int32} (h : ∀ k, k < 554 → a k = 0) : BG a := by
  have e1 : vN a = 0 := by unfold vN; rw [h 0 (by omega)]; rfl
  have e2 : eN a = 0 := by unfold eN; rw [h 1 (by omega)]; rfl
  have e3 : wN a = 0 := by unfold wN; rw [h 2 (by omega)]; rfl
  exact ⟨⟨by rw [e1]; exact h 0 (by omega), by omega, by rw [e2]; exact h 1 (by omega), by omega, fun v hv => absurd hv (by omega), fun e he => absurd he (by omega)⟩, by rw [e3]; exact h 2 (by omega), by omega, fun w hw => absurd hw (by omega)⟩
/-- a cell behind the edges changes -/
theorem bg_free {a a' : Nat → Int32} {i : Nat} {x : Int32} (hB : BG a) (h1 : 10 + 4 * eN a ≤ i) (h2 : i < 34) (h : a' = upd a i x) : BG a' ∧ vN a' = vN a ∧ eN a' = eN a ∧ wN a' = wN a ∧ ∀ v, v < vN a → od a' v = od a v := by
  have hG := bg_g hB
  have hle := gg_le hG
  have ho : ∀ k, k ≠ i → a' k = a k := fun k hk => by rw [h, pk_un hk]
  have e1 : vN a' = vN a := by unfold vN; rw [ho 0 (by omega)]
  have e2 : eN a' = eN a := by unfold eN; rw [ho 1 (by omega)]
  have e3 : wN a' = wN a := by unfold wN; rw [ho 2 (by omega)]
  have hod : ∀ v, v < vN a → od a' v = od a v := fun v hv => by unfold od; rw [ho _ (by omega)]
  have hev : ∀ e k, e < eN a → k < 4 → ev a' e k = ev a e k := fun e k he hk => by unfold ev; rw [ho _ (by omega)]
  have hm : GM a a' := ⟨by omega, by omega, hod, hev⟩
  have hG' : GG a' := by
    refine ⟨by rw [ho 0 (by omega), e1]; exact gg_v hG, by omega, by rw [ho 1 (by omega), e2]; exact gg_e hG, by omega, fun v hv => ?_, fun e he => ?_⟩
    · rw [e1] at hv
      rw [ho _ (by omega), hod v hv]
      exact gg_od hG hv
    · rw [e2] at he
      obtain ⟨q1, q2, q3, c, q4, q5⟩ := gg_edge hG he
      refine ⟨fun k hk => by rw [ho _ (by omega), hev e k he hk]; exact q1 k hk, by rw [hev e 0 he (by decide), e1]; exact q2, by rw [hev e 2 he (by decide), e1]; exact q3, c, ?_, ?_⟩
      · rw [hev e 0 he (by decide), hev e 1 he (by decide), hod _ q2]; exact q4
      · rw [hev e 2 he (by decide), hev e 3 he (by decide), hod _ q3]; exact q5
  exact ⟨bg_of hB hG' hm (ho 2 (by omega)) (fun k h34 _ => ho k (by omega)), e1, e2, e3, hod⟩
theorem bg_vertex {a a' a1 : Nat → Int32} {x : Nat} (hB : BG a) (hv : vN a ≤ 5) (hx1 : 1 ≤ x) (hx2 : x ≤ 60) (h1 : a1 = upd a (4 + vN a) (nI x)) (h2 : a' = upd a1 0 (nI (vN a + 1))) : BG a' := by
  have hG := bg_g hB
  have hle := gg_le hG
  have ho : ∀ k, k ≠ 0 → k ≠ 4 + vN a → a' k = a k := fun k h0 hk => by rw [h2, pk_un h0, h1, pk_un hk]
  have h0 : a' 0 = nI (vN a + 1) := by rw [h2]; exact pk_us
  have hn : a' (4 + vN a) = nI x := by rw [h2, pk_un (by omega), h1]; exact pk_us
  have e1 : vN a' = vN a + 1 := by unfold vN; rw [h0, nI_clamp (by show vN a + 1 < _; omega)]; rfl
  have e2 : eN a' = eN a := by unfold eN; rw [ho 1 (by omega) (by omega)]
  have hod : ∀ v, v < vN a → od a' v = od a v := fun v hv => by unfold od; rw [ho _ (by omega) (by omega)]
  have hodn : od a' (vN a) = x := by unfold od; rw [hn, nI_clamp (by omega)]
  have hev : ∀ e k, e < eN a → k < 4 → ev a' e k = ev a e k := fun e k he hk => by unfold ev; rw [ho _ (by omega) (by omega)]
  have hm : GM a a' := ⟨by omega, by omega, hod, hev⟩
  have hG' : GG a' := by
    refine ⟨by rw [e1]; exact h0, by omega, by rw [ho 1 (by omega) (by omega), e2]; exact gg_e hG, by omega, fun v hv => ?_, fun e he => ?_⟩
    · by_cases hq : v = vN a
      · subst hq
        rw [hn, hodn]
        exact ⟨rfl, hx1, hx2⟩
      · rw [ho _ (by omega) (by omega), hod v (by omega)]
        exact gg_od hG (by omega)
    · rw [e2] at he
      obtain ⟨q1, q2, q3, c, q4, q5⟩ := gg_edge hG he
      refine ⟨fun k hk => by rw [ho _ (by omega) (by omega), hev e k he hk]; exact q1 k hk, by rw [hev e 0 he (by decide), e1]; omega, by rw [hev e 2 he (by decide), e1]; omega, c, ?_, ?_⟩
      · rw [hev e 0 he (by decide), hev e 1 he (by decide), hod _ q2]; exact q4
      · rw [hev e 2 he (by decide), hev e 3 he (by decide), hod _ q3]; exact q5
  exact bg_of hB hG' hm (ho 2 (by omega) (by omega)) (fun k h34 _ => ho k (by omega) (by omega))
theorem bg_edge {a a' : Nat → Int32} {v1 x1 v2 x2 c : Nat} (hB : BG a) (he : eN a ≤ 5) (h : a' = upd a 1 (nI (eN a + 1))) (c0 : a (10 + 4 * eN a) = nI v1) (c1 : a (10 + 4 * eN a + 1) = nI x1) (c2 : a (10 + 4 * eN a + 2) = nI v2) (c3 : a (10 + 4 * eN a + 3) = nI x2) (l1 : v1 < vN a) (l2 : v2 < vN a) (b1 : x1 ≤ 9999) (b2 : x2 ≤ 9999) (q1 : od a v1 = c * x1) (q2 : od a v2 = c * x2) : BG a' := by
  have hG := bg_g hB
  have hle := gg_le hG
  have ho : ∀ k, k ≠ 1 → a' k = a k := fun k hk => by rw [h, pk_un hk]
  have h1 : a' 1 = nI (eN a + 1) := by rw [h]; exact pk_us
  have e1 : vN a' = vN a := by unfold vN; rw [ho 0 (by omega)]
  have e2 : eN a' = eN a + 1 := by unfold eN; rw [h1, nI_clamp (by show eN a + 1 < _; omega)]; rfl
  have hod : ∀ v, od a' v = od a v := fun v => by unfold od; rw [ho _ (by omega)]
  have hev : ∀ e k, ev a' e k = ev a e k := fun e k => by unfold ev; rw [ho _ (by omega)]
  have z0 : ev a (eN a) 0 = v1 := by show (a (10 + 4 * eN a + 0)).toNatClampNeg = v1; rw [Nat.add_zero, c0, nI_clamp (by omega)]
  have z1 : ev a (eN a) 1 = x1 := by show (a (10 + 4 * eN a + 1)).toNatClampNeg = x1; rw [c1, nI_clamp (by omega)]
  have z2 : ev a (eN a) 2 = v2 := by show (a (10 + 4 * eN a + 2)).toNatClampNeg = v2; rw [c2, nI_clamp (by omega)]
  have z3 : ev a (eN a) 3 = x2 := by show (a (10 + 4 * eN a + 3)).toNatClampNeg = x2; rw [c3, nI_clamp (by omega)]
  have hm : GM a a' := ⟨by omega, by omega, fun v _ => hod v, fun e k _ _ => hev e k⟩
  have hG' : GG a' := by
    refine ⟨by rw [ho 0 (by omega), e1]; exact gg_v hG, by omega, by rw [e2]; exact h1, by omega, fun v hv => ?_, fun e he => ?_⟩
    · rw [ho _ (by omega), hod v]
      exact gg_od hG (by omega)
    · by_cases hq : e = eN a
      · subst hq
        refine ⟨fun k hk => ?_, by rw [hev, z0, e1]; exact l1, by rw [hev, z2, e1]; exact l2, c, by rw [hev, hev, hod, z0, z1]; exact q1, by rw [hev, hev, hod, z2, z3]; exact q2⟩
        rw [ho _ (by omega), hev]
        match k, hk with
        | 0, _ => rw [z0]; exact c0
        | 1, _ => rw [z1]; exact c1
        | 2, _ => rw [z2]; exact c2
        | 3, _ => rw [z3]; exact c3
      · obtain ⟨q1, q2, q3, c, q4, q5⟩ := gg_edge hG (show e < eN a by omega)
        refine ⟨fun k hk => by rw [ho _ (by omega), hev]; exact q1 k hk, by rw [hev, e1]; exact q2, by rw [hev, e1]; exact q3, c, by rw [hev, hev, hod]; exact q4, by rw [hev, hev, hod]; exact q5⟩
  exact bg_of hB hG' hm (ho 2 (by omega)) (fun k h34 _ => ho k (by omega))

set_option maxHeartbeats 4000000 in
set_option maxRecDepth 100000 in
theorem r_X12_byteAt (l : Launch) (dC : Nat → ClassId) (dI : Nat → Nat → Nat) (sz : Nat) (cs : Nat → ClassId) (b : Nat → Nat) (u : RS) (tx : Nat → Int32) (hAc16 : rA u 16 = tx) (k : Nat) (sz1 : Nat) (hF11 : rF u 11 = nI sz1) (hp0 : sz1 ≤ 700) (hp1 : k < 100000) : Met l yX12_byteAt [.code yX12_byteAt cX12_byteAt 2 (some .int)] ({ frames := 0, cells := 0, slots := 0, locals := 0 }) (PR [.ref (b 0), .int (nI k)] sz dC dI cs b u) (vp_Si (fun (r : Int32) => r = bA tx sz1 k)) 0 0 (fun _ => False) := by
  refine Met.ofW (cc := cX12_byteAt) (maxL := 2) (ret := (some .int)) (by decide) rfl ?_
  intro p e s m args below meth c s₁ B hml hv
  obtain ⟨rfl, hsz, hP, hK, hJ, hE⟩ := hv
  have hx := B.exec
  have hb := B.bytes
  have hr := B.returns
  have hown : s.vm.findClass RX12 = some m.cls := findClass_of_methodNamed B.named
  have hlocks := B.notSynchronized
  subst hsz
  have hl := lv_entry ([.ref (b 0), .int (nI k)]) (n := 2) (Nat.le_of_ble_eq_true rfl)
  rw [lg_entry_eq]
  generalize (lg_sl ([.ref (b 0), .int (nI k)]) ++ List.replicate (2 - (lg_sl ([.ref (b 0), .int (nI k)])).length) Slot.unset).toArray = ls at hl ⊢
  have hl : lv_has ls 2 [(0, .ref (b 0)), (1, .int (nI k))] := hl
  refine lv_iload_n hx hb dX12_byteAt_0 rfl (lv_at hl 1 rfl) ?_
  refine lv_aload_n hx hb dX12_byteAt_1 rfl (lv_at hl 0 rfl) ?_
  refine r_get (v := .int (nI sz1)) hx hb (ly_X12 hE) hown hK hP rfl 11 (by decide) (wd_1392 hE) (fun _ h9 => h9) (congrArg (fun z : Int32 => some (Value.int z)) hF11) dX12_byteAt_2 ?_
  refine lv_icmp_ge (tgt := 21) hx hb dX12_byteAt_5 (by decide) (fun c3 => ?_) (fun c3 => ?_)
  · have c3 := (b_le (nI_toInt (n := sz1) (by omega)) (nI_toInt (n := k) (by omega))).mp c3
    refine lv_iconst (v := -1) hx hb dX12_byteAt_21 (by decide) ?_
    exact W.iret (v := -1) hx hb hr (fun t ht hW => ⟨-1, rfl, (by unfold bA; first | (rw [if_pos (by omega)]; assumption) | (rw [if_pos (by omega), ← EX13]; assumption) | (rw [if_neg (by omega)])), ht⟩) (fun _ h => absurd h List.not_mem_nil) dX12_byteAt_22
  · have c3 := mt (b_le (nI_toInt (n := sz1) (by omega)) (nI_toInt (n := k) (by omega))).mpr c3
    refine lv_aload_n hx hb dX12_byteAt_8 rfl (lv_at hl 0 rfl) ?_
    refine r_get (v := .ref (b 16)) hx hb (ly_X12 hE) hown hK hP rfl 9 (by decide) (wd_1390 hE) (fun _ h9 => h9) rfl dX12_byteAt_9 ?_
    refine lv_iload_n hx hb dX12_byteAt_12 rfl (lv_at hl 1 rfl) ?_
    refine r_bald (j := 16) (k := k) (n := 700) (x := tx k) hx hb hK hP (by decide) rfl (by omega) (by decide) (by rw [hAc16]) dX12_byteAt_13 ?_
    refine lv_topi (fun x5 ex5 => ?_)
    refine lv_sipush (v := 255) hx hb dX12_byteAt_14 (by decide) ?_
    have EX13 := ex5
    refine lv_iand hx hb dX12_byteAt_17 ?_
    refine lv_topi (fun x6 ex6 => ?_)
    refine lv_goto (tgt := 22) hx hb dX12_byteAt_18 (by decide) ?_
    exact W.iret (v := x6) hx hb hr (fun t ht hW => ⟨x6, rfl, (by unfold bA; first | (rw [if_pos (by omega)]; assumption) | (rw [if_pos (by omega), ← EX13]; assumption) | (rw [if_neg (by omega)])), ht⟩) (fun _ h => absurd h List.not_mem_nil) dX12_byteAt_22

set_option maxHeartbeats 4000000 in
set_option maxRecDepth 100000 in
theorem r_X12_isSmall (l : Launch) (dC : Nat → ClassId) (dI : Nat → Nat → Nat) (sz : Nat) (cs : Nat → ClassId) (b : Nat → Nat) (u : RS) (x : Int32) : Met l yX12_isSmall [.code yX12_isSmall cX12_isSmall 1 (some .boolean)] ({ frames := 0, cells := 0, slots := 0, locals := 0 }) (PR [.int x] sz dC dI cs b u) (vp_Si (fun (r : Int32) => (r = 1 ∧ (97 ≤ x.toInt ∧ x.toInt ≤ 122)) ∨ (r = 0 ∧ (True)))) 0 0 (fun _ => False) := by
  refine Met.ofW (cc := cX12_isSmall) (maxL := 1) (ret := (some .boolean)) (by decide) rfl ?_
  intro p e s m args below meth c s₁ B hml hv
  obtain ⟨rfl, hsz, hP, hK, hJ, hE⟩ := hv
  have hx := B.exec
  have hb := B.bytes
  have hr := B.returns
  have hown : s.vm.findClass RX12 = some m.cls := findClass_of_methodNamed B.named
  have hlocks := B.notSynchronized
  subst hsz
  have hl := lv_entry ([.int x]) (n := 1) (Nat.le_of_ble_eq_true rfl)
  rw [lg_entry_eq]
  generalize (lg_sl ([.int x]) ++ List.replicate (1 - (lg_sl ([.int x])).length) Slot.unset).toArray = ls at hl ⊢
  have hl : lv_has ls 1 [(0, .int x)] := hl
  refine lv_iload_n hx hb dX12_isSmall_0 rfl (lv_at hl 0 rfl) ?_
  refine lv_bipush (v := 97) hx hb dX12_isSmall_1 (by decide) ?_
  refine lv_icmp_lt (tgt := 16) hx hb dX12_isSmall_3 (by decide) (fun c1 => ?_) (fun c1 => ?_)
  · have c1 := (b_lt (rfl : Int32.toInt x = _) (show Int32.toInt 97 = 97 from rfl)).mp c1
    refine lv_iconst (v := 0) hx hb dX12_isSmall_16 (by decide) ?_
    exact W.zret (v := 0) hx hb hr rfl (fun t ht hW => ⟨0, rfl, Or.inr ⟨rfl, by trivial⟩, ht⟩) (fun _ h => absurd h List.not_mem_nil) dX12_isSmall_17
  · have c1 := mt (b_lt (rfl : Int32.toInt x = _) (show Int32.toInt 97 = 97 from rfl)).mpr c1
    refine lv_iload_n hx hb dX12_isSmall_6 rfl (lv_at hl 0 rfl) ?_
    refine lv_bipush (v := 122) hx hb dX12_isSmall_7 (by decide) ?_
    refine lv_icmp_gt (tgt := 16) hx hb dX12_isSmall_9 (by decide) (fun c2 => ?_) (fun c2 => ?_)
    · have c2 := (b_lt (show Int32.toInt 122 = 122 from rfl) (rfl : Int32.toInt x = _)).mp c2
      refine lv_iconst (v := 0) hx hb dX12_isSmall_16 (by decide) ?_
      exact W.zret (v := 0) hx hb hr rfl (fun t ht hW => ⟨0, rfl, Or.inr ⟨rfl, by trivial⟩, ht⟩) (fun _ h => absurd h List.not_mem_nil) dX12_isSmall_17
    · have c2 := mt (b_lt (show Int32.toInt 122 = 122 from rfl) (rfl : Int32.toInt x = _)).mpr c2
      refine lv_iconst (v := 1) hx hb dX12_isSmall_12 (by decide) ?_
      refine lv_goto (tgt := 17) hx hb dX12_isSmall_13 (by decide) ?_
      exact W.zret (v := 1) hx hb hr rfl (fun t ht hW => ⟨1, rfl, Or.inl ⟨rfl, by first | assumption | omega | rfl | (congr 1; omega)⟩, ht⟩) (fun _ h => absurd h List.not_mem_nil) dX12_isSmall_17

set_option maxHeartbeats 4000000 in
set_option maxRecDepth 100000 in
theorem r_X12_isDigit (l : Launch) (dC : Nat → ClassId) (dI : Nat → Nat → Nat) (sz : Nat) (cs : Nat → ClassId) (b : Nat → Nat) (u : RS) (x : Int32) : Met l yX12_isDigit [.code yX12_isDigit cX12_isDigit 1 (some .boolean)] ({ frames := 0, cells := 0, slots := 0, locals := 0 }) (PR [.int x] sz dC dI cs b u) (vp_Si (fun (r : Int32) => (r = 1 ∧ (48 ≤ x.toInt ∧ x.toInt ≤ 57)) ∨ (r = 0 ∧ (True)))) 0 0 (fun _ => False) := by
  refine Met.ofW (cc := cX12_isDigit) (maxL := 1) (ret := (some .boolean)) (by decide) rfl ?_
  intro p e s m args below meth c s₁ B hml hv
  obtain ⟨rfl, hsz, hP, hK, hJ, hE⟩ := hv
  have hx := B.exec
  have hb := B.bytes
  have hr := B.returns
  have hown : s.vm.findClass RX12 = some m.cls := findClass_of_methodNamed B.named
  have hlocks := B.notSynchronized
  subst hsz
  have hl := lv_entry ([.int x]) (n := 1) (Nat.le_of_ble_eq_true rfl)
  rw [lg_entry_eq]
  generalize (lg_sl ([.int x]) ++ List.replicate (1 - (lg_sl ([.int x])).length) Slot.unset).toArray = ls at hl ⊢
  have hl : lv_has ls 1 [(0, .int x)] := hl
  refine lv_iload_n hx hb dX12_isDigit_0 rfl (lv_at hl 0 rfl) ?_
  refine lv_bipush (v := 48) hx hb dX12_isDigit_1 (by decide) ?_
  refine lv_icmp_lt (tgt := 16) hx hb dX12_isDigit_3 (by decide) (fun c1 => ?_) (fun c1 => ?_)
  · have c1 := (b_lt (rfl : Int32.toInt x = _) (show Int32.toInt 48 = 48 from rfl)).mp c1
    refine lv_iconst (v := 0) hx hb dX12_isDigit_16 (by decide) ?_
    exact W.zret (v := 0) hx hb hr rfl (fun t ht hW => ⟨0, rfl, Or.inr ⟨rfl, by trivial⟩, ht⟩) (fun _ h => absurd h List.not_mem_nil) dX12_isDigit_17
  · have c1 := mt (b_lt (rfl : Int32.toInt x = _) (show Int32.toInt 48 = 48 from rfl)).mpr c1
    refine lv_iload_n hx hb dX12_isDigit_6 rfl (lv_at hl 0 rfl) ?_
    refine lv_bipush (v := 57) hx hb dX12_isDigit_7 (by decide) ?_
    refine lv_icmp_gt (tgt := 16) hx hb dX12_isDigit_9 (by decide) (fun c2 => ?_) (fun c2 => ?_)
    · have c2 := (b_lt (show Int32.toInt 57 = 57 from rfl) (rfl : Int32.toInt x = _)).mp c2
      refine lv_iconst (v := 0) hx hb dX12_isDigit_16 (by decide) ?_
      exact W.zret (v := 0) hx hb hr rfl (fun t ht hW => ⟨0, rfl, Or.inr ⟨rfl, by trivial⟩, ht⟩) (fun _ h => absurd h List.not_mem_nil) dX12_isDigit_17
    · have c2 := mt (b_lt (show Int32.toInt 57 = 57 from rfl) (rfl : Int32.toInt x = _)).mpr c2
      refine lv_iconst (v := 1) hx hb dX12_isDigit_12 (by decide) ?_
      refine lv_goto (tgt := 17) hx hb dX12_isDigit_13 (by decide) ?_
      exact W.zret (v := 1) hx hb hr rfl (fun t ht hW => ⟨1, rfl, Or.inl ⟨rfl, by first | assumption | omega | rfl | (congr 1; omega)⟩, ht⟩) (fun _ h => absurd h List.not_mem_nil) dX12_isDigit_17

set_option maxHeartbeats 4000000 in
set_option maxRecDepth 100000 in
theorem r_X12_ahead (l : Launch) (dC : Nat → ClassId) (dI : Nat → Nat → Nat) (sz : Nat) (cs : Nat → ClassId) (b : Nat → Nat) (u : RS) (tx : Nat → Int32) (hAc16 : rA u 16 = tx) (sz1 : Nat) (e0 : Nat) (v0 : Nat) (hF11 : rF u 11 = nI sz1) (hF14 : rF u 14 = nI e0) (hF15 : rF u 15 = nI v0) (hp0 : sz1 ≤ 700) (hp1 : e0 ≤ sz1) (hp2 : v0 ≤ 9999) : Met l yX12_ahead [.code yX12_ahead cX12_ahead 2 none] ({ frames := 1, cells := 0, slots := 0, locals := 40 }) (PR [.ref (b 0)] sz dC dI cs b u) (va_Qv (fun (u' : RS) => (TK u' sz1) ∧ (e0 ≤ fN u' 13) ∧ (rF u' 12 = 0 ∨ fN u' 13 < fN u' 14) ∧ FR [] [12, 13, 14, 15] false u u') (BR dC dI cs b) (AR b sz)) 0 0 (AR b sz) := sorry

set_option maxHeartbeats 4000000 in
set_option maxRecDepth 100000 in
theorem r_X12_fails (l : Launch) (dC : Nat → ClassId) (dI : Nat → Nat → Nat) (sz : Nat) (cs : Nat → ClassId) (b : Nat → Nat) (u : RS) (x : Int32) : Met l yX12_fails [.code yX12_fails cX12_fails 2 (some .boolean)] ({ frames := 0, cells := 0, slots := 0, locals := 0 }) (PR [.ref (b 0), .int x] sz dC dI cs b u) (va_Qi (fun (r : Int32) (u' : RS) => (r = 0) ∧ FR [] [16, 17, 18] false u u') (BR dC dI cs b) (AR b sz)) 0 0 (AR b sz) := by
  refine Met.ofW (cc := cX12_fails) (maxL := 2) (ret := (some .boolean)) (by decide) rfl ?_
  intro p e s m args below meth c s₁ B hml hv
  obtain ⟨rfl, hsz, hP, hK, hJ, hE⟩ := hv
  have hx := B.exec
  have hb := B.bytes
  have hr := B.returns
  have hown : s.vm.findClass RX12 = some m.cls := findClass_of_methodNamed B.named
  have hlocks := B.notSynchronized
  subst hsz
  have hAL : ∀ i, i < 108 → AR b s.heap.size (b i) := fun i h => Or.inl ⟨i, h, rfl⟩
  have hA : ∀ q : Nat, s.heap.size ≤ q → AR b s.heap.size q := fun q h => Or.inr h
  have hS : va_S (AR b s.heap.size) s.heap s.heap [] := va_S.rf
  have hfr : FR [] [16, 17, 18] false u u := FR.refl
  have hl := lv_entry ([.ref (b 0), .int x]) (n := 2) (Nat.le_of_ble_eq_true rfl)
  rw [lg_entry_eq]
  generalize (lg_sl ([.ref (b 0), .int x]) ++ List.replicate (2 - (lg_sl ([.ref (b 0), .int x])).length) Slot.unset).toArray = ls at hl ⊢
  have hl : lv_has ls 2 [(0, .ref (b 0)), (1, .int x)] := hl
  refine lv_aload_n hx hb dX12_fails_0 rfl (lv_at hl 0 rfl) ?_
  obtain ⟨y1, hy1⟩ : ∃ z : Int32, rF u 16 = z := ⟨_, rfl⟩
  refine r_get (v := .int y1) hx hb (ly_X12 hE) hown hK hP rfl 16 (by decide) (wd_1397 hE) (fun _ h9 => h9) (congrArg (fun z : Int32 => some (Value.int z)) hy1) dX12_fails_1 ?_
  refine lv_if_ne (tgt := 40) hx hb dX12_fails_4 (by decide) (fun c2 => ?_) (fun c2 => ?_)
  · have c2 := mt (b_eq (rfl : Int32.toInt y1 = _) (show Int32.toInt 0 = 0 from rfl)).mpr c2
    refine lv_iconst (v := 0) hx hb dX12_fails_40 (by decide) ?_
    exact W.zret (v := 0) hx hb hr rfl (fun t ht hW => ⟨⟨0, u, rfl, ⟨(by first | rfl | omega | (congr 1; omega) | assumption), hfr⟩, (show va_P (dC, dI) vwCl (rW cs b u) t.heap by rw [ht]; exact hP)⟩, hS.F ht⟩) hS.2.2 dX12_fails_41
  · have c2 := (b_eq (rfl : Int32.toInt y1 = _) (show Int32.toInt 0 = 0 from rfl)).mp c2
    refine lv_aload_n hx hb dX12_fails_7 rfl (lv_at hl 0 rfl) ?_
    refine lv_aload_n hx hb dX12_fails_8 rfl (lv_at hl 0 rfl) ?_
    obtain ⟨y3, hy3⟩ : ∃ z : Int32, rF u 12 = z := ⟨_, rfl⟩
    refine r_get (v := .int y3) hx hb (ly_X12 hE) hown hK hP rfl 12 (by decide) (wd_1393 hE) (fun _ h9 => h9) (congrArg (fun z : Int32 => some (Value.int z)) hy3) dX12_fails_9 ?_
    refine lv_iconst (v := 1) hx hb dX12_fails_12 (by decide) ?_
    refine lv_icmp_ne (tgt := 20) hx hb dX12_fails_13 (by decide) (fun c4 => ?_) (fun c4 => ?_)
    · have c4 := mt (b_eq (rfl : Int32.toInt y3 = _) (show Int32.toInt 1 = 1 from rfl)).mpr c4
      refine lv_iload_n hx hb dX12_fails_20 rfl (lv_at hl 1 rfl) ?_
      refine r_put (v := x) hx hb (ly_X12 hE) tyX12 tyX12_ok nmX12 hown hK hP hJ hAL hS rfl 16 (by decide) (wd_1397 hE) (fun _ h9 => h9) rfl (by decide +kernel) rfl (by decide) dX12_fails_21 (fun u5 H locs hf5 hq5 hP hS => ?_)
      have hF6x := (hq5.2.1 12 (by decide)).trans hy3
      have hfr := FR.step hfr hq5 (fun _ h => absurd h List.not_mem_nil) (by decide) (fun h => rfl)
      refine lv_aload_n hx hb dX12_fails_24 rfl (lv_at hl 0 rfl) ?_
      refine lv_aload_n hx hb dX12_fails_25 rfl (lv_at hl 0 rfl) ?_
      obtain ⟨y7, hy7⟩ : ∃ z : Int32, rF u5 13 = z := ⟨_, rfl⟩
      refine r_get (v := .int y7) hx hb (ly_X12 hE) hown hK hP rfl 13 (by decide) (wd_1394 hE) (fun _ h9 => h9) (congrArg (fun z : Int32 => some (Value.int z)) hy7) dX12_fails_26 ?_
      refine r_put (v := y7) hx hb (ly_X12 hE) tyX12 tyX12_ok nmX12 hown hK hP hJ hAL hS rfl 17 (by decide) (wd_1398 hE) (fun _ h9 => h9) rfl (by decide +kernel) rfl (by decide) dX12_fails_29 (fun u8 H locs hf8 hq8 hP hS => ?_)
      have hF9x := (hq8.2.1 12 (by decide)).trans hF6x
      have hF10x := (hq8.2.1 16 (by decide)).trans hf5
      have hF11x := (hq8.2.1 13 (by decide)).trans hy7
      have hfr := FR.step hfr hq8 (fun _ h => absurd h List.not_mem_nil) (by decide) (fun h => rfl)
      refine lv_aload_n hx hb dX12_fails_32 rfl (lv_at hl 0 rfl) ?_
      refine lv_aload_n hx hb dX12_fails_33 rfl (lv_at hl 0 rfl) ?_
      obtain ⟨y12, hy12⟩ : ∃ z : Int32, rF u8 20 = z := ⟨_, rfl⟩
      refine r_get (v := .int y12) hx hb (ly_X12 hE) hown hK hP rfl 20 (by decide) (wd_1401 hE) (fun _ h9 => h9) (congrArg (fun z : Int32 => some (Value.int z)) hy12) dX12_fails_34 ?_
      refine r_put (v := y12) hx hb (ly_X12 hE) tyX12 tyX12_ok nmX12 hown hK hP hJ hAL hS rfl 18 (by decide) (wd_1399 hE) (fun _ h9 => h9) rfl (by decide +kernel) rfl (by decide) dX12_fails_37 (fun u13 H locs hf13 hq13 hP hS => ?_)
      have hF14x := (hq13.2.1 12 (by decide)).trans hF9x
      have hF15x := (hq13.2.1 16 (by decide)).trans hF10x
      have hF16x := (hq13.2.1 13 (by decide)).trans hF11x
      have hF17x := (hq13.2.1 17 (by decide)).trans hf8
      have hF18x := (hq13.2.1 20 (by decide)).trans hy12
      have hfr := FR.step hfr hq13 (fun _ h => absurd h List.not_mem_nil) (by decide) (fun h => rfl)
      refine lv_iconst (v := 0) hx hb dX12_fails_40 (by decide) ?_
      exact W.zret (v := 0) hx hb hr rfl (fun t ht hW => ⟨⟨0, u13, rfl, ⟨(by first | rfl | omega | (congr 1; omega) | assumption), hfr⟩, (show va_P (dC, dI) vwCl (rW cs b u13) t.heap by rw [ht]; exact hP)⟩, hS.F ht⟩) hS.2.2 dX12_fails_41
    · have c4 := (b_eq (rfl : Int32.toInt y3 = _) (show Int32.toInt 1 = 1 from rfl)).mp c4
      refine lv_iconst (v := 1) hx hb dX12_fails_16 (by decide) ?_
      refine lv_goto (tgt := 21) hx hb dX12_fails_17 (by decide) ?_
      refine r_put (v := 1) hx hb (ly_X12 hE) tyX12 tyX12_ok nmX12 hown hK hP hJ hAL hS rfl 16 (by decide) (wd_1397 hE) (fun _ h9 => h9) rfl (by decide +kernel) rfl (by decide) dX12_fails_21 (fun u19 H locs hf19 hq19 hP hS => ?_)
      have hF20x := (hq19.2.1 12 (by decide)).trans hy3
      have hfr := FR.step hfr hq19 (fun _ h => absurd h List.not_mem_nil) (by decide) (fun h => rfl)
      refine lv_aload_n hx hb dX12_fails_24 rfl (lv_at hl 0 rfl) ?_
      refine lv_aload_n hx hb dX12_fails_25 rfl (lv_at hl 0 rfl) ?_
      obtain ⟨y21, hy21⟩ : ∃ z : Int32, rF u19 13 = z := ⟨_, rfl⟩
      refine r_get (v := .int y21) hx hb (ly_X12 hE) hown hK hP rfl 13 (by decide) (wd_1394 hE) (fun _ h9 => h9) (congrArg (fun z : Int32 => some (Value.int z)) hy21) dX12_fails_26 ?_
      refine r_put (v := y21) hx hb (ly_X12 hE) tyX12 tyX12_ok nmX12 hown hK hP hJ hAL hS rfl 17 (by decide) (wd_1398 hE) (fun _ h9 => h9) rfl (by decide +kernel) rfl (by decide) dX12_fails_29 (fun u22 H locs hf22 hq22 hP hS => ?_)
      have hF23x := (hq22.2.1 12 (by decide)).trans hF20x
      have hF24x := (hq22.2.1 16 (by decide)).trans hf19
      have hF25x := (hq22.2.1 13 (by decide)).trans hy21
      have hfr := FR.step hfr hq22 (fun _ h => absurd h List.not_mem_nil) (by decide) (fun h => rfl)
      refine lv_aload_n hx hb dX12_fails_32 rfl (lv_at hl 0 rfl) ?_
      refine lv_aload_n hx hb dX12_fails_33 rfl (lv_at hl 0 rfl) ?_
      obtain ⟨y26, hy26⟩ : ∃ z : Int32, rF u22 20 = z := ⟨_, rfl⟩
      refine r_get (v := .int y26) hx hb (ly_X12 hE) hown hK hP rfl 20 (by decide) (wd_1401 hE) (fun _ h9 => h9) (congrArg (fun z : Int32 => some (Value.int z)) hy26) dX12_fails_34 ?_
      refine r_put (v := y26) hx hb (ly_X12 hE) tyX12 tyX12_ok nmX12 hown hK hP hJ hAL hS rfl 18 (by decide) (wd_1399 hE) (fun _ h9 => h9) rfl (by decide +kernel) rfl (by decide) dX12_fails_37 (fun u27 H locs hf27 hq27 hP hS => ?_)
      have hF28x := (hq27.2.1 12 (by decide)).trans hF23x
      have hF29x := (hq27.2.1 16 (by decide)).trans hF24x
      have hF30x := (hq27.2.1 13 (by decide)).trans hF25x
      have hF31x := (hq27.2.1 17 (by decide)).trans hf22
      have hF32x := (hq27.2.1 20 (by decide)).trans hy26
      have hfr := FR.step hfr hq27 (fun _ h => absurd h List.not_mem_nil) (by decide) (fun h => rfl)
      refine lv_iconst (v := 0) hx hb dX12_fails_40 (by decide) ?_
      exact W.zret (v := 0) hx hb hr rfl (fun t ht hW => ⟨⟨0, u27, rfl, ⟨(by first | rfl | omega | (congr 1; omega) | assumption), hfr⟩, (show va_P (dC, dI) vwCl (rW cs b u27) t.heap by rw [ht]; exact hP)⟩, hS.F ht⟩) hS.2.2 dX12_fails_41

set_option maxHeartbeats 4000000 in
set_option maxRecDepth 100000 in
theorem r_X12_takesOn (l : Launch) (dC : Nat → ClassId) (dI : Nat → Nat → Nat) (sz : Nat) (cs : Nat → ClassId) (b : Nat → Nat) (u : RS) (tx : Nat → Int32) (hAc16 : rA u 16 = tx) (sz1 : Nat) (e0 : Nat) (v0 : Nat) (hF11 : rF u 11 = nI sz1) (hF14 : rF u 14 = nI e0) (hF15 : rF u 15 = nI v0) (hp0 : sz1 ≤ 700) (hp1 : e0 ≤ sz1) (hp2 : v0 ≤ 9999) : Met l yX12_takesOn [.code yX12_takesOn cX12_takesOn 1 (some .boolean)] ({ frames := 2, cells := 0, slots := 0, locals := 80 }) (PR [.ref (b 0)] sz dC dI cs b u) (va_Qi (fun (r : Int32) (u' : RS) => (r = 1) ∧ (TK u' sz1) ∧ (e0 ≤ fN u' 13) ∧ (rF u' 12 = 0 ∨ fN u' 13 < fN u' 14) ∧ FR [] [12, 13, 14, 15] false u u') (BR dC dI cs b) (AR b sz)) 0 0 (AR b sz) := by
  refine Met.ofW (cc := cX12_takesOn) (maxL := 1) (ret := (some .boolean)) (by decide) rfl ?_
  intro p e s m args below meth c s₁ B hml hv
  obtain ⟨rfl, hsz, hP, hK, hJ, hE⟩ := hv
  have hx := B.exec
  have hb := B.bytes
  have hr := B.returns
  have hown : s.vm.findClass RX12 = some m.cls := findClass_of_methodNamed B.named
  have hlocks := B.notSynchronized
  subst hsz
  have hAL : ∀ i, i < 108 → AR b s.heap.size (b i) := fun i h => Or.inl ⟨i, h, rfl⟩
  have hA : ∀ q : Nat, s.heap.size ≤ q → AR b s.heap.size q := fun q h => Or.inr h
  have hS : va_S (AR b s.heap.size) s.heap s.heap [] := va_S.rf
  have hfr : FR [] [12, 13, 14, 15] false u u := FR.refl
  have hl := lv_entry ([.ref (b 0)]) (n := 1) (Nat.le_of_ble_eq_true rfl)
  rw [lg_entry_eq]
  generalize (lg_sl ([.ref (b 0)]) ++ List.replicate (1 - (lg_sl ([.ref (b 0)])).length) Slot.unset).toArray = ls at hl ⊢
  have hl : lv_has ls 1 [(0, .ref (b 0))] := hl
  refine lv_aload_n hx hb dX12_takesOn_0 rfl (lv_at hl 0 rfl) ?_
  refine rc_v hAL hS hA (va_runV (As := []) (rest := []) ⟨hx, hb, hml, hown, noTs⟩ (r_X12_ahead l dC dI s.heap.size cs b u tx hAc16 sz1 e0 v0 hF11 hF14 hF15 (by first | assumption | omega | rfl | (congr 1; omega)) (by first | assumption | omega | rfl | (congr 1; omega)) (by first | assumption | omega | rfl | (congr 1; omega))) ⟨cbE 0 (wd_1506 hE) (wd_126 hE) (wd_1503 hE) rfl rfl (by decide +kernel) ⟨Nat.le_of_ble_eq_true rfl, Nat.le_of_ble_eq_true rfl⟩, (wd_1505 hE), (wd_56 hE)⟩ ⟨PR.blind, r_recv hK hP rfl, (r_pre (av := [.ref (b 0)]) hK hP hJ hE)⟩ rfl rfl hl.1 rfl (lv_room (Nat.le_of_ble_eq_true rfl)) dX12_takesOn_1 ⟨Nat.le_of_ble_eq_true rfl, Nat.le_of_ble_eq_true rfl⟩) (fun u4 H locs hpo4 hP hS => ?_)
  obtain ⟨h4_0, h4_1, h4_2, hq4⟩ := hpo4
  have hA5 := (hq4.1 16 List.not_mem_nil).trans hAc16
  have hF6x := (hq4.2.1 11 (by decide)).trans hF11
  have hfr := FR.step hfr hq4 (fun _ h => absurd h List.not_mem_nil) (by decide) (fun h => rfl)
  have htk7 := h4_0.2.2.2
  refine lv_iconst (v := 1) hx hb dX12_takesOn_4 (by decide) ?_
  exact W.zret (v := 1) hx hb hr rfl (fun t ht hW => ⟨⟨1, u4, rfl, ⟨(by first | rfl | omega | (congr 1; omega) | assumption), (by first | assumption | omega | rfl | (congr 1; omega)), (by first | assumption | omega | rfl | (congr 1; omega)), (by first | assumption | omega | rfl | (congr 1; omega)), hfr⟩, (show va_P (dC, dI) vwCl (rW cs b u4) t.heap by rw [ht]; exact hP)⟩, hS.F ht⟩) hS.2.2 dX12_takesOn_5

set_option maxHeartbeats 4000000 in
set_option maxRecDepth 100000 in
theorem r_X12_isNumber (l : Launch) (dC : Nat → ClassId) (dI : Nat → Nat → Nat) (sz : Nat) (cs : Nat → ClassId) (b : Nat → Nat) (u : RS) : Met l yX12_isNumber [.code yX12_isNumber cX12_isNumber 1 (some .boolean)] ({ frames := 1, cells := 0, slots := 0, locals := 40 }) (PR [.ref (b 0)] sz dC dI cs b u) (va_Qi (fun (r : Int32) (u' : RS) => ((r = 1 ∧ (True)) ∨ (r = 0 ∧ (True))) ∧ FR [] [16, 17, 18] false u u') (BR dC dI cs b) (AR b sz)) 0 0 (AR b sz) := by
  refine Met.ofW (cc := cX12_isNumber) (maxL := 1) (ret := (some .boolean)) (by decide) rfl ?_
  intro p e s m args below meth c s₁ B hml hv
  obtain ⟨rfl, hsz, hP, hK, hJ, hE⟩ := hv
  have hx := B.exec
  have hb := B.bytes
  have hr := B.returns
  have hown : s.vm.findClass RX12 = some m.cls := findClass_of_methodNamed B.named
  have hlocks := B.notSynchronized
  subst hsz
  have hAL : ∀ i, i < 108 → AR b s.heap.size (b i) := fun i h => Or.inl ⟨i, h, rfl⟩
  have hA : ∀ q : Nat, s.heap.size ≤ q → AR b s.heap.size q := fun q h => Or.inr h
  have hS : va_S (AR b s.heap.size) s.heap s.heap [] := va_S.rf
  have hfr : FR [] [16, 17, 18] false u u := FR.refl
  have hl := lv_entry ([.ref (b 0)]) (n := 1) (Nat.le_of_ble_eq_true rfl)
  rw [lg_entry_eq]
  generalize (lg_sl ([.ref (b 0)]) ++ List.replicate (1 - (lg_sl ([.ref (b 0)])).length) Slot.unset).toArray = ls at hl ⊢
  have hl : lv_has ls 1 [(0, .ref (b 0))] := hl
  refine lv_aload_n hx hb dX12_isNumber_0 rfl (lv_at hl 0 rfl) ?_
  obtain ⟨y1, hy1⟩ : ∃ z : Int32, rF u 12 = z := ⟨_, rfl⟩
  refine r_get (v := .int y1) hx hb (ly_X12 hE) hown hK hP rfl 12 (by decide) (wd_1393 hE) (fun _ h9 => h9) (congrArg (fun z : Int32 => some (Value.int z)) hy1) dX12_isNumber_1 ?_
  refine lv_iconst (v := 3) hx hb dX12_isNumber_4 (by decide) ?_
  refine lv_icmp_eq (tgt := 16) hx hb dX12_isNumber_5 (by decide) (fun c2 => ?_) (fun c2 => ?_)
  · have c2 := (b_eq (rfl : Int32.toInt y1 = _) (show Int32.toInt 3 = 3 from rfl)).mp c2
    refine lv_iconst (v := 1) hx hb dX12_isNumber_16 (by decide) ?_
    refine lv_goto (tgt := 21) hx hb dX12_isNumber_17 (by decide) ?_
    exact W.zret (v := 1) hx hb hr rfl (fun t ht hW => ⟨⟨1, u, rfl, ⟨Or.inl ⟨rfl, by trivial⟩, hfr⟩, (show va_P (dC, dI) vwCl (rW cs b u) t.heap by rw [ht]; exact hP)⟩, hS.F ht⟩) hS.2.2 dX12_isNumber_21
  · have c2 := mt (b_eq (rfl : Int32.toInt y1 = _) (show Int32.toInt 3 = 3 from rfl)).mpr c2
    refine lv_aload_n hx hb dX12_isNumber_8 rfl (lv_at hl 0 rfl) ?_
    refine lv_iconst (v := 2) hx hb dX12_isNumber_9 (by decide) ?_
    refine rc_i hAL hS hA (va_runV (As := [.int 2]) (rest := []) ⟨hx, hb, hml, hown, noTs⟩ (r_X12_fails l dC dI s.heap.size cs b u 2) ⟨cbE 1 (wd_1540 hE) (wd_126 hE) (wd_1537 hE) rfl rfl (by decide +kernel) ⟨Nat.le_of_ble_eq_true rfl, Nat.le_of_ble_eq_true rfl⟩, (wd_1539 hE), (wd_62 hE)⟩ ⟨PR.blind, r_recv hK hP rfl, (r_pre (av := [.ref (b 0), .int 2]) hK hP hJ hE)⟩ rfl rfl hl.1 rfl (lv_room (Nat.le_of_ble_eq_true rfl)) dX12_isNumber_10 ⟨Nat.le_of_ble_eq_true rfl, Nat.le_of_ble_eq_true rfl⟩) (fun r3 u3 H locs hpo3 hP hS => ?_)
    obtain ⟨hr3, hq3⟩ := hpo3
    have hF4x := (hq3.2.1 12 (by decide)).trans hy1
    have hfr := FR.step hfr hq3 (fun _ h => absurd h List.not_mem_nil) (by decide) (fun h => rfl)
    subst hr3
    refine lv_if_eq (tgt := 20) hx hb dX12_isNumber_13 (by decide) (fun c5 => ?_) (fun c5 => absurd c5 (by decide))
    refine lv_iconst (v := 0) hx hb dX12_isNumber_20 (by decide) ?_
    exact W.zret (v := 0) hx hb hr rfl (fun t ht hW => ⟨⟨0, u3, rfl, ⟨Or.inr ⟨rfl, by trivial⟩, hfr⟩, (show va_P (dC, dI) vwCl (rW cs b u3) t.heap by rw [ht]; exact hP)⟩, hS.F ht⟩) hS.2.2 dX12_isNumber_21

set_option maxHeartbeats 4000000 in
set_option maxRecDepth 100000 in
theorem r_X12_someNumber (l : Launch) (dC : Nat → ClassId) (dI : Nat → Nat → Nat) (sz : Nat) (cs : Nat → ClassId) (b : Nat → Nat) (u : RS) (a : Nat → Int32) (hA1 : rA u 1 = a) (tx : Nat → Int32) (hAc16 : rA u 16 = tx) (v : Nat) (sz1 : Nat) (hF11 : rF u 11 = nI sz1) (hp0 : BG a) (hp1 : TK u sz1) (hp2 : sz1 ≤ 700) (hp3 : v < vN a) : Met l yX12_someNumber [.code yX12_someNumber cX12_someNumber 3 (some .int)] ({ frames := 3, cells := 0, slots := 0, locals := 120 }) (PR [.ref (b 0), .int (nI v)] sz dC dI cs b u) (va_Qi (fun (r : Int32) (u' : RS) => (∃ k : Nat, r = nI k ∧ k < od a v) ∧ (TK u' sz1) ∧ (fN u 13 ≤ fN u' 13) ∧ FR [] [12, 13, 14, 15, 16, 17, 18] false u u') (BR dC dI cs b) (AR b sz)) 0 0 (AR b sz) := by
  refine Met.ofW (cc := cX12_someNumber) (maxL := 3) (ret := (some .int)) (by decide) rfl ?_
  intro p e s m args below meth c s₁ B hml hv
  obtain ⟨rfl, hsz, hP, hK, hJ, hE⟩ := hv
  have hx := B.exec
  have hb := B.bytes
  have hr := B.returns
  have hown : s.vm.findClass RX12 = some m.cls := findClass_of_methodNamed B.named
  have hlocks := B.notSynchronized
  subst hsz
  have hAL : ∀ i, i < 108 → AR b s.heap.size (b i) := fun i h => Or.inl ⟨i, h, rfl⟩
  have hA : ∀ q : Nat, s.heap.size ≤ q → AR b s.heap.size q := fun q h => Or.inr h
  have hS : va_S (AR b s.heap.size) s.heap s.heap [] := va_S.rf
  have hfr : FR [] [12, 13, 14, 15, 16, 17, 18] false u u := FR.refl
  have hl := lv_entry ([.ref (b 0), .int (nI v)]) (n := 3) (Nat.le_of_ble_eq_true rfl)
  rw [lg_entry_eq]
  generalize (lg_sl ([.ref (b 0), .int (nI v)]) ++ List.replicate (3 - (lg_sl ([.ref (b 0), .int (nI v)])).length) Slot.unset).toArray = ls at hl ⊢
  have hl : lv_has ls 3 [(0, .ref (b 0)), (1, .int (nI v))] := hl
  have hB := hp0
  have hG := bg_g hp0
  have ha1 := gg_le hG
  have ha1b := bg_w hp0
  have htk3 := hp1.2.2.2
  have hvo := gg_od hG hp3
  refine lv_aload_n hx hb dX12_someNumber_0 rfl (lv_at hl 0 rfl) ?_
  obtain ⟨y6, hy6⟩ : ∃ z : Int32, rF u 12 = z := ⟨_, rfl⟩
  refine r_get (v := .int y6) hx hb (ly_X12 hE) hown hK hP rfl 12 (by decide) (wd_1393 hE) (fun _ h9 => h9) (congrArg (fun z : Int32 => some (Value.int z)) hy6) dX12_someNumber_1 ?_
  refine lv_iconst (v := 3) hx hb dX12_someNumber_4 (by decide) ?_
  refine lv_icmp_eq (tgt := 10) hx hb dX12_someNumber_5 (by decide) (fun c7 => ?_) (fun c7 => ?_)
  · have c7 := (b_eq (rfl : Int32.toInt y6 = _) (show Int32.toInt 3 = 3 from rfl)).mp c7
    refine lv_aload_n hx hb dX12_someNumber_10 rfl (lv_at hl 0 rfl) ?_
    refine lv_iload_n hx hb dX12_someNumber_11 rfl (lv_at hl 1 rfl) ?_
    refine lv_aload_n hx hb dX12_someNumber_12 rfl (lv_at hl 0 rfl) ?_
    refine r_get (v := .int (nI (fN u 15))) hx hb (ly_X12 hE) hown hK hP rfl 15 (by decide) (wd_1396 hE) (fun _ h9 => h9) (congrArg (fun z : Int32 => some (Value.int z)) hp1.2.2.1) dX12_someNumber_13 ?_
    refine vp_callSi (va_Run.run (va_runV (As := [.int (nI v), .int (nI (fN u 15))]) (rest := []) ⟨hx, hb, hml, hown, noTs⟩ (r_X12_round l dC dI s.heap.size cs b u a hA1 v (nI (fN u 15)) (by first | assumption | omega | rfl | (congr 1; omega)) (by first | assumption | omega | rfl | (congr 1; omega))) ⟨cbE 2 (wd_1576 hE) (wd_126 hE) (wd_1573 hE) rfl rfl (by decide +kernel) ⟨Nat.le_of_ble_eq_true rfl, Nat.le_of_ble_eq_true rfl⟩, (wd_1575 hE), (wd_71 hE)⟩ ⟨PR.blind, r_recv hK hP rfl, (r_pre (av := [.ref (b 0), .int (nI v), .int (nI (fN u 15))]) hK hP hJ hE)⟩ rfl rfl hl.1 rfl (lv_room (Nat.le_of_ble_eq_true rfl)) dX12_someNumber_16 ⟨Nat.le_of_ble_eq_true rfl, Nat.le_of_ble_eq_true rfl⟩)) (fun r8 hr8 => ?_)
    have hau8 := (gg_od (a := a) (v := v) (by assumption) (by first | assumption | omega)).2
    obtain ⟨n8, rfl, hn8_0⟩ := hr8
    refine lv_istore_n (lv' := [(2, .int (nI n8)), (0, .ref (b 0)), (1, .int (nI v))]) hx hb dX12_someNumber_19 rfl hl (by decide) rfl (fun ls hl => ?_)
    refine lv_aload_n hx hb dX12_someNumber_20 rfl (lv_at hl 1 rfl) ?_
    refine rc_v hAL hS hA (va_runV (As := []) (rest := []) ⟨hx, hb, hml, hown, noTs⟩ (r_X12_ahead l dC dI s.heap.size cs b u tx hAc16 sz1 (fN u 14) (fN u 15) hF11 hp1.2.1 hp1.2.2.1 (by first | assumption | omega | rfl | (congr 1; omega)) (by first | assumption | omega | rfl | (congr 1; omega)) (by first | assumption | omega | rfl | (congr 1; omega))) ⟨cbE 0 (wd_1506 hE) (wd_126 hE) (wd_1503 hE) rfl rfl (by decide +kernel) ⟨Nat.le_of_ble_eq_true rfl, Nat.le_of_ble_eq_true rfl⟩, (wd_1505 hE), (wd_56 hE)⟩ ⟨PR.blind, r_recv hK hP rfl, (r_pre (av := [.ref (b 0)]) hK hP hJ hE)⟩ rfl rfl hl.1 rfl (lv_room (Nat.le_of_ble_eq_true rfl)) dX12_someNumber_21 ⟨Nat.le_of_ble_eq_true rfl, Nat.le_of_ble_eq_true rfl⟩) (fun u9 H locs hpo9 hP hS => ?_)
    obtain ⟨h9_0, h9_1, h9_2, hq9⟩ := hpo9
    have hA10 := (hq9.1 1 List.not_mem_nil).trans hA1
    have hA11 := (hq9.1 16 List.not_mem_nil).trans hAc16
    have hF12x := (hq9.2.1 11 (by decide)).trans hF11
    have hfr := FR.step hfr hq9 (fun _ h => absurd h List.not_mem_nil) (by decide) (fun h => rfl)
    have htk13 := h9_0.2.2.2
    refine lv_iload_n hx hb dX12_someNumber_24 rfl (lv_at hl 0 rfl) ?_
    obtain ⟨tk1, tk2, tk3⟩ := tk_mk (n := sz1) h9_0.1 h9_0.2.1 h9_0.2.2.1 (by omega) (by omega) (by omega) (by omega)
    exact W.iret (v := nI n8) hx hb hr (fun t ht hW => ⟨⟨nI n8, u9, rfl, ⟨⟨n8, rfl, by first | assumption | omega | rfl | (congr 1; omega)⟩, (by exact tk1), (by omega), hfr⟩, (show va_P (dC, dI) vwCl (rW cs b u9) t.heap by rw [ht]; exact hP)⟩, hS.F ht⟩) hS.2.2 dX12_someNumber_25
  · have c7 := mt (b_eq (rfl : Int32.toInt y6 = _) (show Int32.toInt 3 = 3 from rfl)).mpr c7
    refine lv_iconst (v := 0) hx hb dX12_someNumber_8 (by decide) ?_
    obtain ⟨tk1, tk2, tk3⟩ := tk_mk (n := sz1) hp1.1 hp1.2.1 hp1.2.2.1 (by omega) (by omega) (by omega) (by omega)
    exact W.iret (v := 0) hx hb hr (fun t ht hW => ⟨⟨0, u, rfl, ⟨⟨0, rfl, by first | assumption | omega | rfl | (congr 1; omega)⟩, (by exact tk1), (by omega), hfr⟩, (show va_P (dC, dI) vwCl (rW cs b u) t.heap by rw [ht]; exact hP)⟩, hS.F ht⟩) hS.2.2 dX12_someNumber_9

set_option maxHeartbeats 4000000 in
set_option maxRecDepth 100000 in
theorem r_X12_aVertex (l : Launch) (dC : Nat → ClassId) (dI : Nat → Nat → Nat) (sz : Nat) (cs : Nat → ClassId) (b : Nat → Nat) (u : RS) (a : Nat → Int32) (hA1 : rA u 1 = a) (tx : Nat → Int32) (hAc16 : rA u 16 = tx) (sz1 : Nat) (hF11 : rF u 11 = nI sz1) (hp0 : BG a) (hp1 : TK u sz1) (hp2 : sz1 ≤ 700) : Met l yX12_aVertex [.code yX12_aVertex cX12_aVertex 1 (some .boolean)] ({ frames := 3, cells := 0, slots := 0, locals := 120 }) (PR [.ref (b 0)] sz dC dI cs b u) (va_Qi (fun (r : Int32) (u' : RS) => ((r = 1 ∧ (fN u 14 ≤ fN u' 13)) ∨ (r = 0 ∧ (True))) ∧ (BG (rA u' 1)) ∧ (∀ k, 554 ≤ k → (rA u' 1) k = a k) ∧ (TK u' sz1) ∧ (fN u 13 ≤ fN u' 13) ∧ FR [1] [12, 13, 14, 15, 16, 17, 18] false u u') (BR dC dI cs b) (AR b sz)) 0 0 (AR b sz) := by
  refine Met.ofW (cc := cX12_aVertex) (maxL := 1) (ret := (some .boolean)) (by decide) rfl ?_
  intro p e s m args below meth c s₁ B hml hv
  obtain ⟨rfl, hsz, hP, hK, hJ, hE⟩ := hv
  have hx := B.exec
  have hb := B.bytes
  have hr := B.returns
  have hown : s.vm.findClass RX12 = some m.cls := findClass_of_methodNamed B.named
  have hlocks := B.notSynchronized
  subst hsz
  have hAL : ∀ i, i < 108 → AR b s.heap.size (b i) := fun i h => Or.inl ⟨i, h, rfl⟩
  have hA : ∀ q : Nat, s.heap.size ≤ q → AR b s.heap.size q := fun q h => Or.inr h
  have hS : va_S (AR b s.heap.size) s.heap s.heap [] := va_S.rf
  have hfr : FR [1] [12, 13, 14, 15, 16, 17, 18] false u u := FR.refl
  have hl := lv_entry ([.ref (b 0)]) (n := 1) (Nat.le_of_ble_eq_true rfl)
  rw [lg_entry_eq]
  generalize (lg_sl ([.ref (b 0)]) ++ List.replicate (1 - (lg_sl ([.ref (b 0)])).length) Slot.unset).toArray = ls at hl ⊢
  have hl : lv_has ls 1 [(0, .ref (b 0))] := hl
  have hB := hp0
  have hG := bg_g hp0
  have ha1 := gg_le hG
  have ha1b := bg_w hp0
  have htk3 := hp1.2.2.2
  refine lv_aload_n hx hb dX12_aVertex_0 rfl (lv_at hl 0 rfl) ?_
  refine lv_iconst (v := 0) hx hb dX12_aVertex_1 (by decide) ?_
  refine vp_callSi (va_Run.run (va_runV (As := [.int (nI 0)]) (rest := []) ⟨hx, hb, hml, hown, noTs⟩ (r_X12_of l dC dI s.heap.size cs b u a hA1 0 (by first | assumption | omega | rfl | (congr 1; omega))) ⟨cbE 1 (wd_1536 hE) (wd_126 hE) (wd_1533 hE) rfl rfl (by decide +kernel) ⟨Nat.le_of_ble_eq_true rfl, Nat.le_of_ble_eq_true rfl⟩, (wd_1535 hE), (wd_61 hE)⟩ ⟨PR.blind, r_recv hK hP rfl, (r_pre (av := [.ref (b 0), .int (nI 0)]) hK hP hJ hE)⟩ rfl rfl hl.1 rfl (lv_room (Nat.le_of_ble_eq_true rfl)) dX12_aVertex_2 ⟨Nat.le_of_ble_eq_true rfl, Nat.le_of_ble_eq_true rfl⟩)) (fun r5 hr5 => ?_)
  have hr5 := hr5.trans (gg_v hG)
  subst hr5
  refine lv_bipush (v := 6) hx hb dX12_aVertex_5 (by decide) ?_
  refine lv_icmp_ne (tgt := 17) hx hb dX12_aVertex_7 (by decide) (fun c6 => ?_) (fun c6 => ?_)
  · have c6 := mt (b_eq (nI_toInt (n := vN a) (by omega)) (show Int32.toInt 6 = 6 from rfl)).mpr c6
    refine lv_aload_n hx hb dX12_aVertex_17 rfl (lv_at hl 0 rfl) ?_
    refine rc_v hAL hS hA (va_runV (As := []) (rest := []) ⟨hx, hb, hml, hown, noTs⟩ (r_X12_ahead l dC dI s.heap.size cs b u tx hAc16 sz1 (fN u 14) (fN u 15) hF11 hp1.2.1 hp1.2.2.1 (by first | assumption | omega | rfl | (congr 1; omega)) (by first | assumption | omega | rfl | (congr 1; omega)) (by first | assumption | omega | rfl | (congr 1; omega))) ⟨cbE 0 (wd_1506 hE) (wd_126 hE) (wd_1503 hE) rfl rfl (by decide +kernel) ⟨Nat.le_of_ble_eq_true rfl, Nat.le_of_ble_eq_true rfl⟩, (wd_1505 hE), (wd_56 hE)⟩ ⟨PR.blind, r_recv hK hP rfl, (r_pre (av := [.ref (b 0)]) hK hP hJ hE)⟩ rfl rfl hl.1 rfl (lv_room (Nat.le_of_ble_eq_true rfl)) dX12_aVertex_18 ⟨Nat.le_of_ble_eq_true rfl, Nat.le_of_ble_eq_true rfl⟩) (fun u7 H locs hpo7 hP hS => ?_)
    obtain ⟨h7_0, h7_1, h7_2, hq7⟩ := hpo7
    have hA8 := (hq7.1 1 List.not_mem_nil).trans hA1
    have hA9 := (hq7.1 16 List.not_mem_nil).trans hAc16
    have hF10x := (hq7.2.1 11 (by decide)).trans hF11
    have hfr := FR.step hfr hq7 (fun _ h => absurd h List.not_mem_nil) (by decide) (fun h => rfl)
    have htk11 := h7_0.2.2.2
    refine lv_aload_n hx hb dX12_aVertex_21 rfl (lv_at hl 0 rfl) ?_
    refine rc_i hAL hS hA (va_runV (As := []) (rest := []) ⟨hx, hb, hml, hown, noTs⟩ (r_X12_isNumber l dC dI H.size cs b u7) ⟨cbE 0 (wd_1544 hE) (wd_126 hE) (wd_1541 hE) rfl rfl (by decide +kernel) ⟨Nat.le_of_ble_eq_true rfl, Nat.le_of_ble_eq_true rfl⟩, (wd_1543 hE), (wd_63 hE)⟩ ⟨PR.blind, r_recv hK hP rfl, (r_pre (av := [.ref (b 0)]) hK hP hJ hE)⟩ rfl rfl hl.1 rfl (lv_room (Nat.le_of_ble_eq_true rfl)) dX12_aVertex_22 ⟨Nat.le_of_ble_eq_true rfl, Nat.le_of_ble_eq_true rfl⟩) (fun r12 u12 H locs hpo12 hP hS => ?_)
    obtain ⟨hr12, hq12⟩ := hpo12
    have hA13 := (hq12.1 1 List.not_mem_nil).trans hA8
    have hA14 := (hq12.1 16 List.not_mem_nil).trans hA9
    have hF15x := (hq12.2.1 11 (by decide)).trans hF10x
    have hF16x := (hq12.2.1 13 (by decide)).trans h7_0.1
    have hF17x := (hq12.2.1 14 (by decide)).trans h7_0.2.1
    have hF18x := (hq12.2.1 15 (by decide)).trans h7_0.2.2.1
    have hfr := FR.step hfr hq12 (fun _ h => absurd h List.not_mem_nil) (by decide) (fun h => rfl)
    rcases hr12 with ⟨rfl, hb12⟩ | ⟨rfl, hb12⟩
    · refine lv_if_ne (tgt := 30) hx hb dX12_aVertex_25 (by decide) (fun c19 => ?_) (fun c19 => absurd c19 (by decide))
      refine lv_aload_n hx hb dX12_aVertex_30 rfl (lv_at hl 0 rfl) ?_
      refine r_get (v := .int (nI (fN u7 15))) hx hb (ly_X12 hE) hown hK hP rfl 15 (by decide) (wd_1396 hE) (fun _ h9 => h9) (congrArg (fun z : Int32 => some (Value.int z)) hF18x) dX12_aVertex_31 ?_
      refine lv_iconst (v := 1) hx hb dX12_aVertex_34 (by decide) ?_
      refine lv_bipush (v := 60) hx hb dX12_aVertex_35 (by decide) ?_
      refine vp_callSi (va_Run.run (va_runS (As := [.int (nI (fN u7 15)), .int 1, .int 60]) (rest := []) ⟨hx, hb, hml, hown, noTs⟩ (r_X12_isFrom l dC dI H.size cs b u12 a hA13 (nI (fN u7 15)) 1 60 ((1 : Int)) ((60 : Int)) (show Int32.toInt 1 = 1 from rfl) (show Int32.toInt 60 = 60 from rfl)) ⟨cbE 3 (wd_1494 hE) (wd_126 hE) (wd_1492 hE) rfl rfl (by decide +kernel) ⟨Nat.le_of_ble_eq_true rfl, Nat.le_of_ble_eq_true rfl⟩, (wd_1493 hE)⟩ ⟨PR.blind, (r_pre (av := [.int (nI (fN u7 15)), .int 1, .int 60]) hK hP hJ hE)⟩ rfl rfl hl.1 rfl (lv_room (Nat.le_of_ble_eq_true rfl)) dX12_aVertex_37 ⟨Nat.le_of_ble_eq_true rfl, Nat.le_of_ble_eq_true rfl⟩)) (fun r20 hr20 => ?_)
      rcases hr20 with ⟨rfl, hb20⟩ | ⟨rfl, hb20⟩
      · have hv15 := nI_toInt (n := (fN u7 15)) (by omega)
        refine lv_if_ne (tgt := 49) hx hb dX12_aVertex_40 (by decide) (fun c21 => ?_) (fun c21 => absurd c21 (by decide))
        refine lv_aload_n hx hb dX12_aVertex_49 rfl (lv_at hl 0 rfl) ?_
        refine r_get (v := .ref (b 1)) hx hb (ly_X12 hE) hown hK hP rfl 0 (by decide) (wd_1381 hE) (fun _ h9 => h9) rfl dX12_aVertex_50 ?_
        refine lv_iconst (v := 4) hx hb dX12_aVertex_53 (by decide) ?_
        refine lv_aload_n hx hb dX12_aVertex_54 rfl (lv_at hl 0 rfl) ?_
        refine lv_iconst (v := 0) hx hb dX12_aVertex_55 (by decide) ?_
        refine vp_callSi (va_Run.run (va_runV (As := [.int (nI 0)]) (rest := [.int 4, .ref (b 1)]) ⟨hx, hb, hml, hown, noTs⟩ (r_X12_of l dC dI H.size cs b u12 a hA13 0 (by first | assumption | omega | rfl | (congr 1; omega))) ⟨cbE 1 (wd_1536 hE) (wd_126 hE) (wd_1533 hE) rfl rfl (by decide +kernel) ⟨Nat.le_of_ble_eq_true rfl, Nat.le_of_ble_eq_true rfl⟩, (wd_1535 hE), (wd_61 hE)⟩ ⟨PR.blind, r_recv hK hP rfl, (r_pre (av := [.ref (b 0), .int (nI 0)]) hK hP hJ hE)⟩ rfl rfl hl.1 rfl (lv_room (Nat.le_of_ble_eq_true rfl)) dX12_aVertex_56 ⟨Nat.le_of_ble_eq_true rfl, Nat.le_of_ble_eq_true rfl⟩)) (fun r22 hr22 => ?_)
        have hr22 := hr22.trans (gg_v hG)
        subst hr22
        refine lv_iadd hx hb dX12_aVertex_59 ?_
        refine W.eq (g2 := F0 m 60 ls [.int (nI (4 + (vN a))), .ref (b 1)]) (congrArg (fun z : Int32 => F0 m 60 ls (.int z :: [.ref (b 1)])) (nI_add 4 (vN a))) ?_
        refine lv_aload_n hx hb dX12_aVertex_60 rfl (lv_at hl 0 rfl) ?_
        refine r_get (v := .int (nI (fN u7 15))) hx hb (ly_X12 hE) hown hK hP rfl 15 (by decide) (wd_1396 hE) (fun _ h9 => h9) (congrArg (fun z : Int32 => some (Value.int z)) hF18x) dX12_aVertex_61 ?_
        refine r_iast (j := 1) (k := 4 + (vN a)) (n := 7202) (x := nI (fN u7 15)) hx hb hK hP hJ hAL hS (by decide) (fun _ => rfl) hA13 (by omega) (by decide) dX12_aVertex_64 (fun u23 H locs hs23 hq23 hP hS => ?_)
        obtain ⟨w23, hw23⟩ : ∃ g, g = upd a (4 + (vN a)) (nI (fN u7 15)) := ⟨_, rfl⟩
        rw [← hw23] at hs23
        have hA24 := (hq23.1 16 (by decide)).trans hA14
        have hF25x := (hq23.2.1 11 List.not_mem_nil).trans hF15x
        have hF26x := (hq23.2.1 13 List.not_mem_nil).trans hF16x
        have hF27x := (hq23.2.1 14 List.not_mem_nil).trans hF17x
        have hF28x := (hq23.2.1 15 List.not_mem_nil).trans hF18x
        have hfr := FR.step hfr hq23 (by decide) (fun _ h => absurd h List.not_mem_nil) (fun h => rfl)
        have K1 := hw23
        refine lv_aload_n hx hb dX12_aVertex_65 rfl (lv_at hl 0 rfl) ?_
        refine r_get (v := .ref (b 1)) hx hb (ly_X12 hE) hown hK hP rfl 0 (by decide) (wd_1381 hE) (fun _ h9 => h9) rfl dX12_aVertex_66 ?_
        refine lv_iconst (v := 0) hx hb dX12_aVertex_69 (by decide) ?_
        refine lv_dup2_11 hx hb dX12_aVertex_70 rfl rfl ?_
        refine r_iald (j := 1) (k := 0) (n := 7202) (x := nI (vN a)) hx hb hK hP (by decide) rfl (by decide) (by decide) (by rw [hs23]; exact (show w23 0 = nI (vN a) by rw [K1, pk_un (by omega)]; exact gg_v hG)) dX12_aVertex_71 ?_
        refine lv_iconst (v := 1) hx hb dX12_aVertex_72 (by decide) ?_
        refine lv_iadd hx hb dX12_aVertex_73 ?_
        refine W.eq (g2 := F0 m 74 ls [.int (nI ((vN a) + 1)), .int 0, .ref (b 1)]) (congrArg (fun z : Int32 => F0 m 74 ls (.int z :: [.int 0, .ref (b 1)])) (nI_add (vN a) 1)) ?_
        refine r_iast (j := 1) (k := 0) (n := 7202) (x := nI ((vN a) + 1)) hx hb hK hP hJ hAL hS (by decide) (fun _ => rfl) hs23 (by decide) (by decide) dX12_aVertex_74 (fun u30 H locs hs30 hq30 hP hS => ?_)
        obtain ⟨w30, hw30⟩ : ∃ g, g = upd w23 0 (nI ((vN a) + 1)) := ⟨_, rfl⟩
        rw [← hw30] at hs30
        have hA31 := (hq30.1 16 (by decide)).trans hA24
        have hF32x := (hq30.2.1 11 List.not_mem_nil).trans hF25x
        have hF33x := (hq30.2.1 13 List.not_mem_nil).trans hF26x
        have hF34x := (hq30.2.1 14 List.not_mem_nil).trans hF27x
        have hF35x := (hq30.2.1 15 List.not_mem_nil).trans hF28x
        have hfr := FR.step hfr hq30 (by decide) (fun _ h => absurd h List.not_mem_nil) (fun h => rfl)
        have bgx := bg_vertex hp0 (by omega) (by omega) (by omega) K1 hw30
        have bgo : ∀ k, 554 ≤ k → w30 k = a k := fun k hk => by rw [hw30, pk_un (by omega), K1, pk_un (by omega)]
        refine lv_aload_n hx hb dX12_aVertex_75 rfl (lv_at hl 0 rfl) ?_
        refine rc_i hAL hS hA (va_runV (As := []) (rest := []) ⟨hx, hb, hml, hown, noTs⟩ (r_X12_takesOn l dC dI H.size cs b u30 tx hA31 sz1 (fN u7 14) (fN u7 15) hF32x hF34x hF35x (by first | assumption | omega | rfl | (congr 1; omega)) (by first | assumption | omega | rfl | (congr 1; omega)) (by first | assumption | omega | rfl | (congr 1; omega))) ⟨cbE 0 (wd_1548 hE) (wd_126 hE) (wd_1545 hE) rfl rfl (by decide +kernel) ⟨Nat.le_of_ble_eq_true rfl, Nat.le_of_ble_eq_true rfl⟩, (wd_1547 hE), (wd_64 hE)⟩ ⟨PR.blind, r_recv hK hP rfl, (r_pre (av := [.ref (b 0)]) hK hP hJ hE)⟩ rfl rfl hl.1 rfl (lv_room (Nat.le_of_ble_eq_true rfl)) dX12_aVertex_76 ⟨Nat.le_of_ble_eq_true rfl, Nat.le_of_ble_eq_true rfl⟩) (fun r36 u36 H locs hpo36 hP hS => ?_)
        obtain ⟨hr36, h36_0, h36_1, h36_2, hq36⟩ := hpo36
        have hA37 := (hq36.1 16 List.not_mem_nil).trans hA31
        have hA38 := (hq36.1 1 List.not_mem_nil).trans hs30
        have hF39x := (hq36.2.1 11 (by decide)).trans hF32x
        have hfr := FR.step hfr hq36 (fun _ h => absurd h List.not_mem_nil) (by decide) (fun h => rfl)
        have htk40 := h36_0.2.2.2
        subst hr36
        obtain ⟨tk1, tk2, tk3⟩ := tk_mk (n := sz1) h36_0.1 h36_0.2.1 h36_0.2.2.1 (by omega) (by omega) (by omega) (by omega)
        exact W.zret (v := 1) hx hb hr rfl (fun t ht hW => ⟨⟨1, u36, rfl, ⟨Or.inl ⟨rfl, by first | assumption | omega | rfl | (congr 1; omega)⟩, (by first | (rw [hA38]; done) | (rw [hA38]; first | assumption | exact bgx)), (by first | (rw [hA38]; done) | (rw [hA38]; first | (intro k _; rfl) | exact bgo)), (by exact tk1), (by omega), hfr⟩, (show va_P (dC, dI) vwCl (rW cs b u36) t.heap by rw [ht]; exact hP)⟩, hS.F ht⟩) hS.2.2 dX12_aVertex_79
      · refine lv_if_ne (tgt := 49) hx hb dX12_aVertex_40 (by decide) (fun c41 => absurd c41 (by decide)) (fun c41 => ?_)
        refine lv_aload_n hx hb dX12_aVertex_43 rfl (lv_at hl 0 rfl) ?_
        refine lv_iconst (v := 4) hx hb dX12_aVertex_44 (by decide) ?_
        refine rc_i hAL hS hA (va_runV (As := [.int 4]) (rest := []) ⟨hx, hb, hml, hown, noTs⟩ (r_X12_fails l dC dI H.size cs b u12 4) ⟨cbE 1 (wd_1540 hE) (wd_126 hE) (wd_1537 hE) rfl rfl (by decide +kernel) ⟨Nat.le_of_ble_eq_true rfl, Nat.le_of_ble_eq_true rfl⟩, (wd_1539 hE), (wd_62 hE)⟩ ⟨PR.blind, r_recv hK hP rfl, (r_pre (av := [.ref (b 0), .int 4]) hK hP hJ hE)⟩ rfl rfl hl.1 rfl (lv_room (Nat.le_of_ble_eq_true rfl)) dX12_aVertex_45 ⟨Nat.le_of_ble_eq_true rfl, Nat.le_of_ble_eq_true rfl⟩) (fun r42 u42 H locs hpo42 hP hS => ?_)
        obtain ⟨hr42, hq42⟩ := hpo42
        have hA43 := (hq42.1 1 List.not_mem_nil).trans hA13
        have hA44 := (hq42.1 16 List.not_mem_nil).trans hA14
        have hF45x := (hq42.2.1 11 (by decide)).trans hF15x
        have hF46x := (hq42.2.1 13 (by decide)).trans hF16x
        have hF47x := (hq42.2.1 14 (by decide)).trans hF17x
        have hF48x := (hq42.2.1 15 (by decide)).trans hF18x
        have hfr := FR.step hfr hq42 (fun _ h => absurd h List.not_mem_nil) (by decide) (fun h => rfl)
        subst hr42
        obtain ⟨tk1, tk2, tk3⟩ := tk_mk (n := sz1) hF46x hF47x hF48x (by omega) (by omega) (by omega) (by omega)
        exact W.zret (v := 0) hx hb hr rfl (fun t ht hW => ⟨⟨0, u42, rfl, ⟨Or.inr ⟨rfl, by trivial⟩, (by first | (rw [hA43]; done) | (rw [hA43]; first | assumption | exact bgx)), (by first | (rw [hA43]; done) | (rw [hA43]; first | (intro k _; rfl) | exact bgo)), (by exact tk1), (by omega), hfr⟩, (show va_P (dC, dI) vwCl (rW cs b u42) t.heap by rw [ht]; exact hP)⟩, hS.F ht⟩) hS.2.2 dX12_aVertex_48
    · refine lv_if_ne (tgt := 30) hx hb dX12_aVertex_25 (by decide) (fun c49 => absurd c49 (by decide)) (fun c49 => ?_)
      refine lv_iconst (v := 0) hx hb dX12_aVertex_28 (by decide) ?_
      obtain ⟨tk1, tk2, tk3⟩ := tk_mk (n := sz1) hF16x hF17x hF18x (by omega) (by omega) (by omega) (by omega)
      exact W.zret (v := 0) hx hb hr rfl (fun t ht hW => ⟨⟨0, u12, rfl, ⟨Or.inr ⟨rfl, by trivial⟩, (by first | (rw [hA13]; done) | (rw [hA13]; first | assumption | exact bgx)), (by first | (rw [hA13]; done) | (rw [hA13]; first | (intro k _; rfl) | exact bgo)), (by exact tk1), (by omega), hfr⟩, (show va_P (dC, dI) vwCl (rW cs b u12) t.heap by rw [ht]; exact hP)⟩, hS.F ht⟩) hS.2.2 dX12_aVertex_29
  · have c6 := (b_eq (nI_toInt (n := vN a) (by omega)) (show Int32.toInt 6 = 6 from rfl)).mp c6
    refine lv_aload_n hx hb dX12_aVertex_10 rfl (lv_at hl 0 rfl) ?_
    refine lv_bipush (v := 6) hx hb dX12_aVertex_11 (by decide) ?_
    refine rc_i hAL hS hA (va_runV (As := [.int 6]) (rest := []) ⟨hx, hb, hml, hown, noTs⟩ (r_X12_fails l dC dI s.heap.size cs b u 6) ⟨cbE 1 (wd_1540 hE) (wd_126 hE) (wd_1537 hE) rfl rfl (by decide +kernel) ⟨Nat.le_of_ble_eq_true rfl, Nat.le_of_ble_eq_true rfl⟩, (wd_1539 hE), (wd_62 hE)⟩ ⟨PR.blind, r_recv hK hP rfl, (r_pre (av := [.ref (b 0), .int 6]) hK hP hJ hE)⟩ rfl rfl hl.1 rfl (lv_room (Nat.le_of_ble_eq_true rfl)) dX12_aVertex_13 ⟨Nat.le_of_ble_eq_true rfl, Nat.le_of_ble_eq_true rfl⟩) (fun r50 u50 H locs hpo50 hP hS => ?_)
    obtain ⟨hr50, hq50⟩ := hpo50
    have hA51 := (hq50.1 1 List.not_mem_nil).trans hA1
    have hA52 := (hq50.1 16 List.not_mem_nil).trans hAc16
    have hF53x := (hq50.2.1 11 (by decide)).trans hF11
    have hF54x := (hq50.2.1 13 (by decide)).trans hp1.1
    have hF55x := (hq50.2.1 14 (by decide)).trans hp1.2.1
    have hF56x := (hq50.2.1 15 (by decide)).trans hp1.2.2.1
    have hfr := FR.step hfr hq50 (fun _ h => absurd h List.not_mem_nil) (by decide) (fun h => rfl)
    subst hr50
    obtain ⟨tk1, tk2, tk3⟩ := tk_mk (n := sz1) hF54x hF55x hF56x (by omega) (by omega) (by omega) (by omega)
    exact W.zret (v := 0) hx hb hr rfl (fun t ht hW => ⟨⟨0, u50, rfl, ⟨Or.inr ⟨rfl, by trivial⟩, (by first | (rw [hA51]; done) | (rw [hA51]; first | assumption | exact bgx)), (by first | (rw [hA51]; done) | (rw [hA51]; first | (intro k _; rfl) | exact bgo)), (by exact tk1), (by omega), hfr⟩, (show va_P (dC, dI) vwCl (rW cs b u50) t.heap by rw [ht]; exact hP)⟩, hS.F ht⟩) hS.2.2 dX12_aVertex_16

set_option maxHeartbeats 4000000 in
set_option maxRecDepth 100000 in
theorem r_X12_aSide (l : Launch) (dC : Nat → ClassId) (dI : Nat → Nat → Nat) (sz : Nat) (cs : Nat → ClassId) (b : Nat → Nat) (u : RS) (a : Nat → Int32) (hA1 : rA u 1 = a) (tx : Nat → Int32) (hAc16 : rA u 16 = tx) (at1 : Nat) (sz1 : Nat) (hF11 : rF u 11 = nI sz1) (hp0 : BG a) (hp1 : TK u sz1) (hp2 : sz1 ≤ 700) (hp3 : 10 + 4 * eN a ≤ at1) (hp4 : at1 + 1 < 34) : Met l yX12_aSide [.code yX12_aSide cX12_aSide 2 (some .boolean)] ({ frames := 2, cells := 0, slots := 0, locals := 80 }) (PR [.ref (b 0), .int (nI at1)] sz dC dI cs b u) (va_Qi (fun (r : Int32) (u' : RS) => ((r = 1 ∧ ((rA u' 1) at1 = nI (qn (rA u' 1) at1) ∧ qn (rA u' 1) at1 < vN a ∧ (rA u' 1) (at1 + 1) = nI (qn (rA u' 1) (at1 + 1)) ∧ 1 ≤ qn (rA u' 1) (at1 + 1) ∧ qn (rA u' 1) (at1 + 1) ≤ 9999 ∧ (∃ c1, od a (qn (rA u' 1) at1) = c1 * qn (rA u' 1) (at1 + 1)) ∧ fN u 14 ≤ fN u' 13)) ∨ (r = 0 ∧ (True))) ∧ (BG (rA u' 1)) ∧ (vN (rA u' 1) = vN a) ∧ (eN (rA u' 1) = eN a) ∧ (∀ v, v < vN a → od (rA u' 1) v = od a v) ∧ (∀ k, k ≠ at1 → k ≠ at1 + 1 → (rA u' 1) k = a k) ∧ (TK u' sz1) ∧ (fN u 13 ≤ fN u' 13) ∧ FR [1] [12, 13, 14, 15, 16, 17, 18] false u u') (BR dC dI cs b) (AR b sz)) 0 0 (AR b sz) := by
  refine Met.ofW (cc := cX12_aSide) (maxL := 2) (ret := (some .boolean)) (by decide) rfl ?_
  intro p e s m args below meth c s₁ B hml hv
  obtain ⟨rfl, hsz, hP, hK, hJ, hE⟩ := hv
  have hx := B.exec
  have hb := B.bytes
  have hr := B.returns
  have hown : s.vm.findClass RX12 = some m.cls := findClass_of_methodNamed B.named
  have hlocks := B.notSynchronized
  subst hsz
  have hAL : ∀ i, i < 108 → AR b s.heap.size (b i) := fun i h => Or.inl ⟨i, h, rfl⟩
  have hA : ∀ q : Nat, s.heap.size ≤ q → AR b s.heap.size q := fun q h => Or.inr h
  have hS : va_S (AR b s.heap.size) s.heap s.heap [] := va_S.rf
  have hfr : FR [1] [12, 13, 14, 15, 16, 17, 18] false u u := FR.refl
  have hl := lv_entry ([.ref (b 0), .int (nI at1)]) (n := 2) (Nat.le_of_ble_eq_true rfl)
  rw [lg_entry_eq]
  generalize (lg_sl ([.ref (b 0), .int (nI at1)]) ++ List.replicate (2 - (lg_sl ([.ref (b 0), .int (nI at1)])).length) Slot.unset).toArray = ls at hl ⊢
  have hl : lv_has ls 2 [(0, .ref (b 0)), (1, .int (nI at1))] := hl
  have hB := hp0
  have hG := bg_g hp0
  have ha1 := gg_le hG
  have ha1b := bg_w hp0
  have htk3 := hp1.2.2.2
  refine lv_aload_n hx hb dX12_aSide_0 rfl (lv_at hl 0 rfl) ?_
  refine rc_i hAL hS hA (va_runV (As := []) (rest := []) ⟨hx, hb, hml, hown, noTs⟩ (r_X12_isNumber l dC dI s.heap.size cs b u) ⟨cbE 0 (wd_1544 hE) (wd_126 hE) (wd_1541 hE) rfl rfl (by decide +kernel) ⟨Nat.le_of_ble_eq_true rfl, Nat.le_of_ble_eq_true rfl⟩, (wd_1543 hE), (wd_63 hE)⟩ ⟨PR.blind, r_recv hK hP rfl, (r_pre (av := [.ref (b 0)]) hK hP hJ hE)⟩ rfl rfl hl.1 rfl (lv_room (Nat.le_of_ble_eq_true rfl)) dX12_aSide_1 ⟨Nat.le_of_ble_eq_true rfl, Nat.le_of_ble_eq_true rfl⟩) (fun r7 u7 H locs hpo7 hP hS => ?_)
  obtain ⟨hr7, hq7⟩ := hpo7
  have hA8 := (hq7.1 1 List.not_mem_nil).trans hA1
  have hA9 := (hq7.1 16 List.not_mem_nil).trans hAc16
  have hF10x := (hq7.2.1 11 (by decide)).trans hF11
  have hF11x := (hq7.2.1 13 (by decide)).trans hp1.1
  have hF12x := (hq7.2.1 14 (by decide)).trans hp1.2.1
  have hF13x := (hq7.2.1 15 (by decide)).trans hp1.2.2.1
  have hfr := FR.step hfr hq7 (fun _ h => absurd h List.not_mem_nil) (by decide) (fun h => rfl)
  rcases hr7 with ⟨rfl, hb7⟩ | ⟨rfl, hb7⟩
  · refine lv_if_ne (tgt := 9) hx hb dX12_aSide_4 (by decide) (fun c14 => ?_) (fun c14 => absurd c14 (by decide))
    refine lv_aload_n hx hb dX12_aSide_9 rfl (lv_at hl 0 rfl) ?_
    refine lv_aload_n hx hb dX12_aSide_10 rfl (lv_at hl 0 rfl) ?_
    refine r_get (v := .int (nI (fN u 15))) hx hb (ly_X12 hE) hown hK hP rfl 15 (by decide) (wd_1396 hE) (fun _ h9 => h9) (congrArg (fun z : Int32 => some (Value.int z)) hF13x) dX12_aSide_11 ?_
    refine vp_callSi (va_Run.run (va_runV (As := [.int (nI (fN u 15))]) (rest := []) ⟨hx, hb, hml, hown, noTs⟩ (r_X12_isVertex l dC dI H.size cs b u7 a hA8 (nI (fN u 15)) (by first | assumption | omega | rfl | (congr 1; omega))) ⟨cbE 1 (wd_1560 hE) (wd_126 hE) (wd_1557 hE) rfl rfl (by decide +kernel) ⟨Nat.le_of_ble_eq_true rfl, Nat.le_of_ble_eq_true rfl⟩, (wd_1559 hE), (wd_67 hE)⟩ ⟨PR.blind, r_recv hK hP rfl, (r_pre (av := [.ref (b 0), .int (nI (fN u 15))]) hK hP hJ hE)⟩ rfl rfl hl.1 rfl (lv_room (Nat.le_of_ble_eq_true rfl)) dX12_aSide_14 ⟨Nat.le_of_ble_eq_true rfl, Nat.le_of_ble_eq_true rfl⟩)) (fun r15 hr15 => ?_)
    rcases hr15 with ⟨rfl, hb15⟩ | ⟨rfl, hb15⟩
    · obtain ⟨n15, hbe15_1, hb15⟩ := hb15
      have hbe15_1 := (nI_eq (by omega) (by omega)).mp hbe15_1
      refine lv_if_ne (tgt := 26) hx hb dX12_aSide_17 (by decide) (fun c16 => ?_) (fun c16 => absurd c16 (by decide))
      refine lv_aload_n hx hb dX12_aSide_26 rfl (lv_at hl 0 rfl) ?_
      refine r_get (v := .ref (b 1)) hx hb (ly_X12 hE) hown hK hP rfl 0 (by decide) (wd_1381 hE) (fun _ h9 => h9) rfl dX12_aSide_27 ?_
      refine lv_iload_n hx hb dX12_aSide_30 rfl (lv_at hl 1 rfl) ?_
      refine lv_aload_n hx hb dX12_aSide_31 rfl (lv_at hl 0 rfl) ?_
      refine r_get (v := .int (nI (fN u 15))) hx hb (ly_X12 hE) hown hK hP rfl 15 (by decide) (wd_1396 hE) (fun _ h9 => h9) (congrArg (fun z : Int32 => some (Value.int z)) hF13x) dX12_aSide_32 ?_
      refine r_iast (j := 1) (k := at1) (n := 7202) (x := nI (fN u 15)) hx hb hK hP hJ hAL hS (by decide) (fun _ => rfl) hA8 (by omega) (by decide) dX12_aSide_35 (fun u17 H locs hs17 hq17 hP hS => ?_)
      obtain ⟨w17, hw17⟩ : ∃ g, g = upd a at1 (nI (fN u 15)) := ⟨_, rfl⟩
      rw [← hw17] at hs17
      have hA18 := (hq17.1 16 (by decide)).trans hA9
      have hF19x := (hq17.2.1 11 List.not_mem_nil).trans hF10x
      have hF20x := (hq17.2.1 13 List.not_mem_nil).trans hF11x
      have hF21x := (hq17.2.1 14 List.not_mem_nil).trans hF12x
      have hF22x := (hq17.2.1 15 List.not_mem_nil).trans hF13x
      have hfr := FR.step hfr hq17 (by decide) (fun _ h => absurd h List.not_mem_nil) (fun h => rfl)
      have K1 := hw17
      obtain ⟨b1, b2, b3, b4, o1⟩ := bg_free hp0 (by omega) (by omega) hw17
      have g1 := bg_g b1
      have s1 : ∀ k, k ≠ at1 → w17 k = a k := fun k hk => by rw [hw17, pk_un hk]
      have VVb : (fN u 15) ≤ 9999 := by omega
      refine lv_aload_n hx hb dX12_aSide_36 rfl (lv_at hl 0 rfl) ?_
      refine rc_v hAL hS hA (va_runV (As := []) (rest := []) ⟨hx, hb, hml, hown, noTs⟩ (r_X12_ahead l dC dI H.size cs b u17 tx hA18 sz1 (fN u 14) (fN u 15) hF19x hF21x hF22x (by first | assumption | omega | rfl | (congr 1; omega)) (by first | assumption | omega | rfl | (congr 1; omega)) (by first | assumption | omega | rfl | (congr 1; omega))) ⟨cbE 0 (wd_1506 hE) (wd_126 hE) (wd_1503 hE) rfl rfl (by decide +kernel) ⟨Nat.le_of_ble_eq_true rfl, Nat.le_of_ble_eq_true rfl⟩, (wd_1505 hE), (wd_56 hE)⟩ ⟨PR.blind, r_recv hK hP rfl, (r_pre (av := [.ref (b 0)]) hK hP hJ hE)⟩ rfl rfl hl.1 rfl (lv_room (Nat.le_of_ble_eq_true rfl)) dX12_aSide_37 ⟨Nat.le_of_ble_eq_true rfl, Nat.le_of_ble_eq_true rfl⟩) (fun u23 H locs hpo23 hP hS => ?_)
      obtain ⟨h23_0, h23_1, h23_2, hq23⟩ := hpo23
      have hA24 := (hq23.1 16 List.not_mem_nil).trans hA18
      have hA25 := (hq23.1 1 List.not_mem_nil).trans hs17
      have hF26x := (hq23.2.1 11 (by decide)).trans hF19x
      have hfr := FR.step hfr hq23 (fun _ h => absurd h List.not_mem_nil) (by decide) (fun h => rfl)
      have htk27 := h23_0.2.2.2
      refine lv_aload_n hx hb dX12_aSide_40 rfl (lv_at hl 0 rfl) ?_
      refine rc_i hAL hS hA (va_runV (As := []) (rest := []) ⟨hx, hb, hml, hown, noTs⟩ (r_X12_isNumber l dC dI H.size cs b u23) ⟨cbE 0 (wd_1544 hE) (wd_126 hE) (wd_1541 hE) rfl rfl (by decide +kernel) ⟨Nat.le_of_ble_eq_true rfl, Nat.le_of_ble_eq_true rfl⟩, (wd_1543 hE), (wd_63 hE)⟩ ⟨PR.blind, r_recv hK hP rfl, (r_pre (av := [.ref (b 0)]) hK hP hJ hE)⟩ rfl rfl hl.1 rfl (lv_room (Nat.le_of_ble_eq_true rfl)) dX12_aSide_41 ⟨Nat.le_of_ble_eq_true rfl, Nat.le_of_ble_eq_true rfl⟩) (fun r28 u28 H locs hpo28 hP hS => ?_)
      obtain ⟨hr28, hq28⟩ := hpo28
      have hA29 := (hq28.1 16 List.not_mem_nil).trans hA24
      have hA30 := (hq28.1 1 List.not_mem_nil).trans hA25
      have hF31x := (hq28.2.1 11 (by decide)).trans hF26x
      have hF32x := (hq28.2.1 13 (by decide)).trans h23_0.1
      have hF33x := (hq28.2.1 14 (by decide)).trans h23_0.2.1
      have hF34x := (hq28.2.1 15 (by decide)).trans h23_0.2.2.1
      have hfr := FR.step hfr hq28 (fun _ h => absurd h List.not_mem_nil) (by decide) (fun h => rfl)
      rcases hr28 with ⟨rfl, hb28⟩ | ⟨rfl, hb28⟩
      · refine lv_if_ne (tgt := 49) hx hb dX12_aSide_44 (by decide) (fun c35 => ?_) (fun c35 => absurd c35 (by decide))
        refine lv_aload_n hx hb dX12_aSide_49 rfl (lv_at hl 0 rfl) ?_
        refine r_get (v := .int (nI (fN u23 15))) hx hb (ly_X12 hE) hown hK hP rfl 15 (by decide) (wd_1396 hE) (fun _ h9 => h9) (congrArg (fun z : Int32 => some (Value.int z)) hF34x) dX12_aSide_50 ?_
        refine lv_if_eq (tgt := 73) hx hb dX12_aSide_53 (by decide) (fun c36 => ?_) (fun c36 => ?_)
        · have c36 := (b_eq (nI_toInt (n := fN u23 15) (by omega)) (show Int32.toInt 0 = 0 from rfl)).mp c36
          refine lv_aload_n hx hb dX12_aSide_73 rfl (lv_at hl 0 rfl) ?_
          refine lv_iconst (v := 4) hx hb dX12_aSide_74 (by decide) ?_
          refine rc_i hAL hS hA (va_runV (As := [.int 4]) (rest := []) ⟨hx, hb, hml, hown, noTs⟩ (r_X12_fails l dC dI H.size cs b u28 4) ⟨cbE 1 (wd_1540 hE) (wd_126 hE) (wd_1537 hE) rfl rfl (by decide +kernel) ⟨Nat.le_of_ble_eq_true rfl, Nat.le_of_ble_eq_true rfl⟩, (wd_1539 hE), (wd_62 hE)⟩ ⟨PR.blind, r_recv hK hP rfl, (r_pre (av := [.ref (b 0), .int 4]) hK hP hJ hE)⟩ rfl rfl hl.1 rfl (lv_room (Nat.le_of_ble_eq_true rfl)) dX12_aSide_75 ⟨Nat.le_of_ble_eq_true rfl, Nat.le_of_ble_eq_true rfl⟩) (fun r37 u37 H locs hpo37 hP hS => ?_)
          obtain ⟨hr37, hq37⟩ := hpo37
          have hA38 := (hq37.1 16 List.not_mem_nil).trans hA29
          have hA39 := (hq37.1 1 List.not_mem_nil).trans hA30
          have hF40x := (hq37.2.1 11 (by decide)).trans hF31x
          have hF41x := (hq37.2.1 13 (by decide)).trans hF32x
          have hF42x := (hq37.2.1 14 (by decide)).trans hF33x
          have hF43x := (hq37.2.1 15 (by decide)).trans hF34x
          have hfr := FR.step hfr hq37 (fun _ h => absurd h List.not_mem_nil) (by decide) (fun h => rfl)
          subst hr37
          obtain ⟨tk1, tk2, tk3⟩ := tk_mk (n := sz1) hF41x hF42x hF43x (by omega) (by omega) (by omega) (by omega)
          exact W.zret (v := 0) hx hb hr rfl (fun t ht hW => ⟨⟨0, u37, rfl, ⟨Or.inr ⟨rfl, by trivial⟩, (by first | (rw [hA39]; done) | (rw [hA39]; first | assumption | exact b1)), (by first | (rw [hA39]; done) | (rw [hA39]; first | rfl | omega)), (by first | (rw [hA39]; done) | (rw [hA39]; first | rfl | omega)), (by first | (rw [hA39]; done) | (rw [hA39]; first | (intro v _; rfl) | (intro v hv; exact o1 v hv))), (by first | (rw [hA39]; done) | (rw [hA39]; first | (intro k _ _; rfl) | (intro k h1 h2; exact s1 k h1)| (intro k h1 h2; exact s2 k h1 h2))), (by exact tk1), (by omega), hfr⟩, (show va_P (dC, dI) vwCl (rW cs b u37) t.heap by rw [ht]; exact hP)⟩, hS.F ht⟩) hS.2.2 dX12_aSide_78
        · have c36 := mt (b_eq (nI_toInt (n := fN u23 15) (by omega)) (show Int32.toInt 0 = 0 from rfl)).mpr c36
          refine lv_aload_n hx hb dX12_aSide_56 rfl (lv_at hl 0 rfl) ?_
          refine lv_aload_n hx hb dX12_aSide_57 rfl (lv_at hl 0 rfl) ?_
          refine lv_iload_n hx hb dX12_aSide_58 rfl (lv_at hl 1 rfl) ?_
          refine vp_callSi (va_Run.run (va_runV (As := [.int (nI at1)]) (rest := [.ref (b 0)]) ⟨hx, hb, hml, hown, noTs⟩ (r_X12_of l dC dI H.size cs b u28 w17 hA30 at1 (by first | assumption | omega | rfl | (congr 1; omega))) ⟨cbE 1 (wd_1536 hE) (wd_126 hE) (wd_1533 hE) rfl rfl (by decide +kernel) ⟨Nat.le_of_ble_eq_true rfl, Nat.le_of_ble_eq_true rfl⟩, (wd_1535 hE), (wd_61 hE)⟩ ⟨PR.blind, r_recv hK hP rfl, (r_pre (av := [.ref (b 0), .int (nI at1)]) hK hP hJ hE)⟩ rfl rfl hl.1 rfl (lv_room (Nat.le_of_ble_eq_true rfl)) dX12_aSide_59 ⟨Nat.le_of_ble_eq_true rfl, Nat.le_of_ble_eq_true rfl⟩)) (fun r44 hr44 => ?_)
          have hr44 := hr44.trans ((show w17 at1 = nI (fN u 15) by rw [K1]; exact pk_us))
          subst hr44
          refine vp_callSi (va_Run.run (va_runV (As := [.int (nI ((fN u 15)))]) (rest := []) ⟨hx, hb, hml, hown, noTs⟩ (r_X12_orderAt l dC dI H.size cs b u28 w17 hA30 ((fN u 15)) (by first | assumption | omega | rfl | (congr 1; omega)) (by first | assumption | omega | rfl | (congr 1; omega))) ⟨cbE 1 (wd_1564 hE) (wd_126 hE) (wd_1561 hE) rfl rfl (by decide +kernel) ⟨Nat.le_of_ble_eq_true rfl, Nat.le_of_ble_eq_true rfl⟩, (wd_1563 hE), (wd_68 hE)⟩ ⟨PR.blind, r_recv hK hP rfl, (r_pre (av := [.ref (b 0), .int (nI ((fN u 15)))]) hK hP hJ hE)⟩ rfl rfl hl.1 rfl (lv_room (Nat.le_of_ble_eq_true rfl)) dX12_aSide_62 ⟨Nat.le_of_ble_eq_true rfl, Nat.le_of_ble_eq_true rfl⟩)) (fun r45 hr45 => ?_)
          have OV : od w17 (fN u 15) = od a (fN u 15) := o1 _ (by omega)
          have hau45 := (gg_od (a := w17) (v := ((fN u 15))) (by assumption) (by first | assumption | omega)).2
          subst hr45
          refine lv_aload_n hx hb dX12_aSide_65 rfl (lv_at hl 0 rfl) ?_
          refine r_get (v := .int (nI (fN u23 15))) hx hb (ly_X12 hE) hown hK hP rfl 15 (by decide) (wd_1396 hE) (fun _ h9 => h9) (congrArg (fun z : Int32 => some (Value.int z)) hF34x) dX12_aSide_66 ?_
          refine lv_irem hx hb dX12_aSide_69 (nI_ne0 (n := fN u23 15) (by omega) (by omega)) ?_
          refine W.eq (g2 := F0 m 70 ls [.int (nI ((od w17 ((fN u 15))) % (fN u23 15)))]) (congrArg (fun z : Int32 => F0 m 70 ls (.int z :: [])) (pk_rem (a := od w17 ((fN u 15))) (d := fN u23 15) (by omega) (by omega) (by omega))) ?_
          have hmd46 := Nat.mod_lt (od w17 ((fN u 15))) (show 0 < fN u23 15 by omega)
          refine lv_if_eq (tgt := 79) hx hb dX12_aSide_70 (by decide) (fun c47 => ?_) (fun c47 => ?_)
          · have c47 := (b_eq (nI_toInt (n := (od w17 ((fN u 15))) % (fN u23 15)) (by omega)) (show Int32.toInt 0 = 0 from rfl)).mp c47
            refine lv_aload_n hx hb dX12_aSide_79 rfl (lv_at hl 0 rfl) ?_
            refine r_get (v := .ref (b 1)) hx hb (ly_X12 hE) hown hK hP rfl 0 (by decide) (wd_1381 hE) (fun _ h9 => h9) rfl dX12_aSide_80 ?_
            refine lv_iload_n hx hb dX12_aSide_83 rfl (lv_at hl 1 rfl) ?_
            refine lv_iconst (v := 1) hx hb dX12_aSide_84 (by decide) ?_
            refine lv_iadd hx hb dX12_aSide_85 ?_
            refine W.eq (g2 := F0 m 86 ls [.int (nI (at1 + 1)), .ref (b 1)]) (congrArg (fun z : Int32 => F0 m 86 ls (.int z :: [.ref (b 1)])) (nI_add at1 1)) ?_
            refine lv_aload_n hx hb dX12_aSide_86 rfl (lv_at hl 0 rfl) ?_
            refine r_get (v := .int (nI (fN u23 15))) hx hb (ly_X12 hE) hown hK hP rfl 15 (by decide) (wd_1396 hE) (fun _ h9 => h9) (congrArg (fun z : Int32 => some (Value.int z)) hF34x) dX12_aSide_87 ?_
            refine r_iast (j := 1) (k := at1 + 1) (n := 7202) (x := nI (fN u23 15)) hx hb hK hP hJ hAL hS (by decide) (fun _ => rfl) hA30 (by omega) (by decide) dX12_aSide_90 (fun u48 H locs hs48 hq48 hP hS => ?_)
            obtain ⟨w48, hw48⟩ : ∃ g, g = upd w17 (at1 + 1) (nI (fN u23 15)) := ⟨_, rfl⟩
            rw [← hw48] at hs48
            have hA49 := (hq48.1 16 (by decide)).trans hA29
            have hF50x := (hq48.2.1 11 List.not_mem_nil).trans hF31x
            have hF51x := (hq48.2.1 13 List.not_mem_nil).trans hF32x
            have hF52x := (hq48.2.1 14 List.not_mem_nil).trans hF33x
            have hF53x := (hq48.2.1 15 List.not_mem_nil).trans hF34x
            have hfr := FR.step hfr hq48 (by decide) (fun _ h => absurd h List.not_mem_nil) (fun h => rfl)
            have K2 := hw48
            obtain ⟨c1b, c2, c3, c4, o2⟩ := bg_free b1 (by omega) (by omega) hw48
            have b1 := c1b
            have s2 : ∀ k, k ≠ at1 → k ≠ at1 + 1 → w48 k = a k := fun k hk hk2 => by rw [hw48, pk_un hk2]; exact s1 k hk
            have o1 : ∀ v, v < vN a → od w48 v = od a v := fun v hv => (o2 v (by omega)).trans (o1 v hv)
            have C1 : w48 at1 = nI (fN u 15) := by rw [K2, pk_un (by omega), K1]; exact pk_us
            have C2 : w48 (at1 + 1) = nI (fN u23 15) := by rw [K2]; exact pk_us
            have Q1 : qn w48 at1 = (fN u 15) := by unfold qn; rw [C1, nI_clamp (by omega)]
            have Q2 : qn w48 (at1 + 1) = (fN u23 15) := by unfold qn; rw [C2, nI_clamp (by omega)]
            refine lv_iconst (v := 1) hx hb dX12_aSide_91 (by decide) ?_
            obtain ⟨tk1, tk2, tk3⟩ := tk_mk (n := sz1) hF51x hF52x hF53x (by omega) (by omega) (by omega) (by omega)
            exact W.zret (v := 1) hx hb hr rfl (fun t ht hW => ⟨⟨1, u48, rfl, ⟨Or.inl ⟨rfl, by rw [hs48]; refine ⟨by rw [Q1]; exact C1, by omega, by rw [Q2]; exact C2, by omega, by omega, ⟨od a (fN u 15) / (fN u23 15), ?_⟩, by omega⟩; rw [Q1, Q2, ← OV]; exact (Nat.div_mul_cancel (Nat.dvd_of_mod_eq_zero (by omega))).symm⟩, (by first | (rw [hs48]; done) | (rw [hs48]; first | assumption | exact b1)), (by first | (rw [hs48]; done) | (rw [hs48]; first | rfl | omega)), (by first | (rw [hs48]; done) | (rw [hs48]; first | rfl | omega)), (by first | (rw [hs48]; done) | (rw [hs48]; first | (intro v _; rfl) | (intro v hv; exact o1 v hv))), (by first | (rw [hs48]; done) | (rw [hs48]; first | (intro k _ _; rfl) | (intro k h1 h2; exact s1 k h1)| (intro k h1 h2; exact s2 k h1 h2))), (by exact tk1), (by omega), hfr⟩, (show va_P (dC, dI) vwCl (rW cs b u48) t.heap by rw [ht]; exact hP)⟩, hS.F ht⟩) hS.2.2 dX12_aSide_92
          · have c47 := mt (b_eq (nI_toInt (n := (od w17 ((fN u 15))) % (fN u23 15)) (by omega)) (show Int32.toInt 0 = 0 from rfl)).mpr c47
            refine lv_aload_n hx hb dX12_aSide_73 rfl (lv_at hl 0 rfl) ?_
            refine lv_iconst (v := 4) hx hb dX12_aSide_74 (by decide) ?_
            refine rc_i hAL hS hA (va_runV (As := [.int 4]) (rest := []) ⟨hx, hb, hml, hown, noTs⟩ (r_X12_fails l dC dI H.size cs b u28 4) ⟨cbE 1 (wd_1540 hE) (wd_126 hE) (wd_1537 hE) rfl rfl (by decide +kernel) ⟨Nat.le_of_ble_eq_true rfl, Nat.le_of_ble_eq_true rfl⟩, (wd_1539 hE), (wd_62 hE)⟩ ⟨PR.blind, r_recv hK hP rfl, (r_pre (av := [.ref (b 0), .int 4]) hK hP hJ hE)⟩ rfl rfl hl.1 rfl (lv_room (Nat.le_of_ble_eq_true rfl)) dX12_aSide_75 ⟨Nat.le_of_ble_eq_true rfl, Nat.le_of_ble_eq_true rfl⟩) (fun r54 u54 H locs hpo54 hP hS => ?_)
            obtain ⟨hr54, hq54⟩ := hpo54
            have hA55 := (hq54.1 16 List.not_mem_nil).trans hA29
            have hA56 := (hq54.1 1 List.not_mem_nil).trans hA30
            have hF57x := (hq54.2.1 11 (by decide)).trans hF31x
            have hF58x := (hq54.2.1 13 (by decide)).trans hF32x
            have hF59x := (hq54.2.1 14 (by decide)).trans hF33x
            have hF60x := (hq54.2.1 15 (by decide)).trans hF34x
            have hfr := FR.step hfr hq54 (fun _ h => absurd h List.not_mem_nil) (by decide) (fun h => rfl)
            subst hr54
            obtain ⟨tk1, tk2, tk3⟩ := tk_mk (n := sz1) hF58x hF59x hF60x (by omega) (by omega) (by omega) (by omega)
            exact W.zret (v := 0) hx hb hr rfl (fun t ht hW => ⟨⟨0, u54, rfl, ⟨Or.inr ⟨rfl, by trivial⟩, (by first | (rw [hA56]; done) | (rw [hA56]; first | assumption | exact b1)), (by first | (rw [hA56]; done) | (rw [hA56]; first | rfl | omega)), (by first | (rw [hA56]; done) | (rw [hA56]; first | rfl | omega)), (by first | (rw [hA56]; done) | (rw [hA56]; first | (intro v _; rfl) | (intro v hv; exact o1 v hv))), (by first | (rw [hA56]; done) | (rw [hA56]; first | (intro k _ _; rfl) | (intro k h1 h2; exact s1 k h1)| (intro k h1 h2; exact s2 k h1 h2))), (by exact tk1), (by omega), hfr⟩, (show va_P (dC, dI) vwCl (rW cs b u54) t.heap by rw [ht]; exact hP)⟩, hS.F ht⟩) hS.2.2 dX12_aSide_78
      · refine lv_if_ne (tgt := 49) hx hb dX12_aSide_44 (by decide) (fun c61 => absurd c61 (by decide)) (fun c61 => ?_)
        refine lv_iconst (v := 0) hx hb dX12_aSide_47 (by decide) ?_
        obtain ⟨tk1, tk2, tk3⟩ := tk_mk (n := sz1) hF32x hF33x hF34x (by omega) (by omega) (by omega) (by omega)
        exact W.zret (v := 0) hx hb hr rfl (fun t ht hW => ⟨⟨0, u28, rfl, ⟨Or.inr ⟨rfl, by trivial⟩, (by first | (rw [hA30]; done) | (rw [hA30]; first | assumption | exact b1)), (by first | (rw [hA30]; done) | (rw [hA30]; first | rfl | omega)), (by first | (rw [hA30]; done) | (rw [hA30]; first | rfl | omega)), (by first | (rw [hA30]; done) | (rw [hA30]; first | (intro v _; rfl) | (intro v hv; exact o1 v hv))), (by first | (rw [hA30]; done) | (rw [hA30]; first | (intro k _ _; rfl) | (intro k h1 h2; exact s1 k h1)| (intro k h1 h2; exact s2 k h1 h2))), (by exact tk1), (by omega), hfr⟩, (show va_P (dC, dI) vwCl (rW cs b u28) t.heap by rw [ht]; exact hP)⟩, hS.F ht⟩) hS.2.2 dX12_aSide_48
    · refine lv_if_ne (tgt := 26) hx hb dX12_aSide_17 (by decide) (fun c62 => absurd c62 (by decide)) (fun c62 => ?_)
      refine lv_aload_n hx hb dX12_aSide_20 rfl (lv_at hl 0 rfl) ?_
      refine lv_iconst (v := 3) hx hb dX12_aSide_21 (by decide) ?_
      refine rc_i hAL hS hA (va_runV (As := [.int 3]) (rest := []) ⟨hx, hb, hml, hown, noTs⟩ (r_X12_fails l dC dI H.size cs b u7 3) ⟨cbE 1 (wd_1540 hE) (wd_126 hE) (wd_1537 hE) rfl rfl (by decide +kernel) ⟨Nat.le_of_ble_eq_true rfl, Nat.le_of_ble_eq_true rfl⟩, (wd_1539 hE), (wd_62 hE)⟩ ⟨PR.blind, r_recv hK hP rfl, (r_pre (av := [.ref (b 0), .int 3]) hK hP hJ hE)⟩ rfl rfl hl.1 rfl (lv_room (Nat.le_of_ble_eq_true rfl)) dX12_aSide_22 ⟨Nat.le_of_ble_eq_true rfl, Nat.le_of_ble_eq_true rfl⟩) (fun r63 u63 H locs hpo63 hP hS => ?_)
      obtain ⟨hr63, hq63⟩ := hpo63
      have hA64 := (hq63.1 1 List.not_mem_nil).trans hA8
      have hA65 := (hq63.1 16 List.not_mem_nil).trans hA9
      have hF66x := (hq63.2.1 11 (by decide)).trans hF10x
      have hF67x := (hq63.2.1 13 (by decide)).trans hF11x
      have hF68x := (hq63.2.1 14 (by decide)).trans hF12x
      have hF69x := (hq63.2.1 15 (by decide)).trans hF13x
      have hfr := FR.step hfr hq63 (fun _ h => absurd h List.not_mem_nil) (by decide) (fun h => rfl)
      subst hr63
      obtain ⟨tk1, tk2, tk3⟩ := tk_mk (n := sz1) hF67x hF68x hF69x (by omega) (by omega) (by omega) (by omega)
      exact W.zret (v := 0) hx hb hr rfl (fun t ht hW => ⟨⟨0, u63, rfl, ⟨Or.inr ⟨rfl, by trivial⟩, (by first | (rw [hA64]; done) | (rw [hA64]; first | assumption | exact b1)), (by first | (rw [hA64]; done) | (rw [hA64]; first | rfl | omega)), (by first | (rw [hA64]; done) | (rw [hA64]; first | rfl | omega)), (by first | (rw [hA64]; done) | (rw [hA64]; first | (intro v _; rfl) | (intro v hv; exact o1 v hv))), (by first | (rw [hA64]; done) | (rw [hA64]; first | (intro k _ _; rfl) | (intro k h1 h2; exact s1 k h1)| (intro k h1 h2; exact s2 k h1 h2))), (by exact tk1), (by omega), hfr⟩, (show va_P (dC, dI) vwCl (rW cs b u63) t.heap by rw [ht]; exact hP)⟩, hS.F ht⟩) hS.2.2 dX12_aSide_25
  · refine lv_if_ne (tgt := 9) hx hb dX12_aSide_4 (by decide) (fun c70 => absurd c70 (by decide)) (fun c70 => ?_)
    refine lv_iconst (v := 0) hx hb dX12_aSide_7 (by decide) ?_
    obtain ⟨tk1, tk2, tk3⟩ := tk_mk (n := sz1) hF11x hF12x hF13x (by omega) (by omega) (by omega) (by omega)
    exact W.zret (v := 0) hx hb hr rfl (fun t ht hW => ⟨⟨0, u7, rfl, ⟨Or.inr ⟨rfl, by trivial⟩, (by first | (rw [hA8]; done) | (rw [hA8]; first | assumption | exact b1)), (by first | (rw [hA8]; done) | (rw [hA8]; first | rfl | omega)), (by first | (rw [hA8]; done) | (rw [hA8]; first | rfl | omega)), (by first | (rw [hA8]; done) | (rw [hA8]; first | (intro v _; rfl) | (intro v hv; exact o1 v hv))), (by first | (rw [hA8]; done) | (rw [hA8]; first | (intro k _ _; rfl) | (intro k h1 h2; exact s1 k h1)| (intro k h1 h2; exact s2 k h1 h2))), (by exact tk1), (by omega), hfr⟩, (show va_P (dC, dI) vwCl (rW cs b u7) t.heap by rw [ht]; exact hP)⟩, hS.F ht⟩) hS.2.2 dX12_aSide_8

set_option maxHeartbeats 4000000 in
set_option maxRecDepth 100000 in
theorem r_X12_anEdge (l : Launch) (dC : Nat → ClassId) (dI : Nat → Nat → Nat) (sz : Nat) (cs : Nat → ClassId) (b : Nat → Nat) (u : RS) (a : Nat → Int32) (hA1 : rA u 1 = a) (tx : Nat → Int32) (hAc16 : rA u 16 = tx) (sz1 : Nat) (hF11 : rF u 11 = nI sz1) (hp0 : BG a) (hp1 : TK u sz1) (hp2 : sz1 ≤ 700) : Met l yX12_anEdge [.code yX12_anEdge cX12_anEdge 2 (some .boolean)] ({ frames := 3, cells := 0, slots := 0, locals := 120 }) (PR [.ref (b 0)] sz dC dI cs b u) (va_Qi (fun (r : Int32) (u' : RS) => ((r = 1 ∧ (fN u 14 ≤ fN u' 13)) ∨ (r = 0 ∧ (True))) ∧ (BG (rA u' 1)) ∧ (∀ k, 554 ≤ k → (rA u' 1) k = a k) ∧ (TK u' sz1) ∧ (fN u 13 ≤ fN u' 13) ∧ FR [1] [12, 13, 14, 15, 16, 17, 18] false u u') (BR dC dI cs b) (AR b sz)) 0 0 (AR b sz) := sorry

set_option maxHeartbeats 4000000 in
set_option maxRecDepth 100000 in
theorem r_X12_aStep (l : Launch) (dC : Nat → ClassId) (dI : Nat → Nat → Nat) (sz : Nat) (cs : Nat → ClassId) (b : Nat → Nat) (u : RS) (a : Nat → Int32) (hA1 : rA u 1 = a) (tx : Nat → Int32) (hAc16 : rA u 16 = tx) (jw : Nat) (hjwr : 3 ≤ jw ∧ jw ≤ 14) (w : Nat → Int32) (hAjw : rA u jw = w) (sz1 : Nat) (hF11 : rF u 11 = nI sz1) (hp0 : BG a) (hp1 : TK u sz1) (hp2 : sz1 ≤ 700) (hp3 : PG a w) (hp4 : LG a w) (hp5 : rn w ≤ 24) : Met l yX12_aStep [.code yX12_aStep cX12_aStep 4 (some .boolean)] ({ frames := 5, cells := 0, slots := 0, locals := 200 }) (PR [.ref (b 0), .ref (b jw)] sz dC dI cs b u) (va_Qi (fun (r : Int32) (u' : RS) => ((r = 1 ∧ (rn (rA u' jw) = rn w + 1)) ∨ (r = 0 ∧ (True))) ∧ (PG a (rA u' jw)) ∧ (LG a (rA u' jw)) ∧ (rn (rA u' jw) ≤ 24) ∧ (TK u' sz1) ∧ (fN u 13 ≤ fN u' 13) ∧ FR [jw] [12, 13, 14, 15, 16, 17, 18] false u u') (BR dC dI cs b) (AR b sz)) 0 0 (AR b sz) := by
  refine Met.ofW (cc := cX12_aStep) (maxL := 4) (ret := (some .boolean)) (by decide) rfl ?_
  intro p e s m args below meth c s₁ B hml hv
  obtain ⟨rfl, hsz, hP, hK, hJ, hE⟩ := hv
  have hx := B.exec
  have hb := B.bytes
  have hr := B.returns
  have hown : s.vm.findClass RX12 = some m.cls := findClass_of_methodNamed B.named
  have hlocks := B.notSynchronized
  subst hsz
  have hAL : ∀ i, i < 108 → AR b s.heap.size (b i) := fun i h => Or.inl ⟨i, h, rfl⟩
  have hA : ∀ q : Nat, s.heap.size ≤ q → AR b s.heap.size q := fun q h => Or.inr h
  have hS : va_S (AR b s.heap.size) s.heap s.heap [] := va_S.rf
  have hfr : FR [jw] [12, 13, 14, 15, 16, 17, 18] false u u := FR.refl
  have hl := lv_entry ([.ref (b 0), .ref (b jw)]) (n := 4) (Nat.le_of_ble_eq_true rfl)
  rw [lg_entry_eq]
  generalize (lg_sl ([.ref (b 0), .ref (b jw)]) ++ List.replicate (4 - (lg_sl ([.ref (b 0), .ref (b jw)])).length) Slot.unset).toArray = ls at hl ⊢
  have hl : lv_has ls 4 [(0, .ref (b 0)), (1, .ref (b jw))] := hl
  have hB := hp0
  have hG := bg_g hp0
  have ha1 := gg_le hG
  have ha1b := bg_w hp0
  have htk3 := hp1.2.2.2
  have ha5 := pg_le hp3
  refine lv_aload_n hx hb dX12_aStep_0 rfl (lv_at hl 1 rfl) ?_
  refine lv_iconst (v := 1) hx hb dX12_aStep_1 (by decide) ?_
  refine r_iald (j := jw) (k := 1) (n := 200) (x := nI (rn w)) hx hb hK hP (by omega) (rE_row (by omega)) (by decide) (by decide) (by rw [hAjw]; exact pg_n hp3) dX12_aStep_2 ?_
  refine lv_bipush (v := 24) hx hb dX12_aStep_3 (by decide) ?_
  refine lv_icmp_ne (tgt := 15) hx hb dX12_aStep_5 (by decide) (fun c9 => ?_) (fun c9 => ?_)
  · have c9 := mt (b_eq (nI_toInt (n := rn w) (by omega)) (show Int32.toInt 24 = 24 from rfl)).mpr c9
    refine lv_aload_n hx hb dX12_aStep_15 rfl (lv_at hl 0 rfl) ?_
    refine lv_aload_n hx hb dX12_aStep_16 rfl (lv_at hl 0 rfl) ?_
    refine r_get (v := .int (nI (fN u 13))) hx hb (ly_X12 hE) hown hK hP rfl 13 (by decide) (wd_1394 hE) (fun _ h9 => h9) (congrArg (fun z : Int32 => some (Value.int z)) hp1.1) dX12_aStep_17 ?_
    refine vp_callSi (va_Run.run (va_runV (As := [.int (nI (fN u 13))]) (rest := []) ⟨hx, hb, hml, hown, noTs⟩ (r_X12_byteAt l dC dI s.heap.size cs b u tx hAc16 (fN u 13) sz1 hF11 (by first | assumption | omega | rfl | (congr 1; omega)) (by first | assumption | omega | rfl | (congr 1; omega))) ⟨cbE 1 (wd_1510 hE) (wd_126 hE) (wd_1507 hE) rfl rfl (by decide +kernel) ⟨Nat.le_of_ble_eq_true rfl, Nat.le_of_ble_eq_true rfl⟩, (wd_1509 hE), (wd_57 hE)⟩ ⟨PR.blind, r_recv hK hP rfl, (r_pre (av := [.ref (b 0), .int (nI (fN u 13))]) hK hP hJ hE)⟩ rfl rfl hl.1 rfl (lv_room (Nat.le_of_ble_eq_true rfl)) dX12_aStep_20 ⟨Nat.le_of_ble_eq_true rfl, Nat.le_of_ble_eq_true rfl⟩)) (fun r10 hr10 => ?_)
    subst hr10
    have htf10 := bA_f tx sz1 (fN u 13)
    refine lv_bipush (v := 60) hx hb dX12_aStep_23 (by decide) ?_
    refine lv_icmp_ne (tgt := 32) hx hb dX12_aStep_25 (by decide) (fun c11 => ?_) (fun c11 => ?_)
    · have c11 := mt (b_eq (rfl : Int32.toInt (bA tx sz1 (fN u 13)) = _) (show Int32.toInt 60 = 60 from rfl)).mpr c11
      refine lv_iconst (v := 0) hx hb dX12_aStep_32 (by decide) ?_
      refine lv_istore_n (lv' := [(2, .int 0), (0, .ref (b 0)), (1, .ref (b jw))]) hx hb dX12_aStep_33 rfl hl (by decide) rfl (fun ls hl => ?_)
      refine lv_aload_n hx hb dX12_aStep_34 rfl (lv_at hl 1 rfl) ?_
      refine rc_v hAL hS hA (va_runV (As := []) (rest := []) ⟨hx, hb, hml, hown, noTs⟩ (r_X12_ahead l dC dI s.heap.size cs b u tx hAc16 sz1 (fN u 14) (fN u 15) hF11 hp1.2.1 hp1.2.2.1 (by first | assumption | omega | rfl | (congr 1; omega)) (by first | assumption | omega | rfl | (congr 1; omega)) (by first | assumption | omega | rfl | (congr 1; omega))) ⟨cbE 0 (wd_1506 hE) (wd_126 hE) (wd_1503 hE) rfl rfl (by decide +kernel) ⟨Nat.le_of_ble_eq_true rfl, Nat.le_of_ble_eq_true rfl⟩, (wd_1505 hE), (wd_56 hE)⟩ ⟨PR.blind, r_recv hK hP rfl, (r_pre (av := [.ref (b 0)]) hK hP hJ hE)⟩ rfl rfl hl.1 rfl (lv_room (Nat.le_of_ble_eq_true rfl)) dX12_aStep_35 ⟨Nat.le_of_ble_eq_true rfl, Nat.le_of_ble_eq_true rfl⟩) (fun u12 H locs hpo12 hP hS => ?_)
      obtain ⟨h12_0, h12_1, h12_2, hq12⟩ := hpo12
      have hA13 := (hq12.1 1 List.not_mem_nil).trans hA1
      have hA14 := (hq12.1 16 List.not_mem_nil).trans hAc16
      have hA15 := (hq12.1 jw List.not_mem_nil).trans hAjw
      have hF16x := (hq12.2.1 11 (by decide)).trans hF11
      have hfr := FR.step hfr hq12 (fun _ h => absurd h List.not_mem_nil) (by decide) (fun h => rfl)
      have htk17 := h12_0.2.2.2
      refine lv_aload_n hx hb dX12_aStep_38 rfl (lv_at hl 1 rfl) ?_
      refine rc_i hAL hS hA (va_runV (As := []) (rest := []) ⟨hx, hb, hml, hown, noTs⟩ (r_X12_isNumber l dC dI H.size cs b u12) ⟨cbE 0 (wd_1544 hE) (wd_126 hE) (wd_1541 hE) rfl rfl (by decide +kernel) ⟨Nat.le_of_ble_eq_true rfl, Nat.le_of_ble_eq_true rfl⟩, (wd_1543 hE), (wd_63 hE)⟩ ⟨PR.blind, r_recv hK hP rfl, (r_pre (av := [.ref (b 0)]) hK hP hJ hE)⟩ rfl rfl hl.1 rfl (lv_room (Nat.le_of_ble_eq_true rfl)) dX12_aStep_39 ⟨Nat.le_of_ble_eq_true rfl, Nat.le_of_ble_eq_true rfl⟩) (fun r18 u18 H locs hpo18 hP hS => ?_)
      obtain ⟨hr18, hq18⟩ := hpo18
      have hA19 := (hq18.1 1 List.not_mem_nil).trans hA13
      have hA20 := (hq18.1 16 List.not_mem_nil).trans hA14
      have hA21 := (hq18.1 jw List.not_mem_nil).trans hA15
      have hF22x := (hq18.2.1 11 (by decide)).trans hF16x
      have hF23x := (hq18.2.1 13 (by decide)).trans h12_0.1
      have hF24x := (hq18.2.1 14 (by decide)).trans h12_0.2.1
      have hF25x := (hq18.2.1 15 (by decide)).trans h12_0.2.2.1
      have hfr := FR.step hfr hq18 (fun _ h => absurd h List.not_mem_nil) (by decide) (fun h => rfl)
      rcases hr18 with ⟨rfl, hb18⟩ | ⟨rfl, hb18⟩
      · refine lv_if_ne (tgt := 47) hx hb dX12_aStep_42 (by decide) (fun c26 => ?_) (fun c26 => absurd c26 (by decide))
        refine lv_aload_n hx hb dX12_aStep_47 rfl (lv_at hl 1 rfl) ?_
        refine lv_aload_n hx hb dX12_aStep_48 rfl (lv_at hl 1 rfl) ?_
        refine r_get (v := .int (nI (fN u12 15))) hx hb (ly_X12 hE) hown hK hP rfl 15 (by decide) (wd_1396 hE) (fun _ h9 => h9) (congrArg (fun z : Int32 => some (Value.int z)) hF25x) dX12_aStep_49 ?_
        refine vp_callSi (va_Run.run (va_runV (As := [.int (nI (fN u12 15))]) (rest := []) ⟨hx, hb, hml, hown, noTs⟩ (r_X12_isEdge l dC dI H.size cs b u18 a hA19 (nI (fN u12 15)) (by first | assumption | omega | rfl | (congr 1; omega))) ⟨cbE 1 (wd_1587 hE) (wd_126 hE) (wd_1584 hE) rfl rfl (by decide +kernel) ⟨Nat.le_of_ble_eq_true rfl, Nat.le_of_ble_eq_true rfl⟩, (wd_1586 hE), (wd_73 hE)⟩ ⟨PR.blind, r_recv hK hP rfl, (r_pre (av := [.ref (b 0), .int (nI (fN u12 15))]) hK hP hJ hE)⟩ rfl rfl hl.1 rfl (lv_room (Nat.le_of_ble_eq_true rfl)) dX12_aStep_52 ⟨Nat.le_of_ble_eq_true rfl, Nat.le_of_ble_eq_true rfl⟩)) (fun r27 hr27 => ?_)
        rcases hr27 with ⟨rfl, hb27⟩ | ⟨rfl, hb27⟩
        · obtain ⟨n27, hbe27_1, hb27⟩ := hb27
          have hbe27_1 := (nI_eq (by omega) (by omega)).mp hbe27_1
          refine lv_if_ne (tgt := 64) hx hb dX12_aStep_55 (by decide) (fun c28 => ?_) (fun c28 => absurd c28 (by decide))
          refine lv_iconst (v := 2) hx hb dX12_aStep_64 (by decide) ?_
          refine lv_aload_n hx hb dX12_aStep_65 rfl (lv_at hl 1 rfl) ?_
          refine r_get (v := .int (nI (fN u12 15))) hx hb (ly_X12 hE) hown hK hP rfl 15 (by decide) (wd_1396 hE) (fun _ h9 => h9) (congrArg (fun z : Int32 => some (Value.int z)) hF25x) dX12_aStep_66 ?_
          refine lv_imul hx hb dX12_aStep_69 ?_
          refine W.eq (g2 := F0 m 70 ls [.int (nI (2 * (fN u12 15)))]) (congrArg (fun z : Int32 => F0 m 70 ls (.int z :: [])) (pk_mul 2 (fN u12 15))) ?_
          refine lv_iload_n hx hb dX12_aStep_70 rfl (lv_at hl 0 rfl) ?_
          refine lv_iadd hx hb dX12_aStep_71 ?_
          refine W.eq (g2 := F0 m 72 ls [.int (nI ((2 * (fN u12 15)) + 0))]) (congrArg (fun z : Int32 => F0 m 72 ls (.int z :: [])) (nI_add (2 * (fN u12 15)) 0)) ?_
          refine lv_istore_n (lv' := [(3, .int (nI ((2 * (fN u12 15)) + 0))), (2, .int 0), (0, .ref (b 0)), (1, .ref (b jw))]) hx hb dX12_aStep_72 rfl hl (by decide) rfl (fun ls hl => ?_)
          refine lv_aload_n hx hb dX12_aStep_73 rfl (lv_at hl 2 rfl) ?_
          refine lv_iload_n hx hb dX12_aStep_74 rfl (lv_at hl 0 rfl) ?_
          refine vp_callSi (va_Run.run (va_runV (As := [.int (nI ((2 * (fN u12 15)) + 0))]) (rest := []) ⟨hx, hb, hml, hown, noTs⟩ (r_X12_from l dC dI H.size cs b u18 a hA19 ((2 * (fN u12 15)) + 0) (by first | assumption | omega | rfl | (congr 1; omega)) (by first | assumption | omega | rfl | (congr 1; omega))) ⟨cbE 1 (wd_1591 hE) (wd_126 hE) (wd_1588 hE) rfl rfl (by decide +kernel) ⟨Nat.le_of_ble_eq_true rfl, Nat.le_of_ble_eq_true rfl⟩, (wd_1590 hE), (wd_74 hE)⟩ ⟨PR.blind, r_recv hK hP rfl, (r_pre (av := [.ref (b 0), .int (nI ((2 * (fN u12 15)) + 0))]) hK hP hJ hE)⟩ rfl rfl hl.1 rfl (lv_room (Nat.le_of_ble_eq_true rfl)) dX12_aStep_75 ⟨Nat.le_of_ble_eq_true rfl, Nat.le_of_ble_eq_true rfl⟩)) (fun r29 hr29 => ?_)
          have hau29 := gg_src (a := a) (s := ((2 * (fN u12 15)) + 0)) (by assumption) (by first | assumption | omega)
          subst hr29
          refine lv_aload_n hx hb dX12_aStep_78 rfl (lv_at hl 2 rfl) ?_
          refine lv_aload_n hx hb dX12_aStep_79 rfl (lv_at hl 3 rfl) ?_
          refine vp_callSi (va_Run.run (va_runV (As := [.ref (b jw)]) (rest := [.int (nI (src a ((2 * (fN u12 15)) + 0)))]) ⟨hx, hb, hml, hown, noTs⟩ (r_X12_end l dC dI H.size cs b u18 a hA19 jw (by omega) w hA21 (by first | assumption | omega | rfl | (congr 1; omega)) (by first | assumption | omega | rfl | (congr 1; omega))) ⟨cbE 1 (wd_1599 hE) (wd_126 hE) (wd_1596 hE) rfl rfl (by decide +kernel) ⟨Nat.le_of_ble_eq_true rfl, Nat.le_of_ble_eq_true rfl⟩, (wd_1598 hE), (wd_76 hE)⟩ ⟨PR.blind, r_recv hK hP rfl, (r_pre (av := [.ref (b 0), .ref (b jw)]) hK hP hJ hE)⟩ rfl rfl hl.1 rfl (lv_room (Nat.le_of_ble_eq_true rfl)) dX12_aStep_80 ⟨Nat.le_of_ble_eq_true rfl, Nat.le_of_ble_eq_true rfl⟩)) (fun r30 hr30 => ?_)
          have hau30 := pg_end (a := a) (w := w) (by assumption) (by assumption)
          subst hr30
          refine lv_icmp_eq (tgt := 92) hx hb dX12_aStep_83 (by decide) (fun c31 => ?_) (fun c31 => ?_)
          · have c31 := (b_eq (nI_toInt (n := src a ((2 * (fN u12 15)) + 0)) (by omega)) (nI_toInt (n := vend a w) (by omega))).mp c31
            refine lv_aload_n hx hb dX12_aStep_92 rfl (lv_at hl 2 rfl) ?_
            refine rc_v hAL hS hA (va_runV (As := []) (rest := []) ⟨hx, hb, hml, hown, noTs⟩ (r_X12_ahead l dC dI H.size cs b u18 tx hA20 sz1 (fN u12 14) (fN u12 15) hF22x hF24x hF25x (by first | assumption | omega | rfl | (congr 1; omega)) (by first | assumption | omega | rfl | (congr 1; omega)) (by first | assumption | omega | rfl | (congr 1; omega))) ⟨cbE 0 (wd_1506 hE) (wd_126 hE) (wd_1503 hE) rfl rfl (by decide +kernel) ⟨Nat.le_of_ble_eq_true rfl, Nat.le_of_ble_eq_true rfl⟩, (wd_1505 hE), (wd_56 hE)⟩ ⟨PR.blind, r_recv hK hP rfl, (r_pre (av := [.ref (b 0)]) hK hP hJ hE)⟩ rfl rfl hl.1 rfl (lv_room (Nat.le_of_ble_eq_true rfl)) dX12_aStep_93 ⟨Nat.le_of_ble_eq_true rfl, Nat.le_of_ble_eq_true rfl⟩) (fun u32 H locs hpo32 hP hS => ?_)
            obtain ⟨h32_0, h32_1, h32_2, hq32⟩ := hpo32
            have hA33 := (hq32.1 1 List.not_mem_nil).trans hA19
            have hA34 := (hq32.1 16 List.not_mem_nil).trans hA20
            have hA35 := (hq32.1 jw List.not_mem_nil).trans hA21
            have hF36x := (hq32.2.1 11 (by decide)).trans hF22x
            have hfr := FR.step hfr hq32 (fun _ h => absurd h List.not_mem_nil) (by decide) (fun h => rfl)
            have htk37 := h32_0.2.2.2
            refine lv_aload_n hx hb dX12_aStep_96 rfl (lv_at hl 3 rfl) ?_
            refine lv_iload_n hx hb dX12_aStep_97 rfl (lv_at hl 0 rfl) ?_
            refine lv_aload_n hx hb dX12_aStep_98 rfl (lv_at hl 2 rfl) ?_
            refine lv_aload_n hx hb dX12_aStep_99 rfl (lv_at hl 2 rfl) ?_
            refine lv_iload_n hx hb dX12_aStep_100 rfl (lv_at hl 0 rfl) ?_
            refine vp_callSi (va_Run.run (va_runV (As := [.int (nI ((2 * (fN u12 15)) + 0))]) (rest := [.ref (b 0), .int (nI ((2 * (fN u12 15)) + 0)), .ref (b jw)]) ⟨hx, hb, hml, hown, noTs⟩ (r_X12_to l dC dI H.size cs b u32 a hA33 ((2 * (fN u12 15)) + 0) (by first | assumption | omega | rfl | (congr 1; omega)) (by first | assumption | omega | rfl | (congr 1; omega))) ⟨cbE 1 (wd_1606 hE) (wd_126 hE) (wd_1603 hE) rfl rfl (by decide +kernel) ⟨Nat.le_of_ble_eq_true rfl, Nat.le_of_ble_eq_true rfl⟩, (wd_1605 hE), (wd_77 hE)⟩ ⟨PR.blind, r_recv hK hP rfl, (r_pre (av := [.ref (b 0), .int (nI ((2 * (fN u12 15)) + 0))]) hK hP hJ hE)⟩ rfl rfl hl.1 rfl (lv_room (Nat.le_of_ble_eq_true rfl)) dX12_aStep_101 ⟨Nat.le_of_ble_eq_true rfl, Nat.le_of_ble_eq_true rfl⟩)) (fun r38 hr38 => ?_)
            have hau38 := gg_dst (a := a) (s := ((2 * (fN u12 15)) + 0)) (by assumption) (by first | assumption | omega)
            subst hr38
            refine rc_i hAL hS hA (va_runV (As := [.int (nI (dst a ((2 * (fN u12 15)) + 0)))]) (rest := [.int (nI ((2 * (fN u12 15)) + 0)), .ref (b jw)]) ⟨hx, hb, hml, hown, noTs⟩ (r_X12_someNumber l dC dI H.size cs b u32 a hA33 tx hA34 (dst a ((2 * (fN u12 15)) + 0)) sz1 hF36x (by first | assumption | omega | rfl | (congr 1; omega)) (by first | assumption | omega | rfl | (congr 1; omega)) (by first | assumption | omega | rfl | (congr 1; omega)) (by first | assumption | omega | rfl | (congr 1; omega))) ⟨cbE 1 (wd_1572 hE) (wd_126 hE) (wd_1569 hE) rfl rfl (by decide +kernel) ⟨Nat.le_of_ble_eq_true rfl, Nat.le_of_ble_eq_true rfl⟩, (wd_1571 hE), (wd_70 hE)⟩ ⟨PR.blind, r_recv hK hP rfl, (r_pre (av := [.ref (b 0), .int (nI (dst a ((2 * (fN u12 15)) + 0)))]) hK hP hJ hE)⟩ rfl rfl hl.1 rfl (lv_room (Nat.le_of_ble_eq_true rfl)) dX12_aStep_104 ⟨Nat.le_of_ble_eq_true rfl, Nat.le_of_ble_eq_true rfl⟩) (fun r39 u39 H locs hpo39 hP hS => ?_)
            obtain ⟨hr39, h39_0, h39_1, hq39⟩ := hpo39
            have hA40 := (hq39.1 1 List.not_mem_nil).trans hA33
            have hA41 := (hq39.1 16 List.not_mem_nil).trans hA34
            have hA42 := (hq39.1 jw List.not_mem_nil).trans hA35
            have hF43x := (hq39.2.1 11 (by decide)).trans hF36x
            have hfr := FR.step hfr hq39 (fun _ h => absurd h List.not_mem_nil) (by decide) (fun h => rfl)
            have htk44 := h39_0.2.2.2
            obtain ⟨n39, rfl, hn39_0⟩ := hr39
            refine rc_v hAL hS hA (va_runS (As := [.ref (b jw), .int (nI ((2 * (fN u12 15)) + 0)), .int (nI n39)]) (rest := []) ⟨hx, hb, hml, hown, noTs⟩ (r_X12_goes l dC dI H.size cs b u39 a hA40 jw (by omega) w hA42 ((2 * (fN u12 15)) + 0) (nI n39) (by first | assumption | omega | rfl | (congr 1; omega)) (by first | assumption | omega | rfl | (congr 1; omega)) (by first | assumption | omega | rfl | (congr 1; omega)) (by first | assumption | omega | rfl | (congr 1; omega)) (by first | assumption | omega | rfl | (congr 1; omega))) ⟨cbE 3 (wd_1609 hE) (wd_126 hE) (wd_1607 hE) rfl rfl (by decide +kernel) ⟨Nat.le_of_ble_eq_true rfl, Nat.le_of_ble_eq_true rfl⟩, (wd_1608 hE)⟩ ⟨PR.blind, (r_pre (av := [.ref (b jw), .int (nI ((2 * (fN u12 15)) + 0)), .int (nI n39)]) hK hP hJ hE)⟩ rfl rfl hl.1 rfl (lv_room (Nat.le_of_ble_eq_true rfl)) dX12_aStep_107 ⟨Nat.le_of_ble_eq_true rfl, Nat.le_of_ble_eq_true rfl⟩) (fun u45 H locs hpo45 hP hS => ?_)
            obtain ⟨h45_0, h45_1, h45_2, h45_3, h45_4, h45_5, h45_6, h45_7, hq45⟩ := hpo45
            obtain ⟨w46, hA46⟩ : ∃ g, rA u45 jw = g := ⟨_, rfl⟩
            rw [hA46] at h45_0 h45_1 h45_2 h45_3 h45_4 h45_5 h45_6 h45_7
            have hA47 := (hq45.1 1 (by simp only [List.mem_cons, List.not_mem_nil, or_false, not_or]; omega)).trans hA40
            have hA48 := (hq45.1 16 (by simp only [List.mem_cons, List.not_mem_nil, or_false, not_or]; omega)).trans hA41
            have hF49x := (hq45.2.1 11 List.not_mem_nil).trans hF43x
            have hF50x := (hq45.2.1 13 List.not_mem_nil).trans h39_0.1
            have hF51x := (hq45.2.1 14 List.not_mem_nil).trans h39_0.2.1
            have hF52x := (hq45.2.1 15 List.not_mem_nil).trans h39_0.2.2.1
            have hfr := FR.step hfr hq45 (by simp) (fun _ h => absurd h List.not_mem_nil) (fun h => rfl)
            have hl45_0 := pg_le h45_0
            have p1 := h45_0
            have hdo := gg_od hG (gg_dst hG (s := ((2 * (fN u12 15)) + 0)) (by omega))
            have p8 : LG a w46 := lg_mk (n := rn w + 1) h45_1 h45_3 h45_4 (by omega) (by omega)
            refine lv_iconst (v := 1) hx hb dX12_aStep_110 (by decide) ?_
            obtain ⟨tk1, tk2, tk3⟩ := tk_mk (n := sz1) hF50x hF51x hF52x (by omega) (by omega) (by omega) (by omega)
            exact W.zret (v := 1) hx hb hr rfl (fun t ht hW => ⟨⟨1, u45, rfl, ⟨Or.inl ⟨rfl, by rw [hA46]; omega⟩, (by first | (rw [hA46]; done) | (rw [hA46]; first | assumption | exact p1)), (by first | (rw [hA46]; done) | (rw [hA46]; first | assumption | exact p8)), (by first | (rw [hA46]; done) | (rw [hA46]; first | assumption | omega | rfl | (congr 1; omega))), (by exact tk1), (by omega), hfr⟩, (show va_P (dC, dI) vwCl (rW cs b u45) t.heap by rw [ht]; exact hP)⟩, hS.F ht⟩) hS.2.2 dX12_aStep_111
          · have c31 := mt (b_eq (nI_toInt (n := src a ((2 * (fN u12 15)) + 0)) (by omega)) (nI_toInt (n := vend a w) (by omega))).mpr c31
            refine lv_aload_n hx hb dX12_aStep_86 rfl (lv_at hl 2 rfl) ?_
            refine lv_iconst (v := 5) hx hb dX12_aStep_87 (by decide) ?_
            refine rc_i hAL hS hA (va_runV (As := [.int 5]) (rest := []) ⟨hx, hb, hml, hown, noTs⟩ (r_X12_fails l dC dI H.size cs b u18 5) ⟨cbE 1 (wd_1540 hE) (wd_126 hE) (wd_1537 hE) rfl rfl (by decide +kernel) ⟨Nat.le_of_ble_eq_true rfl, Nat.le_of_ble_eq_true rfl⟩, (wd_1539 hE), (wd_62 hE)⟩ ⟨PR.blind, r_recv hK hP rfl, (r_pre (av := [.ref (b 0), .int 5]) hK hP hJ hE)⟩ rfl rfl hl.1 rfl (lv_room (Nat.le_of_ble_eq_true rfl)) dX12_aStep_88 ⟨Nat.le_of_ble_eq_true rfl, Nat.le_of_ble_eq_true rfl⟩) (fun r53 u53 H locs hpo53 hP hS => ?_)
            obtain ⟨hr53, hq53⟩ := hpo53
            have hA54 := (hq53.1 1 List.not_mem_nil).trans hA19
            have hA55 := (hq53.1 16 List.not_mem_nil).trans hA20
            have hA56 := (hq53.1 jw List.not_mem_nil).trans hA21
            have hF57x := (hq53.2.1 11 (by decide)).trans hF22x
            have hF58x := (hq53.2.1 13 (by decide)).trans hF23x
            have hF59x := (hq53.2.1 14 (by decide)).trans hF24x
            have hF60x := (hq53.2.1 15 (by decide)).trans hF25x
            have hfr := FR.step hfr hq53 (fun _ h => absurd h List.not_mem_nil) (by decide) (fun h => rfl)
            subst hr53
            obtain ⟨tk1, tk2, tk3⟩ := tk_mk (n := sz1) hF58x hF59x hF60x (by omega) (by omega) (by omega) (by omega)
            exact W.zret (v := 0) hx hb hr rfl (fun t ht hW => ⟨⟨0, u53, rfl, ⟨Or.inr ⟨rfl, by trivial⟩, (by first | (rw [hA56]; done) | (rw [hA56]; first | assumption | exact p1)), (by first | (rw [hA56]; done) | (rw [hA56]; first | assumption | exact p8)), (by first | (rw [hA56]; done) | (rw [hA56]; first | assumption | omega | rfl | (congr 1; omega))), (by exact tk1), (by omega), hfr⟩, (show va_P (dC, dI) vwCl (rW cs b u53) t.heap by rw [ht]; exact hP)⟩, hS.F ht⟩) hS.2.2 dX12_aStep_91
        · refine lv_if_ne (tgt := 64) hx hb dX12_aStep_55 (by decide) (fun c61 => absurd c61 (by decide)) (fun c61 => ?_)
          refine lv_aload_n hx hb dX12_aStep_58 rfl (lv_at hl 1 rfl) ?_
          refine lv_iconst (v := 3) hx hb dX12_aStep_59 (by decide) ?_
          refine rc_i hAL hS hA (va_runV (As := [.int 3]) (rest := []) ⟨hx, hb, hml, hown, noTs⟩ (r_X12_fails l dC dI H.size cs b u18 3) ⟨cbE 1 (wd_1540 hE) (wd_126 hE) (wd_1537 hE) rfl rfl (by decide +kernel) ⟨Nat.le_of_ble_eq_true rfl, Nat.le_of_ble_eq_true rfl⟩, (wd_1539 hE), (wd_62 hE)⟩ ⟨PR.blind, r_recv hK hP rfl, (r_pre (av := [.ref (b 0), .int 3]) hK hP hJ hE)⟩ rfl rfl hl.1 rfl (lv_room (Nat.le_of_ble_eq_true rfl)) dX12_aStep_60 ⟨Nat.le_of_ble_eq_true rfl, Nat.le_of_ble_eq_true rfl⟩) (fun r62 u62 H locs hpo62 hP hS => ?_)
          obtain ⟨hr62, hq62⟩ := hpo62
          have hA63 := (hq62.1 1 List.not_mem_nil).trans hA19
          have hA64 := (hq62.1 16 List.not_mem_nil).trans hA20
          have hA65 := (hq62.1 jw List.not_mem_nil).trans hA21
          have hF66x := (hq62.2.1 11 (by decide)).trans hF22x
          have hF67x := (hq62.2.1 13 (by decide)).trans hF23x
          have hF68x := (hq62.2.1 14 (by decide)).trans hF24x
          have hF69x := (hq62.2.1 15 (by decide)).trans hF25x
          have hfr := FR.step hfr hq62 (fun _ h => absurd h List.not_mem_nil) (by decide) (fun h => rfl)
          subst hr62
          obtain ⟨tk1, tk2, tk3⟩ := tk_mk (n := sz1) hF67x hF68x hF69x (by omega) (by omega) (by omega) (by omega)
          exact W.zret (v := 0) hx hb hr rfl (fun t ht hW => ⟨⟨0, u62, rfl, ⟨Or.inr ⟨rfl, by trivial⟩, (by first | (rw [hA65]; done) | (rw [hA65]; first | assumption | exact p1)), (by first | (rw [hA65]; done) | (rw [hA65]; first | assumption | exact p8)), (by first | (rw [hA65]; done) | (rw [hA65]; first | assumption | omega | rfl | (congr 1; omega))), (by exact tk1), (by omega), hfr⟩, (show va_P (dC, dI) vwCl (rW cs b u62) t.heap by rw [ht]; exact hP)⟩, hS.F ht⟩) hS.2.2 dX12_aStep_63
      · refine lv_if_ne (tgt := 47) hx hb dX12_aStep_42 (by decide) (fun c70 => absurd c70 (by decide)) (fun c70 => ?_)
        refine lv_iconst (v := 0) hx hb dX12_aStep_45 (by decide) ?_
        obtain ⟨tk1, tk2, tk3⟩ := tk_mk (n := sz1) hF23x hF24x hF25x (by omega) (by omega) (by omega) (by omega)
        exact W.zret (v := 0) hx hb hr rfl (fun t ht hW => ⟨⟨0, u18, rfl, ⟨Or.inr ⟨rfl, by trivial⟩, (by first | (rw [hA21]; done) | (rw [hA21]; first | assumption | exact p1)), (by first | (rw [hA21]; done) | (rw [hA21]; first | assumption | exact p8)), (by first | (rw [hA21]; done) | (rw [hA21]; first | assumption | omega | rfl | (congr 1; omega))), (by exact tk1), (by omega), hfr⟩, (show va_P (dC, dI) vwCl (rW cs b u18) t.heap by rw [ht]; exact hP)⟩, hS.F ht⟩) hS.2.2 dX12_aStep_46
    · have c11 := (b_eq (rfl : Int32.toInt (bA tx sz1 (fN u 13)) = _) (show Int32.toInt 60 = 60 from rfl)).mp c11
      refine lv_iconst (v := 1) hx hb dX12_aStep_28 (by decide) ?_
      refine lv_goto (tgt := 33) hx hb dX12_aStep_29 (by decide) ?_
      refine lv_istore_n (lv' := [(2, .int 1), (0, .ref (b 0)), (1, .ref (b jw))]) hx hb dX12_aStep_33 rfl hl (by decide) rfl (fun ls hl => ?_)
      refine lv_aload_n hx hb dX12_aStep_34 rfl (lv_at hl 1 rfl) ?_
      refine rc_v hAL hS hA (va_runV (As := []) (rest := []) ⟨hx, hb, hml, hown, noTs⟩ (r_X12_ahead l dC dI s.heap.size cs b u tx hAc16 sz1 (fN u 14) (fN u 15) hF11 hp1.2.1 hp1.2.2.1 (by first | assumption | omega | rfl | (congr 1; omega)) (by first | assumption | omega | rfl | (congr 1; omega)) (by first | assumption | omega | rfl | (congr 1; omega))) ⟨cbE 0 (wd_1506 hE) (wd_126 hE) (wd_1503 hE) rfl rfl (by decide +kernel) ⟨Nat.le_of_ble_eq_true rfl, Nat.le_of_ble_eq_true rfl⟩, (wd_1505 hE), (wd_56 hE)⟩ ⟨PR.blind, r_recv hK hP rfl, (r_pre (av := [.ref (b 0)]) hK hP hJ hE)⟩ rfl rfl hl.1 rfl (lv_room (Nat.le_of_ble_eq_true rfl)) dX12_aStep_35 ⟨Nat.le_of_ble_eq_true rfl, Nat.le_of_ble_eq_true rfl⟩) (fun u71 H locs hpo71 hP hS => ?_)
      obtain ⟨h71_0, h71_1, h71_2, hq71⟩ := hpo71
      have hA72 := (hq71.1 1 List.not_mem_nil).trans hA1
      have hA73 := (hq71.1 16 List.not_mem_nil).trans hAc16
      have hA74 := (hq71.1 jw List.not_mem_nil).trans hAjw
      have hF75x := (hq71.2.1 11 (by decide)).trans hF11
      have hfr := FR.step hfr hq71 (fun _ h => absurd h List.not_mem_nil) (by decide) (fun h => rfl)
      have htk76 := h71_0.2.2.2
      refine lv_aload_n hx hb dX12_aStep_38 rfl (lv_at hl 1 rfl) ?_
      refine rc_i hAL hS hA (va_runV (As := []) (rest := []) ⟨hx, hb, hml, hown, noTs⟩ (r_X12_isNumber l dC dI H.size cs b u71) ⟨cbE 0 (wd_1544 hE) (wd_126 hE) (wd_1541 hE) rfl rfl (by decide +kernel) ⟨Nat.le_of_ble_eq_true rfl, Nat.le_of_ble_eq_true rfl⟩, (wd_1543 hE), (wd_63 hE)⟩ ⟨PR.blind, r_recv hK hP rfl, (r_pre (av := [.ref (b 0)]) hK hP hJ hE)⟩ rfl rfl hl.1 rfl (lv_room (Nat.le_of_ble_eq_true rfl)) dX12_aStep_39 ⟨Nat.le_of_ble_eq_true rfl, Nat.le_of_ble_eq_true rfl⟩) (fun r77 u77 H locs hpo77 hP hS => ?_)
      obtain ⟨hr77, hq77⟩ := hpo77
      have hA78 := (hq77.1 1 List.not_mem_nil).trans hA72
      have hA79 := (hq77.1 16 List.not_mem_nil).trans hA73
      have hA80 := (hq77.1 jw List.not_mem_nil).trans hA74
      have hF81x := (hq77.2.1 11 (by decide)).trans hF75x
      have hF82x := (hq77.2.1 13 (by decide)).trans h71_0.1
      have hF83x := (hq77.2.1 14 (by decide)).trans h71_0.2.1
      have hF84x := (hq77.2.1 15 (by decide)).trans h71_0.2.2.1
      have hfr := FR.step hfr hq77 (fun _ h => absurd h List.not_mem_nil) (by decide) (fun h => rfl)
      rcases hr77 with ⟨rfl, hb77⟩ | ⟨rfl, hb77⟩
      · refine lv_if_ne (tgt := 47) hx hb dX12_aStep_42 (by decide) (fun c85 => ?_) (fun c85 => absurd c85 (by decide))
        refine lv_aload_n hx hb dX12_aStep_47 rfl (lv_at hl 1 rfl) ?_
        refine lv_aload_n hx hb dX12_aStep_48 rfl (lv_at hl 1 rfl) ?_
        refine r_get (v := .int (nI (fN u71 15))) hx hb (ly_X12 hE) hown hK hP rfl 15 (by decide) (wd_1396 hE) (fun _ h9 => h9) (congrArg (fun z : Int32 => some (Value.int z)) hF84x) dX12_aStep_49 ?_
        refine vp_callSi (va_Run.run (va_runV (As := [.int (nI (fN u71 15))]) (rest := []) ⟨hx, hb, hml, hown, noTs⟩ (r_X12_isEdge l dC dI H.size cs b u77 a hA78 (nI (fN u71 15)) (by first | assumption | omega | rfl | (congr 1; omega))) ⟨cbE 1 (wd_1587 hE) (wd_126 hE) (wd_1584 hE) rfl rfl (by decide +kernel) ⟨Nat.le_of_ble_eq_true rfl, Nat.le_of_ble_eq_true rfl⟩, (wd_1586 hE), (wd_73 hE)⟩ ⟨PR.blind, r_recv hK hP rfl, (r_pre (av := [.ref (b 0), .int (nI (fN u71 15))]) hK hP hJ hE)⟩ rfl rfl hl.1 rfl (lv_room (Nat.le_of_ble_eq_true rfl)) dX12_aStep_52 ⟨Nat.le_of_ble_eq_true rfl, Nat.le_of_ble_eq_true rfl⟩)) (fun r86 hr86 => ?_)
        rcases hr86 with ⟨rfl, hb86⟩ | ⟨rfl, hb86⟩
        · obtain ⟨n86, hbe86_1, hb86⟩ := hb86
          have hbe86_1 := (nI_eq (by omega) (by omega)).mp hbe86_1
          refine lv_if_ne (tgt := 64) hx hb dX12_aStep_55 (by decide) (fun c87 => ?_) (fun c87 => absurd c87 (by decide))
          refine lv_iconst (v := 2) hx hb dX12_aStep_64 (by decide) ?_
          refine lv_aload_n hx hb dX12_aStep_65 rfl (lv_at hl 1 rfl) ?_
          refine r_get (v := .int (nI (fN u71 15))) hx hb (ly_X12 hE) hown hK hP rfl 15 (by decide) (wd_1396 hE) (fun _ h9 => h9) (congrArg (fun z : Int32 => some (Value.int z)) hF84x) dX12_aStep_66 ?_
          refine lv_imul hx hb dX12_aStep_69 ?_
          refine W.eq (g2 := F0 m 70 ls [.int (nI (2 * (fN u71 15)))]) (congrArg (fun z : Int32 => F0 m 70 ls (.int z :: [])) (pk_mul 2 (fN u71 15))) ?_
          refine lv_iload_n hx hb dX12_aStep_70 rfl (lv_at hl 0 rfl) ?_
          refine lv_iadd hx hb dX12_aStep_71 ?_
          refine W.eq (g2 := F0 m 72 ls [.int (nI ((2 * (fN u71 15)) + 1))]) (congrArg (fun z : Int32 => F0 m 72 ls (.int z :: [])) (nI_add (2 * (fN u71 15)) 1)) ?_
          refine lv_istore_n (lv' := [(3, .int (nI ((2 * (fN u71 15)) + 1))), (2, .int 1), (0, .ref (b 0)), (1, .ref (b jw))]) hx hb dX12_aStep_72 rfl hl (by decide) rfl (fun ls hl => ?_)
          refine lv_aload_n hx hb dX12_aStep_73 rfl (lv_at hl 2 rfl) ?_
          refine lv_iload_n hx hb dX12_aStep_74 rfl (lv_at hl 0 rfl) ?_
          refine vp_callSi (va_Run.run (va_runV (As := [.int (nI ((2 * (fN u71 15)) + 1))]) (rest := []) ⟨hx, hb, hml, hown, noTs⟩ (r_X12_from l dC dI H.size cs b u77 a hA78 ((2 * (fN u71 15)) + 1) (by first | assumption | omega | rfl | (congr 1; omega)) (by first | assumption | omega | rfl | (congr 1; omega))) ⟨cbE 1 (wd_1591 hE) (wd_126 hE) (wd_1588 hE) rfl rfl (by decide +kernel) ⟨Nat.le_of_ble_eq_true rfl, Nat.le_of_ble_eq_true rfl⟩, (wd_1590 hE), (wd_74 hE)⟩ ⟨PR.blind, r_recv hK hP rfl, (r_pre (av := [.ref (b 0), .int (nI ((2 * (fN u71 15)) + 1))]) hK hP hJ hE)⟩ rfl rfl hl.1 rfl (lv_room (Nat.le_of_ble_eq_true rfl)) dX12_aStep_75 ⟨Nat.le_of_ble_eq_true rfl, Nat.le_of_ble_eq_true rfl⟩)) (fun r88 hr88 => ?_)
          have hau88 := gg_src (a := a) (s := ((2 * (fN u71 15)) + 1)) (by assumption) (by first | assumption | omega)
          subst hr88
          refine lv_aload_n hx hb dX12_aStep_78 rfl (lv_at hl 2 rfl) ?_
          refine lv_aload_n hx hb dX12_aStep_79 rfl (lv_at hl 3 rfl) ?_
          refine vp_callSi (va_Run.run (va_runV (As := [.ref (b jw)]) (rest := [.int (nI (src a ((2 * (fN u71 15)) + 1)))]) ⟨hx, hb, hml, hown, noTs⟩ (r_X12_end l dC dI H.size cs b u77 a hA78 jw (by omega) w hA80 (by first | assumption | omega | rfl | (congr 1; omega)) (by first | assumption | omega | rfl | (congr 1; omega))) ⟨cbE 1 (wd_1599 hE) (wd_126 hE) (wd_1596 hE) rfl rfl (by decide +kernel) ⟨Nat.le_of_ble_eq_true rfl, Nat.le_of_ble_eq_true rfl⟩, (wd_1598 hE), (wd_76 hE)⟩ ⟨PR.blind, r_recv hK hP rfl, (r_pre (av := [.ref (b 0), .ref (b jw)]) hK hP hJ hE)⟩ rfl rfl hl.1 rfl (lv_room (Nat.le_of_ble_eq_true rfl)) dX12_aStep_80 ⟨Nat.le_of_ble_eq_true rfl, Nat.le_of_ble_eq_true rfl⟩)) (fun r89 hr89 => ?_)
          have hau89 := pg_end (a := a) (w := w) (by assumption) (by assumption)
          subst hr89
          refine lv_icmp_eq (tgt := 92) hx hb dX12_aStep_83 (by decide) (fun c90 => ?_) (fun c90 => ?_)
          · have c90 := (b_eq (nI_toInt (n := src a ((2 * (fN u71 15)) + 1)) (by omega)) (nI_toInt (n := vend a w) (by omega))).mp c90
            refine lv_aload_n hx hb dX12_aStep_92 rfl (lv_at hl 2 rfl) ?_
            refine rc_v hAL hS hA (va_runV (As := []) (rest := []) ⟨hx, hb, hml, hown, noTs⟩ (r_X12_ahead l dC dI H.size cs b u77 tx hA79 sz1 (fN u71 14) (fN u71 15) hF81x hF83x hF84x (by first | assumption | omega | rfl | (congr 1; omega)) (by first | assumption | omega | rfl | (congr 1; omega)) (by first | assumption | omega | rfl | (congr 1; omega))) ⟨cbE 0 (wd_1506 hE) (wd_126 hE) (wd_1503 hE) rfl rfl (by decide +kernel) ⟨Nat.le_of_ble_eq_true rfl, Nat.le_of_ble_eq_true rfl⟩, (wd_1505 hE), (wd_56 hE)⟩ ⟨PR.blind, r_recv hK hP rfl, (r_pre (av := [.ref (b 0)]) hK hP hJ hE)⟩ rfl rfl hl.1 rfl (lv_room (Nat.le_of_ble_eq_true rfl)) dX12_aStep_93 ⟨Nat.le_of_ble_eq_true rfl, Nat.le_of_ble_eq_true rfl⟩) (fun u91 H locs hpo91 hP hS => ?_)
            obtain ⟨h91_0, h91_1, h91_2, hq91⟩ := hpo91
            have hA92 := (hq91.1 1 List.not_mem_nil).trans hA78
            have hA93 := (hq91.1 16 List.not_mem_nil).trans hA79
            have hA94 := (hq91.1 jw List.not_mem_nil).trans hA80
            have hF95x := (hq91.2.1 11 (by decide)).trans hF81x
            have hfr := FR.step hfr hq91 (fun _ h => absurd h List.not_mem_nil) (by decide) (fun h => rfl)
            have htk96 := h91_0.2.2.2
            refine lv_aload_n hx hb dX12_aStep_96 rfl (lv_at hl 3 rfl) ?_
            refine lv_iload_n hx hb dX12_aStep_97 rfl (lv_at hl 0 rfl) ?_
            refine lv_aload_n hx hb dX12_aStep_98 rfl (lv_at hl 2 rfl) ?_
            refine lv_aload_n hx hb dX12_aStep_99 rfl (lv_at hl 2 rfl) ?_
            refine lv_iload_n hx hb dX12_aStep_100 rfl (lv_at hl 0 rfl) ?_
            refine vp_callSi (va_Run.run (va_runV (As := [.int (nI ((2 * (fN u71 15)) + 1))]) (rest := [.ref (b 0), .int (nI ((2 * (fN u71 15)) + 1)), .ref (b jw)]) ⟨hx, hb, hml, hown, noTs⟩ (r_X12_to l dC dI H.size cs b u91 a hA92 ((2 * (fN u71 15)) + 1) (by first | assumption | omega | rfl | (congr 1; omega)) (by first | assumption | omega | rfl | (congr 1; omega))) ⟨cbE 1 (wd_1606 hE) (wd_126 hE) (wd_1603 hE) rfl rfl (by decide +kernel) ⟨Nat.le_of_ble_eq_true rfl, Nat.le_of_ble_eq_true rfl⟩, (wd_1605 hE), (wd_77 hE)⟩ ⟨PR.blind, r_recv hK hP rfl, (r_pre (av := [.ref (b 0), .int (nI ((2 * (fN u71 15)) + 1))]) hK hP hJ hE)⟩ rfl rfl hl.1 rfl (lv_room (Nat.le_of_ble_eq_true rfl)) dX12_aStep_101 ⟨Nat.le_of_ble_eq_true rfl, Nat.le_of_ble_eq_true rfl⟩)) (fun r97 hr97 => ?_)
            have hau97 := gg_dst (a := a) (s := ((2 * (fN u71 15)) + 1)) (by assumption) (by first | assumption | omega)
            subst hr97
            refine rc_i hAL hS hA (va_runV (As := [.int (nI (dst a ((2 * (fN u71 15)) + 1)))]) (rest := [.int (nI ((2 * (fN u71 15)) + 1)), .ref (b jw)]) ⟨hx, hb, hml, hown, noTs⟩ (r_X12_someNumber l dC dI H.size cs b u91 a hA92 tx hA93 (dst a ((2 * (fN u71 15)) + 1)) sz1 hF95x (by first | assumption | omega | rfl | (congr 1; omega)) (by first | assumption | omega | rfl | (congr 1; omega)) (by first | assumption | omega | rfl | (congr 1; omega)) (by first | assumption | omega | rfl | (congr 1; omega))) ⟨cbE 1 (wd_1572 hE) (wd_126 hE) (wd_1569 hE) rfl rfl (by decide +kernel) ⟨Nat.le_of_ble_eq_true rfl, Nat.le_of_ble_eq_true rfl⟩, (wd_1571 hE), (wd_70 hE)⟩ ⟨PR.blind, r_recv hK hP rfl, (r_pre (av := [.ref (b 0), .int (nI (dst a ((2 * (fN u71 15)) + 1)))]) hK hP hJ hE)⟩ rfl rfl hl.1 rfl (lv_room (Nat.le_of_ble_eq_true rfl)) dX12_aStep_104 ⟨Nat.le_of_ble_eq_true rfl, Nat.le_of_ble_eq_true rfl⟩) (fun r98 u98 H locs hpo98 hP hS => ?_)
            obtain ⟨hr98, h98_0, h98_1, hq98⟩ := hpo98
            have hA99 := (hq98.1 1 List.not_mem_nil).trans hA92
            have hA100 := (hq98.1 16 List.not_mem_nil).trans hA93
            have hA101 := (hq98.1 jw List.not_mem_nil).trans hA94
            have hF102x := (hq98.2.1 11 (by decide)).trans hF95x
            have hfr := FR.step hfr hq98 (fun _ h => absurd h List.not_mem_nil) (by decide) (fun h => rfl)
            have htk103 := h98_0.2.2.2
            obtain ⟨n98, rfl, hn98_0⟩ := hr98
            refine rc_v hAL hS hA (va_runS (As := [.ref (b jw), .int (nI ((2 * (fN u71 15)) + 1)), .int (nI n98)]) (rest := []) ⟨hx, hb, hml, hown, noTs⟩ (r_X12_goes l dC dI H.size cs b u98 a hA99 jw (by omega) w hA101 ((2 * (fN u71 15)) + 1) (nI n98) (by first | assumption | omega | rfl | (congr 1; omega)) (by first | assumption | omega | rfl | (congr 1; omega)) (by first | assumption | omega | rfl | (congr 1; omega)) (by first | assumption | omega | rfl | (congr 1; omega)) (by first | assumption | omega | rfl | (congr 1; omega))) ⟨cbE 3 (wd_1609 hE) (wd_126 hE) (wd_1607 hE) rfl rfl (by decide +kernel) ⟨Nat.le_of_ble_eq_true rfl, Nat.le_of_ble_eq_true rfl⟩, (wd_1608 hE)⟩ ⟨PR.blind, (r_pre (av := [.ref (b jw), .int (nI ((2 * (fN u71 15)) + 1)), .int (nI n98)]) hK hP hJ hE)⟩ rfl rfl hl.1 rfl (lv_room (Nat.le_of_ble_eq_true rfl)) dX12_aStep_107 ⟨Nat.le_of_ble_eq_true rfl, Nat.le_of_ble_eq_true rfl⟩) (fun u104 H locs hpo104 hP hS => ?_)
            obtain ⟨h104_0, h104_1, h104_2, h104_3, h104_4, h104_5, h104_6, h104_7, hq104⟩ := hpo104
            obtain ⟨w105, hA105⟩ : ∃ g, rA u104 jw = g := ⟨_, rfl⟩
            rw [hA105] at h104_0 h104_1 h104_2 h104_3 h104_4 h104_5 h104_6 h104_7
            have hA106 := (hq104.1 1 (by simp only [List.mem_cons, List.not_mem_nil, or_false, not_or]; omega)).trans hA99
            have hA107 := (hq104.1 16 (by simp only [List.mem_cons, List.not_mem_nil, or_false, not_or]; omega)).trans hA100
            have hF108x := (hq104.2.1 11 List.not_mem_nil).trans hF102x
            have hF109x := (hq104.2.1 13 List.not_mem_nil).trans h98_0.1
            have hF110x := (hq104.2.1 14 List.not_mem_nil).trans h98_0.2.1
            have hF111x := (hq104.2.1 15 List.not_mem_nil).trans h98_0.2.2.1
            have hfr := FR.step hfr hq104 (by simp) (fun _ h => absurd h List.not_mem_nil) (fun h => rfl)
            have hl104_0 := pg_le h104_0
            have p1 := h104_0
            have hdo := gg_od hG (gg_dst hG (s := ((2 * (fN u71 15)) + 1)) (by omega))
            have p8 : LG a w105 := lg_mk (n := rn w + 1) h104_1 h104_3 h104_4 (by omega) (by omega)
            refine lv_iconst (v := 1) hx hb dX12_aStep_110 (by decide) ?_
            obtain ⟨tk1, tk2, tk3⟩ := tk_mk (n := sz1) hF109x hF110x hF111x (by omega) (by omega) (by omega) (by omega)
            exact W.zret (v := 1) hx hb hr rfl (fun t ht hW => ⟨⟨1, u104, rfl, ⟨Or.inl ⟨rfl, by rw [hA105]; omega⟩, (by first | (rw [hA105]; done) | (rw [hA105]; first | assumption | exact p1)), (by first | (rw [hA105]; done) | (rw [hA105]; first | assumption | exact p8)), (by first | (rw [hA105]; done) | (rw [hA105]; first | assumption | omega | rfl | (congr 1; omega))), (by exact tk1), (by omega), hfr⟩, (show va_P (dC, dI) vwCl (rW cs b u104) t.heap by rw [ht]; exact hP)⟩, hS.F ht⟩) hS.2.2 dX12_aStep_111
          · have c90 := mt (b_eq (nI_toInt (n := src a ((2 * (fN u71 15)) + 1)) (by omega)) (nI_toInt (n := vend a w) (by omega))).mpr c90
            refine lv_aload_n hx hb dX12_aStep_86 rfl (lv_at hl 2 rfl) ?_
            refine lv_iconst (v := 5) hx hb dX12_aStep_87 (by decide) ?_
            refine rc_i hAL hS hA (va_runV (As := [.int 5]) (rest := []) ⟨hx, hb, hml, hown, noTs⟩ (r_X12_fails l dC dI H.size cs b u77 5) ⟨cbE 1 (wd_1540 hE) (wd_126 hE) (wd_1537 hE) rfl rfl (by decide +kernel) ⟨Nat.le_of_ble_eq_true rfl, Nat.le_of_ble_eq_true rfl⟩, (wd_1539 hE), (wd_62 hE)⟩ ⟨PR.blind, r_recv hK hP rfl, (r_pre (av := [.ref (b 0), .int 5]) hK hP hJ hE)⟩ rfl rfl hl.1 rfl (lv_room (Nat.le_of_ble_eq_true rfl)) dX12_aStep_88 ⟨Nat.le_of_ble_eq_true rfl, Nat.le_of_ble_eq_true rfl⟩) (fun r112 u112 H locs hpo112 hP hS => ?_)
            obtain ⟨hr112, hq112⟩ := hpo112
            have hA113 := (hq112.1 1 List.not_mem_nil).trans hA78
            have hA114 := (hq112.1 16 List.not_mem_nil).trans hA79
            have hA115 := (hq112.1 jw List.not_mem_nil).trans hA80
            have hF116x := (hq112.2.1 11 (by decide)).trans hF81x
            have hF117x := (hq112.2.1 13 (by decide)).trans hF82x
            have hF118x := (hq112.2.1 14 (by decide)).trans hF83x
            have hF119x := (hq112.2.1 15 (by decide)).trans hF84x
            have hfr := FR.step hfr hq112 (fun _ h => absurd h List.not_mem_nil) (by decide) (fun h => rfl)
            subst hr112
            obtain ⟨tk1, tk2, tk3⟩ := tk_mk (n := sz1) hF117x hF118x hF119x (by omega) (by omega) (by omega) (by omega)
            exact W.zret (v := 0) hx hb hr rfl (fun t ht hW => ⟨⟨0, u112, rfl, ⟨Or.inr ⟨rfl, by trivial⟩, (by first | (rw [hA115]; done) | (rw [hA115]; first | assumption | exact p1)), (by first | (rw [hA115]; done) | (rw [hA115]; first | assumption | exact p8)), (by first | (rw [hA115]; done) | (rw [hA115]; first | assumption | omega | rfl | (congr 1; omega))), (by exact tk1), (by omega), hfr⟩, (show va_P (dC, dI) vwCl (rW cs b u112) t.heap by rw [ht]; exact hP)⟩, hS.F ht⟩) hS.2.2 dX12_aStep_91
        · refine lv_if_ne (tgt := 64) hx hb dX12_aStep_55 (by decide) (fun c120 => absurd c120 (by decide)) (fun c120 => ?_)
          refine lv_aload_n hx hb dX12_aStep_58 rfl (lv_at hl 1 rfl) ?_
          refine lv_iconst (v := 3) hx hb dX12_aStep_59 (by decide) ?_
          refine rc_i hAL hS hA (va_runV (As := [.int 3]) (rest := []) ⟨hx, hb, hml, hown, noTs⟩ (r_X12_fails l dC dI H.size cs b u77 3) ⟨cbE 1 (wd_1540 hE) (wd_126 hE) (wd_1537 hE) rfl rfl (by decide +kernel) ⟨Nat.le_of_ble_eq_true rfl, Nat.le_of_ble_eq_true rfl⟩, (wd_1539 hE), (wd_62 hE)⟩ ⟨PR.blind, r_recv hK hP rfl, (r_pre (av := [.ref (b 0), .int 3]) hK hP hJ hE)⟩ rfl rfl hl.1 rfl (lv_room (Nat.le_of_ble_eq_true rfl)) dX12_aStep_60 ⟨Nat.le_of_ble_eq_true rfl, Nat.le_of_ble_eq_true rfl⟩) (fun r121 u121 H locs hpo121 hP hS => ?_)
          obtain ⟨hr121, hq121⟩ := hpo121
          have hA122 := (hq121.1 1 List.not_mem_nil).trans hA78
          have hA123 := (hq121.1 16 List.not_mem_nil).trans hA79
          have hA124 := (hq121.1 jw List.not_mem_nil).trans hA80
          have hF125x := (hq121.2.1 11 (by decide)).trans hF81x
          have hF126x := (hq121.2.1 13 (by decide)).trans hF82x
          have hF127x := (hq121.2.1 14 (by decide)).trans hF83x
          have hF128x := (hq121.2.1 15 (by decide)).trans hF84x
          have hfr := FR.step hfr hq121 (fun _ h => absurd h List.not_mem_nil) (by decide) (fun h => rfl)
          subst hr121
          obtain ⟨tk1, tk2, tk3⟩ := tk_mk (n := sz1) hF126x hF127x hF128x (by omega) (by omega) (by omega) (by omega)
          exact W.zret (v := 0) hx hb hr rfl (fun t ht hW => ⟨⟨0, u121, rfl, ⟨Or.inr ⟨rfl, by trivial⟩, (by first | (rw [hA124]; done) | (rw [hA124]; first | assumption | exact p1)), (by first | (rw [hA124]; done) | (rw [hA124]; first | assumption | exact p8)), (by first | (rw [hA124]; done) | (rw [hA124]; first | assumption | omega | rfl | (congr 1; omega))), (by exact tk1), (by omega), hfr⟩, (show va_P (dC, dI) vwCl (rW cs b u121) t.heap by rw [ht]; exact hP)⟩, hS.F ht⟩) hS.2.2 dX12_aStep_63
      · refine lv_if_ne (tgt := 47) hx hb dX12_aStep_42 (by decide) (fun c129 => absurd c129 (by decide)) (fun c129 => ?_)
        refine lv_iconst (v := 0) hx hb dX12_aStep_45 (by decide) ?_
        obtain ⟨tk1, tk2, tk3⟩ := tk_mk (n := sz1) hF82x hF83x hF84x (by omega) (by omega) (by omega) (by omega)
        exact W.zret (v := 0) hx hb hr rfl (fun t ht hW => ⟨⟨0, u77, rfl, ⟨Or.inr ⟨rfl, by trivial⟩, (by first | (rw [hA80]; done) | (rw [hA80]; first | assumption | exact p1)), (by first | (rw [hA80]; done) | (rw [hA80]; first | assumption | exact p8)), (by first | (rw [hA80]; done) | (rw [hA80]; first | assumption | omega | rfl | (congr 1; omega))), (by exact tk1), (by omega), hfr⟩, (show va_P (dC, dI) vwCl (rW cs b u77) t.heap by rw [ht]; exact hP)⟩, hS.F ht⟩) hS.2.2 dX12_aStep_46
  · have c9 := (b_eq (nI_toInt (n := rn w) (by omega)) (show Int32.toInt 24 = 24 from rfl)).mp c9
    refine lv_aload_n hx hb dX12_aStep_8 rfl (lv_at hl 0 rfl) ?_
    refine lv_bipush (v := 6) hx hb dX12_aStep_9 (by decide) ?_
    refine rc_i hAL hS hA (va_runV (As := [.int 6]) (rest := []) ⟨hx, hb, hml, hown, noTs⟩ (r_X12_fails l dC dI s.heap.size cs b u 6) ⟨cbE 1 (wd_1540 hE) (wd_126 hE) (wd_1537 hE) rfl rfl (by decide +kernel) ⟨Nat.le_of_ble_eq_true rfl, Nat.le_of_ble_eq_true rfl⟩, (wd_1539 hE), (wd_62 hE)⟩ ⟨PR.blind, r_recv hK hP rfl, (r_pre (av := [.ref (b 0), .int 6]) hK hP hJ hE)⟩ rfl rfl hl.1 rfl (lv_room (Nat.le_of_ble_eq_true rfl)) dX12_aStep_11 ⟨Nat.le_of_ble_eq_true rfl, Nat.le_of_ble_eq_true rfl⟩) (fun r130 u130 H locs hpo130 hP hS => ?_)
    obtain ⟨hr130, hq130⟩ := hpo130
    have hA131 := (hq130.1 1 List.not_mem_nil).trans hA1
    have hA132 := (hq130.1 16 List.not_mem_nil).trans hAc16
    have hA133 := (hq130.1 jw List.not_mem_nil).trans hAjw
    have hF134x := (hq130.2.1 11 (by decide)).trans hF11
    have hF135x := (hq130.2.1 13 (by decide)).trans hp1.1
    have hF136x := (hq130.2.1 14 (by decide)).trans hp1.2.1
    have hF137x := (hq130.2.1 15 (by decide)).trans hp1.2.2.1
    have hfr := FR.step hfr hq130 (fun _ h => absurd h List.not_mem_nil) (by decide) (fun h => rfl)
    subst hr130
    obtain ⟨tk1, tk2, tk3⟩ := tk_mk (n := sz1) hF135x hF136x hF137x (by omega) (by omega) (by omega) (by omega)
    exact W.zret (v := 0) hx hb hr rfl (fun t ht hW => ⟨⟨0, u130, rfl, ⟨Or.inr ⟨rfl, by trivial⟩, (by first | (rw [hA133]; done) | (rw [hA133]; first | assumption | exact p1)), (by first | (rw [hA133]; done) | (rw [hA133]; first | assumption | exact p8)), (by first | (rw [hA133]; done) | (rw [hA133]; first | assumption | omega | rfl | (congr 1; omega))), (by exact tk1), (by omega), hfr⟩, (show va_P (dC, dI) vwCl (rW cs b u130) t.heap by rw [ht]; exact hP)⟩, hS.F ht⟩) hS.2.2 dX12_aStep_14
