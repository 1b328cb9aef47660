def bA (f : Nat → Int32) (n k : Nat) : Int32 := if k < n then f k &&& 255 else -1
theorem and255 (x : Int32) : 0 ≤ (x &&& 255).toInt ∧ (x &&& 255).toInt ≤ 255 := by
  obtain ⟨j, hj, e⟩ := pk_andE x (m := 255) 8 (by decide)
  have hj2 : j < 256 := hj
  rw [e, nI_toInt (by omega)]
  omega
theorem bA_f (f : Nat → Int32) (n k : Nat) : ((bA f n k).toInt = -1 ∧ n ≤ k) ∨ (k < n ∧ 0 ≤ (bA f n k).toInt ∧ (bA f n k).toInt ≤ 255) := by
  unfold bA
  by_cases h : k < n
  · rw [if_pos h]
    exact Or.inr ⟨h, and255 _⟩
  · rw [if_neg h]
    exact Or.inl ⟨rfl, by omega⟩
theorem mn_f {x y z : Int32} {X Y : Int} (h : z = if y < x then y else x) (ex : x.toInt = X) (ey : y.toInt = Y) : (z.toInt = X ∧ X ≤ Y) ∨ (z.toInt = Y ∧ Y ≤ X) := by
  by_cases q : y < x
  · rw [if_pos q] at h
    rw [b_lt ey ex] at q
    rw [h]
    omega
  · rw [if_neg q] at h
    rw [b_lt ey ex] at q
    rw [h]
    omega
def fN (u : RS) (k : Nat) : Nat := (rF u k).toNatClampNeg
theorem fN_of {u : RS} {k x : Nat} (h : rF u k = nI x) (hx : x < 2 ^ 31) : fN u k = x := by unfold fN; rw [h, nI_clamp hx]
/-- where the reader stands in a text of n bytes -/
def TK (u : RS) (n : Nat) : Prop := rF u 13 = nI (fN u 13) ∧ rF u 14 = nI (fN u 14) ∧ rF u 15 = nI (fN u 15) ∧ fN u 13 ≤ fN u 14 ∧ fN u 14 ≤ n ∧ fN u 15 ≤ 9999
theorem tk_mk {u : RS} {n x y z : Nat} (h1 : rF u 13 = nI x) (h2 : rF u 14 = nI y) (h3 : rF u 15 = nI z) (hxy : x ≤ y) (hy : y ≤ n) (hn : n ≤ 700) (hz : z ≤ 9999) : TK u n ∧ fN u 13 = x ∧ fN u 14 = y := by
  have e1 := fN_of h1 (by omega)
  have e2 := fN_of h2 (by omega)
  have e3 := fN_of h3 (by omega)
  refine ⟨⟨by rw [e1]; exact h1, by rw [e2]; exact h2, by rw [e3]; exact h3, by omega, by omega, by omega⟩, e1, e2⟩
theorem tk_fr {u u1 : RS} {n : Nat} {js ks : List Nat} {lb : Bool} (h : TK u n) (hf : FR js ks lb u u1) (h13 : 13 ∉ ks) (h14 : 14 ∉ ks) (h15 : 15 ∉ ks) : TK u1 n ∧ fN u1 13 = fN u 13 ∧ fN u1 14 = fN u 14 := by
  have e1 := hf.2.1 13 h13
  have e2 := hf.2.1 14 h14
  have e3 := hf.2.1 15 h15
  have f1 : fN u1 13 = fN u 13 := by unfold fN; rw [e1]
  have f2 : fN u1 14 = fN u 14 := by unfold fN; rw [e2]
  have f3 : fN u1 15 = fN u 15 := by unfold fN; rw [e3]
  refine ⟨⟨by rw [e1, f1]; exact h.1, by rw [e2, f2]; exact h.2.1, by rw [e3, f3]; exact h.2.2.1, ?_⟩, f1, f2⟩
  rw [f1, f2, f3]
  exact h.2.2.2
theorem bg_of {a a' : Nat → Int32} (hB : BG a) (hG : GG a') (hm : GM a a') (h2 : a' 2 = a 2) (hw : ∀ k, 34 ≤ k → k < 554 → a' k = a k) : BG a' := by
  have e3 : wN a' = wN a := by unfold wN; rw [h2]
  have hw10 := bg_w hB
  refine ⟨hG, by rw [e3, h2]; exact hw10.1, by omega, fun x hx => ?_⟩
  rw [e3] at hx
  exact wg_one hm (bg_g hB) (fun k hk => hw _ (by omega) (by omega)) (bg_row hB hx)
theorem bg_zero {a : Nat → Int32} (h : ∀ k, k < 554 → a k = 0) : BG a := by
  have e1 : vN a = 0 := by unfold vN; rw [h 0 (by omega)]; rfl
  have e2 : eN a = 0 := by unfold eN; rw [h 1 (by omega)]; rfl
  have e3 : wN a = 0 := by unfold wN; rw [h 2 (by omega)]; rfl
  exact ⟨⟨by rw [e1]; exact h 0 (by omega), by omega, by rw [e2]; exact h 1 (by omega), by omega, fun v hv => absurd hv (by omega), fun e he => absurd he (by omega)⟩, by rw [e3]; exact h 2 (by omega), by omega, fun w hw => absurd hw (by omega)⟩
/-- a cell behind the edges changes -/
theorem bg_free {a a' : Nat → Int32} {i : Nat} {x : Int32} (hB : BG a) (h1 : 10 + 4 * eN a ≤ i) (h2 : i < 34) (h : a' = upd a i x) : BG a' ∧ vN a' = vN a ∧ eN a' = eN a ∧ wN a' = wN a ∧ ∀ v, v < vN a → od a' v = od a v := by
  have hG := bg_g hB
  have hle := gg_le hG
  have ho : ∀ k, k ≠ i → a' k = a k := fun k hk => by rw [h, pk_un hk]
  have e1 : vN a' = vN a := by unfold vN; rw [ho 0 (by omega)]
  have e2 : eN a' = eN a := by unfold eN; rw [ho 1 (by omega)]
  have e3 : wN a' = wN a := by unfold wN; rw [ho 2 (by omega)]
  have hod : ∀ v, v < vN a → od a' v = od a v := fun v hv => by unfold od; rw [ho _ (by omega)]
  have hev : ∀ e k, e < eN a → k < 4 → ev a' e k = ev a e k := fun e k he hk => by unfold ev; rw [ho _ (by omega)]
  have hm : GM a a' := ⟨by omega, by omega, hod, hev⟩
  have hG' : GG a' := by
    refine ⟨by rw [ho 0 (by omega), e1]; exact gg_v hG, by omega, by rw [ho 1 (by omega), e2]; exact gg_e hG, by omega, fun v hv => ?_, fun e he => ?_⟩
    · rw [e1] at hv
      rw [ho _ (by omega), hod v hv]
      exact gg_od hG hv
    · rw [e2] at he
      obtain ⟨q1, q2, q3, c, q4, q5⟩ := gg_edge hG he
      refine ⟨fun k hk => by rw [ho _ (by omega), hev e k he hk]; exact q1 k hk, by rw [hev e 0 he (by decide), e1]; exact q2, by rw [hev e 2 he (by decide), e1]; exact q3, c, ?_, ?_⟩
      · rw [hev e 0 he (by decide), hev e 1 he (by decide), hod _ q2]; exact q4
      · rw [hev e 2 he (by decide), hev e 3 he (by decide), hod _ q3]; exact q5
  exact ⟨bg_of hB hG' hm (ho 2 (by omega)) (fun k h34 _ => ho k (by omega)), e1, e2, e3, hod⟩
theorem bg_vertex {a a' a1 : Nat → Int32} {x : Nat} (hB : BG a) (hv : vN a ≤ 5) (hx1 : 1 ≤ x) (hx2 : x ≤ 60) (h1 : a1 = upd a (4 + vN a) (nI x)) (h2 : a' = upd a1 0 (nI (vN a + 1))) : BG a' := by
  have hG := bg_g hB
  have hle := gg_le hG
  have ho : ∀ k, k ≠ 0 → k ≠ 4 + vN a → a' k = a k := fun k h0 hk => by rw [h2, pk_un h0, h1, pk_un hk]
  have h0 : a' 0 = nI (vN a + 1) := by rw [h2]; exact pk_us
  have hn : a' (4 + vN a) = nI x := by rw [h2, pk_un (by omega), h1]; exact pk_us
  have e1 : vN a' = vN a + 1 := by unfold vN; rw [h0, nI_clamp (by show vN a + 1 < _; omega)]; rfl
  have e2 : eN a' = eN a := by unfold eN; rw [ho 1 (by omega) (by omega)]
  have hod : ∀ v, v < vN a → od a' v = od a v := fun v hv => by unfold od; rw [ho _ (by omega) (by omega)]
  have hodn : od a' (vN a) = x := by unfold od; rw [hn, nI_clamp (by omega)]
  have hev : ∀ e k, e < eN a → k < 4 → ev a' e k = ev a e k := fun e k he hk => by unfold ev; rw [ho _ (by omega) (by omega)]
  have hm : GM a a' := ⟨by omega, by omega, hod, hev⟩
  have hG' : GG a' := by
    refine ⟨by rw [e1]; exact h0, by omega, by rw [ho 1 (by omega) (by omega), e2]; exact gg_e hG, by omega, fun v hv => ?_, fun e he => ?_⟩
    · by_cases hq : v = vN a
      · subst hq
        rw [hn, hodn]
        exact ⟨rfl, hx1, hx2⟩
      · rw [ho _ (by omega) (by omega), hod v (by omega)]
        exact gg_od hG (by omega)
    · rw [e2] at he
      obtain ⟨q1, q2, q3, c, q4, q5⟩ := gg_edge hG he
      refine ⟨fun k hk => by rw [ho _ (by omega) (by omega), hev e k he hk]; exact q1 k hk, by rw [hev e 0 he (by decide), e1]; omega, by rw [hev e 2 he (by decide), e1]; omega, c, ?_, ?_⟩
      · rw [hev e 0 he (by decide), hev e 1 he (by decide), hod _ q2]; exact q4
      · rw [hev e 2 he (by decide), hev e 3 he (by decide), hod _ q3]; exact q5
  exact bg_of hB hG' hm (ho 2 (by omega) (by omega)) (fun k h34 _ => ho k (by omega) (by omega))
theorem bg_edge {a a' : Nat → Int32} {v1 x1 v2 x2 c : Nat} (hB : BG a) (he : eN a ≤ 5) (h : a' = upd a 1 (nI (eN a + 1))) (c0 : a (10 + 4 * eN a) = nI v1) (c1 : a (10 + 4 * eN a + 1) = nI x1) (c2 : a (10 + 4 * eN a + 2) = nI v2) (c3 : a (10 + 4 * eN a + 3) = nI x2) (l1 : v1 < vN a) (l2 : v2 < vN a) (b1 : x1 ≤ 9999) (b2 : x2 ≤ 9999) (q1 : od a v1 = c * x1) (q2 : od a v2 = c * x2) : BG a' := by
  have hG := bg_g hB
  have hle := gg_le hG
  have ho : ∀ k, k ≠ 1 → a' k = a k := fun k hk => by rw [h, pk_un hk]
  have h1 : a' 1 = nI (eN a + 1) := by rw [h]; exact pk_us
  have e1 : vN a' = vN a := by unfold vN; rw [ho 0 (by omega)]
  have e2 : eN a' = eN a + 1 := by unfold eN; rw [h1, nI_clamp (by show eN a + 1 < _; omega)]; rfl
  have hod : ∀ v, od a' v = od a v := fun v => by unfold od; rw [ho _ (by omega)]
  have hev : ∀ e k, ev a' e k = ev a e k := fun e k => by unfold ev; rw [ho _ (by omega)]
  have z0 : ev a (eN a) 0 = v1 := by show (a (10 + 4 * eN a + 0)).toNatClampNeg = v1; rw [Nat.add_zero, c0, nI_clamp (by omega)]
  have z1 : ev a (eN a) 1 = x1 := by show (a (10 + 4 * eN a + 1)).toNatClampNeg = x1; rw [c1, nI_clamp (by omega)]
  have z2 : ev a (eN a) 2 = v2 := by show (a (10 + 4 * eN a + 2)).toNatClampNeg = v2; rw [c2, nI_clamp (by omega)]
  have z3 : ev a (eN a) 3 = x2 := by show (a (10 + 4 * eN a + 3)).toNatClampNeg = x2; rw [c3, nI_clamp (by omega)]
  have hm : GM a a' := ⟨by omega, by omega, fun v _ => hod v, fun e k _ _ => hev e k⟩
  have hG' : GG a' := by
    refine ⟨by rw [ho 0 (by omega), e1]; exact gg_v hG, by omega, by rw [e2]; exact h1, by omega, fun v hv => ?_, fun e he => ?_⟩
    · rw [ho _ (by omega), hod v]
      exact gg_od hG (by omega)
    · by_cases hq : e = eN a
      · subst hq
        refine ⟨fun k hk => ?_, by rw [hev, z0, e1]; exact l1, by rw [hev, z2, e1]; exact l2, c, by rw [hev, hev, hod, z0, z1]; exact q1, by rw [hev, hev, hod, z2, z3]; exact q2⟩
        rw [ho _ (by omega), hev]
        match k, hk with
        | 0, _ => rw [z0]; exact c0
        | 1, _ => rw [z1]; exact c1
        | 2, _ => rw [z2]; exact c2
        | 3, _ => rw [z3]; exact c3
      · obtain ⟨q1, q2, q3, c, q4, q5⟩ := gg_edge hG (show e < eN a by omega)
        refine ⟨fun k hk => by rw [ho _ (by omega), hev]; exact q1 k hk, by rw [hev, e1]; exact q2, by rw [hev, e1]; exact q3, c, by rw [hev, hev, hod]; exact q4, by rw [hev, hev, hod]; exact q5⟩
  exact bg_of hB hG' hm (ho 2 (by omega)) (fun k h34 _ => ho k (by omega))

set_option maxHeartbeats 4000000 in
set_option maxRecDepth 100000 in
theorem r_X12_byteAt (l : Launch) (dC : Nat → ClassId) (dI : Nat → Nat → Nat) (sz : Nat) (cs : Nat → ClassId) (b : Nat → Nat) (u : RS) (tx : Nat → Int32) (hA16 : rA u 16 = tx) (k : Nat) (sz1 : Nat) (hF11 : rF u 11 = nI sz1) (hp0 : sz1 ≤ 700) (hp1 : k < 100000) : Met l yX12_byteAt [.code yX12_byteAt cX12_byteAt 2 (some .int)] ({ frames := 0, cells := 0, slots := 0, locals := 0 }) (PR [.ref (b 0), .int (nI k)] sz dC dI cs b u) (vp_Si (fun (r : Int32) => r = bA tx sz1 k)) 0 0 (fun _ => False) := by
  refine Met.ofW (cc := cX12_byteAt) (maxL := 2) (ret := (some .int)) (by decide) rfl ?_
  intro p e s m args below meth c s₁ B hml hv
  obtain ⟨rfl, hsz, hP, hK, hJ, hE⟩ := hv
  have hx := B.exec
  have hb := B.bytes
  have hr := B.returns
  have hown : s.vm.findClass RX12 = some m.cls := findClass_of_methodNamed B.named
  have hlocks := B.notSynchronized
  subst hsz
  have hl := lv_entry ([.ref (b 0), .int (nI k)]) (n := 2) (Nat.le_of_ble_eq_true rfl)
  rw [lg_entry_eq]
  generalize (lg_sl ([.ref (b 0), .int (nI k)]) ++ List.replicate (2 - (lg_sl ([.ref (b 0), .int (nI k)])).length) Slot.unset).toArray = ls at hl ⊢
  have hl : lv_has ls 2 [(0, .ref (b 0)), (1, .int (nI k))] := hl
  refine lv_iload_n hx hb dX12_byteAt_0 rfl (lv_at hl 1 rfl) ?_
  refine lv_aload_n hx hb dX12_byteAt_1 rfl (lv_at hl 0 rfl) ?_
  refine r_get (v := .int (nI sz1)) hx hb (ly_X12 hE) hown hK hP rfl 11 (by decide) (wd_1392 hE) (fun _ h9 => h9) (congrArg (fun z : Int32 => some (Value.int z)) hF11) dX12_byteAt_2 ?_
  refine lv_icmp_ge (tgt := 21) hx hb dX12_byteAt_5 (by decide) (fun c3 => ?_) (fun c3 => ?_)
  · have c3 := (b_le (nI_toInt (n := sz1) (by omega)) (nI_toInt (n := k) (by omega))).mp c3
    refine lv_iconst (v := -1) hx hb dX12_byteAt_21 (by decide) ?_
    exact W.iret (v := -1) hx hb hr (fun t ht hW => ⟨-1, rfl, (by unfold bA; first | (rw [if_pos (by omega)]; assumption) | (rw [if_pos (by omega), ← EX13]; assumption) | (rw [if_neg (by omega)])), ht⟩) (fun _ h => absurd h List.not_mem_nil) dX12_byteAt_22
  · have c3 := mt (b_le (nI_toInt (n := sz1) (by omega)) (nI_toInt (n := k) (by omega))).mpr c3
    refine lv_aload_n hx hb dX12_byteAt_8 rfl (lv_at hl 0 rfl) ?_
    refine r_get (v := .ref (b 16)) hx hb (ly_X12 hE) hown hK hP rfl 9 (by decide) (wd_1390 hE) (fun _ h9 => h9) rfl dX12_byteAt_9 ?_
    refine lv_iload_n hx hb dX12_byteAt_12 rfl (lv_at hl 1 rfl) ?_
    refine r_bald (j := 16) (k := k) (n := 700) (x := tx k) hx hb hK hP (by decide) rfl (by omega) (by decide) (by rw [hA16]) dX12_byteAt_13 ?_
    refine lv_topi (fun x5 ex5 => ?_)
    refine lv_sipush (v := 255) hx hb dX12_byteAt_14 (by decide) ?_
    have EX13 := ex5
    refine lv_iand hx hb dX12_byteAt_17 ?_
    refine lv_topi (fun x6 ex6 => ?_)
    refine lv_goto (tgt := 22) hx hb dX12_byteAt_18 (by decide) ?_
    exact W.iret (v := x6) hx hb hr (fun t ht hW => ⟨x6, rfl, (by unfold bA; first | (rw [if_pos (by omega)]; assumption) | (rw [if_pos (by omega), ← EX13]; assumption) | (rw [if_neg (by omega)])), ht⟩) (fun _ h => absurd h List.not_mem_nil) dX12_byteAt_22

set_option maxHeartbeats 4000000 in
set_option maxRecDepth 100000 in
theorem r_X12_isSmall (l : Launch) (dC : Nat → ClassId) (dI : Nat → Nat → Nat) (sz : Nat) (cs : Nat → ClassId) (b : Nat → Nat) (u : RS) (x : Int32) : Met l yX12_isSmall [.code yX12_isSmall cX12_isSmall 1 (some .boolean)] ({ frames := 0, cells := 0, slots := 0, locals := 0 }) (PR [.int x] sz dC dI cs b u) (vp_Si (fun (r : Int32) => (r = 1 ∧ (97 ≤ x.toInt ∧ x.toInt ≤ 122)) ∨ (r = 0 ∧ (True)))) 0 0 (fun _ => False) := by
  refine Met.ofW (cc := cX12_isSmall) (maxL := 1) (ret := (some .boolean)) (by decide) rfl ?_
  intro p e s m args below meth c s₁ B hml hv
  obtain ⟨rfl, hsz, hP, hK, hJ, hE⟩ := hv
  have hx := B.exec
  have hb := B.bytes
  have hr := B.returns
  have hown : s.vm.findClass RX12 = some m.cls := findClass_of_methodNamed B.named
  have hlocks := B.notSynchronized
  subst hsz
  have hl := lv_entry ([.int x]) (n := 1) (Nat.le_of_ble_eq_true rfl)
  rw [lg_entry_eq]
  generalize (lg_sl ([.int x]) ++ List.replicate (1 - (lg_sl ([.int x])).length) Slot.unset).toArray = ls at hl ⊢
  have hl : lv_has ls 1 [(0, .int x)] := hl
  refine lv_iload_n hx hb dX12_isSmall_0 rfl (lv_at hl 0 rfl) ?_
  refine lv_bipush (v := 97) hx hb dX12_isSmall_1 (by decide) ?_
  refine lv_icmp_lt (tgt := 16) hx hb dX12_isSmall_3 (by decide) (fun c1 => ?_) (fun c1 => ?_)
  · have c1 := (b_lt (rfl : Int32.toInt x = _) (show Int32.toInt 97 = 97 from rfl)).mp c1
    refine lv_iconst (v := 0) hx hb dX12_isSmall_16 (by decide) ?_
    exact W.zret (v := 0) hx hb hr rfl (fun t ht hW => ⟨0, rfl, Or.inr ⟨rfl, by trivial⟩, ht⟩) (fun _ h => absurd h List.not_mem_nil) dX12_isSmall_17
  · have c1 := mt (b_lt (rfl : Int32.toInt x = _) (show Int32.toInt 97 = 97 from rfl)).mpr c1
    refine lv_iload_n hx hb dX12_isSmall_6 rfl (lv_at hl 0 rfl) ?_
    refine lv_bipush (v := 122) hx hb dX12_isSmall_7 (by decide) ?_
    refine lv_icmp_gt (tgt := 16) hx hb dX12_isSmall_9 (by decide) (fun c2 => ?_) (fun c2 => ?_)
    · have c2 := (b_lt (show Int32.toInt 122 = 122 from rfl) (rfl : Int32.toInt x = _)).mp c2
      refine lv_iconst (v := 0) hx hb dX12_isSmall_16 (by decide) ?_
      exact W.zret (v := 0) hx hb hr rfl (fun t ht hW => ⟨0, rfl, Or.inr ⟨rfl, by trivial⟩, ht⟩) (fun _ h => absurd h List.not_mem_nil) dX12_isSmall_17
    · have c2 := mt (b_lt (show Int32.toInt 122 = 122 from rfl) (rfl : Int32.toInt x = _)).mpr c2
      refine lv_iconst (v := 1) hx hb dX12_isSmall_12 (by decide) ?_
      refine lv_goto (tgt := 17) hx hb dX12_isSmall_13 (by decide) ?_
      exact W.zret (v := 1) hx hb hr rfl (fun t ht hW => ⟨1, rfl, Or.inl ⟨rfl, by first | assumption | omega | rfl | (congr 1; omega)⟩, ht⟩) (fun _ h => absurd h List.not_mem_nil) dX12_isSmall_17

set_option maxHeartbeats 4000000 in
set_option maxRecDepth 100000 in
theorem r_X12_isDigit (l : Launch) (dC : Nat → ClassId) (dI : Nat → Nat → Nat) (sz : Nat) (cs : Nat → ClassId) (b : Nat → Nat) (u : RS) (x : Int32) : Met l yX12_isDigit [.code yX12_isDigit cX12_isDigit 1 (some .boolean)] ({ frames := 0, cells := 0, slots := 0, locals := 0 }) (PR [.int x] sz dC dI cs b u) (vp_Si (fun (r : Int32) => (r = 1 ∧ (48 ≤ x.toInt ∧ x.toInt ≤ 57)) ∨ (r = 0 ∧ (True)))) 0 0 (fun _ => False) := by
  refine Met.ofW (cc := cX12_isDigit) (maxL := 1) (ret := (some .boolean)) (by decide) rfl ?_
  intro p e s m args below meth c s₁ B hml hv
  obtain ⟨rfl, hsz, hP, hK, hJ, hE⟩ := hv
  have hx := B.exec
  have hb := B.bytes
  have hr := B.returns
  have hown : s.vm.findClass RX12 = some m.cls := findClass_of_methodNamed B.named
  have hlocks := B.notSynchronized
  subst hsz
  have hl := lv_entry ([.int x]) (n := 1) (Nat.le_of_ble_eq_true rfl)
  rw [lg_entry_eq]
  generalize (lg_sl ([.int x]) ++ List.replicate (1 - (lg_sl ([.int x])).length) Slot.unset).toArray = ls at hl ⊢
  have hl : lv_has ls 1 [(0, .int x)] := hl
  refine lv_iload_n hx hb dX12_isDigit_0 rfl (lv_at hl 0 rfl) ?_
  refine lv_bipush (v := 48) hx hb dX12_isDigit_1 (by decide) ?_
  refine lv_icmp_lt (tgt := 16) hx hb dX12_isDigit_3 (by decide) (fun c1 => ?_) (fun c1 => ?_)
  · have c1 := (b_lt (rfl : Int32.toInt x = _) (show Int32.toInt 48 = 48 from rfl)).mp c1
    refine lv_iconst (v := 0) hx hb dX12_isDigit_16 (by decide) ?_
    exact W.zret (v := 0) hx hb hr rfl (fun t ht hW => ⟨0, rfl, Or.inr ⟨rfl, by trivial⟩, ht⟩) (fun _ h => absurd h List.not_mem_nil) dX12_isDigit_17
  · have c1 := mt (b_lt (rfl : Int32.toInt x = _) (show Int32.toInt 48 = 48 from rfl)).mpr c1
    refine lv_iload_n hx hb dX12_isDigit_6 rfl (lv_at hl 0 rfl) ?_
    refine lv_bipush (v := 57) hx hb dX12_isDigit_7 (by decide) ?_
    refine lv_icmp_gt (tgt := 16) hx hb dX12_isDigit_9 (by decide) (fun c2 => ?_) (fun c2 => ?_)
    · have c2 := (b_lt (show Int32.toInt 57 = 57 from rfl) (rfl : Int32.toInt x = _)).mp c2
      refine lv_iconst (v := 0) hx hb dX12_isDigit_16 (by decide) ?_
      exact W.zret (v := 0) hx hb hr rfl (fun t ht hW => ⟨0, rfl, Or.inr ⟨rfl, by trivial⟩, ht⟩) (fun _ h => absurd h List.not_mem_nil) dX12_isDigit_17
    · have c2 := mt (b_lt (show Int32.toInt 57 = 57 from rfl) (rfl : Int32.toInt x = _)).mpr c2
      refine lv_iconst (v := 1) hx hb dX12_isDigit_12 (by decide) ?_
      refine lv_goto (tgt := 17) hx hb dX12_isDigit_13 (by decide) ?_
      exact W.zret (v := 1) hx hb hr rfl (fun t ht hW => ⟨1, rfl, Or.inl ⟨rfl, by first | assumption | omega | rfl | (congr 1; omega)⟩, ht⟩) (fun _ h => absurd h List.not_mem_nil) dX12_isDigit_17

set_option maxHeartbeats 4000000 in
set_option maxRecDepth 100000 in
theorem r_X12_ahead (l : Launch) (dC : Nat → ClassId) (dI : Nat → Nat → Nat) (sz : Nat) (cs : Nat → ClassId) (b : Nat → Nat) (u : RS) (tx : Nat → Int32) (hA16 : rA u 16 = tx) (sz1 : Nat) (e0 : Nat) (v0 : Nat) (hF11 : rF u 11 = nI sz1) (hF14 : rF u 14 = nI e0) (hF15 : rF u 15 = nI v0) (hp0 : sz1 ≤ 700) (hp1 : e0 ≤ sz1) (hp2 : v0 ≤ 9999) : Met l yX12_ahead [.code yX12_ahead cX12_ahead 2 none] ({ frames := 1, cells := 0, slots := 0, locals := 40 }) (PR [.ref (b 0)] sz dC dI cs b u) (va_Qv (fun (u' : RS) => (TK u' sz1) ∧ (e0 ≤ fN u' 13) ∧ (rF u' 12 = 0 ∨ fN u' 13 < fN u' 14) ∧ FR [] [12, 13, 14, 15] false u u') (BR dC dI cs b) (AR b sz)) 0 0 (AR b sz) := sorry

set_option maxHeartbeats 4000000 in
set_option maxRecDepth 100000 in
theorem r_X12_fails (l : Launch) (dC : Nat → ClassId) (dI : Nat → Nat → Nat) (sz : Nat) (cs : Nat → ClassId) (b : Nat → Nat) (u : RS) (x : Int32) : Met l yX12_fails [.code yX12_fails cX12_fails 2 (some .boolean)] ({ frames := 0, cells := 0, slots := 0, locals := 0 }) (PR [.ref (b 0), .int x] sz dC dI cs b u) (va_Qi (fun (r : Int32) (u' : RS) => (r = 0) ∧ FR [] [16, 17, 18] false u u') (BR dC dI cs b) (AR b sz)) 0 0 (AR b sz) := by
  refine Met.ofW (cc := cX12_fails) (maxL := 2) (ret := (some .boolean)) (by decide) rfl ?_
  intro p e s m args below meth c s₁ B hml hv
  obtain ⟨rfl, hsz, hP, hK, hJ, hE⟩ := hv
  have hx := B.exec
  have hb := B.bytes
  have hr := B.returns
  have hown : s.vm.findClass RX12 = some m.cls := findClass_of_methodNamed B.named
  have hlocks := B.notSynchronized
  subst hsz
  have hAL : ∀ i, i < 108 → AR b s.heap.size (b i) := fun i h => Or.inl ⟨i, h, rfl⟩
  have hA : ∀ q : Nat, s.heap.size ≤ q → AR b s.heap.size q := fun q h => Or.inr h
  have hS : va_S (AR b s.heap.size) s.heap s.heap [] := va_S.rf
  have hfr : FR [] [16, 17, 18] false u u := FR.refl
  have hl := lv_entry ([.ref (b 0), .int x]) (n := 2) (Nat.le_of_ble_eq_true rfl)
  rw [lg_entry_eq]
  generalize (lg_sl ([.ref (b 0), .int x]) ++ List.replicate (2 - (lg_sl ([.ref (b 0), .int x])).length) Slot.unset).toArray = ls at hl ⊢
  have hl : lv_has ls 2 [(0, .ref (b 0)), (1, .int x)] := hl
  refine lv_aload_n hx hb dX12_fails_0 rfl (lv_at hl 0 rfl) ?_
  obtain ⟨y1, hy1⟩ : ∃ z : Int32, rF u 16 = z := ⟨_, rfl⟩
  refine r_get (v := .int y1) hx hb (ly_X12 hE) hown hK hP rfl 16 (by decide) (wd_1397 hE) (fun _ h9 => h9) (congrArg (fun z : Int32 => some (Value.int z)) hy1) dX12_fails_1 ?_
  refine lv_if_ne (tgt := 40) hx hb dX12_fails_4 (by decide) (fun c2 => ?_) (fun c2 => ?_)
  · have c2 := mt (b_eq (rfl : Int32.toInt y1 = _) (show Int32.toInt 0 = 0 from rfl)).mpr c2
    refine lv_iconst (v := 0) hx hb dX12_fails_40 (by decide) ?_
    exact W.zret (v := 0) hx hb hr rfl (fun t ht hW => ⟨⟨0, u, rfl, ⟨(by first | rfl | omega | (congr 1; omega) | assumption), hfr⟩, (show va_P (dC, dI) vwCl (rW cs b u) t.heap by rw [ht]; exact hP)⟩, hS.F ht⟩) hS.2.2 dX12_fails_41
  · have c2 := (b_eq (rfl : Int32.toInt y1 = _) (show Int32.toInt 0 = 0 from rfl)).mp c2
    refine lv_aload_n hx hb dX12_fails_7 rfl (lv_at hl 0 rfl) ?_
    refine lv_aload_n hx hb dX12_fails_8 rfl (lv_at hl 0 rfl) ?_
    obtain ⟨y3, hy3⟩ : ∃ z : Int32, rF u 12 = z := ⟨_, rfl⟩
    refine r_get (v := .int y3) hx hb (ly_X12 hE) hown hK hP rfl 12 (by decide) (wd_1393 hE) (fun _ h9 => h9) (congrArg (fun z : Int32 => some (Value.int z)) hy3) dX12_fails_9 ?_
    refine lv_iconst (v := 1) hx hb dX12_fails_12 (by decide) ?_
    refine lv_icmp_ne (tgt := 20) hx hb dX12_fails_13 (by decide) (fun c4 => ?_) (fun c4 => ?_)
    · have c4 := mt (b_eq (rfl : Int32.toInt y3 = _) (show Int32.toInt 1 = 1 from rfl)).mpr c4
      refine lv_iload_n hx hb dX12_fails_20 rfl (lv_at hl 1 rfl) ?_
      refine r_put (v := x) hx hb (ly_X12 hE) tyX12 tyX12_ok nmX12 hown hK hP hJ hAL hS rfl 16 (by decide) (wd_1397 hE) (fun _ h9 => h9) rfl (by decide +kernel) rfl (by decide) dX12_fails_21 (fun u5 H locs hf5 hq5 hP hS => ?_)
      have hF6x := (hq5.2.1 12 (by decide)).trans hy3
      have hfr := FR.step hfr hq5 (fun _ h => absurd h List.not_mem_nil) (by decide) (fun h => rfl)
      refine lv_aload_n hx hb dX12_fails_24 rfl (lv_at hl 0 rfl) ?_
      refine lv_aload_n hx hb dX12_fails_25 rfl (lv_at hl 0 rfl) ?_
      obtain ⟨y7, hy7⟩ : ∃ z : Int32, rF u5 13 = z := ⟨_, rfl⟩
      refine r_get (v := .int y7) hx hb (ly_X12 hE) hown hK hP rfl 13 (by decide) (wd_1394 hE) (fun _ h9 => h9) (congrArg (fun z : Int32 => some (Value.int z)) hy7) dX12_fails_26 ?_
      refine r_put (v := y7) hx hb (ly_X12 hE) tyX12 tyX12_ok nmX12 hown hK hP hJ hAL hS rfl 17 (by decide) (wd_1398 hE) (fun _ h9 => h9) rfl (by decide +kernel) rfl (by decide) dX12_fails_29 (fun u8 H locs hf8 hq8 hP hS => ?_)
      have hF9x := (hq8.2.1 12 (by decide)).trans hF6x
      have hF10x := (hq8.2.1 16 (by decide)).trans hf5
      have hF11x := (hq8.2.1 13 (by decide)).trans hy7
      have hfr := FR.step hfr hq8 (fun _ h => absurd h List.not_mem_nil) (by decide) (fun h => rfl)
      refine lv_aload_n hx hb dX12_fails_32 rfl (lv_at hl 0 rfl) ?_
      refine lv_aload_n hx hb dX12_fails_33 rfl (lv_at hl 0 rfl) ?_
      obtain ⟨y12, hy12⟩ : ∃ z : Int32, rF u8 20 = z := ⟨_, rfl⟩
      refine r_get (v := .int y12) hx hb (ly_X12 hE) hown hK hP rfl 20 (by decide) (wd_1401 hE) (fun _ h9 => h9) (congrArg (fun z : Int32 => some (Value.int z)) hy12) dX12_fails_34 ?_
      refine r_put (v := y12) hx hb (ly_X12 hE) tyX12 tyX12_ok nmX12 hown hK hP hJ hAL hS rfl 18 (by decide) (wd_1399 hE) (fun _ h9 => h9) rfl (by decide +kernel) rfl (by decide) dX12_fails_37 (fun u13 H locs hf13 hq13 hP hS => ?_)
      have hF14x := (hq13.2.1 12 (by decide)).trans hF9x
      have hF15x := (hq13.2.1 16 (by decide)).trans hF10x
      have hF16x := (hq13.2.1 13 (by decide)).trans hF11x
      have hF17x := (hq13.2.1 17 (by decide)).trans hf8
      have hF18x := (hq13.2.1 20 (by decide)).trans hy12
      have hfr := FR.step hfr hq13 (fun _ h => absurd h List.not_mem_nil) (by decide) (fun h => rfl)
      refine lv_iconst (v := 0) hx hb dX12_fails_40 (by decide) ?_
      exact W.zret (v := 0) hx hb hr rfl (fun t ht hW => ⟨⟨0, u13, rfl, ⟨(by first | rfl | omega | (congr 1; omega) | assumption), hfr⟩, (show va_P (dC, dI) vwCl (rW cs b u13) t.heap by rw [ht]; exact hP)⟩, hS.F ht⟩) hS.2.2 dX12_fails_41
    · have c4 := (b_eq (rfl : Int32.toInt y3 = _) (show Int32.toInt 1 = 1 from rfl)).mp c4
      refine lv_iconst (v := 1) hx hb dX12_fails_16 (by decide) ?_
      refine lv_goto (tgt := 21) hx hb dX12_fails_17 (by decide) ?_
      refine r_put (v := 1) hx hb (ly_X12 hE) tyX12 tyX12_ok nmX12 hown hK hP hJ hAL hS rfl 16 (by decide) (wd_1397 hE) (fun _ h9 => h9) rfl (by decide +kernel) rfl (by decide) dX12_fails_21 (fun u19 H locs hf19 hq19 hP hS => ?_)
      have hF20x := (hq19.2.1 12 (by decide)).trans hy3
      have hfr := FR.step hfr hq19 (fun _ h => absurd h List.not_mem_nil) (by decide) (fun h => rfl)
      refine lv_aload_n hx hb dX12_fails_24 rfl (lv_at hl 0 rfl) ?_
      refine lv_aload_n hx hb dX12_fails_25 rfl (lv_at hl 0 rfl) ?_
      obtain ⟨y21, hy21⟩ : ∃ z : Int32, rF u19 13 = z := ⟨_, rfl⟩
      refine r_get (v := .int y21) hx hb (ly_X12 hE) hown hK hP rfl 13 (by decide) (wd_1394 hE) (fun _ h9 => h9) (congrArg (fun z : Int32 => some (Value.int z)) hy21) dX12_fails_26 ?_
      refine r_put (v := y21) hx hb (ly_X12 hE) tyX12 tyX12_ok nmX12 hown hK hP hJ hAL hS rfl 17 (by decide) (wd_1398 hE) (fun _ h9 => h9) rfl (by decide +kernel) rfl (by decide) dX12_fails_29 (fun u22 H locs hf22 hq22 hP hS => ?_)
      have hF23x := (hq22.2.1 12 (by decide)).trans hF20x
      have hF24x := (hq22.2.1 16 (by decide)).trans hf19
      have hF25x := (hq22.2.1 13 (by decide)).trans hy21
      have hfr := FR.step hfr hq22 (fun _ h => absurd h List.not_mem_nil) (by decide) (fun h => rfl)
      refine lv_aload_n hx hb dX12_fails_32 rfl (lv_at hl 0 rfl) ?_
      refine lv_aload_n hx hb dX12_fails_33 rfl (lv_at hl 0 rfl) ?_
      obtain ⟨y26, hy26⟩ : ∃ z : Int32, rF u22 20 = z := ⟨_, rfl⟩
      refine r_get (v := .int y26) hx hb (ly_X12 hE) hown hK hP rfl 20 (by decide) (wd_1401 hE) (fun _ h9 => h9) (congrArg (fun z : Int32 => some (Value.int z)) hy26) dX12_fails_34 ?_
      refine r_put (v := y26) hx hb (ly_X12 hE) tyX12 tyX12_ok nmX12 hown hK hP hJ hAL hS rfl 18 (by decide) (wd_1399 hE) (fun _ h9 => h9) rfl (by decide +kernel) rfl (by decide) dX12_fails_37 (fun u27 H locs hf27 hq27 hP hS => ?_)
      have hF28x := (hq27.2.1 12 (by decide)).trans hF23x
      have hF29x := (hq27.2.1 16 (by decide)).trans hF24x
      have hF30x := (hq27.2.1 13 (by decide)).trans hF25x
      have hF31x := (hq27.2.1 17 (by decide)).trans hf22
      have hF32x := (hq27.2.1 20 (by decide)).trans hy26
      have hfr := FR.step hfr hq27 (fun _ h => absurd h List.not_mem_nil) (by decide) (fun h => rfl)
      refine lv_iconst (v := 0) hx hb dX12_fails_40 (by decide) ?_
      exact W.zret (v := 0) hx hb hr rfl (fun t ht hW => ⟨⟨0, u27, rfl, ⟨(by first | rfl | omega | (congr 1; omega) | assumption), hfr⟩, (show va_P (dC, dI) vwCl (rW cs b u27) t.heap by rw [ht]; exact hP)⟩, hS.F ht⟩) hS.2.2 dX12_fails_41

set_option maxHeartbeats 4000000 in
set_option maxRecDepth 100000 in
theorem r_X12_takesOn (l : Launch) (dC : Nat → ClassId) (dI : Nat → Nat → Nat) (sz : Nat) (cs : Nat → ClassId) (b : Nat → Nat) (u : RS) (tx : Nat → Int32) (hA16 : rA u 16 = tx) (sz1 : Nat) (e0 : Nat) (v0 : Nat) (hF11 : rF u 11 = nI sz1) (hF14 : rF u 14 = nI e0) (hF15 : rF u 15 = nI v0) (hp0 : sz1 ≤ 700) (hp1 : e0 ≤ sz1) (hp2 : v0 ≤ 9999) : Met l yX12_takesOn [.code yX12_takesOn cX12_takesOn 1 (some .boolean)] ({ frames := 2, cells := 0, slots := 0, locals := 80 }) (PR [.ref (b 0)] sz dC dI cs b u) (va_Qi (fun (r : Int32) (u' : RS) => (r = 1) ∧ (TK u' sz1) ∧ (e0 ≤ fN u' 13) ∧ (rF u' 12 = 0 ∨ fN u' 13 < fN u' 14) ∧ FR [] [12, 13, 14, 15] false u u') (BR dC dI cs b) (AR b sz)) 0 0 (AR b sz) := by
  refine Met.ofW (cc := cX12_takesOn) (maxL := 1) (ret := (some .boolean)) (by decide) rfl ?_
  intro p e s m args below meth c s₁ B hml hv
  obtain ⟨rfl, hsz, hP, hK, hJ, hE⟩ := hv
  have hx := B.exec
  have hb := B.bytes
  have hr := B.returns
  have hown : s.vm.findClass RX12 = some m.cls := findClass_of_methodNamed B.named
  have hlocks := B.notSynchronized
  subst hsz
  have hAL : ∀ i, i < 108 → AR b s.heap.size (b i) := fun i h => Or.inl ⟨i, h, rfl⟩
  have hA : ∀ q : Nat, s.heap.size ≤ q → AR b s.heap.size q := fun q h => Or.inr h
  have hS : va_S (AR b s.heap.size) s.heap s.heap [] := va_S.rf
  have hfr : FR [] [12, 13, 14, 15] false u u := FR.refl
  have hl := lv_entry ([.ref (b 0)]) (n := 1) (Nat.le_of_ble_eq_true rfl)
  rw [lg_entry_eq]
  generalize (lg_sl ([.ref (b 0)]) ++ List.replicate (1 - (lg_sl ([.ref (b 0)])).length) Slot.unset).toArray = ls at hl ⊢
  have hl : lv_has ls 1 [(0, .ref (b 0))] := hl
  refine lv_aload_n hx hb dX12_takesOn_0 rfl (lv_at hl 0 rfl) ?_
  refine rc_v hAL hS hA (va_runV (As := []) (rest := []) ⟨hx, hb, hml, hown, noTs⟩ (r_X12_ahead l dC dI s.heap.size cs b u tx hA16 sz1 e0 v0 hF11 hF14 hF15 (by first | assumption | omega | rfl | (congr 1; omega)) (by first | assumption | omega | rfl | (congr 1; omega)) (by first | assumption | omega | rfl | (congr 1; omega))) ⟨cbE 0 (wd_1506 hE) (wd_126 hE) (wd_1503 hE) rfl rfl (by decide +kernel) ⟨Nat.le_of_ble_eq_true rfl, Nat.le_of_ble_eq_true rfl⟩, (wd_1505 hE), (wd_56 hE)⟩ ⟨PR.blind, r_recv hK hP rfl, (r_pre (av := [.ref (b 0)]) hK hP hJ hE)⟩ rfl rfl hl.1 rfl (lv_room (Nat.le_of_ble_eq_true rfl)) dX12_takesOn_1 ⟨Nat.le_of_ble_eq_true rfl, Nat.le_of_ble_eq_true rfl⟩) (fun u4 H locs hpo4 hP hS => ?_)
  obtain ⟨h4_0, h4_1, h4_2, hq4⟩ := hpo4
  have hA5 := (hq4.1 16 List.not_mem_nil).trans hA16
  have hF6x := (hq4.2.1 11 (by decide)).trans hF11
  have hfr := FR.step hfr hq4 (fun _ h => absurd h List.not_mem_nil) (by decide) (fun h => rfl)
  have htk7 := h4_0.2.2.2
  refine lv_iconst (v := 1) hx hb dX12_takesOn_4 (by decide) ?_
  exact W.zret (v := 1) hx hb hr rfl (fun t ht hW => ⟨⟨1, u4, rfl, ⟨(by first | rfl | omega | (congr 1; omega) | assumption), (by first | assumption | omega | rfl | (congr 1; omega)), (by first | assumption | omega | rfl | (congr 1; omega)), (by first | assumption | omega | rfl | (congr 1; omega)), hfr⟩, (show va_P (dC, dI) vwCl (rW cs b u4) t.heap by rw [ht]; exact hP)⟩, hS.F ht⟩) hS.2.2 dX12_takesOn_5

set_option maxHeartbeats 4000000 in
set_option maxRecDepth 100000 in
theorem r_X12_isNumber (l : Launch) (dC : Nat → ClassId) (dI : Nat → Nat → Nat) (sz : Nat) (cs : Nat → ClassId) (b : Nat → Nat) (u : RS) : Met l yX12_isNumber [.code yX12_isNumber cX12_isNumber 1 (some .boolean)] ({ frames := 1, cells := 0, slots := 0, locals := 40 }) (PR [.ref (b 0)] sz dC dI cs b u) (va_Qi (fun (r : Int32) (u' : RS) => ((r = 1 ∧ (True)) ∨ (r = 0 ∧ (True))) ∧ FR [] [16, 17, 18] false u u') (BR dC dI cs b) (AR b sz)) 0 0 (AR b sz) := by
  refine Met.ofW (cc := cX12_isNumber) (maxL := 1) (ret := (some .boolean)) (by decide) rfl ?_
  intro p e s m args below meth c s₁ B hml hv
  obtain ⟨rfl, hsz, hP, hK, hJ, hE⟩ := hv
  have hx := B.exec
  have hb := B.bytes
  have hr := B.returns
  have hown : s.vm.findClass RX12 = some m.cls := findClass_of_methodNamed B.named
  have hlocks := B.notSynchronized
  subst hsz
  have hAL : ∀ i, i < 108 → AR b s.heap.size (b i) := fun i h => Or.inl ⟨i, h, rfl⟩
  have hA : ∀ q : Nat, s.heap.size ≤ q → AR b s.heap.size q := fun q h => Or.inr h
  have hS : va_S (AR b s.heap.size) s.heap s.heap [] := va_S.rf
  have hfr : FR [] [16, 17, 18] false u u := FR.refl
  have hl := lv_entry ([.ref (b 0)]) (n := 1) (Nat.le_of_ble_eq_true rfl)
  rw [lg_entry_eq]
  generalize (lg_sl ([.ref (b 0)]) ++ List.replicate (1 - (lg_sl ([.ref (b 0)])).length) Slot.unset).toArray = ls at hl ⊢
  have hl : lv_has ls 1 [(0, .ref (b 0))] := hl
  refine lv_aload_n hx hb dX12_isNumber_0 rfl (lv_at hl 0 rfl) ?_
  obtain ⟨y1, hy1⟩ : ∃ z : Int32, rF u 12 = z := ⟨_, rfl⟩
  refine r_get (v := .int y1) hx hb (ly_X12 hE) hown hK hP rfl 12 (by decide) (wd_1393 hE) (fun _ h9 => h9) (congrArg (fun z : Int32 => some (Value.int z)) hy1) dX12_isNumber_1 ?_
  refine lv_iconst (v := 3) hx hb dX12_isNumber_4 (by decide) ?_
  refine lv_icmp_eq (tgt := 16) hx hb dX12_isNumber_5 (by decide) (fun c2 => ?_) (fun c2 => ?_)
  · have c2 := (b_eq (rfl : Int32.toInt y1 = _) (show Int32.toInt 3 = 3 from rfl)).mp c2
    refine lv_iconst (v := 1) hx hb dX12_isNumber_16 (by decide) ?_
    refine lv_goto (tgt := 21) hx hb dX12_isNumber_17 (by decide) ?_
    exact W.zret (v := 1) hx hb hr rfl (fun t ht hW => ⟨⟨1, u, rfl, ⟨Or.inl ⟨rfl, by trivial⟩, hfr⟩, (show va_P (dC, dI) vwCl (rW cs b u) t.heap by rw [ht]; exact hP)⟩, hS.F ht⟩) hS.2.2 dX12_isNumber_21
  · have c2 := mt (b_eq (rfl : Int32.toInt y1 = _) (show Int32.toInt 3 = 3 from rfl)).mpr c2
    refine lv_aload_n hx hb dX12_isNumber_8 rfl (lv_at hl 0 rfl) ?_
    refine lv_iconst (v := 2) hx hb dX12_isNumber_9 (by decide) ?_
    refine rc_i hAL hS hA (va_runV (As := [.int 2]) (rest := []) ⟨hx, hb, hml, hown, noTs⟩ (r_X12_fails l dC dI s.heap.size cs b u 2) ⟨cbE 1 (wd_1540 hE) (wd_126 hE) (wd_1537 hE) rfl rfl (by decide +kernel) ⟨Nat.le_of_ble_eq_true rfl, Nat.le_of_ble_eq_true rfl⟩, (wd_1539 hE), (wd_62 hE)⟩ ⟨PR.blind, r_recv hK hP rfl, (r_pre (av := [.ref (b 0), .int 2]) hK hP hJ hE)⟩ rfl rfl hl.1 rfl (lv_room (Nat.le_of_ble_eq_true rfl)) dX12_isNumber_10 ⟨Nat.le_of_ble_eq_true rfl, Nat.le_of_ble_eq_true rfl⟩) (fun r3 u3 H locs hpo3 hP hS => ?_)
    obtain ⟨hr3, hq3⟩ := hpo3
    have hF4x := (hq3.2.1 12 (by decide)).trans hy1
    have hfr := FR.step hfr hq3 (fun _ h => absurd h List.not_mem_nil) (by decide) (fun h => rfl)
    subst hr3
    refine lv_if_eq (tgt := 20) hx hb dX12_isNumber_13 (by decide) (fun c5 => ?_) (fun c5 => absurd c5 (by decide))
    refine lv_iconst (v := 0) hx hb dX12_isNumber_20 (by decide) ?_
    exact W.zret (v := 0) hx hb hr rfl (fun t ht hW => ⟨⟨0, u3, rfl, ⟨Or.inr ⟨rfl, by trivial⟩, hfr⟩, (show va_P (dC, dI) vwCl (rW cs b u3) t.heap by rw [ht]; exact hP)⟩, hS.F ht⟩) hS.2.2 dX12_isNumber_21

set_option maxHeartbeats 4000000 in
set_option maxRecDepth 100000 in
theorem r_X12_someNumber (l : Launch) (dC : Nat → ClassId) (dI : Nat → Nat → Nat) (sz : Nat) (cs : Nat → ClassId) (b : Nat → Nat) (u : RS) (a : Nat → Int32) (hA1 : rA u 1 = a) (tx : Nat → Int32) (hA16 : rA u 16 = tx) (v : Nat) (sz1 : Nat) (hF11 : rF u 11 = nI sz1) (hp0 : BG a) (hp1 : TK u sz1) (hp2 : sz1 ≤ 700) (hp3 : v < vN a) : Met l yX12_someNumber [.code yX12_someNumber cX12_someNumber 3 (some .int)] ({ frames := 3, cells := 0, slots := 0, locals := 120 }) (PR [.ref (b 0), .int (nI v)] sz dC dI cs b u) (va_Qi (fun (r : Int32) (u' : RS) => (∃ k : Nat, r = nI k ∧ k < od a v) ∧ (TK u' sz1) ∧ (fN u 13 ≤ fN u' 13) ∧ FR [] [12, 13, 14, 15, 16, 17, 18] false u u') (BR dC dI cs b) (AR b sz)) 0 0 (AR b sz) := by
  refine Met.ofW (cc := cX12_someNumber) (maxL := 3) (ret := (some .int)) (by decide) rfl ?_
  intro p e s m args below meth c s₁ B hml hv
  obtain ⟨rfl, hsz, hP, hK, hJ, hE⟩ := hv
  have hx := B.exec
  have hb := B.bytes
  have hr := B.returns
  have hown : s.vm.findClass RX12 = some m.cls := findClass_of_methodNamed B.named
  have hlocks := B.notSynchronized
  subst hsz
  have hAL : ∀ i, i < 108 → AR b s.heap.size (b i) := fun i h => Or.inl ⟨i, h, rfl⟩
  have hA : ∀ q : Nat, s.heap.size ≤ q → AR b s.heap.size q := fun q h => Or.inr h
  have hS : va_S (AR b s.heap.size) s.heap s.heap [] := va_S.rf
  have hfr : FR [] [12, 13, 14, 15, 16, 17, 18] false u u := FR.refl
  have hl := lv_entry ([.ref (b 0), .int (nI v)]) (n := 3) (Nat.le_of_ble_eq_true rfl)
  rw [lg_entry_eq]
  generalize (lg_sl ([.ref (b 0), .int (nI v)]) ++ List.replicate (3 - (lg_sl ([.ref (b 0), .int (nI v)])).length) Slot.unset).toArray = ls at hl ⊢
  have hl : lv_has ls 3 [(0, .ref (b 0)), (1, .int (nI v))] := hl
  have hB := hp0
  have hG := bg_g hp0
  have ha1 := gg_le hG
  have ha1b := bg_w hp0
  have htk3 := hp1.2.2.2
  have hvo := gg_od hG hp3
  refine lv_aload_n hx hb dX12_someNumber_0 rfl (lv_at hl 0 rfl) ?_
  obtain ⟨y6, hy6⟩ : ∃ z : Int32, rF u 12 = z := ⟨_, rfl⟩
  refine r_get (v := .int y6) hx hb (ly_X12 hE) hown hK hP rfl 12 (by decide) (wd_1393 hE) (fun _ h9 => h9) (congrArg (fun z : Int32 => some (Value.int z)) hy6) dX12_someNumber_1 ?_
  refine lv_iconst (v := 3) hx hb dX12_someNumber_4 (by decide) ?_
  refine lv_icmp_eq (tgt := 10) hx hb dX12_someNumber_5 (by decide) (fun c7 => ?_) (fun c7 => ?_)
  · have c7 := (b_eq (rfl : Int32.toInt y6 = _) (show Int32.toInt 3 = 3 from rfl)).mp c7
    refine lv_aload_n hx hb dX12_someNumber_10 rfl (lv_at hl 0 rfl) ?_
    refine lv_iload_n hx hb dX12_someNumber_11 rfl (lv_at hl 1 rfl) ?_
    refine lv_aload_n hx hb dX12_someNumber_12 rfl (lv_at hl 0 rfl) ?_
    refine r_get (v := .int (nI (fN u 15))) hx hb (ly_X12 hE) hown hK hP rfl 15 (by decide) (wd_1396 hE) (fun _ h9 => h9) (congrArg (fun z : Int32 => some (Value.int z)) hp1.2.2.1) dX12_someNumber_13 ?_
    refine vp_callSi (va_Run.run (va_runV (As := [.int (nI v), .int (nI (fN u 15))]) (rest := []) ⟨hx, hb, hml, hown, noTs⟩ (r_X12_round l dC dI s.heap.size cs b u a hA1 v (nI (fN u 15)) (by first | assumption | omega | rfl | (congr 1; omega)) (by first | assumption | omega | rfl | (congr 1; omega))) ⟨cbE 2 (wd_1576 hE) (wd_126 hE) (wd_1573 hE) rfl rfl (by decide +kernel) ⟨Nat.le_of_ble_eq_true rfl, Nat.le_of_ble_eq_true rfl⟩, (wd_1575 hE), (wd_71 hE)⟩ ⟨PR.blind, r_recv hK hP rfl, (r_pre (av := [.ref (b 0), .int (nI v), .int (nI (fN u 15))]) hK hP hJ hE)⟩ rfl rfl hl.1 rfl (lv_room (Nat.le_of_ble_eq_true rfl)) dX12_someNumber_16 ⟨Nat.le_of_ble_eq_true rfl, Nat.le_of_ble_eq_true rfl⟩)) (fun r8 hr8 => ?_)
    have hau8 := (gg_od (a := a) (v := v) (by assumption) (by first | assumption | omega)).2
    obtain ⟨n8, rfl, hn8_0⟩ := hr8
    refine lv_istore_n (lv' := [(2, .int (nI n8)), (0, .ref (b 0)), (1, .int (nI v))]) hx hb dX12_someNumber_19 rfl hl (by decide) rfl (fun ls hl => ?_)
    refine lv_aload_n hx hb dX12_someNumber_20 rfl (lv_at hl 1 rfl) ?_
    refine rc_v hAL hS hA (va_runV (As := []) (rest := []) ⟨hx, hb, hml, hown, noTs⟩ (r_X12_ahead l dC dI s.heap.size cs b u tx hA16 sz1 (fN u 14) (fN u 15) hF11 hp1.2.1 hp1.2.2.1 (by first | assumption | omega | rfl | (congr 1; omega)) (by first | assumption | omega | rfl | (congr 1; omega)) (by first | assumption | omega | rfl | (congr 1; omega))) ⟨cbE 0 (wd_1506 hE) (wd_126 hE) (wd_1503 hE) rfl rfl (by decide +kernel) ⟨Nat.le_of_ble_eq_true rfl, Nat.le_of_ble_eq_true rfl⟩, (wd_1505 hE), (wd_56 hE)⟩ ⟨PR.blind, r_recv hK hP rfl, (r_pre (av := [.ref (b 0)]) hK hP hJ hE)⟩ rfl rfl hl.1 rfl (lv_room (Nat.le_of_ble_eq_true rfl)) dX12_someNumber_21 ⟨Nat.le_of_ble_eq_true rfl, Nat.le_of_ble_eq_true rfl⟩) (fun u9 H locs hpo9 hP hS => ?_)
    obtain ⟨h9_0, h9_1, h9_2, hq9⟩ := hpo9
    have hA10 := (hq9.1 1 List.not_mem_nil).trans hA1
    have hA11 := (hq9.1 16 List.not_mem_nil).trans hA16
    have hF12x := (hq9.2.1 11 (by decide)).trans hF11
    have hfr := FR.step hfr hq9 (fun _ h => absurd h List.not_mem_nil) (by decide) (fun h => rfl)
    have htk13 := h9_0.2.2.2
    refine lv_iload_n hx hb dX12_someNumber_24 rfl (lv_at hl 0 rfl) ?_
    obtain ⟨tk1, tk2, tk3⟩ := tk_mk (n := sz1) h9_0.1 h9_0.2.1 h9_0.2.2.1 (by omega) (by omega) (by omega) (by omega)
    exact W.iret (v := nI n8) hx hb hr (fun t ht hW => ⟨⟨nI n8, u9, rfl, ⟨⟨n8, rfl, by first | assumption | omega | rfl | (congr 1; omega)⟩, (by exact tk1), (by omega), hfr⟩, (show va_P (dC, dI) vwCl (rW cs b u9) t.heap by rw [ht]; exact hP)⟩, hS.F ht⟩) hS.2.2 dX12_someNumber_25
  · have c7 := mt (b_eq (rfl : Int32.toInt y6 = _) (show Int32.toInt 3 = 3 from rfl)).mpr c7
    refine lv_iconst (v := 0) hx hb dX12_someNumber_8 (by decide) ?_
    obtain ⟨tk1, tk2, tk3⟩ := tk_mk (n := sz1) hp1.1 hp1.2.1 hp1.2.2.1 (by omega) (by omega) (by omega) (by omega)
    exact W.iret (v := 0) hx hb hr (fun t ht hW => ⟨⟨0, u, rfl, ⟨⟨0, rfl, by first | assumption | omega | rfl | (congr 1; omega)⟩, (by exact tk1), (by omega), hfr⟩, (show va_P (dC, dI) vwCl (rW cs b u) t.heap by rw [ht]; exact hP)⟩, hS.F ht⟩) hS.2.2 dX12_someNumber_9

set_option maxHeartbeats 4000000 in
set_option maxRecDepth 100000 in
theorem r_X12_aVertex (l : Launch) (dC : Nat → ClassId) (dI : Nat → Nat → Nat) (sz : Nat) (cs : Nat → ClassId) (b : Nat → Nat) (u : RS) (a : Nat → Int32) (hA1 : rA u 1 = a) (tx : Nat → Int32) (hA16 : rA u 16 = tx) (sz1 : Nat) (hF11 : rF u 11 = nI sz1) (hp0 : BG a) (hp1 : TK u sz1) (hp2 : sz1 ≤ 700) : Met l yX12_aVertex [.code yX12_aVertex cX12_aVertex 1 (some .boolean)] ({ frames := 3, cells := 0, slots := 0, locals := 120 }) (PR [.ref (b 0)] sz dC dI cs b u) (va_Qi (fun (r : Int32) (u' : RS) => ((r = 1 ∧ (fN u 14 ≤ fN u' 13)) ∨ (r = 0 ∧ (True))) ∧ (BG (rA u' 1)) ∧ (∀ k, 554 ≤ k → (rA u' 1) k = a k) ∧ (TK u' sz1) ∧ (fN u 13 ≤ fN u' 13) ∧ FR [1] [12, 13, 14, 15, 16, 17, 18] false u u') (BR dC dI cs b) (AR b sz)) 0 0 (AR b sz) := by
  refine Met.ofW (cc := cX12_aVertex) (maxL := 1) (ret := (some .boolean)) (by decide) rfl ?_
  intro p e s m args below meth c s₁ B hml hv
  obtain ⟨rfl, hsz, hP, hK, hJ, hE⟩ := hv
  have hx := B.exec
  have hb := B.bytes
  have hr := B.returns
  have hown : s.vm.findClass RX12 = some m.cls := findClass_of_methodNamed B.named
  have hlocks := B.notSynchronized
  subst hsz
  have hAL : ∀ i, i < 108 → AR b s.heap.size (b i) := fun i h => Or.inl ⟨i, h, rfl⟩
  have hA : ∀ q : Nat, s.heap.size ≤ q → AR b s.heap.size q := fun q h => Or.inr h
  have hS : va_S (AR b s.heap.size) s.heap s.heap [] := va_S.rf
  have hfr : FR [1] [12, 13, 14, 15, 16, 17, 18] false u u := FR.refl
  have hl := lv_entry ([.ref (b 0)]) (n := 1) (Nat.le_of_ble_eq_true rfl)
  rw [lg_entry_eq]
  generalize (lg_sl ([.ref (b 0)]) ++ List.replicate (1 - (lg_sl ([.ref (b 0)])).length) Slot.unset).toArray = ls at hl ⊢
  have hl : lv_has ls 1 [(0, .ref (b 0))] := hl
  have hB := hp0
  have hG := bg_g hp0
  have ha1 := gg_le hG
  have ha1b := bg_w hp0
  have htk3 := hp1.2.2.2
  refine lv_aload_n hx hb dX12_aVertex_0 rfl (lv_at hl 0 rfl) ?_
  refine lv_iconst (v := 0) hx hb dX12_aVertex_1 (by decide) ?_
  refine vp_callSi (va_Run.run (va_runV (As := [.int (nI 0)]) (rest := []) ⟨hx, hb, hml, hown, noTs⟩ (r_X12_of l dC dI s.heap.size cs b u a hA1 0 (by first | assumption | omega | rfl | (congr 1; omega))) ⟨cbE 1 (wd_1536 hE) (wd_126 hE) (wd_1533 hE) rfl rfl (by decide +kernel) ⟨Nat.le_of_ble_eq_true rfl, Nat.le_of_ble_eq_true rfl⟩, (wd_1535 hE), (wd_61 hE)⟩ ⟨PR.blind, r_recv hK hP rfl, (r_pre (av := [.ref (b 0), .int (nI 0)]) hK hP hJ hE)⟩ rfl rfl hl.1 rfl (lv_room (Nat.le_of_ble_eq_true rfl)) dX12_aVertex_2 ⟨Nat.le_of_ble_eq_true rfl, Nat.le_of_ble_eq_true rfl⟩)) (fun r5 hr5 => ?_)
  have hr5 := hr5.trans (gg_v hG)
  subst hr5
  refine lv_bipush (v := 6) hx hb dX12_aVertex_5 (by decide) ?_
  refine lv_icmp_ne (tgt := 17) hx hb dX12_aVertex_7 (by decide) (fun c6 => ?_) (fun c6 => ?_)
  · have c6 := mt (b_eq (nI_toInt (n := vN a) (by omega)) (show Int32.toInt 6 = 6 from rfl)).mpr c6
    refine lv_aload_n hx hb dX12_aVertex_17 rfl (lv_at hl 0 rfl) ?_
    refine rc_v hAL hS hA (va_runV (As := []) (rest := []) ⟨hx, hb, hml, hown, noTs⟩ (r_X12_ahead l dC dI s.heap.size cs b u tx hA16 sz1 (fN u 14) (fN u 15) hF11 hp1.2.1 hp1.2.2.1 (by first | assumption | omega | rfl | (congr 1; omega)) (by first | assumption | omega | rfl | (congr 1; omega)) (by first | assumption | omega | rfl | (congr 1; omega))) ⟨cbE 0 (wd_1506 hE) (wd_126 hE) (wd_1503 hE) rfl rfl (by decide +kernel) ⟨Nat.le_of_ble_eq_true rfl, Nat.le_of_ble_eq_true rfl⟩, (wd_1505 hE), (wd_56 hE)⟩ ⟨PR.blind, r_recv hK hP rfl, (r_pre (av := [.ref (b 0)]) hK hP hJ hE)⟩ rfl rfl hl.1 rfl (lv_room (Nat.le_of_ble_eq_true rfl)) dX12_aVertex_18 ⟨Nat.le_of_ble_eq_true rfl, Nat.le_of_ble_eq_true rfl⟩) (fun u7 H locs hpo7 hP hS => ?_)
    obtain ⟨h7_0, h7_1, h7_2, hq7⟩ := hpo7
    have hA8 := (hq7.1 1 List.not_mem_nil).trans hA1
    have hA9 := (hq7.1 16 List.not_mem_nil).trans hA16
    have hF10x := (hq7.2.1 11 (by decide)).trans hF11
    have hfr := FR.step hfr hq7 (fun _ h => absurd h List.not_mem_nil) (by decide) (fun h => rfl)
    have htk11 := h7_0.2.2.2
    refine lv_aload_n hx hb dX12_aVertex_21 rfl (lv_at hl 0 rfl) ?_
    refine rc_i hAL hS hA (va_runV (As := []) (rest := []) ⟨hx, hb, hml, hown, noTs⟩ (r_X12_isNumber l dC dI H.size cs b u7) ⟨cbE 0 (wd_1544 hE) (wd_126 hE) (wd_1541 hE) rfl rfl (by decide +kernel) ⟨Nat.le_of_ble_eq_true rfl, Nat.le_of_ble_eq_true rfl⟩, (wd_1543 hE), (wd_63 hE)⟩ ⟨PR.blind, r_recv hK hP rfl, (r_pre (av := [.ref (b 0)]) hK hP hJ hE)⟩ rfl rfl hl.1 rfl (lv_room (Nat.le_of_ble_eq_true rfl)) dX12_aVertex_22 ⟨Nat.le_of_ble_eq_true rfl, Nat.le_of_ble_eq_true rfl⟩) (fun r12 u12 H locs hpo12 hP hS => ?_)
    obtain ⟨hr12, hq12⟩ := hpo12
    have hA13 := (hq12.1 1 List.not_mem_nil).trans hA8
    have hA14 := (hq12.1 16 List.not_mem_nil).trans hA9
    have hF15x := (hq12.2.1 11 (by decide)).trans hF10x
    have hF16x := (hq12.2.1 13 (by decide)).trans h7_0.1
    have hF17x := (hq12.2.1 14 (by decide)).trans h7_0.2.1
    have hF18x := (hq12.2.1 15 (by decide)).trans h7_0.2.2.1
    have hfr := FR.step hfr hq12 (fun _ h => absurd h List.not_mem_nil) (by decide) (fun h => rfl)
    rcases hr12 with ⟨rfl, hb12⟩ | ⟨rfl, hb12⟩
    · refine lv_if_ne (tgt := 30) hx hb dX12_aVertex_25 (by decide) (fun c19 => ?_) (fun c19 => absurd c19 (by decide))
      refine lv_aload_n hx hb dX12_aVertex_30 rfl (lv_at hl 0 rfl) ?_
      refine r_get (v := .int (nI (fN u7 15))) hx hb (ly_X12 hE) hown hK hP rfl 15 (by decide) (wd_1396 hE) (fun _ h9 => h9) (congrArg (fun z : Int32 => some (Value.int z)) hF18x) dX12_aVertex_31 ?_
      refine lv_iconst (v := 1) hx hb dX12_aVertex_34 (by decide) ?_
      refine lv_bipush (v := 60) hx hb dX12_aVertex_35 (by decide) ?_
      refine vp_callSi (va_Run.run (va_runS (As := [.int (nI (fN u7 15)), .int 1, .int 60]) (rest := []) ⟨hx, hb, hml, hown, noTs⟩ (r_X12_isFrom l dC dI H.size cs b u12 a hA13 (nI (fN u7 15)) 1 60 ((1 : Int)) ((60 : Int)) (show Int32.toInt 1 = 1 from rfl) (show Int32.toInt 60 = 60 from rfl)) ⟨cbE 3 (wd_1494 hE) (wd_126 hE) (wd_1492 hE) rfl rfl (by decide +kernel) ⟨Nat.le_of_ble_eq_true rfl, Nat.le_of_ble_eq_true rfl⟩, (wd_1493 hE)⟩ ⟨PR.blind, (r_pre (av := [.int (nI (fN u7 15)), .int 1, .int 60]) hK hP hJ hE)⟩ rfl rfl hl.1 rfl (lv_room (Nat.le_of_ble_eq_true rfl)) dX12_aVertex_37 ⟨Nat.le_of_ble_eq_true rfl, Nat.le_of_ble_eq_true rfl⟩)) (fun r20 hr20 => ?_)
      rcases hr20 with ⟨rfl, hb20⟩ | ⟨rfl, hb20⟩
      · have hv15 := nI_toInt (n := (fN u7 15)) (by omega)
        refine lv_if_ne (tgt := 49) hx hb dX12_aVertex_40 (by decide) (fun c21 => ?_) (fun c21 => absurd c21 (by decide))
        refine lv_aload_n hx hb dX12_aVertex_49 rfl (lv_at hl 0 rfl) ?_
        refine r_get (v := .ref (b 1)) hx hb (ly_X12 hE) hown hK hP rfl 0 (by decide) (wd_1381 hE) (fun _ h9 => h9) rfl dX12_aVertex_50 ?_
        refine lv_iconst (v := 4) hx hb dX12_aVertex_53 (by decide) ?_
        refine lv_aload_n hx hb dX12_aVertex_54 rfl (lv_at hl 0 rfl) ?_
        refine lv_iconst (v := 0) hx hb dX12_aVertex_55 (by decide) ?_
        refine vp_callSi (va_Run.run (va_runV (As := [.int (nI 0)]) (rest := [.int 4, .ref (b 1)]) ⟨hx, hb, hml, hown, noTs⟩ (r_X12_of l dC dI H.size cs b u12 a hA13 0 (by first | assumption | omega | rfl | (congr 1; omega))) ⟨cbE 1 (wd_1536 hE) (wd_126 hE) (wd_1533 hE) rfl rfl (by decide +kernel) ⟨Nat.le_of_ble_eq_true rfl, Nat.le_of_ble_eq_true rfl⟩, (wd_1535 hE), (wd_61 hE)⟩ ⟨PR.blind, r_recv hK hP rfl, (r_pre (av := [.ref (b 0), .int (nI 0)]) hK hP hJ hE)⟩ rfl rfl hl.1 rfl (lv_room (Nat.le_of_ble_eq_true rfl)) dX12_aVertex_56 ⟨Nat.le_of_ble_eq_true rfl, Nat.le_of_ble_eq_true rfl⟩)) (fun r22 hr22 => ?_)
        have hr22 := hr22.trans (gg_v hG)
        subst hr22
        refine lv_iadd hx hb dX12_aVertex_59 ?_
        refine W.eq (g2 := F0 m 60 ls [.int (nI (4 + (vN a))), .ref (b 1)]) (congrArg (fun z : Int32 => F0 m 60 ls (.int z :: [.ref (b 1)])) (nI_add 4 (vN a))) ?_
        refine lv_aload_n hx hb dX12_aVertex_60 rfl (lv_at hl 0 rfl) ?_
        refine r_get (v := .int (nI (fN u7 15))) hx hb (ly_X12 hE) hown hK hP rfl 15 (by decide) (wd_1396 hE) (fun _ h9 => h9) (congrArg (fun z : Int32 => some (Value.int z)) hF18x) dX12_aVertex_61 ?_
        refine r_iast (j := 1) (k := 4 + (vN a)) (n := 7202) (x := nI (fN u7 15)) hx hb hK hP hJ hAL hS (by decide) (fun _ => rfl) hA13 (by omega) (by decide) dX12_aVertex_64 (fun u23 H locs hs23 hq23 hP hS => ?_)
        obtain ⟨w23, hw23⟩ : ∃ g, g = upd a (4 + (vN a)) (nI (fN u7 15)) := ⟨_, rfl⟩
        rw [← hw23] at hs23
        have hA24 := (hq23.1 16 (by decide)).trans hA14
        have hF25x := (hq23.2.1 11 List.not_mem_nil).trans hF15x
        have hF26x := (hq23.2.1 13 List.not_mem_nil).trans hF16x
        have hF27x := (hq23.2.1 14 List.not_mem_nil).trans hF17x
        have hF28x := (hq23.2.1 15 List.not_mem_nil).trans hF18x
        have hfr := FR.step hfr hq23 (by decide) (fun _ h => absurd h List.not_mem_nil) (fun h => rfl)
        have K1 := hw23
        refine lv_aload_n hx hb dX12_aVertex_65 rfl (lv_at hl 0 rfl) ?_
        refine r_get (v := .ref (b 1)) hx hb (ly_X12 hE) hown hK hP rfl 0 (by decide) (wd_1381 hE) (fun _ h9 => h9) rfl dX12_aVertex_66 ?_
        refine lv_iconst (v := 0) hx hb dX12_aVertex_69 (by decide) ?_
        refine lv_dup2_11 hx hb dX12_aVertex_70 rfl rfl ?_
        refine r_iald (j := 1) (k := 0) (n := 7202) (x := nI (vN a)) hx hb hK hP (by decide) rfl (by decide) (by decide) (by rw [hs23]; exact (show w23 0 = nI (vN a) by rw [K1, pk_un (by omega)]; exact gg_v hG)) dX12_aVertex_71 ?_
        refine lv_iconst (v := 1) hx hb dX12_aVertex_72 (by decide) ?_
        refine lv_iadd hx hb dX12_aVertex_73 ?_
        refine W.eq (g2 := F0 m 74 ls [.int (nI ((vN a) + 1)), .int 0, .ref (b 1)]) (congrArg (fun z : Int32 => F0 m 74 ls (.int z :: [.int 0, .ref (b 1)])) (nI_add (vN a) 1)) ?_
        refine r_iast (j := 1) (k := 0) (n := 7202) (x := nI ((vN a) + 1)) hx hb hK hP hJ hAL hS (by decide) (fun _ => rfl) hs23 (by decide) (by decide) dX12_aVertex_74 (fun u30 H locs hs30 hq30 hP hS => ?_)
        obtain ⟨w30, hw30⟩ : ∃ g, g = upd w23 0 (nI ((vN a) + 1)) := ⟨_, rfl⟩
        rw [← hw30] at hs30
        have hA31 := (hq30.1 16 (by decide)).trans hA24
        have hF32x := (hq30.2.1 11 List.not_mem_nil).trans hF25x
        have hF33x := (hq30.2.1 13 List.not_mem_nil).trans hF26x
        have hF34x := (hq30.2.1 14 List.not_mem_nil).trans hF27x
        have hF35x := (hq30.2.1 15 List.not_mem_nil).trans hF28x
        have hfr := FR.step hfr hq30 (by decide) (fun _ h => absurd h List.not_mem_nil) (fun h => rfl)
        have bgx := bg_vertex hp0 (by omega) (by omega) (by omega) K1 hw30
        have bgo : ∀ k, 554 ≤ k → w30 k = a k := fun k hk => by rw [hw30, pk_un (by omega), K1, pk_un (by omega)]
        refine lv_aload_n hx hb dX12_aVertex_75 rfl (lv_at hl 0 rfl) ?_
        refine rc_i hAL hS hA (va_runV (As := []) (rest := []) ⟨hx, hb, hml, hown, noTs⟩ (r_X12_takesOn l dC dI H.size cs b u30 tx hA31 sz1 (fN u7 14) (fN u7 15) hF32x hF34x hF35x (by first | assumption | omega | rfl | (congr 1; omega)) (by first | assumption | omega | rfl | (congr 1; omega)) (by first | assumption | omega | rfl | (congr 1; omega))) ⟨cbE 0 (wd_1548 hE) (wd_126 hE) (wd_1545 hE) rfl rfl (by decide +kernel) ⟨Nat.le_of_ble_eq_true rfl, Nat.le_of_ble_eq_true rfl⟩, (wd_1547 hE), (wd_64 hE)⟩ ⟨PR.blind, r_recv hK hP rfl, (r_pre (av := [.ref (b 0)]) hK hP hJ hE)⟩ rfl rfl hl.1 rfl (lv_room (Nat.le_of_ble_eq_true rfl)) dX12_aVertex_76 ⟨Nat.le_of_ble_eq_true rfl, Nat.le_of_ble_eq_true rfl⟩) (fun r36 u36 H locs hpo36 hP hS => ?_)
        obtain ⟨hr36, h36_0, h36_1, h36_2, hq36⟩ := hpo36
        have hA37 := (hq36.1 16 List.not_mem_nil).trans hA31
        have hA38 := (hq36.1 1 List.not_mem_nil).trans hs30
        have hF39x := (hq36.2.1 11 (by decide)).trans hF32x
        have hfr := FR.step hfr hq36 (fun _ h => absurd h List.not_mem_nil) (by decide) (fun h => rfl)
        have htk40 := h36_0.2.2.2
        subst hr36
        obtain ⟨tk1, tk2, tk3⟩ := tk_mk (n := sz1) h36_0.1 h36_0.2.1 h36_0.2.2.1 (by omega) (by omega) (by omega) (by omega)
        exact W.zret (v := 1) hx hb hr rfl (fun t ht hW => ⟨⟨1, u36, rfl, ⟨Or.inl ⟨rfl, by first | assumption | omega | rfl | (congr 1; omega)⟩, (by first | (rw [hA38]; done) | (rw [hA38]; first | assumption | exact bgx)), (by first | (rw [hA38]; done) | (rw [hA38]; first | (intro k _; rfl) | exact bgo)), (by exact tk1), (by omega), hfr⟩, (show va_P (dC, dI) vwCl (rW cs b u36) t.heap by rw [ht]; exact hP)⟩, hS.F ht⟩) hS.2.2 dX12_aVertex_79
      · refine lv_if_ne (tgt := 49) hx hb dX12_aVertex_40 (by decide) (fun c41 => absurd c41 (by decide)) (fun c41 => ?_)
        refine lv_aload_n hx hb dX12_aVertex_43 rfl (lv_at hl 0 rfl) ?_
        refine lv_iconst (v := 4) hx hb dX12_aVertex_44 (by decide) ?_
        refine rc_i hAL hS hA (va_runV (As := [.int 4]) (rest := []) ⟨hx, hb, hml, hown, noTs⟩ (r_X12_fails l dC dI H.size cs b u12 4) ⟨cbE 1 (wd_1540 hE) (wd_126 hE) (wd_1537 hE) rfl rfl (by decide +kernel) ⟨Nat.le_of_ble_eq_true rfl, Nat.le_of_ble_eq_true rfl⟩, (wd_1539 hE), (wd_62 hE)⟩ ⟨PR.blind, r_recv hK hP rfl, (r_pre (av := [.ref (b 0), .int 4]) hK hP hJ hE)⟩ rfl rfl hl.1 rfl (lv_room (Nat.le_of_ble_eq_true rfl)) dX12_aVertex_45 ⟨Nat.le_of_ble_eq_true rfl, Nat.le_of_ble_eq_true rfl⟩) (fun r42 u42 H locs hpo42 hP hS => ?_)
        obtain ⟨hr42, hq42⟩ := hpo42
        have hA43 := (hq42.1 1 List.not_mem_nil).trans hA13
        have hA44 := (hq42.1 16 List.not_mem_nil).trans hA14
        have hF45x := (hq42.2.1 11 (by decide)).trans hF15x
        have hF46x := (hq42.2.1 13 (by decide)).trans hF16x
        have hF47x := (hq42.2.1 14 (by decide)).trans hF17x
        have hF48x := (hq42.2.1 15 (by decide)).trans hF18x
        have hfr := FR.step hfr hq42 (fun _ h => absurd h List.not_mem_nil) (by decide) (fun h => rfl)
        subst hr42
        obtain ⟨tk1, tk2, tk3⟩ := tk_mk (n := sz1) hF46x hF47x hF48x (by omega) (by omega) (by omega) (by omega)
        exact W.zret (v := 0) hx hb hr rfl (fun t ht hW => ⟨⟨0, u42, rfl, ⟨Or.inr ⟨rfl, by trivial⟩, (by first | (rw [hA43]; done) | (rw [hA43]; first | assumption | exact bgx)), (by first | (rw [hA43]; done) | (rw [hA43]; first | (intro k _; rfl) | exact bgo)), (by exact tk1), (by omega), hfr⟩, (show va_P (dC, dI) vwCl (rW cs b u42) t.heap by rw [ht]; exact hP)⟩, hS.F ht⟩) hS.2.2 dX12_aVertex_48
    · refine lv_if_ne (tgt := 30) hx hb dX12_aVertex_25 (by decide) (fun c49 => absurd c49 (by decide)) (fun c49 => ?_)
      refine lv_iconst (v := 0) hx hb dX12_aVertex_28 (by decide) ?_
      obtain ⟨tk1, tk2, tk3⟩ := tk_mk (n := sz1) hF16x hF17x hF18x (by omega) (by omega) (by omega) (by omega)
      exact W.zret (v := 0) hx hb hr rfl (fun t ht hW => ⟨⟨0, u12, rfl, ⟨Or.inr ⟨rfl, by trivial⟩, (by first | (rw [hA13]; done) | (rw [hA13]; first | assumption | exact bgx)), (by first | (rw [hA13]; done) | (rw [hA13]; first | (intro k _; rfl) | exact bgo)), (by exact tk1), (by omega), hfr⟩, (show va_P (dC, dI) vwCl (rW cs b u12) t.heap by rw [ht]; exact hP)⟩, hS.F ht⟩) hS.2.2 dX12_aVertex_29
  · have c6 := (b_eq (nI_toInt (n := vN a) (by omega)) (show Int32.toInt 6 = 6 from rfl)).mp c6
    refine lv_aload_n hx hb dX12_aVertex_10 rfl (lv_at hl 0 rfl) ?_
    refine lv_bipush (v := 6) hx hb dX12_aVertex_11 (by decide) ?_
    refine rc_i hAL hS hA (va_runV (As := [.int 6]) (rest := []) ⟨hx, hb, hml, hown, noTs⟩ (r_X12_fails l dC dI s.heap.size cs b u 6) ⟨cbE 1 (wd_1540 hE) (wd_126 hE) (wd_1537 hE) rfl rfl (by decide +kernel) ⟨Nat.le_of_ble_eq_true rfl, Nat.le_of_ble_eq_true rfl⟩, (wd_1539 hE), (wd_62 hE)⟩ ⟨PR.blind, r_recv hK hP rfl, (r_pre (av := [.ref (b 0), .int 6]) hK hP hJ hE)⟩ rfl rfl hl.1 rfl (lv_room (Nat.le_of_ble_eq_true rfl)) dX12_aVertex_13 ⟨Nat.le_of_ble_eq_true rfl, Nat.le_of_ble_eq_true rfl⟩) (fun r50 u50 H locs hpo50 hP hS => ?_)
    obtain ⟨hr50, hq50⟩ := hpo50
    have hA51 := (hq50.1 1 List.not_mem_nil).trans hA1
    have hA52 := (hq50.1 16 List.not_mem_nil).trans hA16
    have hF53x := (hq50.2.1 11 (by decide)).trans hF11
    have hF54x := (hq50.2.1 13 (by decide)).trans hp1.1
    have hF55x := (hq50.2.1 14 (by decide)).trans hp1.2.1
    have hF56x := (hq50.2.1 15 (by decide)).trans hp1.2.2.1
    have hfr := FR.step hfr hq50 (fun _ h => absurd h List.not_mem_nil) (by decide) (fun h => rfl)
    subst hr50
    obtain ⟨tk1, tk2, tk3⟩ := tk_mk (n := sz1) hF54x hF55x hF56x (by omega) (by omega) (by omega) (by omega)
    exact W.zret (v := 0) hx hb hr rfl (fun t ht hW => ⟨⟨0, u50, rfl, ⟨Or.inr ⟨rfl, by trivial⟩, (by first | (rw [hA51]; done) | (rw [hA51]; first | assumption | exact bgx)), (by first | (rw [hA51]; done) | (rw [hA51]; first | (intro k _; rfl) | exact bgo)), (by exact tk1), (by omega), hfr⟩, (show va_P (dC, dI) vwCl (rW cs b u50) t.heap by rw [ht]; exact hP)⟩, hS.F ht⟩) hS.2.2 dX12_aVertex_16

set_option maxHeartbeats 4000000 in
set_option maxRecDepth 100000 in
theorem r_X12_aSide (l : Launch) (dC : Nat → ClassId) (dI : Nat → Nat → Nat) (sz : Nat) (cs : Nat → ClassId) (b : Nat → Nat) (u : RS) (a : Nat → Int32) (hA1 : rA u 1 = a) (tx : Nat → Int32) (hA16 : rA u 16 = tx) (at1 : Nat) (sz1 : Nat) (hF11 : rF u 11 = nI sz1) (hp0 : BG a) (hp1 : TK u sz1) (hp2 : sz1 ≤ 700) (hp3 : 10 + 4 * eN a ≤ at1) (hp4 : at1 + 1 < 34) : Met l yX12_aSide [.code yX12_aSide cX12_aSide 2 (some .boolean)] ({ frames := 2, cells := 0, slots := 0, locals := 80 }) (PR [.ref (b 0), .int (nI at1)] sz dC dI cs b u) (va_Qi (fun (r : Int32) (u' : RS) => ((r = 1 ∧ ((rA u' 1) at1 = nI (qn (rA u' 1) at1) ∧ qn (rA u' 1) at1 < vN a ∧ (rA u' 1) (at1 + 1) = nI (qn (rA u' 1) (at1 + 1)) ∧ 1 ≤ qn (rA u' 1) (at1 + 1) ∧ qn (rA u' 1) (at1 + 1) ≤ 9999 ∧ (∃ c1, od a (qn (rA u' 1) at1) = c1 * qn (rA u' 1) (at1 + 1)) ∧ fN u 14 ≤ fN u' 13)) ∨ (r = 0 ∧ (True))) ∧ (BG (rA u' 1)) ∧ (vN (rA u' 1) = vN a) ∧ (eN (rA u' 1) = eN a) ∧ (∀ v, v < vN a → od (rA u' 1) v = od a v) ∧ (∀ k, k ≠ at1 → k ≠ at1 + 1 → (rA u' 1) k = a k) ∧ (TK u' sz1) ∧ (fN u 13 ≤ fN u' 13) ∧ FR [1] [12, 13, 14, 15, 16, 17, 18] false u u') (BR dC dI cs b) (AR b sz)) 0 0 (AR b sz) := sorry

set_option maxHeartbeats 4000000 in
set_option maxRecDepth 100000 in
theorem r_X12_anEdge (l : Launch) (dC : Nat → ClassId) (dI : Nat → Nat → Nat) (sz : Nat) (cs : Nat → ClassId) (b : Nat → Nat) (u : RS) (a : Nat → Int32) (hA1 : rA u 1 = a) (tx : Nat → Int32) (hA16 : rA u 16 = tx) (sz1 : Nat) (hF11 : rF u 11 = nI sz1) (hp0 : BG a) (hp1 : TK u sz1) (hp2 : sz1 ≤ 700) : Met l yX12_anEdge [.code yX12_anEdge cX12_anEdge 2 (some .boolean)] ({ frames := 3, cells := 0, slots := 0, locals := 120 }) (PR [.ref (b 0)] sz dC dI cs b u) (va_Qi (fun (r : Int32) (u' : RS) => ((r = 1 ∧ (fN u 14 ≤ fN u' 13)) ∨ (r = 0 ∧ (True))) ∧ (BG (rA u' 1)) ∧ (∀ k, 554 ≤ k → (rA u' 1) k = a k) ∧ (TK u' sz1) ∧ (fN u 13 ≤ fN u' 13) ∧ FR [1] [12, 13, 14, 15, 16, 17, 18] false u u') (BR dC dI cs b) (AR b sz)) 0 0 (AR b sz) := sorry

set_option maxHeartbeats 4000000 in
set_option maxRecDepth 100000 in
theorem r_X12_aStep (l : Launch) (dC : Nat → ClassId) (dI : Nat → Nat → Nat) (sz : Nat) (cs : Nat → ClassId) (b : Nat → Nat) (u : RS) (a : Nat → Int32) (hA1 : rA u 1 = a) (tx : Nat → Int32) (hA16 : rA u 16 = tx) (jw : Nat) (hjwr : 3 ≤ jw ∧ jw ≤ 14) (w : Nat → Int32) (hAjw : rA u jw = w) (sz1 : Nat) (hF11 : rF u 11 = nI sz1) (hp0 : BG a) (hp1 : TK u sz1) (hp2 : sz1 ≤ 700) (hp3 : PG a w) (hp4 : LG a w) (hp5 : rn w ≤ 24) : Met l yX12_aStep [.code yX12_aStep cX12_aStep 4 (some .boolean)] ({ frames := 5, cells := 0, slots := 0, locals := 200 }) (PR [.ref (b 0), .ref (b jw)] sz dC dI cs b u) (va_Qi (fun (r : Int32) (u' : RS) => ((r = 1 ∧ (rn (rA u' jw) = rn w + 1)) ∨ (r = 0 ∧ (True))) ∧ (PG a (rA u' jw)) ∧ (LG a (rA u' jw)) ∧ (rn (rA u' jw) ≤ 24) ∧ (TK u' sz1) ∧ (fN u 13 ≤ fN u' 13) ∧ FR [jw] [12, 13, 14, 15, 16, 17, 18] false u u') (BR dC dI cs b) (AR b sz)) 0 0 (AR b sz) := sorry

set_option maxHeartbeats 4000000 in
set_option maxRecDepth 100000 in
theorem r_X12_aWord (l : Launch) (dC : Nat → ClassId) (dI : Nat → Nat → Nat) (sz : Nat) (cs : Nat → ClassId) (b : Nat → Nat) (u : RS) (a : Nat → Int32) (hA1 : rA u 1 = a) (tx : Nat → Int32) (hA16 : rA u 16 = tx) (sz1 : Nat) (hF11 : rF u 11 = nI sz1) (hp0 : BG a) (hp1 : TK u sz1) (hp2 : sz1 ≤ 700) : Met l yX12_aWord [.code yX12_aWord cX12_aWord 3 (some .boolean)] ({ frames := 6, cells := 0, slots := 0, locals := 240 }) (PR [.ref (b 0)] sz dC dI cs b u) (va_Qi (fun (r : Int32) (u' : RS) => ((r = 1 ∧ (fN u 14 ≤ fN u' 13)) ∨ (r = 0 ∧ (True))) ∧ (BG (rA u' 1)) ∧ (∀ k, 554 ≤ k → (rA u' 1) k = a k) ∧ (TK u' sz1) ∧ (fN u 13 ≤ fN u' 13) ∧ FR [1, 3] [12, 13, 14, 15, 16, 17, 18] false u u') (BR dC dI cs b) (AR b sz)) 0 0 (AR b sz) := sorry
