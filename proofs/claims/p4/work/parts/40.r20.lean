def bA (f : Nat → Int32) (n k : Nat) : Int32 := if k < n then f k &&& 255 else -1
theorem and255 (x : Int32) : 0 ≤ (x &&& 255).toInt ∧ (x &&& 255).toInt ≤ 255 := by
  obtain ⟨j, hj, e⟩ := pk_andE x (m := 255) 8 (by decide)
  have hj2 : j < 256 := hj
  rw [e, nI_toInt (by omega)]
  omega
theorem bA_f (f : Nat → Int32) (n k : Nat) : ((bA f n k).toInt = -1 ∧ n ≤ k) ∨ (k < n ∧ 0 ≤ (bA f n k).toInt ∧ (bA f n k).toInt ≤ 255) := by
  unfold bA
  by_cases h : k < n
  · rw [if_pos h]
    exact Or.inr ⟨h, and255 _⟩
  · rw [if_neg h]
    exact Or.inl ⟨rfl, by omega⟩
theorem mn_f {x y z : Int32} {X Y : Int} (h : z = if y < x then y else x) (ex : x.toInt = X) (ey : y.toInt = Y) : (z.toInt = X ∧ X ≤ Y) ∨ (z.toInt = Y ∧ Y ≤ X) := by
  by_cases q : y < x
  · rw [if_pos q] at h
    rw [b_lt ey ex] at q
    rw [h]
    omega
  · rw [if_neg q] at h
    rw [b_lt ey ex] at q
    rw [h]
    omega
def fN (u : RS) (k : Nat) : Nat := (rF u k).toNatClampNeg
theorem fN_of {u : RS} {k x : Nat} (h : rF u k = nI x) (hx : x < 2 ^ 31) : fN u k = x := by unfold fN; rw [h, nI_clamp hx]
/-- where the reader stands in a text of n bytes -/
def TK (u : RS) (n : Nat) : Prop := rF u 13 = nI (fN u 13) ∧ rF u 14 = nI (fN u 14) ∧ rF u 15 = nI (fN u 15) ∧ fN u 13 ≤ fN u 14 ∧ fN u 14 ≤ n ∧ fN u 15 ≤ 9999
theorem tk_mk {u : RS} {n x y z : Nat} (h1 : rF u 13 = nI x) (h2 : rF u 14 = nI y) (h3 : rF u 15 = nI z) (hxy : x ≤ y) (hy : y ≤ n) (hn : n ≤ 700) (hz : z ≤ 9999) : TK u n ∧ fN u 13 = x ∧ fN u 14 = y := by
  have e1 := fN_of h1 (by omega)
  have e2 := fN_of h2 (by omega)
  have e3 := fN_of h3 (by omega)
  refine ⟨⟨by rw [e1]; exact h1, by rw [e2]; exact h2, by rw [e3]; exact h3, by omega, by omega, by omega⟩, e1, e2⟩
theorem tk_fr {u u1 : RS} {n : Nat} {js ks : List Nat} {lb : Bool} (h : TK u n) (hf : FR js ks lb u u1) (h13 : 13 ∉ ks) (h14 : 14 ∉ ks) (h15 : 15 ∉ ks) : TK u1 n ∧ fN u1 13 = fN u 13 ∧ fN u1 14 = fN u 14 := by
  have e1 := hf.2.1 13 h13
  have e2 := hf.2.1 14 h14
  have e3 := hf.2.1 15 h15
  have f1 : fN u1 13 = fN u 13 := by unfold fN; rw [e1]
  have f2 : fN u1 14 = fN u 14 := by unfold fN; rw [e2]
  have f3 : fN u1 15 = fN u 15 := by unfold fN; rw [e3]
  refine ⟨⟨by rw [e1, f1]; exact h.1, by rw [e2, f2]; exact h.2.1, by rw [e3, f3]; exact h.2.2.1, ?_⟩, f1, f2⟩
  rw [f1, f2, f3]
  exact h.2.2.2
theorem bg_of {a a' : Nat → Int32} (hB : BG a) (hG : GG a') (hm : GM a a') (h2 : a' 2 = a 2) (hw : ∀ k, 34 ≤ k → k < 554 → a' k = a k) : BG a' := by
  have e3 : wN a' = wN a := by unfold wN; rw [h2]
  have hw10 := bg_w hB
  refine ⟨hG, by rw [e3, h2]; exact hw10.1, by omega, fun x hx => ?_⟩
  rw [e3] at hx
  exact wg_one hm (bg_g hB) (fun k hk => hw _ (by omega) (by omega)) (bg_row hB hx)
theorem bg_zero {a : Nat → Int32} (h : ∀ k, k < 554 → a k = 0) : BG a := by
  have e1 : vN a = 0 := by unfold vN; rw [h 0 (by omega)]; rfl
  have e2 : eN a = 0 := by unfold eN; rw [h 1 (by omega)]; rfl
  have e3 : wN a = 0 := by unfold wN; rw [h 2 (by omega)]; rfl
  exact ⟨⟨by rw [e1]; exact h 0 (by omega), by omega, by rw [e2]; exact h 1 (by omega), by omega, fun v hv => absurd hv (by omega), fun e he => absurd he (by omega)⟩, by rw [e3]; exact h 2 (by omega), by omega, fun w hw => absurd hw (by omega)⟩
/-- a cell behind the edges changes -/
theorem bg_free {a a' : Nat → Int32} {i : Nat} {x : Int32} (hB : BG a) (h1 : 10 + 4 * eN a ≤ i) (h2 : i < 34) (h : a' = upd a i x) : BG a' ∧ vN a' = vN a ∧ eN a' = eN a ∧ wN a' = wN a ∧ ∀ v, v < vN a → od a' v = od a v := by
  have hG := bg_g hB
  have hle := gg_le hG
  have ho : ∀ k, k ≠ i → a' k = a k := fun k hk => by rw [h, pk_un hk]
  have e1 : vN a' = vN a := by unfold vN; rw [ho 0 (by omega)]
  have e2 : eN a' = eN a := by unfold eN; rw [ho 1 (by omega)]
  have e3 : wN a' = wN a := by unfold wN; rw [ho 2 (by omega)]
  have hod : ∀ v, v < vN a → od a' v = od a v := fun v hv => by unfold od; rw [ho _ (by omega)]
  have hev : ∀ e k, e < eN a → k < 4 → ev a' e k = ev a e k := fun e k he hk => by unfold ev; rw [ho _ (by omega)]
  have hm : GM a a' := ⟨by omega, by omega, hod, hev⟩
  have hG' : GG a' := by
    refine ⟨by rw [ho 0 (by omega), e1]; exact gg_v hG, by omega, by rw [ho 1 (by omega), e2]; exact gg_e hG, by omega, fun v hv => ?_, fun e he => ?_⟩
    · rw [e1] at hv
      rw [ho _ (by omega), hod v hv]
      exact gg_od hG hv
    · rw [e2] at he
      obtain ⟨q1, q2, q3, c, q4, q5⟩ := gg_edge hG he
      refine ⟨fun k hk => by rw [ho _ (by omega), hev e k he hk]; exact q1 k hk, by rw [hev e 0 he (by decide), e1]; exact q2, by rw [hev e 2 he (by decide), e1]; exact q3, c, ?_, ?_⟩
      · rw [hev e 0 he (by decide), hev e 1 he (by decide), hod _ q2]; exact q4
      · rw [hev e 2 he (by decide), hev e 3 he (by decide), hod _ q3]; exact q5
  exact ⟨bg_of hB hG' hm (ho 2 (by omega)) (fun k h34 _ => ho k (by omega)), e1, e2, e3, hod⟩
theorem bg_vertex {a a' a1 : Nat → Int32} {x : Nat} (hB : BG a) (hv : vN a ≤ 5) (hx1 : 1 ≤ x) (hx2 : x ≤ 60) (h1 : a1 = upd a (4 + vN a) (nI x)) (h2 : a' = upd a1 0 (nI (vN a + 1))) : BG a' := by
  have hG := bg_g hB
  have hle := gg_le hG
  have ho : ∀ k, k ≠ 0 → k ≠ 4 + vN a → a' k = a k := fun k h0 hk => by rw [h2, pk_un h0, h1, pk_un hk]
  have h0 : a' 0 = nI (vN a + 1) := by rw [h2]; exact pk_us
  have hn : a' (4 + vN a) = nI x := by rw [h2, pk_un (by omega), h1]; exact pk_us
  have e1 : vN a' = vN a + 1 := by unfold vN; rw [h0, nI_clamp (by show vN a + 1 < _; omega)]; rfl
  have e2 : eN a' = eN a := by unfold eN; rw [ho 1 (by omega) (by omega)]
  have hod : ∀ v, v < vN a → od a' v = od a v := fun v hv => by unfold od; rw [ho _ (by omega) (by omega)]
  have hodn : od a' (vN a) = x := by unfold od; rw [hn, nI_clamp (by omega)]
  have hev : ∀ e k, e < eN a → k < 4 → ev a' e k = ev a e k := fun e k he hk => by unfold ev; rw [ho _ (by omega) (by omega)]
  have hm : GM a a' := ⟨by omega, by omega, hod, hev⟩
  have hG' : GG a' := by
    refine ⟨by rw [e1]; exact h0, by omega, by rw [ho 1 (by omega) (by omega), e2]; exact gg_e hG, by omega, fun v hv => ?_, fun e he => ?_⟩
    · by_cases hq : v = vN a
      · subst hq
        rw [hn, hodn]
        exact ⟨rfl, hx1, hx2⟩
      · rw [ho _ (by omega) (by omega), hod v (by omega)]
        exact gg_od hG (by omega)
    · rw [e2] at he
      obtain ⟨q1, q2, q3, c, q4, q5⟩ := gg_edge hG he
      refine ⟨fun k hk => by rw [ho _ (by omega) (by omega), hev e k he hk]; exact q1 k hk, by rw [hev e 0 he (by decide), e1]; omega, by rw [hev e 2 he (by decide), e1]; omega, c, ?_, ?_⟩
      · rw [hev e 0 he (by decide), hev e 1 he (by decide), hod _ q2]; exact q4
      · rw [hev e 2 he (by decide), hev e 3 he (by decide), hod _ q3]; exact q5
  exact bg_of hB hG' hm (ho 2 (by omega) (by omega)) (fun k h34 _ => ho k (by omega) (by omega))
theorem bg_edge {a a' : Nat → Int32} {v1 x1 v2 x2 c : Nat} (hB : BG a) (he : eN a ≤ 5) (h : a' = upd a 1 (nI (eN a + 1))) (c0 : a (10 + 4 * eN a) = nI v1) (c1 : a (10 + 4 * eN a + 1) = nI x1) (c2 : a (10 + 4 * eN a + 2) = nI v2) (c3 : a (10 + 4 * eN a + 3) = nI x2) (l1 : v1 < vN a) (l2 : v2 < vN a) (b1 : x1 ≤ 9999) (b2 : x2 ≤ 9999) (q1 : od a v1 = c * x1) (q2 : od a v2 = c * x2) : BG a' := by
  have hG := bg_g hB
  have hle := gg_le hG
  have ho : ∀ k, k ≠ 1 → a' k = a k := fun k hk => by rw [h, pk_un hk]
  have h1 : a' 1 = nI (eN a + 1) := by rw [h]; exact pk_us
  have e1 : vN a' = vN a := by unfold vN; rw [ho 0 (by omega)]
  have e2 : eN a' = eN a + 1 := by unfold eN; rw [h1, nI_clamp (by show eN a + 1 < _; omega)]; rfl
  have hod : ∀ v, od a' v = od a v := fun v => by unfold od; rw [ho _ (by omega)]
  have hev : ∀ e k, ev a' e k = ev a e k := fun e k => by unfold ev; rw [ho _ (by omega)]
  have z0 : ev a (eN a) 0 = v1 := by show (a (10 + 4 * eN a + 0)).toNatClampNeg = v1; rw [Nat.add_zero, c0, nI_clamp (by omega)]
  have z1 : ev a (eN a) 1 = x1 := by show (a (10 + 4 * eN a + 1)).toNatClampNeg = x1; rw [c1, nI_clamp (by omega)]
  have z2 : ev a (eN a) 2 = v2 := by show (a (10 + 4 * eN a + 2)).toNatClampNeg = v2; rw [c2, nI_clamp (by omega)]
  have z3 : ev a (eN a) 3 = x2 := by show (a (10 + 4 * eN a + 3)).toNatClampNeg = x2; rw [c3, nI_clamp (by omega)]
  have hm : GM a a' := ⟨by omega, by omega, fun v _ => hod v, fun e k _ _ => hev e k⟩
  have hG' : GG a' := by
    refine ⟨by rw [ho 0 (by omega), e1]; exact gg_v hG, by omega, by rw [e2]; exact h1, by omega, fun v hv => ?_, fun e he => ?_⟩
    · rw [ho _ (by omega), hod v]
      exact gg_od hG (by omega)
    · by_cases hq : e = eN a
      · subst hq
        refine ⟨fun k hk => ?_, by rw [hev, z0, e1]; exact l1, by rw [hev, z2, e1]; exact l2, c, by rw [hev, hev, hod, z0, z1]; exact q1, by rw [hev, hev, hod, z2, z3]; exact q2⟩
        rw [ho _ (by omega), hev]
        match k, hk with
        | 0, _ => rw [z0]; exact c0
        | 1, _ => rw [z1]; exact c1
        | 2, _ => rw [z2]; exact c2
        | 3, _ => rw [z3]; exact c3
      · obtain ⟨q1, q2, q3, c, q4, q5⟩ := gg_edge hG (show e < eN a by omega)
        refine ⟨fun k hk => by rw [ho _ (by omega), hev]; exact q1 k hk, by rw [hev, e1]; exact q2, by rw [hev, e1]; exact q3, c, by rw [hev, hev, hod]; exact q4, by rw [hev, hev, hod]; exact q5⟩
  exact bg_of hB hG' hm (ho 2 (by omega)) (fun k h34 _ => ho k (by omega))

set_option maxHeartbeats 4000000 in
set_option maxRecDepth 100000 in
theorem r_X12_byteAt (l : Launch) (dC : Nat → ClassId) (dI : Nat → Nat → Nat) (sz : Nat) (cs : Nat → ClassId) (b : Nat → Nat) (u : RS) (tx : Nat → Int32) (hAc16 : rA u 16 = tx) (k : Nat) (sz1 : Nat) (hF11 : rF u 11 = nI sz1) (hp0 : sz1 ≤ 700) (hp1 : k < 100000) : Met l yX12_byteAt [.code yX12_byteAt cX12_byteAt 2 (some .int)] ({ frames := 0, cells := 0, slots := 0, locals := 0 }) (PR [.ref (b 0), .int (nI k)] sz dC dI cs b u) (vp_Si (fun (r : Int32) => r = bA tx sz1 k)) 0 0 (fun _ => False) := by
  refine Met.ofW (cc := cX12_byteAt) (maxL := 2) (ret := (some .int)) (by decide) rfl ?_
  intro p e s m args below meth c s₁ B hml hv
  obtain ⟨rfl, hsz, hP, hK, hJ, hE⟩ := hv
  have hx := B.exec
  have hb := B.bytes
  have hr := B.returns
  have hown : s.vm.findClass RX12 = some m.cls := findClass_of_methodNamed B.named
  have hlocks := B.notSynchronized
  subst hsz
  have hl := lv_entry ([.ref (b 0), .int (nI k)]) (n := 2) (Nat.le_of_ble_eq_true rfl)
  rw [lg_entry_eq]
  generalize (lg_sl ([.ref (b 0), .int (nI k)]) ++ List.replicate (2 - (lg_sl ([.ref (b 0), .int (nI k)])).length) Slot.unset).toArray = ls at hl ⊢
  have hl : lv_has ls 2 [(0, .ref (b 0)), (1, .int (nI k))] := hl
  refine lv_iload_n hx hb dX12_byteAt_0 rfl (lv_at hl 1 rfl) ?_
  refine lv_aload_n hx hb dX12_byteAt_1 rfl (lv_at hl 0 rfl) ?_
  refine r_get (v := .int (nI sz1)) hx hb (ly_X12 hE) hown hK hP rfl 11 (by decide) (wd_1392 hE) (fun _ h9 => h9) (congrArg (fun z : Int32 => some (Value.int z)) hF11) dX12_byteAt_2 ?_
  refine lv_icmp_ge (tgt := 21) hx hb dX12_byteAt_5 (by decide) (fun c3 => ?_) (fun c3 => ?_)
  · have c3 := (b_le (nI_toInt (n := sz1) (by omega)) (nI_toInt (n := k) (by omega))).mp c3
    refine lv_iconst (v := -1) hx hb dX12_byteAt_21 (by decide) ?_
    exact W.iret (v := -1) hx hb hr (fun t ht hW => ⟨-1, rfl, (by unfold bA; first | (rw [if_pos (by omega)]; assumption) | (rw [if_pos (by omega), ← EX13]; assumption) | (rw [if_neg (by omega)])), ht⟩) (fun _ h => absurd h List.not_mem_nil) dX12_byteAt_22
  · have c3 := mt (b_le (nI_toInt (n := sz1) (by omega)) (nI_toInt (n := k) (by omega))).mpr c3
    refine lv_aload_n hx hb dX12_byteAt_8 rfl (lv_at hl 0 rfl) ?_
    refine r_get (v := .ref (b 16)) hx hb (ly_X12 hE) hown hK hP rfl 9 (by decide) (wd_1390 hE) (fun _ h9 => h9) rfl dX12_byteAt_9 ?_
    refine lv_iload_n hx hb dX12_byteAt_12 rfl (lv_at hl 1 rfl) ?_
    refine r_bald (j := 16) (k := k) (n := 700) (x := tx k) hx hb hK hP (by decide) rfl (by omega) (by decide) (by rw [hAc16]) dX12_byteAt_13 ?_
    refine lv_topi (fun x5 ex5 => ?_)
    refine lv_sipush (v := 255) hx hb dX12_byteAt_14 (by decide) ?_
    have EX13 := ex5
    refine lv_iand hx hb dX12_byteAt_17 ?_
    refine lv_topi (fun x6 ex6 => ?_)
    refine lv_goto (tgt := 22) hx hb dX12_byteAt_18 (by decide) ?_
    exact W.iret (v := x6) hx hb hr (fun t ht hW => ⟨x6, rfl, (by unfold bA; first | (rw [if_pos (by omega)]; assumption) | (rw [if_pos (by omega), ← EX13]; assumption) | (rw [if_neg (by omega)])), ht⟩) (fun _ h => absurd h List.not_mem_nil) dX12_byteAt_22

set_option maxHeartbeats 4000000 in
set_option maxRecDepth 100000 in
theorem r_X12_isSmall (l : Launch) (dC : Nat → ClassId) (dI : Nat → Nat → Nat) (sz : Nat) (cs : Nat → ClassId) (b : Nat → Nat) (u : RS) (x : Int32) : Met l yX12_isSmall [.code yX12_isSmall cX12_isSmall 1 (some .boolean)] ({ frames := 0, cells := 0, slots := 0, locals := 0 }) (PR [.int x] sz dC dI cs b u) (vp_Si (fun (r : Int32) => (r = 1 ∧ (97 ≤ x.toInt ∧ x.toInt ≤ 122)) ∨ (r = 0 ∧ (x.toInt < 97 ∨ 122 < x.toInt)))) 0 0 (fun _ => False) := by
  refine Met.ofW (cc := cX12_isSmall) (maxL := 1) (ret := (some .boolean)) (by decide) rfl ?_
  intro p e s m args below meth c s₁ B hml hv
  obtain ⟨rfl, hsz, hP, hK, hJ, hE⟩ := hv
  have hx := B.exec
  have hb := B.bytes
  have hr := B.returns
  have hown : s.vm.findClass RX12 = some m.cls := findClass_of_methodNamed B.named
  have hlocks := B.notSynchronized
  subst hsz
  have hl := lv_entry ([.int x]) (n := 1) (Nat.le_of_ble_eq_true rfl)
  rw [lg_entry_eq]
  generalize (lg_sl ([.int x]) ++ List.replicate (1 - (lg_sl ([.int x])).length) Slot.unset).toArray = ls at hl ⊢
  have hl : lv_has ls 1 [(0, .int x)] := hl
  refine lv_iload_n hx hb dX12_isSmall_0 rfl (lv_at hl 0 rfl) ?_
  refine lv_bipush (v := 97) hx hb dX12_isSmall_1 (by decide) ?_
  refine lv_icmp_lt (tgt := 16) hx hb dX12_isSmall_3 (by decide) (fun c1 => ?_) (fun c1 => ?_)
  · have c1 := (b_lt (rfl : Int32.toInt x = _) (show Int32.toInt 97 = 97 from rfl)).mp c1
    refine lv_iconst (v := 0) hx hb dX12_isSmall_16 (by decide) ?_
    exact W.zret (v := 0) hx hb hr rfl (fun t ht hW => ⟨0, rfl, Or.inr ⟨rfl, by first | assumption | omega | rfl | (congr 1; omega)⟩, ht⟩) (fun _ h => absurd h List.not_mem_nil) dX12_isSmall_17
  · have c1 := mt (b_lt (rfl : Int32.toInt x = _) (show Int32.toInt 97 = 97 from rfl)).mpr c1
    refine lv_iload_n hx hb dX12_isSmall_6 rfl (lv_at hl 0 rfl) ?_
    refine lv_bipush (v := 122) hx hb dX12_isSmall_7 (by decide) ?_
    refine lv_icmp_gt (tgt := 16) hx hb dX12_isSmall_9 (by decide) (fun c2 => ?_) (fun c2 => ?_)
    · have c2 := (b_lt (show Int32.toInt 122 = 122 from rfl) (rfl : Int32.toInt x = _)).mp c2
      refine lv_iconst (v := 0) hx hb dX12_isSmall_16 (by decide) ?_
      exact W.zret (v := 0) hx hb hr rfl (fun t ht hW => ⟨0, rfl, Or.inr ⟨rfl, by first | assumption | omega | rfl | (congr 1; omega)⟩, ht⟩) (fun _ h => absurd h List.not_mem_nil) dX12_isSmall_17
    · have c2 := mt (b_lt (show Int32.toInt 122 = 122 from rfl) (rfl : Int32.toInt x = _)).mpr c2
      refine lv_iconst (v := 1) hx hb dX12_isSmall_12 (by decide) ?_
      refine lv_goto (tgt := 17) hx hb dX12_isSmall_13 (by decide) ?_
      exact W.zret (v := 1) hx hb hr rfl (fun t ht hW => ⟨1, rfl, Or.inl ⟨rfl, by first | assumption | omega | rfl | (congr 1; omega)⟩, ht⟩) (fun _ h => absurd h List.not_mem_nil) dX12_isSmall_17

set_option maxHeartbeats 4000000 in
set_option maxRecDepth 100000 in
theorem r_X12_isDigit (l : Launch) (dC : Nat → ClassId) (dI : Nat → Nat → Nat) (sz : Nat) (cs : Nat → ClassId) (b : Nat → Nat) (u : RS) (x : Int32) : Met l yX12_isDigit [.code yX12_isDigit cX12_isDigit 1 (some .boolean)] ({ frames := 0, cells := 0, slots := 0, locals := 0 }) (PR [.int x] sz dC dI cs b u) (vp_Si (fun (r : Int32) => (r = 1 ∧ (48 ≤ x.toInt ∧ x.toInt ≤ 57)) ∨ (r = 0 ∧ (x.toInt < 48 ∨ 57 < x.toInt)))) 0 0 (fun _ => False) := by
  refine Met.ofW (cc := cX12_isDigit) (maxL := 1) (ret := (some .boolean)) (by decide) rfl ?_
  intro p e s m args below meth c s₁ B hml hv
  obtain ⟨rfl, hsz, hP, hK, hJ, hE⟩ := hv
  have hx := B.exec
  have hb := B.bytes
  have hr := B.returns
  have hown : s.vm.findClass RX12 = some m.cls := findClass_of_methodNamed B.named
  have hlocks := B.notSynchronized
  subst hsz
  have hl := lv_entry ([.int x]) (n := 1) (Nat.le_of_ble_eq_true rfl)
  rw [lg_entry_eq]
  generalize (lg_sl ([.int x]) ++ List.replicate (1 - (lg_sl ([.int x])).length) Slot.unset).toArray = ls at hl ⊢
  have hl : lv_has ls 1 [(0, .int x)] := hl
  refine lv_iload_n hx hb dX12_isDigit_0 rfl (lv_at hl 0 rfl) ?_
  refine lv_bipush (v := 48) hx hb dX12_isDigit_1 (by decide) ?_
  refine lv_icmp_lt (tgt := 16) hx hb dX12_isDigit_3 (by decide) (fun c1 => ?_) (fun c1 => ?_)
  · have c1 := (b_lt (rfl : Int32.toInt x = _) (show Int32.toInt 48 = 48 from rfl)).mp c1
    refine lv_iconst (v := 0) hx hb dX12_isDigit_16 (by decide) ?_
    exact W.zret (v := 0) hx hb hr rfl (fun t ht hW => ⟨0, rfl, Or.inr ⟨rfl, by first | assumption | omega | rfl | (congr 1; omega)⟩, ht⟩) (fun _ h => absurd h List.not_mem_nil) dX12_isDigit_17
  · have c1 := mt (b_lt (rfl : Int32.toInt x = _) (show Int32.toInt 48 = 48 from rfl)).mpr c1
    refine lv_iload_n hx hb dX12_isDigit_6 rfl (lv_at hl 0 rfl) ?_
    refine lv_bipush (v := 57) hx hb dX12_isDigit_7 (by decide) ?_
    refine lv_icmp_gt (tgt := 16) hx hb dX12_isDigit_9 (by decide) (fun c2 => ?_) (fun c2 => ?_)
    · have c2 := (b_lt (show Int32.toInt 57 = 57 from rfl) (rfl : Int32.toInt x = _)).mp c2
      refine lv_iconst (v := 0) hx hb dX12_isDigit_16 (by decide) ?_
      exact W.zret (v := 0) hx hb hr rfl (fun t ht hW => ⟨0, rfl, Or.inr ⟨rfl, by first | assumption | omega | rfl | (congr 1; omega)⟩, ht⟩) (fun _ h => absurd h List.not_mem_nil) dX12_isDigit_17
    · have c2 := mt (b_lt (show Int32.toInt 57 = 57 from rfl) (rfl : Int32.toInt x = _)).mpr c2
      refine lv_iconst (v := 1) hx hb dX12_isDigit_12 (by decide) ?_
      refine lv_goto (tgt := 17) hx hb dX12_isDigit_13 (by decide) ?_
      exact W.zret (v := 1) hx hb hr rfl (fun t ht hW => ⟨1, rfl, Or.inl ⟨rfl, by first | assumption | omega | rfl | (congr 1; omega)⟩, ht⟩) (fun _ h => absurd h List.not_mem_nil) dX12_isDigit_17

