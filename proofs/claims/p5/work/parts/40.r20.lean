def bA (f : Nat → Int32) (n k : Nat) : Int32 := if k < n then f k &&& 255 else -1
theorem and255 (x : Int32) : 0 ≤ (x &&& 255).toInt ∧ (x &&& 255).toInt ≤ 255 := by
  obtain ⟨j, hj, e⟩ := pk_andE x (m := 255) 8 (by decide)
  have hj2 : j < 256 := hj
  rw [e, nI_toInt (by omega)]
  omega
theorem bA_f (f : Nat → Int32) (n k : Nat) : ((bA f n k).toInt = -1 ∧ n ≤ k) ∨ (k < n ∧ 0 ≤ (bA f n k).toInt ∧ (bA f n k).toInt ≤ 255) := by
  unfold bA
  by_cases h : k < n
  · rw [if_pos h]
    exact Or.inr ⟨h, and255 _⟩
  · rw [if_neg h]
    exact Or.inl ⟨rfl, by omega⟩
theorem mn_f {x y z : Int32} {X Y : Int} (h : z = if y < x then y else x) (ex : x.toInt = X) (ey : y.toInt = Y) : (z.toInt = X ∧ X ≤ Y) ∨ (z.toInt = Y ∧ Y ≤ X) := by
  by_cases q : y < x
  · rw [if_pos q] at h
    rw [b_lt ey ex] at q
    rw [h]
    omega
  · rw [if_neg q] at h
    rw [b_lt ey ex] at q
    rw [h]
    omega
def fN (u : RS) (k : Nat) : Nat := (rF u k).toNatClampNeg
theorem fN_of {u : RS} {k x : Nat} (h : rF u k = nI x) (hx : x < 2 ^ 31) : fN u k = x := by unfold fN; rw [h, nI_clamp hx]
/-- where the reader stands in a text of n bytes -/
def TK (u : RS) (n : Nat) : Prop := rF u 13 = nI (fN u 13) ∧ rF u 14 = nI (fN u 14) ∧ rF u 15 = nI (fN u 15) ∧ fN u 13 ≤ fN u 14 ∧ fN u 14 ≤ n ∧ fN u 15 ≤ 9999
theorem tk_mk {u : RS} {n x y z : Nat} (h1 : rF u 13 = nI x) (h2 : rF u 14 = nI y) (h3 : rF u 15 = nI z) (hxy : x ≤ y) (hy : y ≤ n) (hn : n ≤ 700) (hz : z ≤ 9999) : TK u n ∧ fN u 13 = x ∧ fN u 14 = y := by
  have e1 := fN_of h1 (by omega)
  have e2 := fN_of h2 (by omega)
  have e3 := fN_of h3 (by omega)
  refine ⟨⟨by rw [e1]; exact h1, by rw [e2]; exact h2, by rw [e3]; exact h3, by omega, by omega, by omega⟩, e1, e2⟩
theorem tk_fr {u u1 : RS} {n : Nat} {js ks : List Nat} {lb : Bool} (h : TK u n) (hf : FR js ks lb u u1) (h13 : 13 ∉ ks) (h14 : 14 ∉ ks) (h15 : 15 ∉ ks) : TK u1 n ∧ fN u1 13 = fN u 13 ∧ fN u1 14 = fN u 14 := by
  have e1 := hf.2.1 13 h13
  have e2 := hf.2.1 14 h14
  have e3 := hf.2.1 15 h15
  have f1 : fN u1 13 = fN u 13 := by unfold fN; rw [e1]
  have f2 : fN u1 14 = fN u 14 := by unfold fN; rw [e2]
  have f3 : fN u1 15 = fN u 15 := by unfold fN; rw [e3]
  refine ⟨⟨by rw [e1, f1]; exact h.1, by rw [e2, f2]; exact h.2.1, by rw [e3, f3]; exact h.2.2.1, ?_⟩, f1, f2⟩
  rw [f1, f2, f3]
  exact h.2.2.2
theorem bg_of {a a' : Nat → Int32} (hB : BG a) (hG : GG a') (hm : GM a a') (h2 : a' 2 = a 2) (hw : ∀ k, 34 ≤ k → k < 554 → a' k = a k) : BG a' := by
  have e3 : wN a' = wN a := by unfold wN; rw [h2]
  have hw10 := bg_w hB
  refine ⟨hG, by rw [e3, h2]; exact hw10.1, by omega, fun x hx => ?_⟩
  rw [e3] at hx
  exact wg_one hm (bg_g hB) (fun k hk => hw _ (by omega) (by omega)) (bg_row hB hx)
theorem bg_zero {a : Nat → Int32} (h : ∀ k, k < 554 → a k = 0) : BG a := by
  have e1 : vN a = 0 := by unfold vN; rw [h 0 (by omega)]; rfl
  have e2 : eN a = 0 := by unfold eN; rw [h 1 (by omega)]; rfl
  have e3 : wN a = 0 := by unfold wN; rw [h 2 (by omega)]; rfl
  exact ⟨⟨by rw [e1]; exact h 0 (by omega), by omega, by rw [e2]; exact h 1 (by omega), by omega, fun v hv => absurd hv (by omega), fun e he => absurd he (by omega)⟩, by rw [e3]; exact h 2 (by omega), by omega, fun w hw => absurd hw (by omega)⟩
/-- a cell behind the edges changes -/
theorem bg_free {a a' : Nat → Int32} {i : Nat} {x : Int32} (hB : BG a) (h1 : 10 + 4 * eN a ≤ i) (h2 : i < 34) (h : a' = upd a i x) : BG a' ∧ vN a' = vN a ∧ eN a' = eN a ∧ wN a' = wN a ∧ ∀ v, v < vN a → od a' v = od a v := by
  have hG := bg_g hB
  have hle := gg_le hG
  have ho : ∀ k, k ≠ i → a' k = a k := fun k hk => by rw [h, pk_un hk]
  have e1 : vN a' = vN a := by unfold vN; rw [ho 0 (by omega)]
  have e2 : eN a' = eN a := by unfold eN; rw [ho 1 (by omega)]
  have e3 : wN a' = wN a := by unfold wN; rw [ho 2 (by omega)]
  have hod : ∀ v, v < vN a → od a' v = od a v := fun v hv => by unfold od; rw [ho _ (by omega)]
  have hev : ∀ e k, e < eN a → k < 4 → ev a' e k = ev a e k := fun e k he hk => by unfold ev; rw [ho _ (by omega)]
  have hm : GM a a' := ⟨by omega, by omega, hod, hev⟩
  have hG' : GG a' := by
    refine ⟨by rw [ho 0 (by omega), e1]; exact gg_v hG, by omega, by rw [ho 1 (by omega), e2]; exact gg_e hG, by omega, fun v hv => ?_, fun e he => ?_⟩
    · rw [e1] at hv
      rw [ho _ (by omega), hod v hv]
      exact gg_od hG hv
    · rw [e2] at he
      obtain ⟨q1, q2, q3, c, q4, q5⟩ := gg_edge hG he
      refine ⟨fun k hk => by rw [ho _ (by omega), hev e k he hk]; exact q1 k hk, by rw [hev e 0 he (by decide), e1]; exact q2, by rw [hev e 2 he (by decide), e1]; exact q3, c, ?_, ?_⟩
      · rw [hev e 0 he (by decide), hev e 1 he (by decide), hod _ q2]; exact q4
      · rw [hev e 2 he (by decide), hev e 3 he (by decide), hod _ q3]; exact q5
  exact ⟨bg_of hB hG' hm (ho 2 (by omega)) (fun k h34 _ => ho k (by omega)), e1, e2, e3, hod⟩
theorem bg_vertex {a a' a1 : Nat → Int32} {x : Nat} (hB : BG a) (hv : vN a ≤ 5) (hx1 : 1 ≤ x) (hx2 : x ≤ 60) (h1 : a1 = upd a (4 + vN a) (nI x)) (h2 : a' = upd a1 0 (nI (vN a + 1))) : BG a' := by
  have hG := bg_g hB
  have hle := gg_le hG
  have ho : ∀ k, k ≠ 0 → k ≠ 4 + vN a → a' k = a k := fun k h0 hk => by rw [h2, pk_un h0, h1, pk_un hk]
  have h0 : a' 0 = nI (vN a + 1) := by rw [h2]; exact pk_us
  have hn : a' (4 + vN a) = nI x := by rw [h2, pk_un (by omega), h1]; exact pk_us
  have e1 : vN a' = vN a + 1 := by unfold vN; rw [h0, nI_clamp (by show vN a + 1 < _; omega)]; rfl
  have e2 : eN a' = eN a := by unfold eN; rw [ho 1 (by omega) (by omega)]
  have hod : ∀ v, v < vN a → od a' v = od a v := fun v hv => by unfold od; rw [ho _ (by omega) (by omega)]
  have hodn : od a' (vN a) = x := by unfold od; rw [hn, nI_clamp (by omega)]
  have hev : ∀ e k, e < eN a → k < 4 → ev a' e k = ev a e k := fun e k he hk => by unfold ev; rw [ho _ (by omega) (by omega)]
  have hm : GM a a' := ⟨by omega, by omega, hod, hev⟩
  have hG' : GG a' := by
    refine ⟨by rw [e1]; exact h0, by omega, by rw [ho 1 (by omega) (by omega), e2]; exact gg_e hG, by omega, fun v hv => ?_, fun e he => ?_⟩
    · by_cases hq : v = vN a
      · subst hq
        rw [hn, hodn]
        exact ⟨rfl, hx1, hx2⟩
      · rw [ho _ (by omega) (by omega), hod v (by omega)]
        exact gg_od hG (by omega)
    · rw [e2] at he
      obtain ⟨q1, q2, q3, c, q4, q5⟩ := gg_edge hG he
      refine ⟨fun k hk => by rw [ho _ (by omega) (by omega), hev e k he hk]; exact q1 k hk, by rw [hev e 0 he (by decide), e1]; omega, by rw [hev e 2 he (by decide), e1]; omega, c, ?_, ?_⟩
      · rw [hev e 0 he (by decide), hev e 1 he (by decide), hod _ q2]; exact q4
      · rw [hev e 2 he (by decide), hev e 3 he (by decide), hod _ q3]; exact q5
  exact bg_of hB hG' hm (ho 2 (by omega) (by omega)) (fun k h34 _ => ho k (by omega) (by omega))
theorem bg_edge {a a' : Nat → Int32} {v1 x1 v2 x2 c : Nat} (hB : BG a) (he : eN a ≤ 5) (h : a' = upd a 1 (nI (eN a + 1))) (c0 : a (10 + 4 * eN a) = nI v1) (c1 : a (10 + 4 * eN a + 1) = nI x1) (c2 : a (10 + 4 * eN a + 2) = nI v2) (c3 : a (10 + 4 * eN a + 3) = nI x2) (l1 : v1 < vN a) (l2 : v2 < vN a) (b1 : x1 ≤ 9999) (b2 : x2 ≤ 9999) (q1 : od a v1 = c * x1) (q2 : od a v2 = c * x2) : BG a' := by
  have hG := bg_g hB
  have hle := gg_le hG
  have ho : ∀ k, k ≠ 1 → a' k = a k := fun k hk => by rw [h, pk_un hk]
  have h1 : a' 1 = nI (eN a + 1) := by rw [h]; exact pk_us
  have e1 : vN a' = vN a := by unfold vN; rw [ho 0 (by omega)]
  have e2 : eN a' = eN a + 1 := by unfold eN; rw [h1, nI_clamp (by show eN a + 1 < _; omega)]; rfl
  have hod : ∀ v, od a' v = od a v := fun v => by unfold od; rw [ho _ (by omega)]
  have hev : ∀ e k, ev a' e k = ev a e k := fun e k => by unfold ev; rw [ho _ (by omega)]
  have z0 : ev a (eN a) 0 = v1 := by show (a (10 + 4 * eN a + 0)).toNatClampNeg = v1; rw [Nat.add_zero, c0, nI_clamp (by omega)]
  have z1 : ev a (eN a) 1 = x1 := by show (a (10 + 4 * eN a + 1)).toNatClampNeg = x1; rw [c1, nI_clamp (by omega)]
  have z2 : ev a (eN a) 2 = v2 := by show (a (10 + 4 * eN a + 2)).toNatClampNeg = v2; rw [c2, nI_clamp (by omega)]
  have z3 : ev a (eN a) 3 = x2 := by show (a (10 + 4 * eN a + 3)).toNatClampNeg = x2; rw [c3, nI_clamp (by omega)]
  have hm : GM a a' := ⟨by omega, by omega, fun v _ => hod v, fun e k _ _ => hev e k⟩
  have hG' : GG a' := by
    refine ⟨by rw [ho 0 (by omega), e1]; exact gg_v hG, by omega, by rw [e2]; exact h1, by omega, fun v hv => ?_, fun e he => ?_⟩
    · rw [ho _ (by omega), hod v]
      exact gg_od hG (by omega)
    · by_cases hq : e = eN a
      · subst hq
        refine ⟨fun k hk => ?_, by rw [hev, z0, e1]; exact l1, by rw [hev, z2, e1]; exact l2, c, by rw [hev, hev, hod, z0, z1]; exact q1, by rw [hev, hev, hod, z2, z3]; exact q2⟩
        rw [ho _ (by omega), hev]
        match k, hk with
        | 0, _ => rw [z0]; exact c0
        | 1, _ => rw [z1]; exact c1
        | 2, _ => rw [z2]; exact c2
        | 3, _ => rw [z3]; exact c3
      · obtain ⟨q1, q2, q3, c, q4, q5⟩ := gg_edge hG (show e < eN a by omega)
        refine ⟨fun k hk => by rw [ho _ (by omega), hev]; exact q1 k hk, by rw [hev, e1]; exact q2, by rw [hev, e1]; exact q3, c, by rw [hev, hev, hod]; exact q4, by rw [hev, hev, hod]; exact q5⟩
  exact bg_of hB hG' hm (ho 2 (by omega)) (fun k h34 _ => ho k (by omega))

set_option maxHeartbeats 4000000 in
set_option maxRecDepth 100000 in
theorem r_X12_byteAt (l : Launch) (dC : Nat → ClassId) (dI : Nat → Nat → Nat) (sz : Nat) (cs : Nat → ClassId) (b : Nat → Nat) (u : RS) (tx : Nat → Int32) (hAc16 : rA u 16 = tx) (k : Nat) (sz1 : Nat) (hF11 : rF u 11 = nI sz1) (hp0 : sz1 ≤ 700) (hp1 : k < 100000) : Met l yX12_byteAt [.code yX12_byteAt cX12_byteAt 2 (some .int)] ({ frames := 0, cells := 0, slots := 0, locals := 0 }) (PR [.ref (b 0), .int (nI k)] sz dC dI cs b u) (vp_Si (fun (r : Int32) => r = bA tx sz1 k)) 0 0 (fun _ => False) := by
  refine Met.ofW (cc := cX12_byteAt) (maxL := 2) (ret := (some .int)) (by decide) rfl ?_
  intro p e s m args below meth c s₁ B hml hv
  obtain ⟨rfl, hsz, hP, hK, hJ, hE⟩ := hv
  have hx := B.exec
  have hb := B.bytes
  have hr := B.returns
  have hown : s.vm.findClass RX12 = some m.cls := findClass_of_methodNamed B.named
  have hlocks := B.notSynchronized
  subst hsz
  have hl := lv_entry ([.ref (b 0), .int (nI k)]) (n := 2) (Nat.le_of_ble_eq_true rfl)
  rw [lg_entry_eq]
  generalize (lg_sl ([.ref (b 0), .int (nI k)]) ++ List.replicate (2 - (lg_sl ([.ref (b 0), .int (nI k)])).length) Slot.unset).toArray = ls at hl ⊢
  have hl : lv_has ls 2 [(0, .ref (b 0)), (1, .int (nI k))] := hl
  refine lv_iload_n hx hb dX12_byteAt_0 rfl (lv_at hl 1 rfl) ?_
  refine lv_aload_n hx hb dX12_byteAt_1 rfl (lv_at hl 0 rfl) ?_
  refine r_get (v := .int (nI sz1)) hx hb (ly_X12 hE) hown hK hP rfl 11 (by decide) (wd_1392 hE) (fun _ h9 => h9) (congrArg (fun z : Int32 => some (Value.int z)) hF11) dX12_byteAt_2 ?_
  refine lv_icmp_ge (tgt := 21) hx hb dX12_byteAt_5 (by decide) (fun c3 => ?_) (fun c3 => ?_)
  · have c3 := (b_le (nI_toInt (n := sz1) (by omega)) (nI_toInt (n := k) (by omega))).mp c3
    refine lv_iconst (v := -1) hx hb dX12_byteAt_21 (by decide) ?_
    exact W.iret (v := -1) hx hb hr (fun t ht hW => ⟨-1, rfl, (by unfold bA; first | (rw [if_pos (by omega)]; assumption) | (rw [if_pos (by omega), ← EX13]; assumption) | (rw [if_neg (by omega)])), ht⟩) (fun _ h => absurd h List.not_mem_nil) dX12_byteAt_22
  · have c3 := mt (b_le (nI_toInt (n := sz1) (by omega)) (nI_toInt (n := k) (by omega))).mpr c3
    refine lv_aload_n hx hb dX12_byteAt_8 rfl (lv_at hl 0 rfl) ?_
    refine r_get (v := .ref (b 16)) hx hb (ly_X12 hE) hown hK hP rfl 9 (by decide) (wd_1390 hE) (fun _ h9 => h9) rfl dX12_byteAt_9 ?_
    refine lv_iload_n hx hb dX12_byteAt_12 rfl (lv_at hl 1 rfl) ?_
    refine r_bald (j := 16) (k := k) (n := 700) (x := tx k) hx hb hK hP (by decide) rfl (by omega) (by decide) (by rw [hAc16]) dX12_byteAt_13 ?_
    refine lv_topi (fun x5 ex5 => ?_)
    refine lv_sipush (v := 255) hx hb dX12_byteAt_14 (by decide) ?_
    have EX13 := ex5
    refine lv_iand hx hb dX12_byteAt_17 ?_
    refine lv_topi (fun x6 ex6 => ?_)
    refine lv_goto (tgt := 22) hx hb dX12_byteAt_18 (by decide) ?_
    exact W.iret (v := x6) hx hb hr (fun t ht hW => ⟨x6, rfl, (by unfold bA; first | (rw [if_pos (by omega)]; assumption) | (rw [if_pos (by omega), ← EX13]; assumption) | (rw [if_neg (by omega)])), ht⟩) (fun _ h => absurd h List.not_mem_nil) dX12_byteAt_22

set_option maxHeartbeats 4000000 in
set_option maxRecDepth 100000 in
theorem r_X12_isSmall (l : Launch) (dC : Nat → ClassId) (dI : Nat → Nat → Nat) (sz : Nat) (cs : Nat → ClassId) (b : Nat → Nat) (u : RS) (x : Int32) : Met l yX12_isSmall [.code yX12_isSmall cX12_isSmall 1 (some .boolean)] ({ frames := 0, cells := 0, slots := 0, locals := 0 }) (PR [.int x] sz dC dI cs b u) (vp_Si (fun (r : Int32) => (r = 1 ∧ (97 ≤ x.toInt ∧ x.toInt ≤ 122)) ∨ (r = 0 ∧ (x.toInt < 97 ∨ 122 < x.toInt)))) 0 0 (fun _ => False) := by
  refine Met.ofW (cc := cX12_isSmall) (maxL := 1) (ret := (some .boolean)) (by decide) rfl ?_
  intro p e s m args below meth c s₁ B hml hv
  obtain ⟨rfl, hsz, hP, hK, hJ, hE⟩ := hv
  have hx := B.exec
  have hb := B.bytes
  have hr := B.returns
  have hown : s.vm.findClass RX12 = some m.cls := findClass_of_methodNamed B.named
  have hlocks := B.notSynchronized
  subst hsz
  have hl := lv_entry ([.int x]) (n := 1) (Nat.le_of_ble_eq_true rfl)
  rw [lg_entry_eq]
  generalize (lg_sl ([.int x]) ++ List.replicate (1 - (lg_sl ([.int x])).length) Slot.unset).toArray = ls at hl ⊢
  have hl : lv_has ls 1 [(0, .int x)] := hl
  refine lv_iload_n hx hb dX12_isSmall_0 rfl (lv_at hl 0 rfl) ?_
  refine lv_bipush (v := 97) hx hb dX12_isSmall_1 (by decide) ?_
  refine lv_icmp_lt (tgt := 16) hx hb dX12_isSmall_3 (by decide) (fun c1 => ?_) (fun c1 => ?_)
  · have c1 := (b_lt (rfl : Int32.toInt x = _) (show Int32.toInt 97 = 97 from rfl)).mp c1
    refine lv_iconst (v := 0) hx hb dX12_isSmall_16 (by decide) ?_
    exact W.zret (v := 0) hx hb hr rfl (fun t ht hW => ⟨0, rfl, Or.inr ⟨rfl, by first | assumption | omega | rfl | (congr 1; omega)⟩, ht⟩) (fun _ h => absurd h List.not_mem_nil) dX12_isSmall_17
  · have c1 := mt (b_lt (rfl : Int32.toInt x = _) (show Int32.toInt 97 = 97 from rfl)).mpr c1
    refine lv_iload_n hx hb dX12_isSmall_6 rfl (lv_at hl 0 rfl) ?_
    refine lv_bipush (v := 122) hx hb dX12_isSmall_7 (by decide) ?_
    refine lv_icmp_gt (tgt := 16) hx hb dX12_isSmall_9 (by decide) (fun c2 => ?_) (fun c2 => ?_)
    · have c2 := (b_lt (show Int32.toInt 122 = 122 from rfl) (rfl : Int32.toInt x = _)).mp c2
      refine lv_iconst (v := 0) hx hb dX12_isSmall_16 (by decide) ?_
      exact W.zret (v := 0) hx hb hr rfl (fun t ht hW => ⟨0, rfl, Or.inr ⟨rfl, by first | assumption | omega | rfl | (congr 1; omega)⟩, ht⟩) (fun _ h => absurd h List.not_mem_nil) dX12_isSmall_17
    · have c2 := mt (b_lt (show Int32.toInt 122 = 122 from rfl) (rfl : Int32.toInt x = _)).mpr c2
      refine lv_iconst (v := 1) hx hb dX12_isSmall_12 (by decide) ?_
      refine lv_goto (tgt := 17) hx hb dX12_isSmall_13 (by decide) ?_
      exact W.zret (v := 1) hx hb hr rfl (fun t ht hW => ⟨1, rfl, Or.inl ⟨rfl, by first | assumption | omega | rfl | (congr 1; omega)⟩, ht⟩) (fun _ h => absurd h List.not_mem_nil) dX12_isSmall_17

set_option maxHeartbeats 4000000 in
set_option maxRecDepth 100000 in
theorem r_X12_isDigit (l : Launch) (dC : Nat → ClassId) (dI : Nat → Nat → Nat) (sz : Nat) (cs : Nat → ClassId) (b : Nat → Nat) (u : RS) (x : Int32) : Met l yX12_isDigit [.code yX12_isDigit cX12_isDigit 1 (some .boolean)] ({ frames := 0, cells := 0, slots := 0, locals := 0 }) (PR [.int x] sz dC dI cs b u) (vp_Si (fun (r : Int32) => (r = 1 ∧ (48 ≤ x.toInt ∧ x.toInt ≤ 57)) ∨ (r = 0 ∧ (x.toInt < 48 ∨ 57 < x.toInt)))) 0 0 (fun _ => False) := by
  refine Met.ofW (cc := cX12_isDigit) (maxL := 1) (ret := (some .boolean)) (by decide) rfl ?_
  intro p e s m args below meth c s₁ B hml hv
  obtain ⟨rfl, hsz, hP, hK, hJ, hE⟩ := hv
  have hx := B.exec
  have hb := B.bytes
  have hr := B.returns
  have hown : s.vm.findClass RX12 = some m.cls := findClass_of_methodNamed B.named
  have hlocks := B.notSynchronized
  subst hsz
  have hl := lv_entry ([.int x]) (n := 1) (Nat.le_of_ble_eq_true rfl)
  rw [lg_entry_eq]
  generalize (lg_sl ([.int x]) ++ List.replicate (1 - (lg_sl ([.int x])).length) Slot.unset).toArray = ls at hl ⊢
  have hl : lv_has ls 1 [(0, .int x)] := hl
  refine lv_iload_n hx hb dX12_isDigit_0 rfl (lv_at hl 0 rfl) ?_
  refine lv_bipush (v := 48) hx hb dX12_isDigit_1 (by decide) ?_
  refine lv_icmp_lt (tgt := 16) hx hb dX12_isDigit_3 (by decide) (fun c1 => ?_) (fun c1 => ?_)
  · have c1 := (b_lt (rfl : Int32.toInt x = _) (show Int32.toInt 48 = 48 from rfl)).mp c1
    refine lv_iconst (v := 0) hx hb dX12_isDigit_16 (by decide) ?_
    exact W.zret (v := 0) hx hb hr rfl (fun t ht hW => ⟨0, rfl, Or.inr ⟨rfl, by first | assumption | omega | rfl | (congr 1; omega)⟩, ht⟩) (fun _ h => absurd h List.not_mem_nil) dX12_isDigit_17
  · have c1 := mt (b_lt (rfl : Int32.toInt x = _) (show Int32.toInt 48 = 48 from rfl)).mpr c1
    refine lv_iload_n hx hb dX12_isDigit_6 rfl (lv_at hl 0 rfl) ?_
    refine lv_bipush (v := 57) hx hb dX12_isDigit_7 (by decide) ?_
    refine lv_icmp_gt (tgt := 16) hx hb dX12_isDigit_9 (by decide) (fun c2 => ?_) (fun c2 => ?_)
    · have c2 := (b_lt (show Int32.toInt 57 = 57 from rfl) (rfl : Int32.toInt x = _)).mp c2
      refine lv_iconst (v := 0) hx hb dX12_isDigit_16 (by decide) ?_
      exact W.zret (v := 0) hx hb hr rfl (fun t ht hW => ⟨0, rfl, Or.inr ⟨rfl, by first | assumption | omega | rfl | (congr 1; omega)⟩, ht⟩) (fun _ h => absurd h List.not_mem_nil) dX12_isDigit_17
    · have c2 := mt (b_lt (show Int32.toInt 57 = 57 from rfl) (rfl : Int32.toInt x = _)).mpr c2
      refine lv_iconst (v := 1) hx hb dX12_isDigit_12 (by decide) ?_
      refine lv_goto (tgt := 17) hx hb dX12_isDigit_13 (by decide) ?_
      exact W.zret (v := 1) hx hb hr rfl (fun t ht hW => ⟨1, rfl, Or.inl ⟨rfl, by first | assumption | omega | rfl | (congr 1; omega)⟩, ht⟩) (fun _ h => absurd h List.not_mem_nil) dX12_isDigit_17

set_option maxHeartbeats 4000000 in
set_option maxRecDepth 100000 in
theorem r_X12_ahead (l : Launch) (dC : Nat → ClassId) (dI : Nat → Nat → Nat) (sz : Nat) (cs : Nat → ClassId) (b : Nat → Nat) (u : RS) (tx : Nat → Int32) (hAc16 : rA u 16 = tx) (sz1 : Nat) (e0 : Nat) (v0 : Nat) (hF11 : rF u 11 = nI sz1) (hF14 : rF u 14 = nI e0) (hF15 : rF u 15 = nI v0) (hp0 : sz1 ≤ 700) (hp1 : e0 ≤ sz1) (hp2 : v0 ≤ 9999) : Met l yX12_ahead [.code yX12_ahead cX12_ahead 2 none] ({ frames := 1, cells := 0, slots := 0, locals := 40 }) (PR [.ref (b 0)] sz dC dI cs b u) (va_Qv (fun (u' : RS) => (TK u' sz1) ∧ (e0 ≤ fN u' 13) ∧ (rF u' 12 = 0 ∨ fN u' 13 < fN u' 14) ∧ FR [] [12, 13, 14, 15] false u u') (BR dC dI cs b) (AR b sz)) 0 0 (AR b sz) := by
  refine Met.ofW (cc := cX12_ahead) (maxL := 2) (ret := none) (by decide) rfl ?_
  intro p e s m args below meth c s₁ B hml hv
  obtain ⟨rfl, hsz, hP, hK, hJ, hE⟩ := hv
  have hx := B.exec
  have hb := B.bytes
  have hr := B.returns
  have hown : s.vm.findClass RX12 = some m.cls := findClass_of_methodNamed B.named
  have hlocks := B.notSynchronized
  subst hsz
  have hAL : ∀ i, i < 108 → AR b s.heap.size (b i) := fun i h => Or.inl ⟨i, h, rfl⟩
  have hA : ∀ q : Nat, s.heap.size ≤ q → AR b s.heap.size q := fun q h => Or.inr h
  have hS : va_S (AR b s.heap.size) s.heap s.heap [] := va_S.rf
  have hfr : FR [] [12, 13, 14, 15] false u u := FR.refl
  have hl := lv_entry ([.ref (b 0)]) (n := 2) (Nat.le_of_ble_eq_true rfl)
  rw [lg_entry_eq]
  generalize (lg_sl ([.ref (b 0)]) ++ List.replicate (2 - (lg_sl ([.ref (b 0)])).length) Slot.unset).toArray = ls at hl ⊢
  have hl : lv_has ls 2 [(0, .ref (b 0))] := hl
  refine r_ind (I := fun n u_ H locs ls => va_P (dC, dI) vwCl (rW cs b u_) H ∧ va_S (AR b s.heap.size) s.heap H locs ∧ FR [] [12, 13, 14, 15] false u u_ ∧ ∃ (e1_4 : Nat), n = sz1 - e1_4 ∧ (e0 ≤ e1_4) ∧ (e1_4 ≤ sz1) ∧ (rF u_ 14 = nI e1_4) ∧ (rF u_ 15 = nI v0) ∧ lv_has ls 2 [(0, .ref (b 0))]) (fun n u4 H locs ls hI ih4 => ?_) _ u _ _ _ ⟨hP, hS, hfr, e0, rfl, (by first | assumption | omega | rfl | (congr 1; omega)), (by first | assumption | omega | rfl | (congr 1; omega)), hF14, hF15, lv_sub hl [0] rfl⟩
  obtain ⟨hP, hS, hfr, e1_4, hmu4, hL4_0, hL4_1, hL4_2, hL4_3, hl⟩ := hI
  have hA5 := (hfr.1 16 List.not_mem_nil).trans hAc16
  have hF6x := (hfr.2.1 11 (by decide)).trans hF11
  subst hmu4
  refine lv_aload_n hx hb dX12_ahead_0 rfl (lv_at hl 0 rfl) ?_
  refine lv_aload_n hx hb dX12_ahead_1 rfl (lv_at hl 0 rfl) ?_
  refine r_get (v := .int (nI e1_4)) hx hb (ly_X12 hE) hown hK hP rfl 14 (by decide) (wd_1395 hE) (fun _ h9 => h9) (congrArg (fun z : Int32 => some (Value.int z)) hL4_2) dX12_ahead_2 ?_
  refine vp_callSi (va_Run.run (va_runV (As := [.int (nI e1_4)]) (rest := []) ⟨hx, hb, hml, hown, noTs⟩ (r_X12_byteAt l dC dI H.size cs b u4 tx hA5 e1_4 sz1 hF6x (by first | assumption | omega | rfl | (congr 1; omega)) (by first | assumption | omega | rfl | (congr 1; omega))) ⟨cbE 1 (wd_1510 hE) (wd_126 hE) (wd_1507 hE) rfl rfl (by decide +kernel) ⟨Nat.le_of_ble_eq_true rfl, Nat.le_of_ble_eq_true rfl⟩, (wd_1509 hE), (wd_57 hE)⟩ ⟨PR.blind, r_recv hK hP rfl, (r_pre (av := [.ref (b 0), .int (nI e1_4)]) hK hP hJ hE)⟩ rfl rfl hl.1 rfl (lv_room (Nat.le_of_ble_eq_true rfl)) dX12_ahead_5 ⟨Nat.le_of_ble_eq_true rfl, Nat.le_of_ble_eq_true rfl⟩)) (fun r7 hr7 => ?_)
  subst hr7
  have htf7 := bA_f tx sz1 e1_4
  refine lv_bipush (v := 32) hx hb dX12_ahead_8 (by decide) ?_
  refine lv_icmp_eq (tgt := 26) hx hb dX12_ahead_10 (by decide) (fun c8 => ?_) (fun c8 => ?_)
  · have c8 := (b_eq (rfl : Int32.toInt (bA tx sz1 e1_4) = _) (show Int32.toInt 32 = 32 from rfl)).mp c8
    refine lv_aload_n hx hb dX12_ahead_26 rfl (lv_at hl 0 rfl) ?_
    refine lv_dup hx hb dX12_ahead_27 rfl ?_
    refine r_get (v := .int (nI e1_4)) hx hb (ly_X12 hE) hown hK hP rfl 14 (by decide) (wd_1395 hE) (fun _ h9 => h9) (congrArg (fun z : Int32 => some (Value.int z)) hL4_2) dX12_ahead_28 ?_
    refine lv_iconst (v := 1) hx hb dX12_ahead_31 (by decide) ?_
    refine lv_iadd hx hb dX12_ahead_32 ?_
    refine W.eq (g2 := F0 m 33 ls [.int (nI (e1_4 + 1)), .ref (b 0)]) (congrArg (fun z : Int32 => F0 m 33 ls (.int z :: [.ref (b 0)])) (nI_add e1_4 1)) ?_
    refine r_put (v := nI (e1_4 + 1)) hx hb (ly_X12 hE) tyX12 tyX12_ok nmX12 hown hK hP hJ hAL hS rfl 14 (by decide) (wd_1395 hE) (fun _ h9 => h9) rfl (by decide +kernel) rfl (by decide) dX12_ahead_33 (fun u9 H locs hf9 hq9 hP hS => ?_)
    have hA10 := (hq9.1 16 List.not_mem_nil).trans hA5
    have hF11x := (hq9.2.1 11 (by decide)).trans hF6x
    have hF12x := (hq9.2.1 15 (by decide)).trans hL4_3
    have hfr := FR.step hfr hq9 (fun _ h => absurd h List.not_mem_nil) (by decide) (fun h => rfl)
    refine lv_goto (tgt := 0) hx hb dX12_ahead_36 (by decide) ?_
    exact ih4 _ u9 _ _ _ (by omega) ⟨hP, hS, hfr, (e1_4 + 1), rfl, (by first | assumption | omega | rfl | (congr 1; omega)), (by first | assumption | omega | rfl | (congr 1; omega)), hf9, hF12x, lv_sub hl [0] rfl⟩
  · have c8 := mt (b_eq (rfl : Int32.toInt (bA tx sz1 e1_4) = _) (show Int32.toInt 32 = 32 from rfl)).mpr c8
    refine lv_aload_n hx hb dX12_ahead_13 rfl (lv_at hl 0 rfl) ?_
    refine lv_aload_n hx hb dX12_ahead_14 rfl (lv_at hl 0 rfl) ?_
    refine r_get (v := .int (nI e1_4)) hx hb (ly_X12 hE) hown hK hP rfl 14 (by decide) (wd_1395 hE) (fun _ h9 => h9) (congrArg (fun z : Int32 => some (Value.int z)) hL4_2) dX12_ahead_15 ?_
    refine vp_callSi (va_Run.run (va_runV (As := [.int (nI e1_4)]) (rest := []) ⟨hx, hb, hml, hown, noTs⟩ (r_X12_byteAt l dC dI H.size cs b u4 tx hA5 e1_4 sz1 hF6x (by first | assumption | omega | rfl | (congr 1; omega)) (by first | assumption | omega | rfl | (congr 1; omega))) ⟨cbE 1 (wd_1510 hE) (wd_126 hE) (wd_1507 hE) rfl rfl (by decide +kernel) ⟨Nat.le_of_ble_eq_true rfl, Nat.le_of_ble_eq_true rfl⟩, (wd_1509 hE), (wd_57 hE)⟩ ⟨PR.blind, r_recv hK hP rfl, (r_pre (av := [.ref (b 0), .int (nI e1_4)]) hK hP hJ hE)⟩ rfl rfl hl.1 rfl (lv_room (Nat.le_of_ble_eq_true rfl)) dX12_ahead_18 ⟨Nat.le_of_ble_eq_true rfl, Nat.le_of_ble_eq_true rfl⟩)) (fun r13 hr13 => ?_)
    subst hr13
    have htf13 := bA_f tx sz1 e1_4
    refine lv_bipush (v := 10) hx hb dX12_ahead_21 (by decide) ?_
    refine lv_icmp_ne (tgt := 39) hx hb dX12_ahead_23 (by decide) (fun c14 => ?_) (fun c14 => ?_)
    · have c14 := mt (b_eq (rfl : Int32.toInt (bA tx sz1 e1_4) = _) (show Int32.toInt 10 = 10 from rfl)).mpr c14
      refine lv_aload_n hx hb dX12_ahead_39 rfl (lv_at hl 0 rfl) ?_
      refine lv_aload_n hx hb dX12_ahead_40 rfl (lv_at hl 0 rfl) ?_
      refine r_get (v := .int (nI e1_4)) hx hb (ly_X12 hE) hown hK hP rfl 14 (by decide) (wd_1395 hE) (fun _ h9 => h9) (congrArg (fun z : Int32 => some (Value.int z)) hL4_2) dX12_ahead_41 ?_
      refine r_put (v := nI e1_4) hx hb (ly_X12 hE) tyX12 tyX12_ok nmX12 hown hK hP hJ hAL hS rfl 13 (by decide) (wd_1394 hE) (fun _ h9 => h9) rfl (by decide +kernel) rfl (by decide) dX12_ahead_44 (fun u15 H locs hf15 hq15 hP hS => ?_)
      have hA16 := (hq15.1 16 List.not_mem_nil).trans hA5
      have hF17x := (hq15.2.1 11 (by decide)).trans hF6x
      have hF18x := (hq15.2.1 14 (by decide)).trans hL4_2
      have hF19x := (hq15.2.1 15 (by decide)).trans hL4_3
      have hfr := FR.step hfr hq15 (fun _ h => absurd h List.not_mem_nil) (by decide) (fun h => rfl)
      refine lv_aload_n hx hb dX12_ahead_47 rfl (lv_at hl 0 rfl) ?_
      refine lv_aload_n hx hb dX12_ahead_48 rfl (lv_at hl 0 rfl) ?_
      refine r_get (v := .int (nI e1_4)) hx hb (ly_X12 hE) hown hK hP rfl 14 (by decide) (wd_1395 hE) (fun _ h9 => h9) (congrArg (fun z : Int32 => some (Value.int z)) hF18x) dX12_ahead_49 ?_
      refine vp_callSi (va_Run.run (va_runV (As := [.int (nI e1_4)]) (rest := []) ⟨hx, hb, hml, hown, noTs⟩ (r_X12_byteAt l dC dI H.size cs b u15 tx hA16 e1_4 sz1 hF17x (by first | assumption | omega | rfl | (congr 1; omega)) (by first | assumption | omega | rfl | (congr 1; omega))) ⟨cbE 1 (wd_1510 hE) (wd_126 hE) (wd_1507 hE) rfl rfl (by decide +kernel) ⟨Nat.le_of_ble_eq_true rfl, Nat.le_of_ble_eq_true rfl⟩, (wd_1509 hE), (wd_57 hE)⟩ ⟨PR.blind, r_recv hK hP rfl, (r_pre (av := [.ref (b 0), .int (nI e1_4)]) hK hP hJ hE)⟩ rfl rfl hl.1 rfl (lv_room (Nat.le_of_ble_eq_true rfl)) dX12_ahead_52 ⟨Nat.le_of_ble_eq_true rfl, Nat.le_of_ble_eq_true rfl⟩)) (fun r20 hr20 => ?_)
      subst hr20
      have htf20 := bA_f tx sz1 e1_4
      refine lv_istore_n (lv' := [(1, .int (bA tx sz1 e1_4)), (0, .ref (b 0))]) hx hb dX12_ahead_55 rfl hl (by decide) rfl (fun ls hl => ?_)
      refine lv_iload_n hx hb dX12_ahead_56 rfl (lv_at hl 0 rfl) ?_
      refine lv_iconst (v := -1) hx hb dX12_ahead_57 (by decide) ?_
      refine lv_icmp_ne (tgt := 69) hx hb dX12_ahead_58 (by decide) (fun c21 => ?_) (fun c21 => ?_)
      · have c21 := mt (b_eq (rfl : Int32.toInt (bA tx sz1 e1_4) = _) (show Int32.toInt (-1) = -1 from rfl)).mpr c21
        refine lv_iload_n hx hb dX12_ahead_69 rfl (lv_at hl 0 rfl) ?_
        refine vp_callSi (va_Run.run (va_runS (As := [.int (bA tx sz1 e1_4)]) (rest := []) ⟨hx, hb, hml, hown, noTs⟩ (r_X12_isSmall l dC dI H.size cs b u15 (bA tx sz1 e1_4)) ⟨cbE 1 (wd_1513 hE) (wd_126 hE) (wd_1511 hE) rfl rfl (by decide +kernel) ⟨Nat.le_of_ble_eq_true rfl, Nat.le_of_ble_eq_true rfl⟩, (wd_1512 hE)⟩ ⟨PR.blind, (r_pre (av := [.int (bA tx sz1 e1_4)]) hK hP hJ hE)⟩ rfl rfl hl.1 rfl (lv_room (Nat.le_of_ble_eq_true rfl)) dX12_ahead_70 ⟨Nat.le_of_ble_eq_true rfl, Nat.le_of_ble_eq_true rfl⟩)) (fun r22 hr22 => ?_)
        rcases hr22 with ⟨rfl, hb22⟩ | ⟨rfl, hb22⟩
        · refine lv_if_eq (tgt := 111) hx hb dX12_ahead_73 (by decide) (fun c23 => absurd c23 (by decide)) (fun c23 => ?_)
          refine r_ind (I := fun n u_ H locs ls => va_P (dC, dI) vwCl (rW cs b u_) H ∧ va_S (AR b s.heap.size) s.heap H locs ∧ FR [] [12, 13, 14, 15] false u u_ ∧ ∃ (e2_24 : Nat), n = sz1 - e2_24 ∧ (e1_4 ≤ e2_24) ∧ (e2_24 ≤ sz1) ∧ (e1_4 < e2_24 ∨ 97 ≤ (bA tx sz1 e2_24).toInt ∧ (bA tx sz1 e2_24).toInt ≤ 122) ∧ (rF u_ 13 = nI e1_4) ∧ (rF u_ 14 = nI e2_24) ∧ (rF u_ 15 = nI v0) ∧ lv_has ls 2 [(0, .ref (b 0))]) (fun n u24 H locs ls hI ih24 => ?_) _ u15 _ _ _ ⟨hP, hS, hfr, e1_4, rfl, (by first | assumption | omega | rfl | (congr 1; omega)), (by first | assumption | omega | rfl | (congr 1; omega)), (by first | assumption | omega | rfl | (congr 1; omega)), hf15, hF18x, hF19x, lv_sub hl [1] rfl⟩
          obtain ⟨hP, hS, hfr, e2_24, hmu24, hL24_0, hL24_1, hL24_2, hL24_3, hL24_4, hL24_5, hl⟩ := hI
          have hA25 := (hfr.1 16 List.not_mem_nil).trans hAc16
          have hF26x := (hfr.2.1 11 (by decide)).trans hF11
          subst hmu24
          refine lv_aload_n hx hb dX12_ahead_76 rfl (lv_at hl 0 rfl) ?_
          refine lv_aload_n hx hb dX12_ahead_77 rfl (lv_at hl 0 rfl) ?_
          refine r_get (v := .int (nI e2_24)) hx hb (ly_X12 hE) hown hK hP rfl 14 (by decide) (wd_1395 hE) (fun _ h9 => h9) (congrArg (fun z : Int32 => some (Value.int z)) hL24_4) dX12_ahead_78 ?_
          refine vp_callSi (va_Run.run (va_runV (As := [.int (nI e2_24)]) (rest := []) ⟨hx, hb, hml, hown, noTs⟩ (r_X12_byteAt l dC dI H.size cs b u24 tx hA25 e2_24 sz1 hF26x (by first | assumption | omega | rfl | (congr 1; omega)) (by first | assumption | omega | rfl | (congr 1; omega))) ⟨cbE 1 (wd_1510 hE) (wd_126 hE) (wd_1507 hE) rfl rfl (by decide +kernel) ⟨Nat.le_of_ble_eq_true rfl, Nat.le_of_ble_eq_true rfl⟩, (wd_1509 hE), (wd_57 hE)⟩ ⟨PR.blind, r_recv hK hP rfl, (r_pre (av := [.ref (b 0), .int (nI e2_24)]) hK hP hJ hE)⟩ rfl rfl hl.1 rfl (lv_room (Nat.le_of_ble_eq_true rfl)) dX12_ahead_81 ⟨Nat.le_of_ble_eq_true rfl, Nat.le_of_ble_eq_true rfl⟩)) (fun r27 hr27 => ?_)
          subst hr27
          have htf27 := bA_f tx sz1 e2_24
          refine vp_callSi (va_Run.run (va_runS (As := [.int (bA tx sz1 e2_24)]) (rest := []) ⟨hx, hb, hml, hown, noTs⟩ (r_X12_isSmall l dC dI H.size cs b u24 (bA tx sz1 e2_24)) ⟨cbE 1 (wd_1513 hE) (wd_126 hE) (wd_1511 hE) rfl rfl (by decide +kernel) ⟨Nat.le_of_ble_eq_true rfl, Nat.le_of_ble_eq_true rfl⟩, (wd_1512 hE)⟩ ⟨PR.blind, (r_pre (av := [.int (bA tx sz1 e2_24)]) hK hP hJ hE)⟩ rfl rfl hl.1 rfl (lv_room (Nat.le_of_ble_eq_true rfl)) dX12_ahead_84 ⟨Nat.le_of_ble_eq_true rfl, Nat.le_of_ble_eq_true rfl⟩)) (fun r28 hr28 => ?_)
          rcases hr28 with ⟨rfl, hb28⟩ | ⟨rfl, hb28⟩
          · refine lv_if_eq (tgt := 103) hx hb dX12_ahead_87 (by decide) (fun c29 => absurd c29 (by decide)) (fun c29 => ?_)
            refine lv_aload_n hx hb dX12_ahead_90 rfl (lv_at hl 0 rfl) ?_
            refine lv_dup hx hb dX12_ahead_91 rfl ?_
            refine r_get (v := .int (nI e2_24)) hx hb (ly_X12 hE) hown hK hP rfl 14 (by decide) (wd_1395 hE) (fun _ h9 => h9) (congrArg (fun z : Int32 => some (Value.int z)) hL24_4) dX12_ahead_92 ?_
            refine lv_iconst (v := 1) hx hb dX12_ahead_95 (by decide) ?_
            refine lv_iadd hx hb dX12_ahead_96 ?_
            refine W.eq (g2 := F0 m 97 ls [.int (nI (e2_24 + 1)), .ref (b 0)]) (congrArg (fun z : Int32 => F0 m 97 ls (.int z :: [.ref (b 0)])) (nI_add e2_24 1)) ?_
            refine r_put (v := nI (e2_24 + 1)) hx hb (ly_X12 hE) tyX12 tyX12_ok nmX12 hown hK hP hJ hAL hS rfl 14 (by decide) (wd_1395 hE) (fun _ h9 => h9) rfl (by decide +kernel) rfl (by decide) dX12_ahead_97 (fun u30 H locs hf30 hq30 hP hS => ?_)
            have hA31 := (hq30.1 16 List.not_mem_nil).trans hA25
            have hF32x := (hq30.2.1 11 (by decide)).trans hF26x
            have hF33x := (hq30.2.1 13 (by decide)).trans hL24_3
            have hF34x := (hq30.2.1 15 (by decide)).trans hL24_5
            have hfr := FR.step hfr hq30 (fun _ h => absurd h List.not_mem_nil) (by decide) (fun h => rfl)
            refine lv_goto (tgt := 76) hx hb dX12_ahead_100 (by decide) ?_
            exact ih24 _ u30 _ _ _ (by omega) ⟨hP, hS, hfr, (e2_24 + 1), rfl, (by first | assumption | omega | rfl | (congr 1; omega)), (by first | assumption | omega | rfl | (congr 1; omega)), (by first | assumption | omega | rfl | (congr 1; omega)), hF33x, hf30, hF34x, lv_sub hl [0] rfl⟩
          · refine lv_if_eq (tgt := 103) hx hb dX12_ahead_87 (by decide) (fun c35 => ?_) (fun c35 => absurd c35 (by decide))
            refine lv_aload_n hx hb dX12_ahead_103 rfl (lv_at hl 0 rfl) ?_
            refine lv_iconst (v := 2) hx hb dX12_ahead_104 (by decide) ?_
            refine r_put (v := 2) hx hb (ly_X12 hE) tyX12 tyX12_ok nmX12 hown hK hP hJ hAL hS rfl 12 (by decide) (wd_1393 hE) (fun _ h9 => h9) rfl (by decide +kernel) rfl (by decide) dX12_ahead_105 (fun u36 H locs hf36 hq36 hP hS => ?_)
            have hA37 := (hq36.1 16 List.not_mem_nil).trans hA25
            have hF38x := (hq36.2.1 11 (by decide)).trans hF26x
            have hF39x := (hq36.2.1 13 (by decide)).trans hL24_3
            have hF40x := (hq36.2.1 14 (by decide)).trans hL24_4
            have hF41x := (hq36.2.1 15 (by decide)).trans hL24_5
            have hfr := FR.step hfr hq36 (fun _ h => absurd h List.not_mem_nil) (by decide) (fun h => rfl)
            refine lv_goto (tgt := 241) hx hb dX12_ahead_108 (by decide) ?_
            obtain ⟨tk1, tk2, tk3⟩ := tk_mk (n := sz1) hF39x hF40x hF41x (by omega) (by omega) (by omega) (by omega)
            exact W.vret hx hb hr (fun t ht hW => ⟨⟨u36, rfl, ⟨(by exact tk1), (by omega), (by first | (rw [hf36]; done) | (rw [hf36]; first | exact Or.inl rfl | exact Or.inr (by omega))), hfr⟩, (show va_P (dC, dI) vwCl (rW cs b u36) t.heap by rw [ht]; exact hP)⟩, hS.F ht⟩) hS.2.2 dX12_ahead_241
        · refine lv_if_eq (tgt := 111) hx hb dX12_ahead_73 (by decide) (fun c42 => ?_) (fun c42 => absurd c42 (by decide))
          refine lv_iload_n hx hb dX12_ahead_111 rfl (lv_at hl 0 rfl) ?_
          refine vp_callSi (va_Run.run (va_runS (As := [.int (bA tx sz1 e1_4)]) (rest := []) ⟨hx, hb, hml, hown, noTs⟩ (r_X12_isDigit l dC dI H.size cs b u15 (bA tx sz1 e1_4)) ⟨cbE 1 (wd_1516 hE) (wd_126 hE) (wd_1514 hE) rfl rfl (by decide +kernel) ⟨Nat.le_of_ble_eq_true rfl, Nat.le_of_ble_eq_true rfl⟩, (wd_1515 hE)⟩ ⟨PR.blind, (r_pre (av := [.int (bA tx sz1 e1_4)]) hK hP hJ hE)⟩ rfl rfl hl.1 rfl (lv_room (Nat.le_of_ble_eq_true rfl)) dX12_ahead_112 ⟨Nat.le_of_ble_eq_true rfl, Nat.le_of_ble_eq_true rfl⟩)) (fun r43 hr43 => ?_)
          rcases hr43 with ⟨rfl, hb43⟩ | ⟨rfl, hb43⟩
          · refine lv_if_eq (tgt := 204) hx hb dX12_ahead_115 (by decide) (fun c44 => absurd c44 (by decide)) (fun c44 => ?_)
            refine lv_aload_n hx hb dX12_ahead_118 rfl (lv_at hl 1 rfl) ?_
            refine lv_iconst (v := 0) hx hb dX12_ahead_119 (by decide) ?_
            refine r_put (v := 0) hx hb (ly_X12 hE) tyX12 tyX12_ok nmX12 hown hK hP hJ hAL hS rfl 15 (by decide) (wd_1396 hE) (fun _ h9 => h9) rfl (by decide +kernel) rfl (by decide) dX12_ahead_120 (fun u45 H locs hf45 hq45 hP hS => ?_)
            have hA46 := (hq45.1 16 List.not_mem_nil).trans hA16
            have hF47x := (hq45.2.1 11 (by decide)).trans hF17x
            have hF48x := (hq45.2.1 14 (by decide)).trans hF18x
            have hF49x := (hq45.2.1 13 (by decide)).trans hf15
            have hfr := FR.step hfr hq45 (fun _ h => absurd h List.not_mem_nil) (by decide) (fun h => rfl)
            refine r_ind (I := fun n u_ H locs ls => va_P (dC, dI) vwCl (rW cs b u_) H ∧ va_S (AR b s.heap.size) s.heap H locs ∧ FR [] [12, 13, 14, 15] false u u_ ∧ ∃ (e2_50 : Nat) (v1_50 : Nat), n = sz1 - e2_50 ∧ (e1_4 ≤ e2_50) ∧ (e2_50 ≤ sz1) ∧ (v1_50 ≤ 9999) ∧ (e1_4 < e2_50 ∨ 48 ≤ (bA tx sz1 e2_50).toInt ∧ (bA tx sz1 e2_50).toInt ≤ 57) ∧ (rF u_ 13 = nI e1_4) ∧ (rF u_ 14 = nI e2_50) ∧ (rF u_ 15 = nI v1_50) ∧ lv_has ls 2 [(0, .ref (b 0))]) (fun n u50 H locs ls hI ih50 => ?_) _ u45 _ _ _ ⟨hP, hS, hfr, e1_4, 0, rfl, (by first | assumption | omega | rfl | (congr 1; omega)), (by first | assumption | omega | rfl | (congr 1; omega)), (by first | assumption | omega | rfl | (congr 1; omega)), (by first | assumption | omega | rfl | (congr 1; omega)), hF49x, hF48x, hf45, lv_sub hl [1] rfl⟩
            obtain ⟨hP, hS, hfr, e2_50, v1_50, hmu50, hL50_0, hL50_1, hL50_2, hL50_3, hL50_4, hL50_5, hL50_6, hl⟩ := hI
            have hA51 := (hfr.1 16 List.not_mem_nil).trans hAc16
            have hF52x := (hfr.2.1 11 (by decide)).trans hF11
            subst hmu50
            refine lv_aload_n hx hb dX12_ahead_123 rfl (lv_at hl 0 rfl) ?_
            refine lv_aload_n hx hb dX12_ahead_124 rfl (lv_at hl 0 rfl) ?_
            refine r_get (v := .int (nI e2_50)) hx hb (ly_X12 hE) hown hK hP rfl 14 (by decide) (wd_1395 hE) (fun _ h9 => h9) (congrArg (fun z : Int32 => some (Value.int z)) hL50_5) dX12_ahead_125 ?_
            refine vp_callSi (va_Run.run (va_runV (As := [.int (nI e2_50)]) (rest := []) ⟨hx, hb, hml, hown, noTs⟩ (r_X12_byteAt l dC dI H.size cs b u50 tx hA51 e2_50 sz1 hF52x (by first | assumption | omega | rfl | (congr 1; omega)) (by first | assumption | omega | rfl | (congr 1; omega))) ⟨cbE 1 (wd_1510 hE) (wd_126 hE) (wd_1507 hE) rfl rfl (by decide +kernel) ⟨Nat.le_of_ble_eq_true rfl, Nat.le_of_ble_eq_true rfl⟩, (wd_1509 hE), (wd_57 hE)⟩ ⟨PR.blind, r_recv hK hP rfl, (r_pre (av := [.ref (b 0), .int (nI e2_50)]) hK hP hJ hE)⟩ rfl rfl hl.1 rfl (lv_room (Nat.le_of_ble_eq_true rfl)) dX12_ahead_128 ⟨Nat.le_of_ble_eq_true rfl, Nat.le_of_ble_eq_true rfl⟩)) (fun r53 hr53 => ?_)
            subst hr53
            have htf53 := bA_f tx sz1 e2_50
            refine vp_callSi (va_Run.run (va_runS (As := [.int (bA tx sz1 e2_50)]) (rest := []) ⟨hx, hb, hml, hown, noTs⟩ (r_X12_isDigit l dC dI H.size cs b u50 (bA tx sz1 e2_50)) ⟨cbE 1 (wd_1516 hE) (wd_126 hE) (wd_1514 hE) rfl rfl (by decide +kernel) ⟨Nat.le_of_ble_eq_true rfl, Nat.le_of_ble_eq_true rfl⟩, (wd_1515 hE)⟩ ⟨PR.blind, (r_pre (av := [.int (bA tx sz1 e2_50)]) hK hP hJ hE)⟩ rfl rfl hl.1 rfl (lv_room (Nat.le_of_ble_eq_true rfl)) dX12_ahead_131 ⟨Nat.le_of_ble_eq_true rfl, Nat.le_of_ble_eq_true rfl⟩)) (fun r54 hr54 => ?_)
            rcases hr54 with ⟨rfl, hb54⟩ | ⟨rfl, hb54⟩
            · refine lv_if_eq (tgt := 179) hx hb dX12_ahead_134 (by decide) (fun c55 => absurd c55 (by decide)) (fun c55 => ?_)
              refine lv_aload_n hx hb dX12_ahead_137 rfl (lv_at hl 0 rfl) ?_
              refine lv_sipush (v := 9999) hx hb dX12_ahead_138 (by decide) ?_
              refine lv_bipush (v := 10) hx hb dX12_ahead_141 (by decide) ?_
              refine lv_aload_n hx hb dX12_ahead_143 rfl (lv_at hl 0 rfl) ?_
              refine r_get (v := .int (nI v1_50)) hx hb (ly_X12 hE) hown hK hP rfl 15 (by decide) (wd_1396 hE) (fun _ h9 => h9) (congrArg (fun z : Int32 => some (Value.int z)) hL50_6) dX12_ahead_144 ?_
              refine lv_imul hx hb dX12_ahead_147 ?_
              refine W.eq (g2 := F0 m 148 ls [.int (nI (10 * v1_50)), .int 9999, .ref (b 0)]) (congrArg (fun z : Int32 => F0 m 148 ls (.int z :: [.int 9999, .ref (b 0)])) (pk_mul 10 v1_50)) ?_
              refine lv_aload_n hx hb dX12_ahead_148 rfl (lv_at hl 0 rfl) ?_
              refine lv_aload_n hx hb dX12_ahead_149 rfl (lv_at hl 0 rfl) ?_
              refine r_get (v := .int (nI e2_50)) hx hb (ly_X12 hE) hown hK hP rfl 14 (by decide) (wd_1395 hE) (fun _ h9 => h9) (congrArg (fun z : Int32 => some (Value.int z)) hL50_5) dX12_ahead_150 ?_
              refine vp_callSi (va_Run.run (va_runV (As := [.int (nI e2_50)]) (rest := [.int (nI (10 * v1_50)), .int 9999, .ref (b 0)]) ⟨hx, hb, hml, hown, noTs⟩ (r_X12_byteAt l dC dI H.size cs b u50 tx hA51 e2_50 sz1 hF52x (by first | assumption | omega | rfl | (congr 1; omega)) (by first | assumption | omega | rfl | (congr 1; omega))) ⟨cbE 1 (wd_1510 hE) (wd_126 hE) (wd_1507 hE) rfl rfl (by decide +kernel) ⟨Nat.le_of_ble_eq_true rfl, Nat.le_of_ble_eq_true rfl⟩, (wd_1509 hE), (wd_57 hE)⟩ ⟨PR.blind, r_recv hK hP rfl, (r_pre (av := [.ref (b 0), .int (nI e2_50)]) hK hP hJ hE)⟩ rfl rfl hl.1 rfl (lv_room (Nat.le_of_ble_eq_true rfl)) dX12_ahead_153 ⟨Nat.le_of_ble_eq_true rfl, Nat.le_of_ble_eq_true rfl⟩)) (fun r56 hr56 => ?_)
              subst hr56
              have htf56 := bA_f tx sz1 e2_50
              refine lv_iadd hx hb dX12_ahead_156 ?_
              refine lv_topi (fun x57 ex57 => ?_)
              have hz58 : x57.toInt = ((10 * v1_50 : Nat) : Int) + (bA tx sz1 e2_50).toInt := by rw [ex57]; exact z_add (nI_toInt (n := 10 * v1_50) (by omega)) (rfl : Int32.toInt (bA tx sz1 e2_50) = _) (by omega) (by omega)
              refine lv_bipush (v := 48) hx hb dX12_ahead_157 (by decide) ?_
              refine lv_isub hx hb dX12_ahead_159 ?_
              refine lv_topi (fun x59 ex59 => ?_)
              have hz60 : x59.toInt = ((10 * v1_50 : Nat) : Int) + (bA tx sz1 e2_50).toInt - (48 : Int) := by rw [ex59]; exact z_sub hz58 (show Int32.toInt 48 = 48 from rfl) (by omega) (by omega)
              refine va_mmin hx hb (by rw [hml]; exact hl.1.symm) hown (wd_1517 hE) (wd_453 hE) (wd_128 hE) (wd_454 hE) (Nat.le_of_ble_eq_true rfl) (Nat.le_of_ble_eq_true rfl) (Nat.le_of_ble_eq_true rfl) (Nat.le_of_ble_eq_true rfl) dX12_ahead_160 ?_
              refine lv_topi (fun x62 ex62 => ?_)
              have hmn63 := mn_f (x := 9999) (y := x59) ex62 (show Int32.toInt 9999 = 9999 from rfl) hz60
              obtain ⟨nx64, hi64, hj64⟩ := z_ex (x := x62) (n := 10000) (by omega) (by omega)
              subst hi64
              have hti65 := nI_toInt (n := nx64) (by omega)
              refine r_put (v := nI nx64) hx hb (ly_X12 hE) tyX12 tyX12_ok nmX12 hown hK hP hJ hAL hS rfl 15 (by decide) (wd_1396 hE) (fun _ h9 => h9) rfl (by decide +kernel) rfl (by decide) dX12_ahead_163 (fun u66 H locs hf66 hq66 hP hS => ?_)
              have hA67 := (hq66.1 16 List.not_mem_nil).trans hA51
              have hF68x := (hq66.2.1 11 (by decide)).trans hF52x
              have hF69x := (hq66.2.1 13 (by decide)).trans hL50_4
              have hF70x := (hq66.2.1 14 (by decide)).trans hL50_5
              have hfr := FR.step hfr hq66 (fun _ h => absurd h List.not_mem_nil) (by decide) (fun h => rfl)
              refine lv_aload_n hx hb dX12_ahead_166 rfl (lv_at hl 0 rfl) ?_
              refine lv_dup hx hb dX12_ahead_167 rfl ?_
              refine r_get (v := .int (nI e2_50)) hx hb (ly_X12 hE) hown hK hP rfl 14 (by decide) (wd_1395 hE) (fun _ h9 => h9) (congrArg (fun z : Int32 => some (Value.int z)) hF70x) dX12_ahead_168 ?_
              refine lv_iconst (v := 1) hx hb dX12_ahead_171 (by decide) ?_
              refine lv_iadd hx hb dX12_ahead_172 ?_
              refine W.eq (g2 := F0 m 173 ls [.int (nI (e2_50 + 1)), .ref (b 0)]) (congrArg (fun z : Int32 => F0 m 173 ls (.int z :: [.ref (b 0)])) (nI_add e2_50 1)) ?_
              refine r_put (v := nI (e2_50 + 1)) hx hb (ly_X12 hE) tyX12 tyX12_ok nmX12 hown hK hP hJ hAL hS rfl 14 (by decide) (wd_1395 hE) (fun _ h9 => h9) rfl (by decide +kernel) rfl (by decide) dX12_ahead_173 (fun u71 H locs hf71 hq71 hP hS => ?_)
              have hA72 := (hq71.1 16 List.not_mem_nil).trans hA67
              have hF73x := (hq71.2.1 11 (by decide)).trans hF68x
              have hF74x := (hq71.2.1 13 (by decide)).trans hF69x
              have hF75x := (hq71.2.1 15 (by decide)).trans hf66
              have hfr := FR.step hfr hq71 (fun _ h => absurd h List.not_mem_nil) (by decide) (fun h => rfl)
              refine lv_goto (tgt := 123) hx hb dX12_ahead_176 (by decide) ?_
              exact ih50 _ u71 _ _ _ (by omega) ⟨hP, hS, hfr, (e2_50 + 1), nx64, rfl, (by first | assumption | omega | rfl | (congr 1; omega)), (by first | assumption | omega | rfl | (congr 1; omega)), (by first | assumption | omega | rfl | (congr 1; omega)), (by first | assumption | omega | rfl | (congr 1; omega)), hF74x, hf71, hF75x, lv_sub hl [0] rfl⟩
            · refine lv_if_eq (tgt := 179) hx hb dX12_ahead_134 (by decide) (fun c76 => ?_) (fun c76 => absurd c76 (by decide))
              refine lv_aload_n hx hb dX12_ahead_179 rfl (lv_at hl 0 rfl) ?_
              refine lv_aload_n hx hb dX12_ahead_180 rfl (lv_at hl 0 rfl) ?_
              refine r_get (v := .int (nI e2_50)) hx hb (ly_X12 hE) hown hK hP rfl 14 (by decide) (wd_1395 hE) (fun _ h9 => h9) (congrArg (fun z : Int32 => some (Value.int z)) hL50_5) dX12_ahead_181 ?_
              refine lv_aload_n hx hb dX12_ahead_184 rfl (lv_at hl 0 rfl) ?_
              refine r_get (v := .int (nI e1_4)) hx hb (ly_X12 hE) hown hK hP rfl 13 (by decide) (wd_1394 hE) (fun _ h9 => h9) (congrArg (fun z : Int32 => some (Value.int z)) hL50_4) dX12_ahead_185 ?_
              refine lv_isub hx hb dX12_ahead_188 ?_
              refine W.eq (g2 := F0 m 189 ls [.int (nI (e2_50 - e1_4)), .ref (b 0)]) (congrArg (fun z : Int32 => F0 m 189 ls (.int z :: [.ref (b 0)])) (pk_sub (a := e2_50) (b := e1_4) (by omega))) ?_
              refine lv_iconst (v := 3) hx hb dX12_ahead_189 (by decide) ?_
              refine lv_icmp_le (tgt := 197) hx hb dX12_ahead_190 (by decide) (fun c77 => ?_) (fun c77 => ?_)
              · have c77 := (b_le (nI_toInt (n := e2_50 - e1_4) (by omega)) (show Int32.toInt 3 = 3 from rfl)).mp c77
                refine lv_iconst (v := 3) hx hb dX12_ahead_197 (by decide) ?_
                refine r_put (v := 3) hx hb (ly_X12 hE) tyX12 tyX12_ok nmX12 hown hK hP hJ hAL hS rfl 12 (by decide) (wd_1393 hE) (fun _ h9 => h9) rfl (by decide +kernel) rfl (by decide) dX12_ahead_198 (fun u78 H locs hf78 hq78 hP hS => ?_)
                have hA79 := (hq78.1 16 List.not_mem_nil).trans hA51
                have hF80x := (hq78.2.1 11 (by decide)).trans hF52x
                have hF81x := (hq78.2.1 13 (by decide)).trans hL50_4
                have hF82x := (hq78.2.1 14 (by decide)).trans hL50_5
                have hF83x := (hq78.2.1 15 (by decide)).trans hL50_6
                have hfr := FR.step hfr hq78 (fun _ h => absurd h List.not_mem_nil) (by decide) (fun h => rfl)
                refine lv_goto (tgt := 241) hx hb dX12_ahead_201 (by decide) ?_
                obtain ⟨tk1, tk2, tk3⟩ := tk_mk (n := sz1) hF81x hF82x hF83x (by omega) (by omega) (by omega) (by omega)
                exact W.vret hx hb hr (fun t ht hW => ⟨⟨u78, rfl, ⟨(by exact tk1), (by omega), (by first | (rw [hf78]; done) | (rw [hf78]; first | exact Or.inl rfl | exact Or.inr (by omega))), hfr⟩, (show va_P (dC, dI) vwCl (rW cs b u78) t.heap by rw [ht]; exact hP)⟩, hS.F ht⟩) hS.2.2 dX12_ahead_241
              · have c77 := mt (b_le (nI_toInt (n := e2_50 - e1_4) (by omega)) (show Int32.toInt 3 = 3 from rfl)).mpr c77
                refine lv_iconst (v := 1) hx hb dX12_ahead_193 (by decide) ?_
                refine lv_goto (tgt := 198) hx hb dX12_ahead_194 (by decide) ?_
                refine r_put (v := 1) hx hb (ly_X12 hE) tyX12 tyX12_ok nmX12 hown hK hP hJ hAL hS rfl 12 (by decide) (wd_1393 hE) (fun _ h9 => h9) rfl (by decide +kernel) rfl (by decide) dX12_ahead_198 (fun u84 H locs hf84 hq84 hP hS => ?_)
                have hA85 := (hq84.1 16 List.not_mem_nil).trans hA51
                have hF86x := (hq84.2.1 11 (by decide)).trans hF52x
                have hF87x := (hq84.2.1 13 (by decide)).trans hL50_4
                have hF88x := (hq84.2.1 14 (by decide)).trans hL50_5
                have hF89x := (hq84.2.1 15 (by decide)).trans hL50_6
                have hfr := FR.step hfr hq84 (fun _ h => absurd h List.not_mem_nil) (by decide) (fun h => rfl)
                refine lv_goto (tgt := 241) hx hb dX12_ahead_201 (by decide) ?_
                obtain ⟨tk1, tk2, tk3⟩ := tk_mk (n := sz1) hF87x hF88x hF89x (by omega) (by omega) (by omega) (by omega)
                exact W.vret hx hb hr (fun t ht hW => ⟨⟨u84, rfl, ⟨(by exact tk1), (by omega), (by first | (rw [hf84]; done) | (rw [hf84]; first | exact Or.inl rfl | exact Or.inr (by omega))), hfr⟩, (show va_P (dC, dI) vwCl (rW cs b u84) t.heap by rw [ht]; exact hP)⟩, hS.F ht⟩) hS.2.2 dX12_ahead_241
          · refine lv_if_eq (tgt := 204) hx hb dX12_ahead_115 (by decide) (fun c90 => ?_) (fun c90 => absurd c90 (by decide))
            refine lv_aload_n hx hb dX12_ahead_204 rfl (lv_at hl 1 rfl) ?_
            refine lv_dup hx hb dX12_ahead_205 rfl ?_
            refine r_get (v := .int (nI e1_4)) hx hb (ly_X12 hE) hown hK hP rfl 14 (by decide) (wd_1395 hE) (fun _ h9 => h9) (congrArg (fun z : Int32 => some (Value.int z)) hF18x) dX12_ahead_206 ?_
            refine lv_iconst (v := 1) hx hb dX12_ahead_209 (by decide) ?_
            refine lv_iadd hx hb dX12_ahead_210 ?_
            refine W.eq (g2 := F0 m 211 ls [.int (nI (e1_4 + 1)), .ref (b 0)]) (congrArg (fun z : Int32 => F0 m 211 ls (.int z :: [.ref (b 0)])) (nI_add e1_4 1)) ?_
            refine r_put (v := nI (e1_4 + 1)) hx hb (ly_X12 hE) tyX12 tyX12_ok nmX12 hown hK hP hJ hAL hS rfl 14 (by decide) (wd_1395 hE) (fun _ h9 => h9) rfl (by decide +kernel) rfl (by decide) dX12_ahead_211 (fun u91 H locs hf91 hq91 hP hS => ?_)
            have hA92 := (hq91.1 16 List.not_mem_nil).trans hA16
            have hF93x := (hq91.2.1 11 (by decide)).trans hF17x
            have hF94x := (hq91.2.1 15 (by decide)).trans hF19x
            have hF95x := (hq91.2.1 13 (by decide)).trans hf15
            have hfr := FR.step hfr hq91 (fun _ h => absurd h List.not_mem_nil) (by decide) (fun h => rfl)
            refine lv_aload_n hx hb dX12_ahead_214 rfl (lv_at hl 1 rfl) ?_
            refine lv_iload_n hx hb dX12_ahead_215 rfl (lv_at hl 0 rfl) ?_
            refine lv_bipush (v := 59) hx hb dX12_ahead_216 (by decide) ?_
            refine lv_icmp_eq (tgt := 233) hx hb dX12_ahead_218 (by decide) (fun c96 => ?_) (fun c96 => ?_)
            · have c96 := (b_eq (rfl : Int32.toInt (bA tx sz1 e1_4) = _) (show Int32.toInt 59 = 59 from rfl)).mp c96
              refine lv_iconst (v := 4) hx hb dX12_ahead_233 (by decide) ?_
              refine lv_goto (tgt := 238) hx hb dX12_ahead_234 (by decide) ?_
              refine r_put (v := 4) hx hb (ly_X12 hE) tyX12 tyX12_ok nmX12 hown hK hP hJ hAL hS rfl 12 (by decide) (wd_1393 hE) (fun _ h9 => h9) rfl (by decide +kernel) rfl (by decide) dX12_ahead_238 (fun u97 H locs hf97 hq97 hP hS => ?_)
              have hA98 := (hq97.1 16 List.not_mem_nil).trans hA92
              have hF99x := (hq97.2.1 11 (by decide)).trans hF93x
              have hF100x := (hq97.2.1 15 (by decide)).trans hF94x
              have hF101x := (hq97.2.1 13 (by decide)).trans hF95x
              have hF102x := (hq97.2.1 14 (by decide)).trans hf91
              have hfr := FR.step hfr hq97 (fun _ h => absurd h List.not_mem_nil) (by decide) (fun h => rfl)
              obtain ⟨tk1, tk2, tk3⟩ := tk_mk (n := sz1) hF101x hF102x hF100x (by omega) (by omega) (by omega) (by omega)
              exact W.vret hx hb hr (fun t ht hW => ⟨⟨u97, rfl, ⟨(by exact tk1), (by omega), (by first | (rw [hf97]; done) | (rw [hf97]; first | exact Or.inl rfl | exact Or.inr (by omega))), hfr⟩, (show va_P (dC, dI) vwCl (rW cs b u97) t.heap by rw [ht]; exact hP)⟩, hS.F ht⟩) hS.2.2 dX12_ahead_241
            · have c96 := mt (b_eq (rfl : Int32.toInt (bA tx sz1 e1_4) = _) (show Int32.toInt 59 = 59 from rfl)).mpr c96
              refine lv_iload_n hx hb dX12_ahead_221 rfl (lv_at hl 0 rfl) ?_
              refine lv_bipush (v := 62) hx hb dX12_ahead_222 (by decide) ?_
              refine lv_icmp_eq (tgt := 233) hx hb dX12_ahead_224 (by decide) (fun c103 => ?_) (fun c103 => ?_)
              · have c103 := (b_eq (rfl : Int32.toInt (bA tx sz1 e1_4) = _) (show Int32.toInt 62 = 62 from rfl)).mp c103
                refine lv_iconst (v := 4) hx hb dX12_ahead_233 (by decide) ?_
                refine lv_goto (tgt := 238) hx hb dX12_ahead_234 (by decide) ?_
                refine r_put (v := 4) hx hb (ly_X12 hE) tyX12 tyX12_ok nmX12 hown hK hP hJ hAL hS rfl 12 (by decide) (wd_1393 hE) (fun _ h9 => h9) rfl (by decide +kernel) rfl (by decide) dX12_ahead_238 (fun u104 H locs hf104 hq104 hP hS => ?_)
                have hA105 := (hq104.1 16 List.not_mem_nil).trans hA92
                have hF106x := (hq104.2.1 11 (by decide)).trans hF93x
                have hF107x := (hq104.2.1 15 (by decide)).trans hF94x
                have hF108x := (hq104.2.1 13 (by decide)).trans hF95x
                have hF109x := (hq104.2.1 14 (by decide)).trans hf91
                have hfr := FR.step hfr hq104 (fun _ h => absurd h List.not_mem_nil) (by decide) (fun h => rfl)
                obtain ⟨tk1, tk2, tk3⟩ := tk_mk (n := sz1) hF108x hF109x hF107x (by omega) (by omega) (by omega) (by omega)
                exact W.vret hx hb hr (fun t ht hW => ⟨⟨u104, rfl, ⟨(by exact tk1), (by omega), (by first | (rw [hf104]; done) | (rw [hf104]; first | exact Or.inl rfl | exact Or.inr (by omega))), hfr⟩, (show va_P (dC, dI) vwCl (rW cs b u104) t.heap by rw [ht]; exact hP)⟩, hS.F ht⟩) hS.2.2 dX12_ahead_241
              · have c103 := mt (b_eq (rfl : Int32.toInt (bA tx sz1 e1_4) = _) (show Int32.toInt 62 = 62 from rfl)).mpr c103
                refine lv_iload_n hx hb dX12_ahead_227 rfl (lv_at hl 0 rfl) ?_
                refine lv_bipush (v := 60) hx hb dX12_ahead_228 (by decide) ?_
                refine lv_icmp_ne (tgt := 237) hx hb dX12_ahead_230 (by decide) (fun c110 => ?_) (fun c110 => ?_)
                · have c110 := mt (b_eq (rfl : Int32.toInt (bA tx sz1 e1_4) = _) (show Int32.toInt 60 = 60 from rfl)).mpr c110
                  refine lv_iconst (v := 1) hx hb dX12_ahead_237 (by decide) ?_
                  refine r_put (v := 1) hx hb (ly_X12 hE) tyX12 tyX12_ok nmX12 hown hK hP hJ hAL hS rfl 12 (by decide) (wd_1393 hE) (fun _ h9 => h9) rfl (by decide +kernel) rfl (by decide) dX12_ahead_238 (fun u111 H locs hf111 hq111 hP hS => ?_)
                  have hA112 := (hq111.1 16 List.not_mem_nil).trans hA92
                  have hF113x := (hq111.2.1 11 (by decide)).trans hF93x
                  have hF114x := (hq111.2.1 15 (by decide)).trans hF94x
                  have hF115x := (hq111.2.1 13 (by decide)).trans hF95x
                  have hF116x := (hq111.2.1 14 (by decide)).trans hf91
                  have hfr := FR.step hfr hq111 (fun _ h => absurd h List.not_mem_nil) (by decide) (fun h => rfl)
                  obtain ⟨tk1, tk2, tk3⟩ := tk_mk (n := sz1) hF115x hF116x hF114x (by omega) (by omega) (by omega) (by omega)
                  exact W.vret hx hb hr (fun t ht hW => ⟨⟨u111, rfl, ⟨(by exact tk1), (by omega), (by first | (rw [hf111]; done) | (rw [hf111]; first | exact Or.inl rfl | exact Or.inr (by omega))), hfr⟩, (show va_P (dC, dI) vwCl (rW cs b u111) t.heap by rw [ht]; exact hP)⟩, hS.F ht⟩) hS.2.2 dX12_ahead_241
                · have c110 := (b_eq (rfl : Int32.toInt (bA tx sz1 e1_4) = _) (show Int32.toInt 60 = 60 from rfl)).mp c110
                  refine lv_iconst (v := 4) hx hb dX12_ahead_233 (by decide) ?_
                  refine lv_goto (tgt := 238) hx hb dX12_ahead_234 (by decide) ?_
                  refine r_put (v := 4) hx hb (ly_X12 hE) tyX12 tyX12_ok nmX12 hown hK hP hJ hAL hS rfl 12 (by decide) (wd_1393 hE) (fun _ h9 => h9) rfl (by decide +kernel) rfl (by decide) dX12_ahead_238 (fun u117 H locs hf117 hq117 hP hS => ?_)
                  have hA118 := (hq117.1 16 List.not_mem_nil).trans hA92
                  have hF119x := (hq117.2.1 11 (by decide)).trans hF93x
                  have hF120x := (hq117.2.1 15 (by decide)).trans hF94x
                  have hF121x := (hq117.2.1 13 (by decide)).trans hF95x
                  have hF122x := (hq117.2.1 14 (by decide)).trans hf91
                  have hfr := FR.step hfr hq117 (fun _ h => absurd h List.not_mem_nil) (by decide) (fun h => rfl)
                  obtain ⟨tk1, tk2, tk3⟩ := tk_mk (n := sz1) hF121x hF122x hF120x (by omega) (by omega) (by omega) (by omega)
                  exact W.vret hx hb hr (fun t ht hW => ⟨⟨u117, rfl, ⟨(by exact tk1), (by omega), (by first | (rw [hf117]; done) | (rw [hf117]; first | exact Or.inl rfl | exact Or.inr (by omega))), hfr⟩, (show va_P (dC, dI) vwCl (rW cs b u117) t.heap by rw [ht]; exact hP)⟩, hS.F ht⟩) hS.2.2 dX12_ahead_241
      · have c21 := (b_eq (rfl : Int32.toInt (bA tx sz1 e1_4) = _) (show Int32.toInt (-1) = -1 from rfl)).mp c21
        refine lv_aload_n hx hb dX12_ahead_61 rfl (lv_at hl 1 rfl) ?_
        refine lv_iconst (v := 0) hx hb dX12_ahead_62 (by decide) ?_
        refine r_put (v := 0) hx hb (ly_X12 hE) tyX12 tyX12_ok nmX12 hown hK hP hJ hAL hS rfl 12 (by decide) (wd_1393 hE) (fun _ h9 => h9) rfl (by decide +kernel) rfl (by decide) dX12_ahead_63 (fun u123 H locs hf123 hq123 hP hS => ?_)
        have hA124 := (hq123.1 16 List.not_mem_nil).trans hA16
        have hF125x := (hq123.2.1 11 (by decide)).trans hF17x
        have hF126x := (hq123.2.1 14 (by decide)).trans hF18x
        have hF127x := (hq123.2.1 15 (by decide)).trans hF19x
        have hF128x := (hq123.2.1 13 (by decide)).trans hf15
        have hfr := FR.step hfr hq123 (fun _ h => absurd h List.not_mem_nil) (by decide) (fun h => rfl)
        refine lv_goto (tgt := 241) hx hb dX12_ahead_66 (by decide) ?_
        obtain ⟨tk1, tk2, tk3⟩ := tk_mk (n := sz1) hF128x hF126x hF127x (by omega) (by omega) (by omega) (by omega)
        exact W.vret hx hb hr (fun t ht hW => ⟨⟨u123, rfl, ⟨(by exact tk1), (by omega), (by first | (rw [hf123]; done) | (rw [hf123]; first | exact Or.inl rfl | exact Or.inr (by omega))), hfr⟩, (show va_P (dC, dI) vwCl (rW cs b u123) t.heap by rw [ht]; exact hP)⟩, hS.F ht⟩) hS.2.2 dX12_ahead_241
    · have c14 := (b_eq (rfl : Int32.toInt (bA tx sz1 e1_4) = _) (show Int32.toInt 10 = 10 from rfl)).mp c14
      refine lv_aload_n hx hb dX12_ahead_26 rfl (lv_at hl 0 rfl) ?_
      refine lv_dup hx hb dX12_ahead_27 rfl ?_
      refine r_get (v := .int (nI e1_4)) hx hb (ly_X12 hE) hown hK hP rfl 14 (by decide) (wd_1395 hE) (fun _ h9 => h9) (congrArg (fun z : Int32 => some (Value.int z)) hL4_2) dX12_ahead_28 ?_
      refine lv_iconst (v := 1) hx hb dX12_ahead_31 (by decide) ?_
      refine lv_iadd hx hb dX12_ahead_32 ?_
      refine W.eq (g2 := F0 m 33 ls [.int (nI (e1_4 + 1)), .ref (b 0)]) (congrArg (fun z : Int32 => F0 m 33 ls (.int z :: [.ref (b 0)])) (nI_add e1_4 1)) ?_
      refine r_put (v := nI (e1_4 + 1)) hx hb (ly_X12 hE) tyX12 tyX12_ok nmX12 hown hK hP hJ hAL hS rfl 14 (by decide) (wd_1395 hE) (fun _ h9 => h9) rfl (by decide +kernel) rfl (by decide) dX12_ahead_33 (fun u129 H locs hf129 hq129 hP hS => ?_)
      have hA130 := (hq129.1 16 List.not_mem_nil).trans hA5
      have hF131x := (hq129.2.1 11 (by decide)).trans hF6x
      have hF132x := (hq129.2.1 15 (by decide)).trans hL4_3
      have hfr := FR.step hfr hq129 (fun _ h => absurd h List.not_mem_nil) (by decide) (fun h => rfl)
      refine lv_goto (tgt := 0) hx hb dX12_ahead_36 (by decide) ?_
      exact ih4 _ u129 _ _ _ (by omega) ⟨hP, hS, hfr, (e1_4 + 1), rfl, (by first | assumption | omega | rfl | (congr 1; omega)), (by first | assumption | omega | rfl | (congr 1; omega)), hf129, hF132x, lv_sub hl [0] rfl⟩

set_option maxHeartbeats 4000000 in
set_option maxRecDepth 100000 in
theorem r_X12_fails (l : Launch) (dC : Nat → ClassId) (dI : Nat → Nat → Nat) (sz : Nat) (cs : Nat → ClassId) (b : Nat → Nat) (u : RS) (x : Int32) : Met l yX12_fails [.code yX12_fails cX12_fails 2 (some .boolean)] ({ frames := 0, cells := 0, slots := 0, locals := 0 }) (PR [.ref (b 0), .int x] sz dC dI cs b u) (va_Qi (fun (r : Int32) (u' : RS) => (r = 0) ∧ FR [] [16, 17, 18] false u u') (BR dC dI cs b) (AR b sz)) 0 0 (AR b sz) := by
  refine Met.ofW (cc := cX12_fails) (maxL := 2) (ret := (some .boolean)) (by decide) rfl ?_
  intro p e s m args below meth c s₁ B hml hv
  obtain ⟨rfl, hsz, hP, hK, hJ, hE⟩ := hv
  have hx := B.exec
  have hb := B.bytes
  have hr := B.returns
  have hown : s.vm.findClass RX12 = some m.cls := findClass_of_methodNamed B.named
  have hlocks := B.notSynchronized
  subst hsz
  have hAL : ∀ i, i < 108 → AR b s.heap.size (b i) := fun i h => Or.inl ⟨i, h, rfl⟩
  have hA : ∀ q : Nat, s.heap.size ≤ q → AR b s.heap.size q := fun q h => Or.inr h
  have hS : va_S (AR b s.heap.size) s.heap s.heap [] := va_S.rf
  have hfr : FR [] [16, 17, 18] false u u := FR.refl
  have hl := lv_entry ([.ref (b 0), .int x]) (n := 2) (Nat.le_of_ble_eq_true rfl)
  rw [lg_entry_eq]
  generalize (lg_sl ([.ref (b 0), .int x]) ++ List.replicate (2 - (lg_sl ([.ref (b 0), .int x])).length) Slot.unset).toArray = ls at hl ⊢
  have hl : lv_has ls 2 [(0, .ref (b 0)), (1, .int x)] := hl
  refine lv_aload_n hx hb dX12_fails_0 rfl (lv_at hl 0 rfl) ?_
  obtain ⟨y1, hy1⟩ : ∃ z : Int32, rF u 16 = z := ⟨_, rfl⟩
  refine r_get (v := .int y1) hx hb (ly_X12 hE) hown hK hP rfl 16 (by decide) (wd_1397 hE) (fun _ h9 => h9) (congrArg (fun z : Int32 => some (Value.int z)) hy1) dX12_fails_1 ?_
  refine lv_if_ne (tgt := 40) hx hb dX12_fails_4 (by decide) (fun c2 => ?_) (fun c2 => ?_)
  · have c2 := mt (b_eq (rfl : Int32.toInt y1 = _) (show Int32.toInt 0 = 0 from rfl)).mpr c2
    refine lv_iconst (v := 0) hx hb dX12_fails_40 (by decide) ?_
    exact W.zret (v := 0) hx hb hr rfl (fun t ht hW => ⟨⟨0, u, rfl, ⟨(by first | rfl | omega | (congr 1; omega) | assumption), hfr⟩, (show va_P (dC, dI) vwCl (rW cs b u) t.heap by rw [ht]; exact hP)⟩, hS.F ht⟩) hS.2.2 dX12_fails_41
  · have c2 := (b_eq (rfl : Int32.toInt y1 = _) (show Int32.toInt 0 = 0 from rfl)).mp c2
    refine lv_aload_n hx hb dX12_fails_7 rfl (lv_at hl 0 rfl) ?_
    refine lv_aload_n hx hb dX12_fails_8 rfl (lv_at hl 0 rfl) ?_
    obtain ⟨y3, hy3⟩ : ∃ z : Int32, rF u 12 = z := ⟨_, rfl⟩
    refine r_get (v := .int y3) hx hb (ly_X12 hE) hown hK hP rfl 12 (by decide) (wd_1393 hE) (fun _ h9 => h9) (congrArg (fun z : Int32 => some (Value.int z)) hy3) dX12_fails_9 ?_
    refine lv_iconst (v := 1) hx hb dX12_fails_12 (by decide) ?_
    refine lv_icmp_ne (tgt := 20) hx hb dX12_fails_13 (by decide) (fun c4 => ?_) (fun c4 => ?_)
    · have c4 := mt (b_eq (rfl : Int32.toInt y3 = _) (show Int32.toInt 1 = 1 from rfl)).mpr c4
      refine lv_iload_n hx hb dX12_fails_20 rfl (lv_at hl 1 rfl) ?_
      refine r_put (v := x) hx hb (ly_X12 hE) tyX12 tyX12_ok nmX12 hown hK hP hJ hAL hS rfl 16 (by decide) (wd_1397 hE) (fun _ h9 => h9) rfl (by decide +kernel) rfl (by decide) dX12_fails_21 (fun u5 H locs hf5 hq5 hP hS => ?_)
      have hF6x := (hq5.2.1 12 (by decide)).trans hy3
      have hfr := FR.step hfr hq5 (fun _ h => absurd h List.not_mem_nil) (by decide) (fun h => rfl)
      refine lv_aload_n hx hb dX12_fails_24 rfl (lv_at hl 0 rfl) ?_
      refine lv_aload_n hx hb dX12_fails_25 rfl (lv_at hl 0 rfl) ?_
      obtain ⟨y7, hy7⟩ : ∃ z : Int32, rF u5 13 = z := ⟨_, rfl⟩
      refine r_get (v := .int y7) hx hb (ly_X12 hE) hown hK hP rfl 13 (by decide) (wd_1394 hE) (fun _ h9 => h9) (congrArg (fun z : Int32 => some (Value.int z)) hy7) dX12_fails_26 ?_
      refine r_put (v := y7) hx hb (ly_X12 hE) tyX12 tyX12_ok nmX12 hown hK hP hJ hAL hS rfl 17 (by decide) (wd_1398 hE) (fun _ h9 => h9) rfl (by decide +kernel) rfl (by decide) dX12_fails_29 (fun u8 H locs hf8 hq8 hP hS => ?_)
      have hF9x := (hq8.2.1 12 (by decide)).trans hF6x
      have hF10x := (hq8.2.1 16 (by decide)).trans hf5
      have hF11x := (hq8.2.1 13 (by decide)).trans hy7
      have hfr := FR.step hfr hq8 (fun _ h => absurd h List.not_mem_nil) (by decide) (fun h => rfl)
      refine lv_aload_n hx hb dX12_fails_32 rfl (lv_at hl 0 rfl) ?_
      refine lv_aload_n hx hb dX12_fails_33 rfl (lv_at hl 0 rfl) ?_
      obtain ⟨y12, hy12⟩ : ∃ z : Int32, rF u8 20 = z := ⟨_, rfl⟩
      refine r_get (v := .int y12) hx hb (ly_X12 hE) hown hK hP rfl 20 (by decide) (wd_1401 hE) (fun _ h9 => h9) (congrArg (fun z : Int32 => some (Value.int z)) hy12) dX12_fails_34 ?_
      refine r_put (v := y12) hx hb (ly_X12 hE) tyX12 tyX12_ok nmX12 hown hK hP hJ hAL hS rfl 18 (by decide) (wd_1399 hE) (fun _ h9 => h9) rfl (by decide +kernel) rfl (by decide) dX12_fails_37 (fun u13 H locs hf13 hq13 hP hS => ?_)
      have hF14x := (hq13.2.1 12 (by decide)).trans hF9x
      have hF15x := (hq13.2.1 16 (by decide)).trans hF10x
      have hF16x := (hq13.2.1 13 (by decide)).trans hF11x
      have hF17x := (hq13.2.1 17 (by decide)).trans hf8
      have hF18x := (hq13.2.1 20 (by decide)).trans hy12
      have hfr := FR.step hfr hq13 (fun _ h => absurd h List.not_mem_nil) (by decide) (fun h => rfl)
      refine lv_iconst (v := 0) hx hb dX12_fails_40 (by decide) ?_
      exact W.zret (v := 0) hx hb hr rfl (fun t ht hW => ⟨⟨0, u13, rfl, ⟨(by first | rfl | omega | (congr 1; omega) | assumption), hfr⟩, (show va_P (dC, dI) vwCl (rW cs b u13) t.heap by rw [ht]; exact hP)⟩, hS.F ht⟩) hS.2.2 dX12_fails_41
    · have c4 := (b_eq (rfl : Int32.toInt y3 = _) (show Int32.toInt 1 = 1 from rfl)).mp c4
      refine lv_iconst (v := 1) hx hb dX12_fails_16 (by decide) ?_
      refine lv_goto (tgt := 21) hx hb dX12_fails_17 (by decide) ?_
      refine r_put (v := 1) hx hb (ly_X12 hE) tyX12 tyX12_ok nmX12 hown hK hP hJ hAL hS rfl 16 (by decide) (wd_1397 hE) (fun _ h9 => h9) rfl (by decide +kernel) rfl (by decide) dX12_fails_21 (fun u19 H locs hf19 hq19 hP hS => ?_)
      have hF20x := (hq19.2.1 12 (by decide)).trans hy3
      have hfr := FR.step hfr hq19 (fun _ h => absurd h List.not_mem_nil) (by decide) (fun h => rfl)
      refine lv_aload_n hx hb dX12_fails_24 rfl (lv_at hl 0 rfl) ?_
      refine lv_aload_n hx hb dX12_fails_25 rfl (lv_at hl 0 rfl) ?_
      obtain ⟨y21, hy21⟩ : ∃ z : Int32, rF u19 13 = z := ⟨_, rfl⟩
      refine r_get (v := .int y21) hx hb (ly_X12 hE) hown hK hP rfl 13 (by decide) (wd_1394 hE) (fun _ h9 => h9) (congrArg (fun z : Int32 => some (Value.int z)) hy21) dX12_fails_26 ?_
      refine r_put (v := y21) hx hb (ly_X12 hE) tyX12 tyX12_ok nmX12 hown hK hP hJ hAL hS rfl 17 (by decide) (wd_1398 hE) (fun _ h9 => h9) rfl (by decide +kernel) rfl (by decide) dX12_fails_29 (fun u22 H locs hf22 hq22 hP hS => ?_)
      have hF23x := (hq22.2.1 12 (by decide)).trans hF20x
      have hF24x := (hq22.2.1 16 (by decide)).trans hf19
      have hF25x := (hq22.2.1 13 (by decide)).trans hy21
      have hfr := FR.step hfr hq22 (fun _ h => absurd h List.not_mem_nil) (by decide) (fun h => rfl)
      refine lv_aload_n hx hb dX12_fails_32 rfl (lv_at hl 0 rfl) ?_
      refine lv_aload_n hx hb dX12_fails_33 rfl (lv_at hl 0 rfl) ?_
      obtain ⟨y26, hy26⟩ : ∃ z : Int32, rF u22 20 = z := ⟨_, rfl⟩
      refine r_get (v := .int y26) hx hb (ly_X12 hE) hown hK hP rfl 20 (by decide) (wd_1401 hE) (fun _ h9 => h9) (congrArg (fun z : Int32 => some (Value.int z)) hy26) dX12_fails_34 ?_
      refine r_put (v := y26) hx hb (ly_X12 hE) tyX12 tyX12_ok nmX12 hown hK hP hJ hAL hS rfl 18 (by decide) (wd_1399 hE) (fun _ h9 => h9) rfl (by decide +kernel) rfl (by decide) dX12_fails_37 (fun u27 H locs hf27 hq27 hP hS => ?_)
      have hF28x := (hq27.2.1 12 (by decide)).trans hF23x
      have hF29x := (hq27.2.1 16 (by decide)).trans hF24x
      have hF30x := (hq27.2.1 13 (by decide)).trans hF25x
      have hF31x := (hq27.2.1 17 (by decide)).trans hf22
      have hF32x := (hq27.2.1 20 (by decide)).trans hy26
      have hfr := FR.step hfr hq27 (fun _ h => absurd h List.not_mem_nil) (by decide) (fun h => rfl)
      refine lv_iconst (v := 0) hx hb dX12_fails_40 (by decide) ?_
      exact W.zret (v := 0) hx hb hr rfl (fun t ht hW => ⟨⟨0, u27, rfl, ⟨(by first | rfl | omega | (congr 1; omega) | assumption), hfr⟩, (show va_P (dC, dI) vwCl (rW cs b u27) t.heap by rw [ht]; exact hP)⟩, hS.F ht⟩) hS.2.2 dX12_fails_41

set_option maxHeartbeats 4000000 in
set_option maxRecDepth 100000 in
theorem r_X12_takesOn (l : Launch) (dC : Nat → ClassId) (dI : Nat → Nat → Nat) (sz : Nat) (cs : Nat → ClassId) (b : Nat → Nat) (u : RS) (tx : Nat → Int32) (hAc16 : rA u 16 = tx) (sz1 : Nat) (e0 : Nat) (v0 : Nat) (hF11 : rF u 11 = nI sz1) (hF14 : rF u 14 = nI e0) (hF15 : rF u 15 = nI v0) (hp0 : sz1 ≤ 700) (hp1 : e0 ≤ sz1) (hp2 : v0 ≤ 9999) : Met l yX12_takesOn [.code yX12_takesOn cX12_takesOn 1 (some .boolean)] ({ frames := 2, cells := 0, slots := 0, locals := 80 }) (PR [.ref (b 0)] sz dC dI cs b u) (va_Qi (fun (r : Int32) (u' : RS) => (r = 1) ∧ (TK u' sz1) ∧ (e0 ≤ fN u' 13) ∧ (rF u' 12 = 0 ∨ fN u' 13 < fN u' 14) ∧ FR [] [12, 13, 14, 15] false u u') (BR dC dI cs b) (AR b sz)) 0 0 (AR b sz) := by
  refine Met.ofW (cc := cX12_takesOn) (maxL := 1) (ret := (some .boolean)) (by decide) rfl ?_
  intro p e s m args below meth c s₁ B hml hv
  obtain ⟨rfl, hsz, hP, hK, hJ, hE⟩ := hv
  have hx := B.exec
  have hb := B.bytes
  have hr := B.returns
  have hown : s.vm.findClass RX12 = some m.cls := findClass_of_methodNamed B.named
  have hlocks := B.notSynchronized
  subst hsz
  have hAL : ∀ i, i < 108 → AR b s.heap.size (b i) := fun i h => Or.inl ⟨i, h, rfl⟩
  have hA : ∀ q : Nat, s.heap.size ≤ q → AR b s.heap.size q := fun q h => Or.inr h
  have hS : va_S (AR b s.heap.size) s.heap s.heap [] := va_S.rf
  have hfr : FR [] [12, 13, 14, 15] false u u := FR.refl
  have hl := lv_entry ([.ref (b 0)]) (n := 1) (Nat.le_of_ble_eq_true rfl)
  rw [lg_entry_eq]
  generalize (lg_sl ([.ref (b 0)]) ++ List.replicate (1 - (lg_sl ([.ref (b 0)])).length) Slot.unset).toArray = ls at hl ⊢
  have hl : lv_has ls 1 [(0, .ref (b 0))] := hl
  refine lv_aload_n hx hb dX12_takesOn_0 rfl (lv_at hl 0 rfl) ?_
  refine rc_v hAL hS hA (va_runV (As := []) (rest := []) ⟨hx, hb, hml, hown, noTs⟩ (r_X12_ahead l dC dI s.heap.size cs b u tx hAc16 sz1 e0 v0 hF11 hF14 hF15 (by first | assumption | omega | rfl | (congr 1; omega)) (by first | assumption | omega | rfl | (congr 1; omega)) (by first | assumption | omega | rfl | (congr 1; omega))) ⟨cbE 0 (wd_1506 hE) (wd_126 hE) (wd_1503 hE) rfl rfl (by decide +kernel) ⟨Nat.le_of_ble_eq_true rfl, Nat.le_of_ble_eq_true rfl⟩, (wd_1505 hE), (wd_56 hE)⟩ ⟨PR.blind, r_recv hK hP rfl, (r_pre (av := [.ref (b 0)]) hK hP hJ hE)⟩ rfl rfl hl.1 rfl (lv_room (Nat.le_of_ble_eq_true rfl)) dX12_takesOn_1 ⟨Nat.le_of_ble_eq_true rfl, Nat.le_of_ble_eq_true rfl⟩) (fun u4 H locs hpo4 hP hS => ?_)
  obtain ⟨h4_0, h4_1, h4_2, hq4⟩ := hpo4
  have hA5 := (hq4.1 16 List.not_mem_nil).trans hAc16
  have hF6x := (hq4.2.1 11 (by decide)).trans hF11
  have hfr := FR.step hfr hq4 (fun _ h => absurd h List.not_mem_nil) (by decide) (fun h => rfl)
  have htk7 := h4_0.2.2.2
  refine lv_iconst (v := 1) hx hb dX12_takesOn_4 (by decide) ?_
  exact W.zret (v := 1) hx hb hr rfl (fun t ht hW => ⟨⟨1, u4, rfl, ⟨(by first | rfl | omega | (congr 1; omega) | assumption), (by first | assumption | omega | rfl | (congr 1; omega)), (by first | assumption | omega | rfl | (congr 1; omega)), (by first | assumption | omega | rfl | (congr 1; omega)), hfr⟩, (show va_P (dC, dI) vwCl (rW cs b u4) t.heap by rw [ht]; exact hP)⟩, hS.F ht⟩) hS.2.2 dX12_takesOn_5

set_option maxHeartbeats 4000000 in
set_option maxRecDepth 100000 in
theorem r_X12_isNumber (l : Launch) (dC : Nat → ClassId) (dI : Nat → Nat → Nat) (sz : Nat) (cs : Nat → ClassId) (b : Nat → Nat) (u : RS) : Met l yX12_isNumber [.code yX12_isNumber cX12_isNumber 1 (some .boolean)] ({ frames := 1, cells := 0, slots := 0, locals := 40 }) (PR [.ref (b 0)] sz dC dI cs b u) (va_Qi (fun (r : Int32) (u' : RS) => ((r = 1 ∧ (True)) ∨ (r = 0 ∧ (True))) ∧ FR [] [16, 17, 18] false u u') (BR dC dI cs b) (AR b sz)) 0 0 (AR b sz) := by
  refine Met.ofW (cc := cX12_isNumber) (maxL := 1) (ret := (some .boolean)) (by decide) rfl ?_
  intro p e s m args below meth c s₁ B hml hv
  obtain ⟨rfl, hsz, hP, hK, hJ, hE⟩ := hv
  have hx := B.exec
  have hb := B.bytes
  have hr := B.returns
  have hown : s.vm.findClass RX12 = some m.cls := findClass_of_methodNamed B.named
  have hlocks := B.notSynchronized
  subst hsz
  have hAL : ∀ i, i < 108 → AR b s.heap.size (b i) := fun i h => Or.inl ⟨i, h, rfl⟩
  have hA : ∀ q : Nat, s.heap.size ≤ q → AR b s.heap.size q := fun q h => Or.inr h
  have hS : va_S (AR b s.heap.size) s.heap s.heap [] := va_S.rf
  have hfr : FR [] [16, 17, 18] false u u := FR.refl
  have hl := lv_entry ([.ref (b 0)]) (n := 1) (Nat.le_of_ble_eq_true rfl)
  rw [lg_entry_eq]
  generalize (lg_sl ([.ref (b 0)]) ++ List.replicate (1 - (lg_sl ([.ref (b 0)])).length) Slot.unset).toArray = ls at hl ⊢
  have hl : lv_has ls 1 [(0, .ref (b 0))] := hl
  refine lv_aload_n hx hb dX12_isNumber_0 rfl (lv_at hl 0 rfl) ?_
  obtain ⟨y1, hy1⟩ : ∃ z : Int32, rF u 12 = z := ⟨_, rfl⟩
  refine r_get (v := .int y1) hx hb (ly_X12 hE) hown hK hP rfl 12 (by decide) (wd_1393 hE) (fun _ h9 => h9) (congrArg (fun z : Int32 => some (Value.int z)) hy1) dX12_isNumber_1 ?_
  refine lv_iconst (v := 3) hx hb dX12_isNumber_4 (by decide) ?_
  refine lv_icmp_eq (tgt := 16) hx hb dX12_isNumber_5 (by decide) (fun c2 => ?_) (fun c2 => ?_)
  · have c2 := (b_eq (rfl : Int32.toInt y1 = _) (show Int32.toInt 3 = 3 from rfl)).mp c2
    refine lv_iconst (v := 1) hx hb dX12_isNumber_16 (by decide) ?_
    refine lv_goto (tgt := 21) hx hb dX12_isNumber_17 (by decide) ?_
    exact W.zret (v := 1) hx hb hr rfl (fun t ht hW => ⟨⟨1, u, rfl, ⟨Or.inl ⟨rfl, by trivial⟩, hfr⟩, (show va_P (dC, dI) vwCl (rW cs b u) t.heap by rw [ht]; exact hP)⟩, hS.F ht⟩) hS.2.2 dX12_isNumber_21
  · have c2 := mt (b_eq (rfl : Int32.toInt y1 = _) (show Int32.toInt 3 = 3 from rfl)).mpr c2
    refine lv_aload_n hx hb dX12_isNumber_8 rfl (lv_at hl 0 rfl) ?_
    refine lv_iconst (v := 2) hx hb dX12_isNumber_9 (by decide) ?_
    refine rc_i hAL hS hA (va_runV (As := [.int 2]) (rest := []) ⟨hx, hb, hml, hown, noTs⟩ (r_X12_fails l dC dI s.heap.size cs b u 2) ⟨cbE 1 (wd_1540 hE) (wd_126 hE) (wd_1537 hE) rfl rfl (by decide +kernel) ⟨Nat.le_of_ble_eq_true rfl, Nat.le_of_ble_eq_true rfl⟩, (wd_1539 hE), (wd_62 hE)⟩ ⟨PR.blind, r_recv hK hP rfl, (r_pre (av := [.ref (b 0), .int 2]) hK hP hJ hE)⟩ rfl rfl hl.1 rfl (lv_room (Nat.le_of_ble_eq_true rfl)) dX12_isNumber_10 ⟨Nat.le_of_ble_eq_true rfl, Nat.le_of_ble_eq_true rfl⟩) (fun r3 u3 H locs hpo3 hP hS => ?_)
    obtain ⟨hr3, hq3⟩ := hpo3
    have hF4x := (hq3.2.1 12 (by decide)).trans hy1
    have hfr := FR.step hfr hq3 (fun _ h => absurd h List.not_mem_nil) (by decide) (fun h => rfl)
    subst hr3
    refine lv_if_eq (tgt := 20) hx hb dX12_isNumber_13 (by decide) (fun c5 => ?_) (fun c5 => absurd c5 (by decide))
    refine lv_iconst (v := 0) hx hb dX12_isNumber_20 (by decide) ?_
    exact W.zret (v := 0) hx hb hr rfl (fun t ht hW => ⟨⟨0, u3, rfl, ⟨Or.inr ⟨rfl, by trivial⟩, hfr⟩, (show va_P (dC, dI) vwCl (rW cs b u3) t.heap by rw [ht]; exact hP)⟩, hS.F ht⟩) hS.2.2 dX12_isNumber_21

set_option maxHeartbeats 4000000 in
set_option maxRecDepth 100000 in
theorem r_X12_someNumber (l : Launch) (dC : Nat → ClassId) (dI : Nat → Nat → Nat) (sz : Nat) (cs : Nat → ClassId) (b : Nat → Nat) (u : RS) (a : Nat → Int32) (hA1 : rA u 1 = a) (tx : Nat → Int32) (hAc16 : rA u 16 = tx) (v : Nat) (sz1 : Nat) (hF11 : rF u 11 = nI sz1) (hp0 : BG a) (hp1 : TK u sz1) (hp2 : sz1 ≤ 700) (hp3 : v < vN a) : Met l yX12_someNumber [.code yX12_someNumber cX12_someNumber 3 (some .int)] ({ frames := 3, cells := 0, slots := 0, locals := 120 }) (PR [.ref (b 0), .int (nI v)] sz dC dI cs b u) (va_Qi (fun (r : Int32) (u' : RS) => (∃ k : Nat, r = nI k ∧ k < od a v) ∧ (TK u' sz1) ∧ (fN u 13 ≤ fN u' 13) ∧ FR [] [12, 13, 14, 15, 16, 17, 18] false u u') (BR dC dI cs b) (AR b sz)) 0 0 (AR b sz) := by
  refine Met.ofW (cc := cX12_someNumber) (maxL := 3) (ret := (some .int)) (by decide) rfl ?_
  intro p e s m args below meth c s₁ B hml hv
  obtain ⟨rfl, hsz, hP, hK, hJ, hE⟩ := hv
  have hx := B.exec
  have hb := B.bytes
  have hr := B.returns
  have hown : s.vm.findClass RX12 = some m.cls := findClass_of_methodNamed B.named
  have hlocks := B.notSynchronized
  subst hsz
  have hAL : ∀ i, i < 108 → AR b s.heap.size (b i) := fun i h => Or.inl ⟨i, h, rfl⟩
  have hA : ∀ q : Nat, s.heap.size ≤ q → AR b s.heap.size q := fun q h => Or.inr h
  have hS : va_S (AR b s.heap.size) s.heap s.heap [] := va_S.rf
  have hfr : FR [] [12, 13, 14, 15, 16, 17, 18] false u u := FR.refl
  have hl := lv_entry ([.ref (b 0), .int (nI v)]) (n := 3) (Nat.le_of_ble_eq_true rfl)
  rw [lg_entry_eq]
  generalize (lg_sl ([.ref (b 0), .int (nI v)]) ++ List.replicate (3 - (lg_sl ([.ref (b 0), .int (nI v)])).length) Slot.unset).toArray = ls at hl ⊢
  have hl : lv_has ls 3 [(0, .ref (b 0)), (1, .int (nI v))] := hl
  have hB := hp0
  have hG := bg_g hp0
  have ha1 := gg_le hG
  have ha1b := bg_w hp0
  have htk3 := hp1.2.2.2
  have hvo := gg_od hG hp3
  refine lv_aload_n hx hb dX12_someNumber_0 rfl (lv_at hl 0 rfl) ?_
  obtain ⟨y6, hy6⟩ : ∃ z : Int32, rF u 12 = z := ⟨_, rfl⟩
  refine r_get (v := .int y6) hx hb (ly_X12 hE) hown hK hP rfl 12 (by decide) (wd_1393 hE) (fun _ h9 => h9) (congrArg (fun z : Int32 => some (Value.int z)) hy6) dX12_someNumber_1 ?_
  refine lv_iconst (v := 3) hx hb dX12_someNumber_4 (by decide) ?_
  refine lv_icmp_eq (tgt := 10) hx hb dX12_someNumber_5 (by decide) (fun c7 => ?_) (fun c7 => ?_)
  · have c7 := (b_eq (rfl : Int32.toInt y6 = _) (show Int32.toInt 3 = 3 from rfl)).mp c7
    refine lv_aload_n hx hb dX12_someNumber_10 rfl (lv_at hl 0 rfl) ?_
    refine lv_iload_n hx hb dX12_someNumber_11 rfl (lv_at hl 1 rfl) ?_
    refine lv_aload_n hx hb dX12_someNumber_12 rfl (lv_at hl 0 rfl) ?_
    refine r_get (v := .int (nI (fN u 15))) hx hb (ly_X12 hE) hown hK hP rfl 15 (by decide) (wd_1396 hE) (fun _ h9 => h9) (congrArg (fun z : Int32 => some (Value.int z)) hp1.2.2.1) dX12_someNumber_13 ?_
    refine vp_callSi (va_Run.run (va_runV (As := [.int (nI v), .int (nI (fN u 15))]) (rest := []) ⟨hx, hb, hml, hown, noTs⟩ (r_X12_round l dC dI s.heap.size cs b u a hA1 v (nI (fN u 15)) (by first | assumption | omega | rfl | (congr 1; omega)) (by first | assumption | omega | rfl | (congr 1; omega))) ⟨cbE 2 (wd_1576 hE) (wd_126 hE) (wd_1573 hE) rfl rfl (by decide +kernel) ⟨Nat.le_of_ble_eq_true rfl, Nat.le_of_ble_eq_true rfl⟩, (wd_1575 hE), (wd_71 hE)⟩ ⟨PR.blind, r_recv hK hP rfl, (r_pre (av := [.ref (b 0), .int (nI v), .int (nI (fN u 15))]) hK hP hJ hE)⟩ rfl rfl hl.1 rfl (lv_room (Nat.le_of_ble_eq_true rfl)) dX12_someNumber_16 ⟨Nat.le_of_ble_eq_true rfl, Nat.le_of_ble_eq_true rfl⟩)) (fun r8 hr8 => ?_)
    have hau8 := (gg_od (a := a) (v := v) (by assumption) (by first | assumption | omega)).2
    obtain ⟨n8, rfl, hn8_0⟩ := hr8
    refine lv_istore_n (lv' := [(2, .int (nI n8)), (0, .ref (b 0)), (1, .int (nI v))]) hx hb dX12_someNumber_19 rfl hl (by decide) rfl (fun ls hl => ?_)
    refine lv_aload_n hx hb dX12_someNumber_20 rfl (lv_at hl 1 rfl) ?_
    refine rc_v hAL hS hA (va_runV (As := []) (rest := []) ⟨hx, hb, hml, hown, noTs⟩ (r_X12_ahead l dC dI s.heap.size cs b u tx hAc16 sz1 (fN u 14) (fN u 15) hF11 hp1.2.1 hp1.2.2.1 (by first | assumption | omega | rfl | (congr 1; omega)) (by first | assumption | omega | rfl | (congr 1; omega)) (by first | assumption | omega | rfl | (congr 1; omega))) ⟨cbE 0 (wd_1506 hE) (wd_126 hE) (wd_1503 hE) rfl rfl (by decide +kernel) ⟨Nat.le_of_ble_eq_true rfl, Nat.le_of_ble_eq_true rfl⟩, (wd_1505 hE), (wd_56 hE)⟩ ⟨PR.blind, r_recv hK hP rfl, (r_pre (av := [.ref (b 0)]) hK hP hJ hE)⟩ rfl rfl hl.1 rfl (lv_room (Nat.le_of_ble_eq_true rfl)) dX12_someNumber_21 ⟨Nat.le_of_ble_eq_true rfl, Nat.le_of_ble_eq_true rfl⟩) (fun u9 H locs hpo9 hP hS => ?_)
    obtain ⟨h9_0, h9_1, h9_2, hq9⟩ := hpo9
    have hA10 := (hq9.1 1 List.not_mem_nil).trans hA1
    have hA11 := (hq9.1 16 List.not_mem_nil).trans hAc16
    have hF12x := (hq9.2.1 11 (by decide)).trans hF11
    have hfr := FR.step hfr hq9 (fun _ h => absurd h List.not_mem_nil) (by decide) (fun h => rfl)
    have htk13 := h9_0.2.2.2
    refine lv_iload_n hx hb dX12_someNumber_24 rfl (lv_at hl 0 rfl) ?_
    obtain ⟨tk1, tk2, tk3⟩ := tk_mk (n := sz1) h9_0.1 h9_0.2.1 h9_0.2.2.1 (by omega) (by omega) (by omega) (by omega)
    exact W.iret (v := nI n8) hx hb hr (fun t ht hW => ⟨⟨nI n8, u9, rfl, ⟨⟨n8, rfl, by first | assumption | omega | rfl | (congr 1; omega)⟩, (by exact tk1), (by omega), hfr⟩, (show va_P (dC, dI) vwCl (rW cs b u9) t.heap by rw [ht]; exact hP)⟩, hS.F ht⟩) hS.2.2 dX12_someNumber_25
  · have c7 := mt (b_eq (rfl : Int32.toInt y6 = _) (show Int32.toInt 3 = 3 from rfl)).mpr c7
    refine lv_iconst (v := 0) hx hb dX12_someNumber_8 (by decide) ?_
    obtain ⟨tk1, tk2, tk3⟩ := tk_mk (n := sz1) hp1.1 hp1.2.1 hp1.2.2.1 (by omega) (by omega) (by omega) (by omega)
    exact W.iret (v := 0) hx hb hr (fun t ht hW => ⟨⟨0, u, rfl, ⟨⟨0, rfl, by first | assumption | omega | rfl | (congr 1; omega)⟩, (by exact tk1), (by omega), hfr⟩, (show va_P (dC, dI) vwCl (rW cs b u) t.heap by rw [ht]; exact hP)⟩, hS.F ht⟩) hS.2.2 dX12_someNumber_9

set_option maxHeartbeats 4000000 in
set_option maxRecDepth 100000 in
theorem r_X12_aVertex (l : Launch) (dC : Nat → ClassId) (dI : Nat → Nat → Nat) (sz : Nat) (cs : Nat → ClassId) (b : Nat → Nat) (u : RS) (a : Nat → Int32) (hA1 : rA u 1 = a) (tx : Nat → Int32) (hAc16 : rA u 16 = tx) (sz1 : Nat) (hF11 : rF u 11 = nI sz1) (hp0 : BG a) (hp1 : TK u sz1) (hp2 : sz1 ≤ 700) : Met l yX12_aVertex [.code yX12_aVertex cX12_aVertex 1 (some .boolean)] ({ frames := 3, cells := 0, slots := 0, locals := 120 }) (PR [.ref (b 0)] sz dC dI cs b u) (va_Qi (fun (r : Int32) (u' : RS) => ((r = 1 ∧ (fN u 14 ≤ fN u' 13)) ∨ (r = 0 ∧ (True))) ∧ (BG (rA u' 1)) ∧ (∀ k, 554 ≤ k → (rA u' 1) k = a k) ∧ (TK u' sz1) ∧ (fN u 13 ≤ fN u' 13) ∧ FR [1] [12, 13, 14, 15, 16, 17, 18] false u u') (BR dC dI cs b) (AR b sz)) 0 0 (AR b sz) := by
  refine Met.ofW (cc := cX12_aVertex) (maxL := 1) (ret := (some .boolean)) (by decide) rfl ?_
  intro p e s m args below meth c s₁ B hml hv
  obtain ⟨rfl, hsz, hP, hK, hJ, hE⟩ := hv
  have hx := B.exec
  have hb := B.bytes
  have hr := B.returns
  have hown : s.vm.findClass RX12 = some m.cls := findClass_of_methodNamed B.named
  have hlocks := B.notSynchronized
  subst hsz
  have hAL : ∀ i, i < 108 → AR b s.heap.size (b i) := fun i h => Or.inl ⟨i, h, rfl⟩
  have hA : ∀ q : Nat, s.heap.size ≤ q → AR b s.heap.size q := fun q h => Or.inr h
  have hS : va_S (AR b s.heap.size) s.heap s.heap [] := va_S.rf
  have hfr : FR [1] [12, 13, 14, 15, 16, 17, 18] false u u := FR.refl
  have hl := lv_entry ([.ref (b 0)]) (n := 1) (Nat.le_of_ble_eq_true rfl)
  rw [lg_entry_eq]
  generalize (lg_sl ([.ref (b 0)]) ++ List.replicate (1 - (lg_sl ([.ref (b 0)])).length) Slot.unset).toArray = ls at hl ⊢
  have hl : lv_has ls 1 [(0, .ref (b 0))] := hl
  have hB := hp0
  have hG := bg_g hp0
  have ha1 := gg_le hG
  have ha1b := bg_w hp0
  have htk3 := hp1.2.2.2
  refine lv_aload_n hx hb dX12_aVertex_0 rfl (lv_at hl 0 rfl) ?_
  refine lv_iconst (v := 0) hx hb dX12_aVertex_1 (by decide) ?_
  refine vp_callSi (va_Run.run (va_runV (As := [.int (nI 0)]) (rest := []) ⟨hx, hb, hml, hown, noTs⟩ (r_X12_of l dC dI s.heap.size cs b u a hA1 0 (by first | assumption | omega | rfl | (congr 1; omega))) ⟨cbE 1 (wd_1536 hE) (wd_126 hE) (wd_1533 hE) rfl rfl (by decide +kernel) ⟨Nat.le_of_ble_eq_true rfl, Nat.le_of_ble_eq_true rfl⟩, (wd_1535 hE), (wd_61 hE)⟩ ⟨PR.blind, r_recv hK hP rfl, (r_pre (av := [.ref (b 0), .int (nI 0)]) hK hP hJ hE)⟩ rfl rfl hl.1 rfl (lv_room (Nat.le_of_ble_eq_true rfl)) dX12_aVertex_2 ⟨Nat.le_of_ble_eq_true rfl, Nat.le_of_ble_eq_true rfl⟩)) (fun r5 hr5 => ?_)
  have hr5 := hr5.trans (gg_v hG)
  subst hr5
  refine lv_bipush (v := 6) hx hb dX12_aVertex_5 (by decide) ?_
  refine lv_icmp_ne (tgt := 17) hx hb dX12_aVertex_7 (by decide) (fun c6 => ?_) (fun c6 => ?_)
  · have c6 := mt (b_eq (nI_toInt (n := vN a) (by omega)) (show Int32.toInt 6 = 6 from rfl)).mpr c6
    refine lv_aload_n hx hb dX12_aVertex_17 rfl (lv_at hl 0 rfl) ?_
    refine rc_v hAL hS hA (va_runV (As := []) (rest := []) ⟨hx, hb, hml, hown, noTs⟩ (r_X12_ahead l dC dI s.heap.size cs b u tx hAc16 sz1 (fN u 14) (fN u 15) hF11 hp1.2.1 hp1.2.2.1 (by first | assumption | omega | rfl | (congr 1; omega)) (by first | assumption | omega | rfl | (congr 1; omega)) (by first | assumption | omega | rfl | (congr 1; omega))) ⟨cbE 0 (wd_1506 hE) (wd_126 hE) (wd_1503 hE) rfl rfl (by decide +kernel) ⟨Nat.le_of_ble_eq_true rfl, Nat.le_of_ble_eq_true rfl⟩, (wd_1505 hE), (wd_56 hE)⟩ ⟨PR.blind, r_recv hK hP rfl, (r_pre (av := [.ref (b 0)]) hK hP hJ hE)⟩ rfl rfl hl.1 rfl (lv_room (Nat.le_of_ble_eq_true rfl)) dX12_aVertex_18 ⟨Nat.le_of_ble_eq_true rfl, Nat.le_of_ble_eq_true rfl⟩) (fun u7 H locs hpo7 hP hS => ?_)
    obtain ⟨h7_0, h7_1, h7_2, hq7⟩ := hpo7
    have hA8 := (hq7.1 1 List.not_mem_nil).trans hA1
    have hA9 := (hq7.1 16 List.not_mem_nil).trans hAc16
    have hF10x := (hq7.2.1 11 (by decide)).trans hF11
    have hfr := FR.step hfr hq7 (fun _ h => absurd h List.not_mem_nil) (by decide) (fun h => rfl)
    have htk11 := h7_0.2.2.2
    refine lv_aload_n hx hb dX12_aVertex_21 rfl (lv_at hl 0 rfl) ?_
    refine rc_i hAL hS hA (va_runV (As := []) (rest := []) ⟨hx, hb, hml, hown, noTs⟩ (r_X12_isNumber l dC dI H.size cs b u7) ⟨cbE 0 (wd_1544 hE) (wd_126 hE) (wd_1541 hE) rfl rfl (by decide +kernel) ⟨Nat.le_of_ble_eq_true rfl, Nat.le_of_ble_eq_true rfl⟩, (wd_1543 hE), (wd_63 hE)⟩ ⟨PR.blind, r_recv hK hP rfl, (r_pre (av := [.ref (b 0)]) hK hP hJ hE)⟩ rfl rfl hl.1 rfl (lv_room (Nat.le_of_ble_eq_true rfl)) dX12_aVertex_22 ⟨Nat.le_of_ble_eq_true rfl, Nat.le_of_ble_eq_true rfl⟩) (fun r12 u12 H locs hpo12 hP hS => ?_)
    obtain ⟨hr12, hq12⟩ := hpo12
    have hA13 := (hq12.1 1 List.not_mem_nil).trans hA8
    have hA14 := (hq12.1 16 List.not_mem_nil).trans hA9
    have hF15x := (hq12.2.1 11 (by decide)).trans hF10x
    have hF16x := (hq12.2.1 13 (by decide)).trans h7_0.1
    have hF17x := (hq12.2.1 14 (by decide)).trans h7_0.2.1
    have hF18x := (hq12.2.1 15 (by decide)).trans h7_0.2.2.1
    have hfr := FR.step hfr hq12 (fun _ h => absurd h List.not_mem_nil) (by decide) (fun h => rfl)
    rcases hr12 with ⟨rfl, hb12⟩ | ⟨rfl, hb12⟩
    · refine lv_if_ne (tgt := 30) hx hb dX12_aVertex_25 (by decide) (fun c19 => ?_) (fun c19 => absurd c19 (by decide))
      refine lv_aload_n hx hb dX12_aVertex_30 rfl (lv_at hl 0 rfl) ?_
      refine r_get (v := .int (nI (fN u7 15))) hx hb (ly_X12 hE) hown hK hP rfl 15 (by decide) (wd_1396 hE) (fun _ h9 => h9) (congrArg (fun z : Int32 => some (Value.int z)) hF18x) dX12_aVertex_31 ?_
      refine lv_iconst (v := 1) hx hb dX12_aVertex_34 (by decide) ?_
      refine lv_bipush (v := 60) hx hb dX12_aVertex_35 (by decide) ?_
      refine vp_callSi (va_Run.run (va_runS (As := [.int (nI (fN u7 15)), .int 1, .int 60]) (rest := []) ⟨hx, hb, hml, hown, noTs⟩ (r_X12_isFrom l dC dI H.size cs b u12 a hA13 (nI (fN u7 15)) 1 60 ((1 : Int)) ((60 : Int)) (show Int32.toInt 1 = 1 from rfl) (show Int32.toInt 60 = 60 from rfl)) ⟨cbE 3 (wd_1494 hE) (wd_126 hE) (wd_1492 hE) rfl rfl (by decide +kernel) ⟨Nat.le_of_ble_eq_true rfl, Nat.le_of_ble_eq_true rfl⟩, (wd_1493 hE)⟩ ⟨PR.blind, (r_pre (av := [.int (nI (fN u7 15)), .int 1, .int 60]) hK hP hJ hE)⟩ rfl rfl hl.1 rfl (lv_room (Nat.le_of_ble_eq_true rfl)) dX12_aVertex_37 ⟨Nat.le_of_ble_eq_true rfl, Nat.le_of_ble_eq_true rfl⟩)) (fun r20 hr20 => ?_)
      rcases hr20 with ⟨rfl, hb20⟩ | ⟨rfl, hb20⟩
      · have hv15 := nI_toInt (n := (fN u7 15)) (by omega)
        refine lv_if_ne (tgt := 49) hx hb dX12_aVertex_40 (by decide) (fun c21 => ?_) (fun c21 => absurd c21 (by decide))
        refine lv_aload_n hx hb dX12_aVertex_49 rfl (lv_at hl 0 rfl) ?_
        refine r_get (v := .ref (b 1)) hx hb (ly_X12 hE) hown hK hP rfl 0 (by decide) (wd_1381 hE) (fun _ h9 => h9) rfl dX12_aVertex_50 ?_
        refine lv_iconst (v := 4) hx hb dX12_aVertex_53 (by decide) ?_
        refine lv_aload_n hx hb dX12_aVertex_54 rfl (lv_at hl 0 rfl) ?_
        refine lv_iconst (v := 0) hx hb dX12_aVertex_55 (by decide) ?_
        refine vp_callSi (va_Run.run (va_runV (As := [.int (nI 0)]) (rest := [.int 4, .ref (b 1)]) ⟨hx, hb, hml, hown, noTs⟩ (r_X12_of l dC dI H.size cs b u12 a hA13 0 (by first | assumption | omega | rfl | (congr 1; omega))) ⟨cbE 1 (wd_1536 hE) (wd_126 hE) (wd_1533 hE) rfl rfl (by decide +kernel) ⟨Nat.le_of_ble_eq_true rfl, Nat.le_of_ble_eq_true rfl⟩, (wd_1535 hE), (wd_61 hE)⟩ ⟨PR.blind, r_recv hK hP rfl, (r_pre (av := [.ref (b 0), .int (nI 0)]) hK hP hJ hE)⟩ rfl rfl hl.1 rfl (lv_room (Nat.le_of_ble_eq_true rfl)) dX12_aVertex_56 ⟨Nat.le_of_ble_eq_true rfl, Nat.le_of_ble_eq_true rfl⟩)) (fun r22 hr22 => ?_)
        have hr22 := hr22.trans (gg_v hG)
        subst hr22
        refine lv_iadd hx hb dX12_aVertex_59 ?_
        refine W.eq (g2 := F0 m 60 ls [.int (nI (4 + (vN a))), .ref (b 1)]) (congrArg (fun z : Int32 => F0 m 60 ls (.int z :: [.ref (b 1)])) (nI_add 4 (vN a))) ?_
        refine lv_aload_n hx hb dX12_aVertex_60 rfl (lv_at hl 0 rfl) ?_
        refine r_get (v := .int (nI (fN u7 15))) hx hb (ly_X12 hE) hown hK hP rfl 15 (by decide) (wd_1396 hE) (fun _ h9 => h9) (congrArg (fun z : Int32 => some (Value.int z)) hF18x) dX12_aVertex_61 ?_
        refine r_iast (j := 1) (k := 4 + (vN a)) (n := 7202) (x := nI (fN u7 15)) hx hb hK hP hJ hAL hS (by decide) (fun _ => rfl) hA13 (by omega) (by decide) dX12_aVertex_64 (fun u23 H locs hs23 hq23 hP hS => ?_)
        obtain ⟨w23, hw23⟩ : ∃ g, g = upd a (4 + (vN a)) (nI (fN u7 15)) := ⟨_, rfl⟩
        rw [← hw23] at hs23
        have hA24 := (hq23.1 16 (by decide)).trans hA14
        have hF25x := (hq23.2.1 11 List.not_mem_nil).trans hF15x
        have hF26x := (hq23.2.1 13 List.not_mem_nil).trans hF16x
        have hF27x := (hq23.2.1 14 List.not_mem_nil).trans hF17x
        have hF28x := (hq23.2.1 15 List.not_mem_nil).trans hF18x
        have hfr := FR.step hfr hq23 (by decide) (fun _ h => absurd h List.not_mem_nil) (fun h => rfl)
        have K1 := hw23
        refine lv_aload_n hx hb dX12_aVertex_65 rfl (lv_at hl 0 rfl) ?_
        refine r_get (v := .ref (b 1)) hx hb (ly_X12 hE) hown hK hP rfl 0 (by decide) (wd_1381 hE) (fun _ h9 => h9) rfl dX12_aVertex_66 ?_
        refine lv_iconst (v := 0) hx hb dX12_aVertex_69 (by decide) ?_
        refine lv_dup2_11 hx hb dX12_aVertex_70 rfl rfl ?_
        refine r_iald (j := 1) (k := 0) (n := 7202) (x := nI (vN a)) hx hb hK hP (by decide) rfl (by decide) (by decide) (by rw [hs23]; exact (show w23 0 = nI (vN a) by rw [K1, pk_un (by omega)]; exact gg_v hG)) dX12_aVertex_71 ?_
        refine lv_iconst (v := 1) hx hb dX12_aVertex_72 (by decide) ?_
        refine lv_iadd hx hb dX12_aVertex_73 ?_
        refine W.eq (g2 := F0 m 74 ls [.int (nI ((vN a) + 1)), .int 0, .ref (b 1)]) (congrArg (fun z : Int32 => F0 m 74 ls (.int z :: [.int 0, .ref (b 1)])) (nI_add (vN a) 1)) ?_
        refine r_iast (j := 1) (k := 0) (n := 7202) (x := nI ((vN a) + 1)) hx hb hK hP hJ hAL hS (by decide) (fun _ => rfl) hs23 (by decide) (by decide) dX12_aVertex_74 (fun u30 H locs hs30 hq30 hP hS => ?_)
        obtain ⟨w30, hw30⟩ : ∃ g, g = upd w23 0 (nI ((vN a) + 1)) := ⟨_, rfl⟩
        rw [← hw30] at hs30
        have hA31 := (hq30.1 16 (by decide)).trans hA24
        have hF32x := (hq30.2.1 11 List.not_mem_nil).trans hF25x
        have hF33x := (hq30.2.1 13 List.not_mem_nil).trans hF26x
        have hF34x := (hq30.2.1 14 List.not_mem_nil).trans hF27x
        have hF35x := (hq30.2.1 15 List.not_mem_nil).trans hF28x
        have hfr := FR.step hfr hq30 (by decide) (fun _ h => absurd h List.not_mem_nil) (fun h => rfl)
        have bgx := bg_vertex hp0 (by omega) (by omega) (by omega) K1 hw30
        have bgo : ∀ k, 554 ≤ k → w30 k = a k := fun k hk => by rw [hw30, pk_un (by omega), K1, pk_un (by omega)]
        refine lv_aload_n hx hb dX12_aVertex_75 rfl (lv_at hl 0 rfl) ?_
        refine rc_i hAL hS hA (va_runV (As := []) (rest := []) ⟨hx, hb, hml, hown, noTs⟩ (r_X12_takesOn l dC dI H.size cs b u30 tx hA31 sz1 (fN u7 14) (fN u7 15) hF32x hF34x hF35x (by first | assumption | omega | rfl | (congr 1; omega)) (by first | assumption | omega | rfl | (congr 1; omega)) (by first | assumption | omega | rfl | (congr 1; omega))) ⟨cbE 0 (wd_1548 hE) (wd_126 hE) (wd_1545 hE) rfl rfl (by decide +kernel) ⟨Nat.le_of_ble_eq_true rfl, Nat.le_of_ble_eq_true rfl⟩, (wd_1547 hE), (wd_64 hE)⟩ ⟨PR.blind, r_recv hK hP rfl, (r_pre (av := [.ref (b 0)]) hK hP hJ hE)⟩ rfl rfl hl.1 rfl (lv_room (Nat.le_of_ble_eq_true rfl)) dX12_aVertex_76 ⟨Nat.le_of_ble_eq_true rfl, Nat.le_of_ble_eq_true rfl⟩) (fun r36 u36 H locs hpo36 hP hS => ?_)
        obtain ⟨hr36, h36_0, h36_1, h36_2, hq36⟩ := hpo36
        have hA37 := (hq36.1 16 List.not_mem_nil).trans hA31
        have hA38 := (hq36.1 1 List.not_mem_nil).trans hs30
        have hF39x := (hq36.2.1 11 (by decide)).trans hF32x
        have hfr := FR.step hfr hq36 (fun _ h => absurd h List.not_mem_nil) (by decide) (fun h => rfl)
        have htk40 := h36_0.2.2.2
        subst hr36
        obtain ⟨tk1, tk2, tk3⟩ := tk_mk (n := sz1) h36_0.1 h36_0.2.1 h36_0.2.2.1 (by omega) (by omega) (by omega) (by omega)
        exact W.zret (v := 1) hx hb hr rfl (fun t ht hW => ⟨⟨1, u36, rfl, ⟨Or.inl ⟨rfl, by first | assumption | omega | rfl | (congr 1; omega)⟩, (by first | (rw [hA38]; done) | (rw [hA38]; first | assumption | exact bgx)), (by first | (rw [hA38]; done) | (rw [hA38]; first | (intro k _; rfl) | exact bgo)), (by exact tk1), (by omega), hfr⟩, (show va_P (dC, dI) vwCl (rW cs b u36) t.heap by rw [ht]; exact hP)⟩, hS.F ht⟩) hS.2.2 dX12_aVertex_79
      · refine lv_if_ne (tgt := 49) hx hb dX12_aVertex_40 (by decide) (fun c41 => absurd c41 (by decide)) (fun c41 => ?_)
        refine lv_aload_n hx hb dX12_aVertex_43 rfl (lv_at hl 0 rfl) ?_
        refine lv_iconst (v := 4) hx hb dX12_aVertex_44 (by decide) ?_
        refine rc_i hAL hS hA (va_runV (As := [.int 4]) (rest := []) ⟨hx, hb, hml, hown, noTs⟩ (r_X12_fails l dC dI H.size cs b u12 4) ⟨cbE 1 (wd_1540 hE) (wd_126 hE) (wd_1537 hE) rfl rfl (by decide +kernel) ⟨Nat.le_of_ble_eq_true rfl, Nat.le_of_ble_eq_true rfl⟩, (wd_1539 hE), (wd_62 hE)⟩ ⟨PR.blind, r_recv hK hP rfl, (r_pre (av := [.ref (b 0), .int 4]) hK hP hJ hE)⟩ rfl rfl hl.1 rfl (lv_room (Nat.le_of_ble_eq_true rfl)) dX12_aVertex_45 ⟨Nat.le_of_ble_eq_true rfl, Nat.le_of_ble_eq_true rfl⟩) (fun r42 u42 H locs hpo42 hP hS => ?_)
        obtain ⟨hr42, hq42⟩ := hpo42
        have hA43 := (hq42.1 1 List.not_mem_nil).trans hA13
        have hA44 := (hq42.1 16 List.not_mem_nil).trans hA14
        have hF45x := (hq42.2.1 11 (by decide)).trans hF15x
        have hF46x := (hq42.2.1 13 (by decide)).trans hF16x
        have hF47x := (hq42.2.1 14 (by decide)).trans hF17x
        have hF48x := (hq42.2.1 15 (by decide)).trans hF18x
        have hfr := FR.step hfr hq42 (fun _ h => absurd h List.not_mem_nil) (by decide) (fun h => rfl)
        subst hr42
        obtain ⟨tk1, tk2, tk3⟩ := tk_mk (n := sz1) hF46x hF47x hF48x (by omega) (by omega) (by omega) (by omega)
        exact W.zret (v := 0) hx hb hr rfl (fun t ht hW => ⟨⟨0, u42, rfl, ⟨Or.inr ⟨rfl, by trivial⟩, (by first | (rw [hA43]; done) | (rw [hA43]; first | assumption | exact bgx)), (by first | (rw [hA43]; done) | (rw [hA43]; first | (intro k _; rfl) | exact bgo)), (by exact tk1), (by omega), hfr⟩, (show va_P (dC, dI) vwCl (rW cs b u42) t.heap by rw [ht]; exact hP)⟩, hS.F ht⟩) hS.2.2 dX12_aVertex_48
    · refine lv_if_ne (tgt := 30) hx hb dX12_aVertex_25 (by decide) (fun c49 => absurd c49 (by decide)) (fun c49 => ?_)
      refine lv_iconst (v := 0) hx hb dX12_aVertex_28 (by decide) ?_
      obtain ⟨tk1, tk2, tk3⟩ := tk_mk (n := sz1) hF16x hF17x hF18x (by omega) (by omega) (by omega) (by omega)
      exact W.zret (v := 0) hx hb hr rfl (fun t ht hW => ⟨⟨0, u12, rfl, ⟨Or.inr ⟨rfl, by trivial⟩, (by first | (rw [hA13]; done) | (rw [hA13]; first | assumption | exact bgx)), (by first | (rw [hA13]; done) | (rw [hA13]; first | (intro k _; rfl) | exact bgo)), (by exact tk1), (by omega), hfr⟩, (show va_P (dC, dI) vwCl (rW cs b u12) t.heap by rw [ht]; exact hP)⟩, hS.F ht⟩) hS.2.2 dX12_aVertex_29
  · have c6 := (b_eq (nI_toInt (n := vN a) (by omega)) (show Int32.toInt 6 = 6 from rfl)).mp c6
    refine lv_aload_n hx hb dX12_aVertex_10 rfl (lv_at hl 0 rfl) ?_
    refine lv_bipush (v := 6) hx hb dX12_aVertex_11 (by decide) ?_
    refine rc_i hAL hS hA (va_runV (As := [.int 6]) (rest := []) ⟨hx, hb, hml, hown, noTs⟩ (r_X12_fails l dC dI s.heap.size cs b u 6) ⟨cbE 1 (wd_1540 hE) (wd_126 hE) (wd_1537 hE) rfl rfl (by decide +kernel) ⟨Nat.le_of_ble_eq_true rfl, Nat.le_of_ble_eq_true rfl⟩, (wd_1539 hE), (wd_62 hE)⟩ ⟨PR.blind, r_recv hK hP rfl, (r_pre (av := [.ref (b 0), .int 6]) hK hP hJ hE)⟩ rfl rfl hl.1 rfl (lv_room (Nat.le_of_ble_eq_true rfl)) dX12_aVertex_13 ⟨Nat.le_of_ble_eq_true rfl, Nat.le_of_ble_eq_true rfl⟩) (fun r50 u50 H locs hpo50 hP hS => ?_)
    obtain ⟨hr50, hq50⟩ := hpo50
    have hA51 := (hq50.1 1 List.not_mem_nil).trans hA1
    have hA52 := (hq50.1 16 List.not_mem_nil).trans hAc16
    have hF53x := (hq50.2.1 11 (by decide)).trans hF11
    have hF54x := (hq50.2.1 13 (by decide)).trans hp1.1
    have hF55x := (hq50.2.1 14 (by decide)).trans hp1.2.1
    have hF56x := (hq50.2.1 15 (by decide)).trans hp1.2.2.1
    have hfr := FR.step hfr hq50 (fun _ h => absurd h List.not_mem_nil) (by decide) (fun h => rfl)
    subst hr50
    obtain ⟨tk1, tk2, tk3⟩ := tk_mk (n := sz1) hF54x hF55x hF56x (by omega) (by omega) (by omega) (by omega)
    exact W.zret (v := 0) hx hb hr rfl (fun t ht hW => ⟨⟨0, u50, rfl, ⟨Or.inr ⟨rfl, by trivial⟩, (by first | (rw [hA51]; done) | (rw [hA51]; first | assumption | exact bgx)), (by first | (rw [hA51]; done) | (rw [hA51]; first | (intro k _; rfl) | exact bgo)), (by exact tk1), (by omega), hfr⟩, (show va_P (dC, dI) vwCl (rW cs b u50) t.heap by rw [ht]; exact hP)⟩, hS.F ht⟩) hS.2.2 dX12_aVertex_16

set_option maxHeartbeats 4000000 in
set_option maxRecDepth 100000 in
theorem r_X12_aSide (l : Launch) (dC : Nat → ClassId) (dI : Nat → Nat → Nat) (sz : Nat) (cs : Nat → ClassId) (b : Nat → Nat) (u : RS) (a : Nat → Int32) (hA1 : rA u 1 = a) (tx : Nat → Int32) (hAc16 : rA u 16 = tx) (at1 : Nat) (sz1 : Nat) (hF11 : rF u 11 = nI sz1) (hp0 : BG a) (hp1 : TK u sz1) (hp2 : sz1 ≤ 700) (hp3 : 10 + 4 * eN a ≤ at1) (hp4 : at1 + 1 < 34) : Met l yX12_aSide [.code yX12_aSide cX12_aSide 2 (some .boolean)] ({ frames := 2, cells := 0, slots := 0, locals := 80 }) (PR [.ref (b 0), .int (nI at1)] sz dC dI cs b u) (va_Qi (fun (r : Int32) (u' : RS) => ((r = 1 ∧ ((rA u' 1) at1 = nI (qn (rA u' 1) at1) ∧ qn (rA u' 1) at1 < vN a ∧ (rA u' 1) (at1 + 1) = nI (qn (rA u' 1) (at1 + 1)) ∧ 1 ≤ qn (rA u' 1) (at1 + 1) ∧ qn (rA u' 1) (at1 + 1) ≤ 9999 ∧ (∃ c1, od a (qn (rA u' 1) at1) = c1 * qn (rA u' 1) (at1 + 1)) ∧ fN u 14 ≤ fN u' 13)) ∨ (r = 0 ∧ (True))) ∧ (BG (rA u' 1)) ∧ (vN (rA u' 1) = vN a) ∧ (eN (rA u' 1) = eN a) ∧ (∀ v, v < vN a → od (rA u' 1) v = od a v) ∧ (∀ k, k ≠ at1 → k ≠ at1 + 1 → (rA u' 1) k = a k) ∧ (TK u' sz1) ∧ (fN u 13 ≤ fN u' 13) ∧ FR [1] [12, 13, 14, 15, 16, 17, 18] false u u') (BR dC dI cs b) (AR b sz)) 0 0 (AR b sz) := by
  refine Met.ofW (cc := cX12_aSide) (maxL := 2) (ret := (some .boolean)) (by decide) rfl ?_
  intro p e s m args below meth c s₁ B hml hv
  obtain ⟨rfl, hsz, hP, hK, hJ, hE⟩ := hv
  have hx := B.exec
  have hb := B.bytes
  have hr := B.returns
  have hown : s.vm.findClass RX12 = some m.cls := findClass_of_methodNamed B.named
  have hlocks := B.notSynchronized
  subst hsz
  have hAL : ∀ i, i < 108 → AR b s.heap.size (b i) := fun i h => Or.inl ⟨i, h, rfl⟩
  have hA : ∀ q : Nat, s.heap.size ≤ q → AR b s.heap.size q := fun q h => Or.inr h
  have hS : va_S (AR b s.heap.size) s.heap s.heap [] := va_S.rf
  have hfr : FR [1] [12, 13, 14, 15, 16, 17, 18] false u u := FR.refl
  have hl := lv_entry ([.ref (b 0), .int (nI at1)]) (n := 2) (Nat.le_of_ble_eq_true rfl)
  rw [lg_entry_eq]
  generalize (lg_sl ([.ref (b 0), .int (nI at1)]) ++ List.replicate (2 - (lg_sl ([.ref (b 0), .int (nI at1)])).length) Slot.unset).toArray = ls at hl ⊢
  have hl : lv_has ls 2 [(0, .ref (b 0)), (1, .int (nI at1))] := hl
  have hB := hp0
  have hG := bg_g hp0
  have ha1 := gg_le hG
  have ha1b := bg_w hp0
  have htk3 := hp1.2.2.2
  refine lv_aload_n hx hb dX12_aSide_0 rfl (lv_at hl 0 rfl) ?_
  refine rc_i hAL hS hA (va_runV (As := []) (rest := []) ⟨hx, hb, hml, hown, noTs⟩ (r_X12_isNumber l dC dI s.heap.size cs b u) ⟨cbE 0 (wd_1544 hE) (wd_126 hE) (wd_1541 hE) rfl rfl (by decide +kernel) ⟨Nat.le_of_ble_eq_true rfl, Nat.le_of_ble_eq_true rfl⟩, (wd_1543 hE), (wd_63 hE)⟩ ⟨PR.blind, r_recv hK hP rfl, (r_pre (av := [.ref (b 0)]) hK hP hJ hE)⟩ rfl rfl hl.1 rfl (lv_room (Nat.le_of_ble_eq_true rfl)) dX12_aSide_1 ⟨Nat.le_of_ble_eq_true rfl, Nat.le_of_ble_eq_true rfl⟩) (fun r7 u7 H locs hpo7 hP hS => ?_)
  obtain ⟨hr7, hq7⟩ := hpo7
  have hA8 := (hq7.1 1 List.not_mem_nil).trans hA1
  have hA9 := (hq7.1 16 List.not_mem_nil).trans hAc16
  have hF10x := (hq7.2.1 11 (by decide)).trans hF11
  have hF11x := (hq7.2.1 13 (by decide)).trans hp1.1
  have hF12x := (hq7.2.1 14 (by decide)).trans hp1.2.1
  have hF13x := (hq7.2.1 15 (by decide)).trans hp1.2.2.1
  have hfr := FR.step hfr hq7 (fun _ h => absurd h List.not_mem_nil) (by decide) (fun h => rfl)
  rcases hr7 with ⟨rfl, hb7⟩ | ⟨rfl, hb7⟩
  · refine lv_if_ne (tgt := 9) hx hb dX12_aSide_4 (by decide) (fun c14 => ?_) (fun c14 => absurd c14 (by decide))
    refine lv_aload_n hx hb dX12_aSide_9 rfl (lv_at hl 0 rfl) ?_
    refine lv_aload_n hx hb dX12_aSide_10 rfl (lv_at hl 0 rfl) ?_
    refine r_get (v := .int (nI (fN u 15))) hx hb (ly_X12 hE) hown hK hP rfl 15 (by decide) (wd_1396 hE) (fun _ h9 => h9) (congrArg (fun z : Int32 => some (Value.int z)) hF13x) dX12_aSide_11 ?_
    refine vp_callSi (va_Run.run (va_runV (As := [.int (nI (fN u 15))]) (rest := []) ⟨hx, hb, hml, hown, noTs⟩ (r_X12_isVertex l dC dI H.size cs b u7 a hA8 (nI (fN u 15)) (by first | assumption | omega | rfl | (congr 1; omega))) ⟨cbE 1 (wd_1560 hE) (wd_126 hE) (wd_1557 hE) rfl rfl (by decide +kernel) ⟨Nat.le_of_ble_eq_true rfl, Nat.le_of_ble_eq_true rfl⟩, (wd_1559 hE), (wd_67 hE)⟩ ⟨PR.blind, r_recv hK hP rfl, (r_pre (av := [.ref (b 0), .int (nI (fN u 15))]) hK hP hJ hE)⟩ rfl rfl hl.1 rfl (lv_room (Nat.le_of_ble_eq_true rfl)) dX12_aSide_14 ⟨Nat.le_of_ble_eq_true rfl, Nat.le_of_ble_eq_true rfl⟩)) (fun r15 hr15 => ?_)
    rcases hr15 with ⟨rfl, hb15⟩ | ⟨rfl, hb15⟩
    · obtain ⟨n15, hbe15_1, hb15⟩ := hb15
      have hbe15_1 := (nI_eq (by omega) (by omega)).mp hbe15_1
      refine lv_if_ne (tgt := 26) hx hb dX12_aSide_17 (by decide) (fun c16 => ?_) (fun c16 => absurd c16 (by decide))
      refine lv_aload_n hx hb dX12_aSide_26 rfl (lv_at hl 0 rfl) ?_
      refine r_get (v := .ref (b 1)) hx hb (ly_X12 hE) hown hK hP rfl 0 (by decide) (wd_1381 hE) (fun _ h9 => h9) rfl dX12_aSide_27 ?_
      refine lv_iload_n hx hb dX12_aSide_30 rfl (lv_at hl 1 rfl) ?_
      refine lv_aload_n hx hb dX12_aSide_31 rfl (lv_at hl 0 rfl) ?_
      refine r_get (v := .int (nI (fN u 15))) hx hb (ly_X12 hE) hown hK hP rfl 15 (by decide) (wd_1396 hE) (fun _ h9 => h9) (congrArg (fun z : Int32 => some (Value.int z)) hF13x) dX12_aSide_32 ?_
      refine r_iast (j := 1) (k := at1) (n := 7202) (x := nI (fN u 15)) hx hb hK hP hJ hAL hS (by decide) (fun _ => rfl) hA8 (by omega) (by decide) dX12_aSide_35 (fun u17 H locs hs17 hq17 hP hS => ?_)
      obtain ⟨w17, hw17⟩ : ∃ g, g = upd a at1 (nI (fN u 15)) := ⟨_, rfl⟩
      rw [← hw17] at hs17
      have hA18 := (hq17.1 16 (by decide)).trans hA9
      have hF19x := (hq17.2.1 11 List.not_mem_nil).trans hF10x
      have hF20x := (hq17.2.1 13 List.not_mem_nil).trans hF11x
      have hF21x := (hq17.2.1 14 List.not_mem_nil).trans hF12x
      have hF22x := (hq17.2.1 15 List.not_mem_nil).trans hF13x
      have hfr := FR.step hfr hq17 (by decide) (fun _ h => absurd h List.not_mem_nil) (fun h => rfl)
      have K1 := hw17
      obtain ⟨b1, b2, b3, b4, o1⟩ := bg_free hp0 (by omega) (by omega) hw17
      have g1 := bg_g b1
      have s1 : ∀ k, k ≠ at1 → w17 k = a k := fun k hk => by rw [hw17, pk_un hk]
      have VVb : (fN u 15) ≤ 9999 := by omega
      refine lv_aload_n hx hb dX12_aSide_36 rfl (lv_at hl 0 rfl) ?_
      refine rc_v hAL hS hA (va_runV (As := []) (rest := []) ⟨hx, hb, hml, hown, noTs⟩ (r_X12_ahead l dC dI H.size cs b u17 tx hA18 sz1 (fN u 14) (fN u 15) hF19x hF21x hF22x (by first | assumption | omega | rfl | (congr 1; omega)) (by first | assumption | omega | rfl | (congr 1; omega)) (by first | assumption | omega | rfl | (congr 1; omega))) ⟨cbE 0 (wd_1506 hE) (wd_126 hE) (wd_1503 hE) rfl rfl (by decide +kernel) ⟨Nat.le_of_ble_eq_true rfl, Nat.le_of_ble_eq_true rfl⟩, (wd_1505 hE), (wd_56 hE)⟩ ⟨PR.blind, r_recv hK hP rfl, (r_pre (av := [.ref (b 0)]) hK hP hJ hE)⟩ rfl rfl hl.1 rfl (lv_room (Nat.le_of_ble_eq_true rfl)) dX12_aSide_37 ⟨Nat.le_of_ble_eq_true rfl, Nat.le_of_ble_eq_true rfl⟩) (fun u23 H locs hpo23 hP hS => ?_)
      obtain ⟨h23_0, h23_1, h23_2, hq23⟩ := hpo23
      have hA24 := (hq23.1 16 List.not_mem_nil).trans hA18
      have hA25 := (hq23.1 1 List.not_mem_nil).trans hs17
      have hF26x := (hq23.2.1 11 (by decide)).trans hF19x
      have hfr := FR.step hfr hq23 (fun _ h => absurd h List.not_mem_nil) (by decide) (fun h => rfl)
      have htk27 := h23_0.2.2.2
      refine lv_aload_n hx hb dX12_aSide_40 rfl (lv_at hl 0 rfl) ?_
      refine rc_i hAL hS hA (va_runV (As := []) (rest := []) ⟨hx, hb, hml, hown, noTs⟩ (r_X12_isNumber l dC dI H.size cs b u23) ⟨cbE 0 (wd_1544 hE) (wd_126 hE) (wd_1541 hE) rfl rfl (by decide +kernel) ⟨Nat.le_of_ble_eq_true rfl, Nat.le_of_ble_eq_true rfl⟩, (wd_1543 hE), (wd_63 hE)⟩ ⟨PR.blind, r_recv hK hP rfl, (r_pre (av := [.ref (b 0)]) hK hP hJ hE)⟩ rfl rfl hl.1 rfl (lv_room (Nat.le_of_ble_eq_true rfl)) dX12_aSide_41 ⟨Nat.le_of_ble_eq_true rfl, Nat.le_of_ble_eq_true rfl⟩) (fun r28 u28 H locs hpo28 hP hS => ?_)
      obtain ⟨hr28, hq28⟩ := hpo28
      have hA29 := (hq28.1 16 List.not_mem_nil).trans hA24
      have hA30 := (hq28.1 1 List.not_mem_nil).trans hA25
      have hF31x := (hq28.2.1 11 (by decide)).trans hF26x
      have hF32x := (hq28.2.1 13 (by decide)).trans h23_0.1
      have hF33x := (hq28.2.1 14 (by decide)).trans h23_0.2.1
      have hF34x := (hq28.2.1 15 (by decide)).trans h23_0.2.2.1
      have hfr := FR.step hfr hq28 (fun _ h => absurd h List.not_mem_nil) (by decide) (fun h => rfl)
      rcases hr28 with ⟨rfl, hb28⟩ | ⟨rfl, hb28⟩
      · refine lv_if_ne (tgt := 49) hx hb dX12_aSide_44 (by decide) (fun c35 => ?_) (fun c35 => absurd c35 (by decide))
        refine lv_aload_n hx hb dX12_aSide_49 rfl (lv_at hl 0 rfl) ?_
        refine r_get (v := .int (nI (fN u23 15))) hx hb (ly_X12 hE) hown hK hP rfl 15 (by decide) (wd_1396 hE) (fun _ h9 => h9) (congrArg (fun z : Int32 => some (Value.int z)) hF34x) dX12_aSide_50 ?_
        refine lv_if_eq (tgt := 73) hx hb dX12_aSide_53 (by decide) (fun c36 => ?_) (fun c36 => ?_)
        · have c36 := (b_eq (nI_toInt (n := fN u23 15) (by omega)) (show Int32.toInt 0 = 0 from rfl)).mp c36
          refine lv_aload_n hx hb dX12_aSide_73 rfl (lv_at hl 0 rfl) ?_
          refine lv_iconst (v := 4) hx hb dX12_aSide_74 (by decide) ?_
          refine rc_i hAL hS hA (va_runV (As := [.int 4]) (rest := []) ⟨hx, hb, hml, hown, noTs⟩ (r_X12_fails l dC dI H.size cs b u28 4) ⟨cbE 1 (wd_1540 hE) (wd_126 hE) (wd_1537 hE) rfl rfl (by decide +kernel) ⟨Nat.le_of_ble_eq_true rfl, Nat.le_of_ble_eq_true rfl⟩, (wd_1539 hE), (wd_62 hE)⟩ ⟨PR.blind, r_recv hK hP rfl, (r_pre (av := [.ref (b 0), .int 4]) hK hP hJ hE)⟩ rfl rfl hl.1 rfl (lv_room (Nat.le_of_ble_eq_true rfl)) dX12_aSide_75 ⟨Nat.le_of_ble_eq_true rfl, Nat.le_of_ble_eq_true rfl⟩) (fun r37 u37 H locs hpo37 hP hS => ?_)
          obtain ⟨hr37, hq37⟩ := hpo37
          have hA38 := (hq37.1 16 List.not_mem_nil).trans hA29
          have hA39 := (hq37.1 1 List.not_mem_nil).trans hA30
          have hF40x := (hq37.2.1 11 (by decide)).trans hF31x
          have hF41x := (hq37.2.1 13 (by decide)).trans hF32x
          have hF42x := (hq37.2.1 14 (by decide)).trans hF33x
          have hF43x := (hq37.2.1 15 (by decide)).trans hF34x
          have hfr := FR.step hfr hq37 (fun _ h => absurd h List.not_mem_nil) (by decide) (fun h => rfl)
          subst hr37
          obtain ⟨tk1, tk2, tk3⟩ := tk_mk (n := sz1) hF41x hF42x hF43x (by omega) (by omega) (by omega) (by omega)
          exact W.zret (v := 0) hx hb hr rfl (fun t ht hW => ⟨⟨0, u37, rfl, ⟨Or.inr ⟨rfl, by trivial⟩, (by first | (rw [hA39]; done) | (rw [hA39]; first | assumption | exact b1)), (by first | (rw [hA39]; done) | (rw [hA39]; first | rfl | omega)), (by first | (rw [hA39]; done) | (rw [hA39]; first | rfl | omega)), (by first | (rw [hA39]; done) | (rw [hA39]; first | (intro v _; rfl) | (intro v hv; exact o1 v hv))), (by first | (rw [hA39]; done) | (rw [hA39]; first | (intro k _ _; rfl) | (intro k h1 h2; exact s1 k h1)| (intro k h1 h2; exact s2 k h1 h2))), (by exact tk1), (by omega), hfr⟩, (show va_P (dC, dI) vwCl (rW cs b u37) t.heap by rw [ht]; exact hP)⟩, hS.F ht⟩) hS.2.2 dX12_aSide_78
        · have c36 := mt (b_eq (nI_toInt (n := fN u23 15) (by omega)) (show Int32.toInt 0 = 0 from rfl)).mpr c36
          refine lv_aload_n hx hb dX12_aSide_56 rfl (lv_at hl 0 rfl) ?_
          refine lv_aload_n hx hb dX12_aSide_57 rfl (lv_at hl 0 rfl) ?_
          refine lv_iload_n hx hb dX12_aSide_58 rfl (lv_at hl 1 rfl) ?_
          refine vp_callSi (va_Run.run (va_runV (As := [.int (nI at1)]) (rest := [.ref (b 0)]) ⟨hx, hb, hml, hown, noTs⟩ (r_X12_of l dC dI H.size cs b u28 w17 hA30 at1 (by first | assumption | omega | rfl | (congr 1; omega))) ⟨cbE 1 (wd_1536 hE) (wd_126 hE) (wd_1533 hE) rfl rfl (by decide +kernel) ⟨Nat.le_of_ble_eq_true rfl, Nat.le_of_ble_eq_true rfl⟩, (wd_1535 hE), (wd_61 hE)⟩ ⟨PR.blind, r_recv hK hP rfl, (r_pre (av := [.ref (b 0), .int (nI at1)]) hK hP hJ hE)⟩ rfl rfl hl.1 rfl (lv_room (Nat.le_of_ble_eq_true rfl)) dX12_aSide_59 ⟨Nat.le_of_ble_eq_true rfl, Nat.le_of_ble_eq_true rfl⟩)) (fun r44 hr44 => ?_)
          have hr44 := hr44.trans ((show w17 at1 = nI (fN u 15) by rw [K1]; exact pk_us))
          subst hr44
          refine vp_callSi (va_Run.run (va_runV (As := [.int (nI ((fN u 15)))]) (rest := []) ⟨hx, hb, hml, hown, noTs⟩ (r_X12_orderAt l dC dI H.size cs b u28 w17 hA30 ((fN u 15)) (by first | assumption | omega | rfl | (congr 1; omega)) (by first | assumption | omega | rfl | (congr 1; omega))) ⟨cbE 1 (wd_1564 hE) (wd_126 hE) (wd_1561 hE) rfl rfl (by decide +kernel) ⟨Nat.le_of_ble_eq_true rfl, Nat.le_of_ble_eq_true rfl⟩, (wd_1563 hE), (wd_68 hE)⟩ ⟨PR.blind, r_recv hK hP rfl, (r_pre (av := [.ref (b 0), .int (nI ((fN u 15)))]) hK hP hJ hE)⟩ rfl rfl hl.1 rfl (lv_room (Nat.le_of_ble_eq_true rfl)) dX12_aSide_62 ⟨Nat.le_of_ble_eq_true rfl, Nat.le_of_ble_eq_true rfl⟩)) (fun r45 hr45 => ?_)
          have OV : od w17 (fN u 15) = od a (fN u 15) := o1 _ (by omega)
          have hau45 := (gg_od (a := w17) (v := ((fN u 15))) (by assumption) (by first | assumption | omega)).2
          subst hr45
          refine lv_aload_n hx hb dX12_aSide_65 rfl (lv_at hl 0 rfl) ?_
          refine r_get (v := .int (nI (fN u23 15))) hx hb (ly_X12 hE) hown hK hP rfl 15 (by decide) (wd_1396 hE) (fun _ h9 => h9) (congrArg (fun z : Int32 => some (Value.int z)) hF34x) dX12_aSide_66 ?_
          refine lv_irem hx hb dX12_aSide_69 (nI_ne0 (n := fN u23 15) (by omega) (by omega)) ?_
          refine W.eq (g2 := F0 m 70 ls [.int (nI ((od w17 ((fN u 15))) % (fN u23 15)))]) (congrArg (fun z : Int32 => F0 m 70 ls (.int z :: [])) (pk_rem (a := od w17 ((fN u 15))) (d := fN u23 15) (by omega) (by omega) (by omega))) ?_
          have hmd46 := Nat.mod_lt (od w17 ((fN u 15))) (show 0 < fN u23 15 by omega)
          refine lv_if_eq (tgt := 79) hx hb dX12_aSide_70 (by decide) (fun c47 => ?_) (fun c47 => ?_)
          · have c47 := (b_eq (nI_toInt (n := (od w17 ((fN u 15))) % (fN u23 15)) (by omega)) (show Int32.toInt 0 = 0 from rfl)).mp c47
            refine lv_aload_n hx hb dX12_aSide_79 rfl (lv_at hl 0 rfl) ?_
            refine r_get (v := .ref (b 1)) hx hb (ly_X12 hE) hown hK hP rfl 0 (by decide) (wd_1381 hE) (fun _ h9 => h9) rfl dX12_aSide_80 ?_
            refine lv_iload_n hx hb dX12_aSide_83 rfl (lv_at hl 1 rfl) ?_
            refine lv_iconst (v := 1) hx hb dX12_aSide_84 (by decide) ?_
            refine lv_iadd hx hb dX12_aSide_85 ?_
            refine W.eq (g2 := F0 m 86 ls [.int (nI (at1 + 1)), .ref (b 1)]) (congrArg (fun z : Int32 => F0 m 86 ls (.int z :: [.ref (b 1)])) (nI_add at1 1)) ?_
            refine lv_aload_n hx hb dX12_aSide_86 rfl (lv_at hl 0 rfl) ?_
            refine r_get (v := .int (nI (fN u23 15))) hx hb (ly_X12 hE) hown hK hP rfl 15 (by decide) (wd_1396 hE) (fun _ h9 => h9) (congrArg (fun z : Int32 => some (Value.int z)) hF34x) dX12_aSide_87 ?_
            refine r_iast (j := 1) (k := at1 + 1) (n := 7202) (x := nI (fN u23 15)) hx hb hK hP hJ hAL hS (by decide) (fun _ => rfl) hA30 (by omega) (by decide) dX12_aSide_90 (fun u48 H locs hs48 hq48 hP hS => ?_)
            obtain ⟨w48, hw48⟩ : ∃ g, g = upd w17 (at1 + 1) (nI (fN u23 15)) := ⟨_, rfl⟩
            rw [← hw48] at hs48
            have hA49 := (hq48.1 16 (by decide)).trans hA29
            have hF50x := (hq48.2.1 11 List.not_mem_nil).trans hF31x
            have hF51x := (hq48.2.1 13 List.not_mem_nil).trans hF32x
            have hF52x := (hq48.2.1 14 List.not_mem_nil).trans hF33x
            have hF53x := (hq48.2.1 15 List.not_mem_nil).trans hF34x
            have hfr := FR.step hfr hq48 (by decide) (fun _ h => absurd h List.not_mem_nil) (fun h => rfl)
            have K2 := hw48
            obtain ⟨c1b, c2, c3, c4, o2⟩ := bg_free b1 (by omega) (by omega) hw48
            have b1 := c1b
            have s2 : ∀ k, k ≠ at1 → k ≠ at1 + 1 → w48 k = a k := fun k hk hk2 => by rw [hw48, pk_un hk2]; exact s1 k hk
            have o1 : ∀ v, v < vN a → od w48 v = od a v := fun v hv => (o2 v (by omega)).trans (o1 v hv)
            have C1 : w48 at1 = nI (fN u 15) := by rw [K2, pk_un (by omega), K1]; exact pk_us
            have C2 : w48 (at1 + 1) = nI (fN u23 15) := by rw [K2]; exact pk_us
            have Q1 : qn w48 at1 = (fN u 15) := by unfold qn; rw [C1, nI_clamp (by omega)]
            have Q2 : qn w48 (at1 + 1) = (fN u23 15) := by unfold qn; rw [C2, nI_clamp (by omega)]
            refine lv_iconst (v := 1) hx hb dX12_aSide_91 (by decide) ?_
            obtain ⟨tk1, tk2, tk3⟩ := tk_mk (n := sz1) hF51x hF52x hF53x (by omega) (by omega) (by omega) (by omega)
            exact W.zret (v := 1) hx hb hr rfl (fun t ht hW => ⟨⟨1, u48, rfl, ⟨Or.inl ⟨rfl, by rw [hs48]; refine ⟨by rw [Q1]; exact C1, by omega, by rw [Q2]; exact C2, by omega, by omega, ⟨od a (fN u 15) / (fN u23 15), ?_⟩, by omega⟩; rw [Q1, Q2, ← OV]; exact (Nat.div_mul_cancel (Nat.dvd_of_mod_eq_zero (by omega))).symm⟩, (by first | (rw [hs48]; done) | (rw [hs48]; first | assumption | exact b1)), (by first | (rw [hs48]; done) | (rw [hs48]; first | rfl | omega)), (by first | (rw [hs48]; done) | (rw [hs48]; first | rfl | omega)), (by first | (rw [hs48]; done) | (rw [hs48]; first | (intro v _; rfl) | (intro v hv; exact o1 v hv))), (by first | (rw [hs48]; done) | (rw [hs48]; first | (intro k _ _; rfl) | (intro k h1 h2; exact s1 k h1)| (intro k h1 h2; exact s2 k h1 h2))), (by exact tk1), (by omega), hfr⟩, (show va_P (dC, dI) vwCl (rW cs b u48) t.heap by rw [ht]; exact hP)⟩, hS.F ht⟩) hS.2.2 dX12_aSide_92
          · have c47 := mt (b_eq (nI_toInt (n := (od w17 ((fN u 15))) % (fN u23 15)) (by omega)) (show Int32.toInt 0 = 0 from rfl)).mpr c47
            refine lv_aload_n hx hb dX12_aSide_73 rfl (lv_at hl 0 rfl) ?_
            refine lv_iconst (v := 4) hx hb dX12_aSide_74 (by decide) ?_
            refine rc_i hAL hS hA (va_runV (As := [.int 4]) (rest := []) ⟨hx, hb, hml, hown, noTs⟩ (r_X12_fails l dC dI H.size cs b u28 4) ⟨cbE 1 (wd_1540 hE) (wd_126 hE) (wd_1537 hE) rfl rfl (by decide +kernel) ⟨Nat.le_of_ble_eq_true rfl, Nat.le_of_ble_eq_true rfl⟩, (wd_1539 hE), (wd_62 hE)⟩ ⟨PR.blind, r_recv hK hP rfl, (r_pre (av := [.ref (b 0), .int 4]) hK hP hJ hE)⟩ rfl rfl hl.1 rfl (lv_room (Nat.le_of_ble_eq_true rfl)) dX12_aSide_75 ⟨Nat.le_of_ble_eq_true rfl, Nat.le_of_ble_eq_true rfl⟩) (fun r54 u54 H locs hpo54 hP hS => ?_)
            obtain ⟨hr54, hq54⟩ := hpo54
            have hA55 := (hq54.1 16 List.not_mem_nil).trans hA29
            have hA56 := (hq54.1 1 List.not_mem_nil).trans hA30
            have hF57x := (hq54.2.1 11 (by decide)).trans hF31x
            have hF58x := (hq54.2.1 13 (by decide)).trans hF32x
            have hF59x := (hq54.2.1 14 (by decide)).trans hF33x
            have hF60x := (hq54.2.1 15 (by decide)).trans hF34x
            have hfr := FR.step hfr hq54 (fun _ h => absurd h List.not_mem_nil) (by decide) (fun h => rfl)
            subst hr54
            obtain ⟨tk1, tk2, tk3⟩ := tk_mk (n := sz1) hF58x hF59x hF60x (by omega) (by omega) (by omega) (by omega)
            exact W.zret (v := 0) hx hb hr rfl (fun t ht hW => ⟨⟨0, u54, rfl, ⟨Or.inr ⟨rfl, by trivial⟩, (by first | (rw [hA56]; done) | (rw [hA56]; first | assumption | exact b1)), (by first | (rw [hA56]; done) | (rw [hA56]; first | rfl | omega)), (by first | (rw [hA56]; done) | (rw [hA56]; first | rfl | omega)), (by first | (rw [hA56]; done) | (rw [hA56]; first | (intro v _; rfl) | (intro v hv; exact o1 v hv))), (by first | (rw [hA56]; done) | (rw [hA56]; first | (intro k _ _; rfl) | (intro k h1 h2; exact s1 k h1)| (intro k h1 h2; exact s2 k h1 h2))), (by exact tk1), (by omega), hfr⟩, (show va_P (dC, dI) vwCl (rW cs b u54) t.heap by rw [ht]; exact hP)⟩, hS.F ht⟩) hS.2.2 dX12_aSide_78
      · refine lv_if_ne (tgt := 49) hx hb dX12_aSide_44 (by decide) (fun c61 => absurd c61 (by decide)) (fun c61 => ?_)
        refine lv_iconst (v := 0) hx hb dX12_aSide_47 (by decide) ?_
        obtain ⟨tk1, tk2, tk3⟩ := tk_mk (n := sz1) hF32x hF33x hF34x (by omega) (by omega) (by omega) (by omega)
        exact W.zret (v := 0) hx hb hr rfl (fun t ht hW => ⟨⟨0, u28, rfl, ⟨Or.inr ⟨rfl, by trivial⟩, (by first | (rw [hA30]; done) | (rw [hA30]; first | assumption | exact b1)), (by first | (rw [hA30]; done) | (rw [hA30]; first | rfl | omega)), (by first | (rw [hA30]; done) | (rw [hA30]; first | rfl | omega)), (by first | (rw [hA30]; done) | (rw [hA30]; first | (intro v _; rfl) | (intro v hv; exact o1 v hv))), (by first | (rw [hA30]; done) | (rw [hA30]; first | (intro k _ _; rfl) | (intro k h1 h2; exact s1 k h1)| (intro k h1 h2; exact s2 k h1 h2))), (by exact tk1), (by omega), hfr⟩, (show va_P (dC, dI) vwCl (rW cs b u28) t.heap by rw [ht]; exact hP)⟩, hS.F ht⟩) hS.2.2 dX12_aSide_48
    · refine lv_if_ne (tgt := 26) hx hb dX12_aSide_17 (by decide) (fun c62 => absurd c62 (by decide)) (fun c62 => ?_)
      refine lv_aload_n hx hb dX12_aSide_20 rfl (lv_at hl 0 rfl) ?_
      refine lv_iconst (v := 3) hx hb dX12_aSide_21 (by decide) ?_
      refine rc_i hAL hS hA (va_runV (As := [.int 3]) (rest := []) ⟨hx, hb, hml, hown, noTs⟩ (r_X12_fails l dC dI H.size cs b u7 3) ⟨cbE 1 (wd_1540 hE) (wd_126 hE) (wd_1537 hE) rfl rfl (by decide +kernel) ⟨Nat.le_of_ble_eq_true rfl, Nat.le_of_ble_eq_true rfl⟩, (wd_1539 hE), (wd_62 hE)⟩ ⟨PR.blind, r_recv hK hP rfl, (r_pre (av := [.ref (b 0), .int 3]) hK hP hJ hE)⟩ rfl rfl hl.1 rfl (lv_room (Nat.le_of_ble_eq_true rfl)) dX12_aSide_22 ⟨Nat.le_of_ble_eq_true rfl, Nat.le_of_ble_eq_true rfl⟩) (fun r63 u63 H locs hpo63 hP hS => ?_)
      obtain ⟨hr63, hq63⟩ := hpo63
      have hA64 := (hq63.1 1 List.not_mem_nil).trans hA8
      have hA65 := (hq63.1 16 List.not_mem_nil).trans hA9
      have hF66x := (hq63.2.1 11 (by decide)).trans hF10x
      have hF67x := (hq63.2.1 13 (by decide)).trans hF11x
      have hF68x := (hq63.2.1 14 (by decide)).trans hF12x
      have hF69x := (hq63.2.1 15 (by decide)).trans hF13x
      have hfr := FR.step hfr hq63 (fun _ h => absurd h List.not_mem_nil) (by decide) (fun h => rfl)
      subst hr63
      obtain ⟨tk1, tk2, tk3⟩ := tk_mk (n := sz1) hF67x hF68x hF69x (by omega) (by omega) (by omega) (by omega)
      exact W.zret (v := 0) hx hb hr rfl (fun t ht hW => ⟨⟨0, u63, rfl, ⟨Or.inr ⟨rfl, by trivial⟩, (by first | (rw [hA64]; done) | (rw [hA64]; first | assumption | exact b1)), (by first | (rw [hA64]; done) | (rw [hA64]; first | rfl | omega)), (by first | (rw [hA64]; done) | (rw [hA64]; first | rfl | omega)), (by first | (rw [hA64]; done) | (rw [hA64]; first | (intro v _; rfl) | (intro v hv; exact o1 v hv))), (by first | (rw [hA64]; done) | (rw [hA64]; first | (intro k _ _; rfl) | (intro k h1 h2; exact s1 k h1)| (intro k h1 h2; exact s2 k h1 h2))), (by exact tk1), (by omega), hfr⟩, (show va_P (dC, dI) vwCl (rW cs b u63) t.heap by rw [ht]; exact hP)⟩, hS.F ht⟩) hS.2.2 dX12_aSide_25
  · refine lv_if_ne (tgt := 9) hx hb dX12_aSide_4 (by decide) (fun c70 => absurd c70 (by decide)) (fun c70 => ?_)
    refine lv_iconst (v := 0) hx hb dX12_aSide_7 (by decide) ?_
    obtain ⟨tk1, tk2, tk3⟩ := tk_mk (n := sz1) hF11x hF12x hF13x (by omega) (by omega) (by omega) (by omega)
    exact W.zret (v := 0) hx hb hr rfl (fun t ht hW => ⟨⟨0, u7, rfl, ⟨Or.inr ⟨rfl, by trivial⟩, (by first | (rw [hA8]; done) | (rw [hA8]; first | assumption | exact b1)), (by first | (rw [hA8]; done) | (rw [hA8]; first | rfl | omega)), (by first | (rw [hA8]; done) | (rw [hA8]; first | rfl | omega)), (by first | (rw [hA8]; done) | (rw [hA8]; first | (intro v _; rfl) | (intro v hv; exact o1 v hv))), (by first | (rw [hA8]; done) | (rw [hA8]; first | (intro k _ _; rfl) | (intro k h1 h2; exact s1 k h1)| (intro k h1 h2; exact s2 k h1 h2))), (by exact tk1), (by omega), hfr⟩, (show va_P (dC, dI) vwCl (rW cs b u7) t.heap by rw [ht]; exact hP)⟩, hS.F ht⟩) hS.2.2 dX12_aSide_8
