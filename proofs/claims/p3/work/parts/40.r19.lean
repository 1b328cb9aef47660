theorem l_tmod {x y : Int64} (hy : ¬ y = 0) : (x - x / y * y).toInt = x.toInt.tmod y.toInt := by
  have h1 := Int64.le_toInt x
  have h2 := Int64.toInt_lt x
  have hy0 : y.toInt ≠ 0 := fun e => hy (Int64.toInt_inj.mp e)
  have e : (x - x / y * y).toInt = (x.toInt - (x.toInt.tdiv y.toInt) * y.toInt).bmod (2 ^ 64) := by
    rw [Int64.toInt_sub, Int64.toInt_mul, Int64.toInt_div]
    simp
  have e2 : x.toInt - (x.toInt.tdiv y.toInt) * y.toInt = x.toInt.tmod y.toInt := by
    rw [Int.tmod_def, Int.mul_comm]
  have b1 : (x.toInt.tmod y.toInt).natAbs < y.toInt.natAbs := by
    rw [Int.natAbs_tmod]
    exact Nat.mod_lt _ (by omega)
  have h3 := Int64.le_toInt y
  have h4 := Int64.toInt_lt y
  rw [e, e2]
  unfold Int.bmod
  dsimp only
  split <;> omega
theorem l_abs {x y : Int64} (hy : ¬ y = 0) : (x - x / y * y).toInt.natAbs < y.toInt.natAbs := by
  have hy0 : y.toInt ≠ 0 := fun e => hy (Int64.toInt_inj.mp e)
  rw [l_tmod hy, Int.natAbs_tmod]
  exact Nat.mod_lt _ (by omega)
theorem l_dvd {x y : Int64} {d : Int} (hy : ¬ y = 0) (h1 : d ∣ y.toInt) (h2 : d ∣ (x - x / y * y).toInt) : d ∣ x.toInt := by
  rw [l_tmod hy, Int.tmod_def] at h2
  have h3 : d ∣ y.toInt * x.toInt.tdiv y.toInt := Int.dvd_mul_of_dvd_left h1
  have := Int.dvd_add h2 h3
  rw [Int.sub_add_cancel] at this
  exact this
/-- a product of numbers that few twos divide is divided by few twos -/
theorem p2_odd {x : Int} (hx : ¬ (2 : Int) ∣ x) : ∀ (j : Nat) (y : Int), (2 : Int) ^ j ∣ x * y → (2 : Int) ^ j ∣ y
  | 0, y, _ => by rw [Int.pow_zero]; exact Int.one_dvd y
  | j + 1, y, h => by
    have h0 : (2 : Int) ∣ x * y := Int.dvd_trans (by rw [Int.pow_succ]; exact Int.dvd_mul_left _ _) h
    have h1 : (2 : Int) ∣ y := by
      have a1 : x % 2 = 1 := by omega
      have a2 : (x * y) % 2 = 0 := Int.emod_eq_zero_of_dvd h0
      rw [Int.mul_emod, a1, Int.one_mul, Int.emod_emod] at a2
      omega
    obtain ⟨z, rfl⟩ := h1
    have h2 : (2 : Int) ^ j ∣ x * z := by
      obtain ⟨q, hq⟩ := h
      refine ⟨q, ?_⟩
      have e1 : 2 * (x * z) = 2 * (2 ^ j * q) := by
        rw [Int.pow_succ] at hq
        rw [show 2 * (x * z) = x * (2 * z) by rw [Int.mul_left_comm], hq, Int.mul_comm (2 ^ j) 2, Int.mul_assoc]
      omega
    have h3 := p2_odd hx j z h2
    rw [Int.pow_succ, Int.mul_comm]
    exact Int.mul_dvd_mul (Int.dvd_refl 2) h3
theorem p2_le (m : Nat) : ∀ d : Nat, (2 : Int) ^ m ∣ 2 ^ (m + d)
  | 0 => Int.dvd_refl _
  | d + 1 => by
    rw [← Nat.add_assoc, Int.pow_succ]
    exact Int.dvd_mul_of_dvd_left (p2_le m d)
theorem p2_mul : ∀ (i j : Nat) (x y : Int), ¬ (2 : Int) ^ (i + 1) ∣ x → ¬ (2 : Int) ^ (j + 1) ∣ y → ¬ (2 : Int) ^ (i + j + 1) ∣ x * y
  | 0, j, x, y, hx, hy => fun h => hy (by
      rw [Nat.zero_add] at h
      exact p2_odd (by rwa [Nat.zero_add, Int.pow_one] at hx) _ y h)
  | i + 1, j, x, y, hx, hy => fun h => by
    by_cases e : (2 : Int) ∣ x
    · obtain ⟨z, rfl⟩ := e
      have h1 : ¬ (2 : Int) ^ (i + 1) ∣ z := fun q => hx (by rw [Int.pow_succ, Int.mul_comm]; exact Int.mul_dvd_mul (Int.dvd_refl 2) q)
      refine p2_mul i j z y h1 hy ?_
      obtain ⟨q, hq⟩ := h
      refine ⟨q, ?_⟩
      rw [show i + 1 + j + 1 = (i + j + 1) + 1 by omega, Int.pow_succ, Int.mul_assoc, Int.mul_comm ((2 : Int) ^ (i + j + 1)) 2 ] at hq
      rw [Int.mul_assoc] at hq
      omega
    · refine hy (Int.dvd_trans ?_ (p2_odd e _ y h))
      rw [show i + 1 + j + 1 = (j + 1) + (i + 1) by omega]
      exact p2_le _ _
theorem p2_bmod {z : Int} {m : Nat} (hm : m ≤ 64) (h : ¬ (2 : Int) ^ m ∣ z) : ¬ (2 : Int) ^ m ∣ z.bmod (2 ^ 64) := fun q => h (by
  have h64 : (2 : Int) ^ m ∣ ((2 ^ 64 : Nat) : Int) := by
    have q2 := p2_le m (64 - m)
    rw [show m + (64 - m) = 64 by omega] at q2
    exact q2
  have e : ((2 ^ 64 : Nat) : Int) ∣ z - z.bmod (2 ^ 64) := Int.dvd_self_sub_bmod
  have := Int.dvd_add (Int.dvd_trans h64 e) q
  rw [Int.sub_add_cancel] at this
  exact this)
theorem p2_small {y : Int} (h1 : 1 ≤ y) (h2 : y ≤ 60) : ¬ (2 : Int) ^ (5 + 1) ∣ y := fun h => by
  have : (64 : Int) ∣ y := h
  omega
/-- the lower number of a fraction, k parts in -/
def LW (k : Nat) (y : Int64) : Prop := ¬ (2 : Int) ^ (5 * k + 1) ∣ y.toInt
theorem lw_1 : LW 0 1 := by
  unfold LW
  show ¬ (2 : Int) ^ 1 ∣ 1
  decide
theorem lw_ne {k : Nat} {y : Int64} (h : LW k y) : ¬ y = 0 := fun e => h (by rw [e]; exact Int.dvd_zero _)
theorem lw_mul {k n : Nat} {y z : Int64} (h : LW k y) (hk : k ≤ 11) (h1 : 1 ≤ n) (h2 : n ≤ 60) (hz : z = y * lN n) : LW (k + 1) z := by
  unfold LW
  rw [hz, Int64.toInt_mul, pk_lT (by omega)]
  have := p2_mul (5 * k) 5 y.toInt (n : Int) h (p2_small (by omega) (by omega))
  rw [show 5 * (k + 1) + 1 = 5 * k + 5 + 1 by omega]
  exact p2_bmod (by omega) this
theorem lw_div {k : Nat} {y d z : Int64} (h : LW k y) (hd0 : ¬ d = 0) (hd : d.toInt ∣ y.toInt) (hk : k ≤ 12) (hz : z = y / d) : LW k z := fun q => by
  unfold LW at h
  have hd1 : d.toInt ≠ 0 := fun e => hd0 (Int64.toInt_inj.mp e)
  have e1 : z.toInt = (y.toInt.tdiv d.toInt).bmod (2 ^ 64) := by rw [hz, Int64.toInt_div]
  have h2 : ¬ (2 : Int) ^ (5 * k + 1) ∣ y.toInt.tdiv d.toInt := fun w => h (by
    have := Int.tdiv_mul_cancel hd
    rw [← this]
    exact Int.dvd_mul_of_dvd_left w)
  exact p2_bmod (by omega) h2 (by rw [← e1]; exact q)

set_option maxHeartbeats 4000000 in
set_option maxRecDepth 100000 in
theorem r_X12_common_ (l : Launch) (dC : Nat → ClassId) (dI : Nat → Nat → Nat) (sz : Nat) (cs : Nat → ClassId) (b : Nat → Nat) (u : RS) (x : Int64) (y : Int64) (hp0 : ¬ y = 0) : Met l yX12_common_ [.code yX12_common_ cX12_common_ 10 (some .long)] ({ frames := 0, cells := 0, slots := 0, locals := 0 }) (PR [.long x, .long y] sz dC dI cs b u) (vp_Sl (fun (r : Int64) => ¬ r = 0 ∧ r.toInt ∣ y.toInt)) 0 0 (fun _ => False) := by
  refine Met.ofW (cc := cX12_common_) (maxL := 10) (ret := (some .long)) (by decide) rfl ?_
  intro p e s m args below meth c s₁ B hml hv
  obtain ⟨rfl, hsz, hP, hK, hJ, hE⟩ := hv
  have hx := B.exec
  have hb := B.bytes
  have hr := B.returns
  have hown : s.vm.findClass RX12 = some m.cls := findClass_of_methodNamed B.named
  have hlocks := B.notSynchronized
  subst hsz
  have hl := lv_entry ([.long x, .long y]) (n := 10) (Nat.le_of_ble_eq_true rfl)
  rw [lg_entry_eq]
  generalize (lg_sl ([.long x, .long y]) ++ List.replicate (10 - (lg_sl ([.long x, .long y])).length) Slot.unset).toArray = ls at hl ⊢
  have hl : lv_has ls 10 [(0, .long x), (2, .long y)] := hl
  refine lv_lload_n hx hb dX12_common__0 rfl (lv_at hl 0 rfl) ?_
  refine lv_lconst (v := 0) hx hb dX12_common__1 (by decide) ?_
  refine W.lcmp hx hb dX12_common__2 ?_
  refine lv_topi (fun x2 ex2 => ?_)
  refine lv_if_ge (tgt := 11) hx hb dX12_common__3 (by decide) (fun c4 => ?_) (fun c4 => ?_)
  · have c4 := (lc_ge ex2).mp c4
    refine lv_lload_n hx hb dX12_common__11 rfl (lv_at hl 0 rfl) ?_
    refine lv_lstore (lv' := [(4, .long x), (0, .long x), (2, .long y)]) hx hb dX12_common__12 hl (by decide) rfl (fun ls hl => ?_)
    refine lv_lload_n hx hb dX12_common__14 rfl (lv_at hl 2 rfl) ?_
    refine lv_lstore (lv' := [(6, .long y), (4, .long x), (0, .long x), (2, .long y)]) hx hb dX12_common__15 hl (by decide) rfl (fun ls hl => ?_)
    refine r_indP (I := fun n ls => ∃ (x1_5 : Int64) (y1_5 : Int64), n = 1 + y1_5.toInt.natAbs ∧ (y1_5 = 0 → ¬ x1_5 = 0) ∧ (∀ d : Int, d ∣ x1_5.toInt → d ∣ y1_5.toInt → d ∣ y.toInt) ∧ lv_has ls 10 [(0, .long x), (2, .long y), (4, .long x1_5), (6, .long y1_5)]) (fun n ls hI ih5 => ?_) _ _ ⟨x, y, rfl, (by exact fun h => absurd h hp0), (by exact fun d _ h => h), lv_sub hl [2, 3, 1, 0] rfl⟩
    obtain ⟨x1_5, y1_5, hmu5, hL5_0, hL5_1, hl⟩ := hI
    subst hmu5
    refine lv_lload hx hb dX12_common__17 (lv_at hl 3 rfl) ?_
    refine lv_lconst (v := 0) hx hb dX12_common__19 (by decide) ?_
    refine W.lcmp hx hb dX12_common__20 ?_
    refine lv_topi (fun x6 ex6 => ?_)
    refine lv_if_eq (tgt := 42) hx hb dX12_common__21 (by decide) (fun c8 => ?_) (fun c8 => ?_)
    · have c8 := (lc_eq ex6).mp c8
      have YZ : y1_5 = 0 := by assumption
      refine lv_lload hx hb dX12_common__42 (lv_at hl 2 rfl) ?_
      exact W.lret (v := x1_5) hx hb hr (fun t ht hW => ⟨x1_5, rfl, (by exact ⟨hL5_0 YZ, hL5_1 _ (Int.dvd_refl _) (by rw [YZ]; exact Int.dvd_zero _)⟩), ht⟩) (fun _ h => absurd h List.not_mem_nil) dX12_common__44
    · have c8 := mt (lc_eq ex6).mpr c8
      have NZ : ¬ y1_5 = 0 := by assumption
      refine lv_lload hx hb dX12_common__24 (lv_at hl 2 rfl) ?_
      refine lv_lload hx hb dX12_common__26 (lv_at hl 3 rfl) ?_
      refine lv_lrem hx hb dX12_common__28 NZ ?_
      refine lv_topl (fun x9 ex9 => ?_)
      have EXR := ex9
      refine lv_lstore (lv' := [(8, .long x9), (0, .long x), (2, .long y), (4, .long x1_5), (6, .long y1_5)]) hx hb dX12_common__29 hl (by decide) rfl (fun ls hl => ?_)
      refine lv_lload hx hb dX12_common__31 (lv_at hl 4 rfl) ?_
      refine lv_lstore (lv' := [(4, .long y1_5), (8, .long x9), (0, .long x), (2, .long y), (6, .long y1_5)]) hx hb dX12_common__33 hl (by decide) rfl (fun ls hl => ?_)
      refine lv_lload hx hb dX12_common__35 (lv_at hl 1 rfl) ?_
      refine lv_lstore (lv' := [(6, .long x9), (4, .long y1_5), (8, .long x9), (0, .long x), (2, .long y)]) hx hb dX12_common__37 hl (by decide) rfl (fun ls hl => ?_)
      refine lv_goto (tgt := 17) hx hb dX12_common__39 (by decide) ?_
      exact ih5 _ _ (by have := l_abs (x := x1_5) NZ; rw [← EXR] at this; omega) ⟨y1_5, x9, rfl, (by exact fun _ => NZ), (by exact fun d h1 h2 => hL5_1 d (l_dvd NZ h1 (by rw [← EXR]; exact h2)) h1), lv_sub hl [3, 4, 1, 0] rfl⟩
  · have c4 := mt (lc_ge ex2).mpr c4
    refine lv_lload_n hx hb dX12_common__6 rfl (lv_at hl 0 rfl) ?_
    refine lv_lneg hx hb dX12_common__7 ?_
    refine lv_topl (fun x10 ex10 => ?_)
    refine lv_goto (tgt := 12) hx hb dX12_common__8 (by decide) ?_
    refine lv_lstore (lv' := [(4, .long x10), (0, .long x), (2, .long y)]) hx hb dX12_common__12 hl (by decide) rfl (fun ls hl => ?_)
    refine lv_lload_n hx hb dX12_common__14 rfl (lv_at hl 2 rfl) ?_
    refine lv_lstore (lv' := [(6, .long y), (4, .long x10), (0, .long x), (2, .long y)]) hx hb dX12_common__15 hl (by decide) rfl (fun ls hl => ?_)
    refine r_indP (I := fun n ls => ∃ (x1_11 : Int64) (y1_11 : Int64), n = 1 + y1_11.toInt.natAbs ∧ (y1_11 = 0 → ¬ x1_11 = 0) ∧ (∀ d : Int, d ∣ x1_11.toInt → d ∣ y1_11.toInt → d ∣ y.toInt) ∧ lv_has ls 10 [(0, .long x), (2, .long y), (4, .long x1_11), (6, .long y1_11)]) (fun n ls hI ih11 => ?_) _ _ ⟨x10, y, rfl, (by exact fun h => absurd h hp0), (by exact fun d _ h => h), lv_sub hl [2, 3, 1, 0] rfl⟩
    obtain ⟨x1_11, y1_11, hmu11, hL11_0, hL11_1, hl⟩ := hI
    subst hmu11
    refine lv_lload hx hb dX12_common__17 (lv_at hl 3 rfl) ?_
    refine lv_lconst (v := 0) hx hb dX12_common__19 (by decide) ?_
    refine W.lcmp hx hb dX12_common__20 ?_
    refine lv_topi (fun x12 ex12 => ?_)
    refine lv_if_eq (tgt := 42) hx hb dX12_common__21 (by decide) (fun c14 => ?_) (fun c14 => ?_)
    · have c14 := (lc_eq ex12).mp c14
      have YZ : y1_11 = 0 := by assumption
      refine lv_lload hx hb dX12_common__42 (lv_at hl 2 rfl) ?_
      exact W.lret (v := x1_11) hx hb hr (fun t ht hW => ⟨x1_11, rfl, (by exact ⟨hL11_0 YZ, hL11_1 _ (Int.dvd_refl _) (by rw [YZ]; exact Int.dvd_zero _)⟩), ht⟩) (fun _ h => absurd h List.not_mem_nil) dX12_common__44
    · have c14 := mt (lc_eq ex12).mpr c14
      have NZ : ¬ y1_11 = 0 := by assumption
      refine lv_lload hx hb dX12_common__24 (lv_at hl 2 rfl) ?_
      refine lv_lload hx hb dX12_common__26 (lv_at hl 3 rfl) ?_
      refine lv_lrem hx hb dX12_common__28 NZ ?_
      refine lv_topl (fun x15 ex15 => ?_)
      have EXR := ex15
      refine lv_lstore (lv' := [(8, .long x15), (0, .long x), (2, .long y), (4, .long x1_11), (6, .long y1_11)]) hx hb dX12_common__29 hl (by decide) rfl (fun ls hl => ?_)
      refine lv_lload hx hb dX12_common__31 (lv_at hl 4 rfl) ?_
      refine lv_lstore (lv' := [(4, .long y1_11), (8, .long x15), (0, .long x), (2, .long y), (6, .long y1_11)]) hx hb dX12_common__33 hl (by decide) rfl (fun ls hl => ?_)
      refine lv_lload hx hb dX12_common__35 (lv_at hl 1 rfl) ?_
      refine lv_lstore (lv' := [(6, .long x15), (4, .long y1_11), (8, .long x15), (0, .long x), (2, .long y)]) hx hb dX12_common__37 hl (by decide) rfl (fun ls hl => ?_)
      refine lv_goto (tgt := 17) hx hb dX12_common__39 (by decide) ?_
      exact ih11 _ _ (by have := l_abs (x := x1_11) NZ; rw [← EXR] at this; omega) ⟨y1_11, x15, rfl, (by exact fun _ => NZ), (by exact fun d h1 h2 => hL11_1 d (l_dvd NZ h1 (by rw [← EXR]; exact h2)) h1), lv_sub hl [3, 4, 1, 0] rfl⟩

set_option maxHeartbeats 4000000 in
set_option maxRecDepth 100000 in
theorem r_X12_chi (l : Launch) (dC : Nat → ClassId) (dI : Nat → Nat → Nat) (sz : Nat) (cs : Nat → ClassId) (b : Nat → Nat) (u : RS) (a : Nat → Int32) (hA1 : rA u 1 = a) (x : Int32) (hp0 : BG a) : Met l yX12_chi [.code yX12_chi cX12_chi 12 (some .int)] ({ frames := 2, cells := 0, slots := 0, locals := 80 }) (PR [.ref (b 0), .int x] sz dC dI cs b u) (va_Qi (fun (r : Int32) (u' : RS) => (True) ∧ FR [3, 4, 5, 6, 7, 8, 9, 10, 11, 12, 13, 14, 17, 18, 19, 20] [1, 5, 21, 22] true u u') (BR dC dI cs b) (AR b sz)) 0 0 (AR b sz) := sorry
