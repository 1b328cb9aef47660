theorem l_tmod {x y : Int64} (hy : ¬ y = 0) : (x - x / y * y).toInt = x.toInt.tmod y.toInt := by
  have h1 := Int64.le_toInt x
  have h2 := Int64.toInt_lt x
  have hy0 : y.toInt ≠ 0 := fun e => hy (Int64.toInt_inj.mp e)
  have e : (x - x / y * y).toInt = (x.toInt - (x.toInt.tdiv y.toInt) * y.toInt).bmod (2 ^ 64) := by
    rw [Int64.toInt_sub, Int64.toInt_mul, Int64.toInt_div]
    simp
  have e2 : x.toInt - (x.toInt.tdiv y.toInt) * y.toInt = x.toInt.tmod y.toInt := by
    rw [Int.tmod_def, Int.mul_comm]
  have b1 : (x.toInt.tmod y.toInt).natAbs < y.toInt.natAbs := by
    rw [Int.natAbs_tmod]
    exact Nat.mod_lt _ (by omega)
  have h3 := Int64.le_toInt y
  have h4 := Int64.toInt_lt y
  rw [e, e2]
  unfold Int.bmod
  dsimp only
  split <;> omega
theorem l_abs {x y : Int64} (hy : ¬ y = 0) : (x - x / y * y).toInt.natAbs < y.toInt.natAbs := by
  have hy0 : y.toInt ≠ 0 := fun e => hy (Int64.toInt_inj.mp e)
  rw [l_tmod hy, Int.natAbs_tmod]
  exact Nat.mod_lt _ (by omega)
theorem l_dvd {x y : Int64} {d : Int} (hy : ¬ y = 0) (h1 : d ∣ y.toInt) (h2 : d ∣ (x - x / y * y).toInt) : d ∣ x.toInt := by
  rw [l_tmod hy, Int.tmod_def] at h2
  have h3 : d ∣ y.toInt * x.toInt.tdiv y.toInt := Int.dvd_mul_of_dvd_left h1
  have := Int.dvd_add h2 h3
  rw [Int.sub_add_cancel] at this
  exact this
/-- a product of numbers that few twos divide is divided by few twos -/
theorem p2_odd {x : Int} (hx : ¬ (2 : Int) ∣ x) : ∀ (j : Nat) (y : Int), (2 : Int) ^ j ∣ x * y → (2 : Int) ^ j ∣ y
  | 0, y, _ => by rw [Int.pow_zero]; exact Int.one_dvd y
  | j + 1, y, h => by
    have h0 : (2 : Int) ∣ x * y := Int.dvd_trans (by rw [Int.pow_succ]; exact Int.dvd_mul_left _ _) h
    have h1 : (2 : Int) ∣ y := by
      have a1 : x % 2 = 1 := by omega
      have a2 : (x * y) % 2 = 0 := Int.emod_eq_zero_of_dvd h0
      rw [Int.mul_emod, a1, Int.one_mul, Int.emod_emod] at a2
      omega
    obtain ⟨z, rfl⟩ := h1
    have h2 : (2 : Int) ^ j ∣ x * z := by
      obtain ⟨q, hq⟩ := h
      refine ⟨q, ?_⟩
      have e1 : 2 * (x * z) = 2 * (2 ^ j * q) := by
        rw [Int.pow_succ] at hq
        rw [show 2 * (x * z) = x * (2 * z) by rw [Int.mul_left_comm], hq, Int.mul_comm (2 ^ j) 2, Int.mul_assoc]
      omega
    have h3 := p2_odd hx j z h2
    rw [Int.pow_succ, Int.mul_comm]
    exact Int.mul_dvd_mul (Int.dvd_refl 2) h3
theorem p2_le (m : Nat) : ∀ d : Nat, (2 : Int) ^ m ∣ 2 ^ (m + d)
  | 0 => Int.dvd_refl _
  | d + 1 => by
    rw [← Nat.add_assoc, Int.pow_succ]
    exact Int.dvd_mul_of_dvd_left (p2_le m d)
theorem p2_mul : ∀ (i j : Nat) (x y : Int), ¬ (2 : Int) ^ (i + 1) ∣ x → ¬ (2 : Int) ^ (j + 1) ∣ y → ¬ (2 : Int) ^ (i + j + 1) ∣ x * y
  | 0, j, x, y, hx, hy => fun h => hy (by
      rw [Nat.zero_add] at h
      exact p2_odd (by rwa [Nat.zero_add, Int.pow_one] at hx) _ y h)
  | i + 1, j, x, y, hx, hy => fun h => by
    by_cases e : (2 : Int) ∣ x
    · obtain ⟨z, rfl⟩ := e
      have h1 : ¬ (2 : Int) ^ (i + 1) ∣ z := fun q => hx (by rw [Int.pow_succ, Int.mul_comm]; exact Int.mul_dvd_mul (Int.dvd_refl 2) q)
      refine p2_mul i j z y h1 hy ?_
      obtain ⟨q, hq⟩ := h
      refine ⟨q, ?_⟩
      rw [show i + 1 + j + 1 = (i + j + 1) + 1 by omega, Int.pow_succ, Int.mul_assoc, Int.mul_comm ((2 : Int) ^ (i + j + 1)) 2 ] at hq
      rw [Int.mul_assoc] at hq
      omega
    · refine hy (Int.dvd_trans ?_ (p2_odd e _ y h))
      rw [show i + 1 + j + 1 = (j + 1) + (i + 1) by omega]
      exact p2_le _ _
theorem p2_bmod {z : Int} {m : Nat} (hm : m ≤ 64) (h : ¬ (2 : Int) ^ m ∣ z) : ¬ (2 : Int) ^ m ∣ z.bmod (2 ^ 64) := fun q => h (by
  have h64 : (2 : Int) ^ m ∣ ((2 ^ 64 : Nat) : Int) := by
    have q2 := p2_le m (64 - m)
    rw [show m + (64 - m) = 64 by omega] at q2
    exact q2
  have e : ((2 ^ 64 : Nat) : Int) ∣ z - z.bmod (2 ^ 64) := Int.dvd_self_sub_bmod
  have := Int.dvd_add (Int.dvd_trans h64 e) q
  rw [Int.sub_add_cancel] at this
  exact this)
theorem p2_small {y : Int} (h1 : 1 ≤ y) (h2 : y ≤ 60) : ¬ (2 : Int) ^ (5 + 1) ∣ y := fun h => by
  have : (64 : Int) ∣ y := h
  omega
/-- the lower number of a fraction, k parts in -/
def LW (k : Nat) (y : Int64) : Prop := ¬ (2 : Int) ^ (5 * k + 1) ∣ y.toInt
theorem lw_1 : LW 0 1 := by
  unfold LW
  show ¬ (2 : Int) ^ 1 ∣ 1
  decide
theorem lw_ne {k : Nat} {y : Int64} (h : LW k y) : ¬ y = 0 := fun e => h (by rw [e]; exact Int.dvd_zero _)
theorem lw_mul {k n : Nat} {y z : Int64} (h : LW k y) (hk : k ≤ 11) (h1 : 1 ≤ n) (h2 : n ≤ 60) (hz : z = y * lN n) : LW (k + 1) z := by
  unfold LW
  rw [hz, Int64.toInt_mul, pk_lT (by omega)]
  have := p2_mul (5 * k) 5 y.toInt (n : Int) h (p2_small (by omega) (by omega))
  rw [show 5 * (k + 1) + 1 = 5 * k + 5 + 1 by omega]
  exact p2_bmod (by omega) this
theorem lw_div {k : Nat} {y d z : Int64} (h : LW k y) (hd0 : ¬ d = 0) (hd : d.toInt ∣ y.toInt) (hk : k ≤ 12) (hz : z = y / d) : LW k z := fun q => by
  unfold LW at h
  have hd1 : d.toInt ≠ 0 := fun e => hd0 (Int64.toInt_inj.mp e)
  have e1 : z.toInt = (y.toInt.tdiv d.toInt).bmod (2 ^ 64) := by rw [hz, Int64.toInt_div]
  have h2 : ¬ (2 : Int) ^ (5 * k + 1) ∣ y.toInt.tdiv d.toInt := fun w => h (by
    have := Int.tdiv_mul_cancel hd
    rw [← this]
    exact Int.dvd_mul_of_dvd_left w)
  exact p2_bmod (by omega) h2 (by rw [← e1]; exact q)

set_option maxHeartbeats 4000000 in
set_option maxRecDepth 100000 in
theorem r_X12_common_ (l : Launch) (dC : Nat → ClassId) (dI : Nat → Nat → Nat) (sz : Nat) (cs : Nat → ClassId) (b : Nat → Nat) (u : RS) (x : Int64) (y : Int64) (hp0 : ¬ y = 0) : Met l yX12_common_ [.code yX12_common_ cX12_common_ 10 (some .long)] ({ frames := 0, cells := 0, slots := 0, locals := 0 }) (PR [.long x, .long y] sz dC dI cs b u) (vp_Sl (fun (r : Int64) => ¬ r = 0 ∧ r.toInt ∣ y.toInt)) 0 0 (fun _ => False) := by
  refine Met.ofW (cc := cX12_common_) (maxL := 10) (ret := (some .long)) (by decide) rfl ?_
  intro p e s m args below meth c s₁ B hml hv
  obtain ⟨rfl, hsz, hP, hK, hJ, hE⟩ := hv
  have hx := B.exec
  have hb := B.bytes
  have hr := B.returns
  have hown : s.vm.findClass RX12 = some m.cls := findClass_of_methodNamed B.named
  have hlocks := B.notSynchronized
  subst hsz
  have hl := lv_entry ([.long x, .long y]) (n := 10) (Nat.le_of_ble_eq_true rfl)
  rw [lg_entry_eq]
  generalize (lg_sl ([.long x, .long y]) ++ List.replicate (10 - (lg_sl ([.long x, .long y])).length) Slot.unset).toArray = ls at hl ⊢
  have hl : lv_has ls 10 [(0, .long x), (2, .long y)] := hl
  refine lv_lload_n hx hb dX12_common__0 rfl (lv_at hl 0 rfl) ?_
  refine lv_lconst (v := 0) hx hb dX12_common__1 (by decide) ?_
  refine W.lcmp hx hb dX12_common__2 ?_
  refine lv_topi (fun x2 ex2 => ?_)
  refine lv_if_ge (tgt := 11) hx hb dX12_common__3 (by decide) (fun c4 => ?_) (fun c4 => ?_)
  · have c4 := (lc_ge ex2).mp c4
    refine lv_lload_n hx hb dX12_common__11 rfl (lv_at hl 0 rfl) ?_
    refine lv_lstore (lv' := [(4, .long x), (0, .long x), (2, .long y)]) hx hb dX12_common__12 hl (by decide) rfl (fun ls hl => ?_)
    refine lv_lload_n hx hb dX12_common__14 rfl (lv_at hl 2 rfl) ?_
    refine lv_lstore (lv' := [(6, .long y), (4, .long x), (0, .long x), (2, .long y)]) hx hb dX12_common__15 hl (by decide) rfl (fun ls hl => ?_)
    refine r_indP (I := fun n ls => ∃ (x1_5 : Int64) (y1_5 : Int64), n = 1 + y1_5.toInt.natAbs ∧ (y1_5 = 0 → ¬ x1_5 = 0) ∧ (∀ d : Int, d ∣ x1_5.toInt → d ∣ y1_5.toInt → d ∣ y.toInt) ∧ lv_has ls 10 [(0, .long x), (2, .long y), (4, .long x1_5), (6, .long y1_5)]) (fun n ls hI ih5 => ?_) _ _ ⟨x, y, rfl, (by exact fun h => absurd h hp0), (by exact fun d _ h => h), lv_sub hl [2, 3, 1, 0] rfl⟩
    obtain ⟨x1_5, y1_5, hmu5, hL5_0, hL5_1, hl⟩ := hI
    subst hmu5
    refine lv_lload hx hb dX12_common__17 (lv_at hl 3 rfl) ?_
    refine lv_lconst (v := 0) hx hb dX12_common__19 (by decide) ?_
    refine W.lcmp hx hb dX12_common__20 ?_
    refine lv_topi (fun x6 ex6 => ?_)
    refine lv_if_eq (tgt := 42) hx hb dX12_common__21 (by decide) (fun c8 => ?_) (fun c8 => ?_)
    · have c8 := (lc_eq ex6).mp c8
      have YZ : y1_5 = 0 := by assumption
      refine lv_lload hx hb dX12_common__42 (lv_at hl 2 rfl) ?_
      exact W.lret (v := x1_5) hx hb hr (fun t ht hW => ⟨x1_5, rfl, (by exact ⟨hL5_0 YZ, hL5_1 _ (Int.dvd_refl _) (by rw [YZ]; exact Int.dvd_zero _)⟩), ht⟩) (fun _ h => absurd h List.not_mem_nil) dX12_common__44
    · have c8 := mt (lc_eq ex6).mpr c8
      have NZ : ¬ y1_5 = 0 := by assumption
      refine lv_lload hx hb dX12_common__24 (lv_at hl 2 rfl) ?_
      refine lv_lload hx hb dX12_common__26 (lv_at hl 3 rfl) ?_
      refine lv_lrem hx hb dX12_common__28 NZ ?_
      refine lv_topl (fun x9 ex9 => ?_)
      have EXR := ex9
      refine lv_lstore (lv' := [(8, .long x9), (0, .long x), (2, .long y), (4, .long x1_5), (6, .long y1_5)]) hx hb dX12_common__29 hl (by decide) rfl (fun ls hl => ?_)
      refine lv_lload hx hb dX12_common__31 (lv_at hl 4 rfl) ?_
      refine lv_lstore (lv' := [(4, .long y1_5), (8, .long x9), (0, .long x), (2, .long y), (6, .long y1_5)]) hx hb dX12_common__33 hl (by decide) rfl (fun ls hl => ?_)
      refine lv_lload hx hb dX12_common__35 (lv_at hl 1 rfl) ?_
      refine lv_lstore (lv' := [(6, .long x9), (4, .long y1_5), (8, .long x9), (0, .long x), (2, .long y)]) hx hb dX12_common__37 hl (by decide) rfl (fun ls hl => ?_)
      refine lv_goto (tgt := 17) hx hb dX12_common__39 (by decide) ?_
      exact ih5 _ _ (by have := l_abs (x := x1_5) NZ; rw [← EXR] at this; omega) ⟨y1_5, x9, rfl, (by exact fun _ => NZ), (by exact fun d h1 h2 => hL5_1 d (l_dvd NZ h1 (by rw [← EXR]; exact h2)) h1), lv_sub hl [3, 4, 1, 0] rfl⟩
  · have c4 := mt (lc_ge ex2).mpr c4
    refine lv_lload_n hx hb dX12_common__6 rfl (lv_at hl 0 rfl) ?_
    refine lv_lneg hx hb dX12_common__7 ?_
    refine lv_topl (fun x10 ex10 => ?_)
    refine lv_goto (tgt := 12) hx hb dX12_common__8 (by decide) ?_
    refine lv_lstore (lv' := [(4, .long x10), (0, .long x), (2, .long y)]) hx hb dX12_common__12 hl (by decide) rfl (fun ls hl => ?_)
    refine lv_lload_n hx hb dX12_common__14 rfl (lv_at hl 2 rfl) ?_
    refine lv_lstore (lv' := [(6, .long y), (4, .long x10), (0, .long x), (2, .long y)]) hx hb dX12_common__15 hl (by decide) rfl (fun ls hl => ?_)
    refine r_indP (I := fun n ls => ∃ (x1_11 : Int64) (y1_11 : Int64), n = 1 + y1_11.toInt.natAbs ∧ (y1_11 = 0 → ¬ x1_11 = 0) ∧ (∀ d : Int, d ∣ x1_11.toInt → d ∣ y1_11.toInt → d ∣ y.toInt) ∧ lv_has ls 10 [(0, .long x), (2, .long y), (4, .long x1_11), (6, .long y1_11)]) (fun n ls hI ih11 => ?_) _ _ ⟨x10, y, rfl, (by exact fun h => absurd h hp0), (by exact fun d _ h => h), lv_sub hl [2, 3, 1, 0] rfl⟩
    obtain ⟨x1_11, y1_11, hmu11, hL11_0, hL11_1, hl⟩ := hI
    subst hmu11
    refine lv_lload hx hb dX12_common__17 (lv_at hl 3 rfl) ?_
    refine lv_lconst (v := 0) hx hb dX12_common__19 (by decide) ?_
    refine W.lcmp hx hb dX12_common__20 ?_
    refine lv_topi (fun x12 ex12 => ?_)
    refine lv_if_eq (tgt := 42) hx hb dX12_common__21 (by decide) (fun c14 => ?_) (fun c14 => ?_)
    · have c14 := (lc_eq ex12).mp c14
      have YZ : y1_11 = 0 := by assumption
      refine lv_lload hx hb dX12_common__42 (lv_at hl 2 rfl) ?_
      exact W.lret (v := x1_11) hx hb hr (fun t ht hW => ⟨x1_11, rfl, (by exact ⟨hL11_0 YZ, hL11_1 _ (Int.dvd_refl _) (by rw [YZ]; exact Int.dvd_zero _)⟩), ht⟩) (fun _ h => absurd h List.not_mem_nil) dX12_common__44
    · have c14 := mt (lc_eq ex12).mpr c14
      have NZ : ¬ y1_11 = 0 := by assumption
      refine lv_lload hx hb dX12_common__24 (lv_at hl 2 rfl) ?_
      refine lv_lload hx hb dX12_common__26 (lv_at hl 3 rfl) ?_
      refine lv_lrem hx hb dX12_common__28 NZ ?_
      refine lv_topl (fun x15 ex15 => ?_)
      have EXR := ex15
      refine lv_lstore (lv' := [(8, .long x15), (0, .long x), (2, .long y), (4, .long x1_11), (6, .long y1_11)]) hx hb dX12_common__29 hl (by decide) rfl (fun ls hl => ?_)
      refine lv_lload hx hb dX12_common__31 (lv_at hl 4 rfl) ?_
      refine lv_lstore (lv' := [(4, .long y1_11), (8, .long x15), (0, .long x), (2, .long y), (6, .long y1_11)]) hx hb dX12_common__33 hl (by decide) rfl (fun ls hl => ?_)
      refine lv_lload hx hb dX12_common__35 (lv_at hl 1 rfl) ?_
      refine lv_lstore (lv' := [(6, .long x15), (4, .long y1_11), (8, .long x15), (0, .long x), (2, .long y)]) hx hb dX12_common__37 hl (by decide) rfl (fun ls hl => ?_)
      refine lv_goto (tgt := 17) hx hb dX12_common__39 (by decide) ?_
      exact ih11 _ _ (by have := l_abs (x := x1_11) NZ; rw [← EXR] at this; omega) ⟨y1_11, x15, rfl, (by exact fun _ => NZ), (by exact fun d h1 h2 => hL11_1 d (l_dvd NZ h1 (by rw [← EXR]; exact h2)) h1), lv_sub hl [3, 4, 1, 0] rfl⟩

set_option maxHeartbeats 4000000 in
set_option maxRecDepth 100000 in
theorem r_X12_chi (l : Launch) (dC : Nat → ClassId) (dI : Nat → Nat → Nat) (sz : Nat) (cs : Nat → ClassId) (b : Nat → Nat) (u : RS) (a : Nat → Int32) (hA1 : rA u 1 = a) (x : Int32) (hp0 : BG a) : Met l yX12_chi [.code yX12_chi cX12_chi 12 (some .int)] ({ frames := 2, cells := 0, slots := 0, locals := 80 }) (PR [.ref (b 0), .int x] sz dC dI cs b u) (va_Qi (fun (r : Int32) (u' : RS) => (True) ∧ FR [3, 4, 5, 6, 7, 8, 9, 10, 11, 12, 13, 14, 17, 18, 19, 20] [1, 5, 21, 22] true u u') (BR dC dI cs b) (AR b sz)) 0 0 (AR b sz) := by
  refine Met.ofW (cc := cX12_chi) (maxL := 12) (ret := (some .int)) (by decide) rfl ?_
  intro p e s m args below meth c s₁ B hml hv
  obtain ⟨rfl, hsz, hP, hK, hJ, hE⟩ := hv
  have hx := B.exec
  have hb := B.bytes
  have hr := B.returns
  have hown : s.vm.findClass RX12 = some m.cls := findClass_of_methodNamed B.named
  have hlocks := B.notSynchronized
  subst hsz
  have hAL : ∀ i, i < 108 → AR b s.heap.size (b i) := fun i h => Or.inl ⟨i, h, rfl⟩
  have hA : ∀ q : Nat, s.heap.size ≤ q → AR b s.heap.size q := fun q h => Or.inr h
  have hS : va_S (AR b s.heap.size) s.heap s.heap [] := va_S.rf
  have hfr : FR [3, 4, 5, 6, 7, 8, 9, 10, 11, 12, 13, 14, 17, 18, 19, 20] [1, 5, 21, 22] true u u := FR.refl
  have hl := lv_entry ([.ref (b 0), .int x]) (n := 12) (Nat.le_of_ble_eq_true rfl)
  rw [lg_entry_eq]
  generalize (lg_sl ([.ref (b 0), .int x]) ++ List.replicate (12 - (lg_sl ([.ref (b 0), .int x])).length) Slot.unset).toArray = ls at hl ⊢
  have hl : lv_has ls 12 [(0, .ref (b 0)), (1, .int x)] := hl
  have hB := hp0
  have hG := bg_g hp0
  have ha1 := gg_le hG
  have ha1b := bg_w hp0
  refine lv_iload_n hx hb dX12_chi_0 rfl (lv_at hl 1 rfl) ?_
  refine lv_iconst (v := 0) hx hb dX12_chi_1 (by decide) ?_
  refine lv_iconst (v := 1) hx hb dX12_chi_2 (by decide) ?_
  refine vp_callSi (va_Run.run (va_runS (As := [.int x, .int 0, .int 1]) (rest := []) ⟨hx, hb, hml, hown, noTs⟩ (r_X12_isFrom l dC dI s.heap.size cs b u a hA1 x 0 1 ((0 : Int)) ((1 : Int)) (show Int32.toInt 0 = 0 from rfl) (show Int32.toInt 1 = 1 from rfl)) ⟨cbE 3 (wd_1494 hE) (wd_126 hE) (wd_1492 hE) rfl rfl (by decide +kernel) ⟨Nat.le_of_ble_eq_true rfl, Nat.le_of_ble_eq_true rfl⟩, (wd_1493 hE)⟩ ⟨PR.blind, (r_pre (av := [.int x, .int 0, .int 1]) hK hP hJ hE)⟩ rfl rfl hl.1 rfl (lv_room (Nat.le_of_ble_eq_true rfl)) dX12_chi_3 ⟨Nat.le_of_ble_eq_true rfl, Nat.le_of_ble_eq_true rfl⟩)) (fun r2 hr2 => ?_)
  rcases hr2 with ⟨rfl, hb2⟩ | ⟨rfl, hb2⟩
  · refine lv_if_ne (tgt := 15) hx hb dX12_chi_6 (by decide) (fun c3 => ?_) (fun c3 => absurd c3 (by decide))
    refine lv_lconst (v := 0) hx hb dX12_chi_15 (by decide) ?_
    refine lv_lstore_n (lv' := [(2, .long 0), (0, .ref (b 0)), (1, .int x)]) hx hb dX12_chi_16 rfl hl (by decide) rfl (fun ls hl => ?_)
    refine lv_lconst (v := 1) hx hb dX12_chi_17 (by decide) ?_
    refine lv_lstore (lv' := [(4, .long 1), (2, .long 0), (0, .ref (b 0)), (1, .int x)]) hx hb dX12_chi_18 hl (by decide) rfl (fun ls hl => ?_)
    refine lv_iconst (v := 0) hx hb dX12_chi_20 (by decide) ?_
    refine lv_istore (lv' := [(6, .int 0), (4, .long 1), (2, .long 0), (0, .ref (b 0)), (1, .int x)]) hx hb dX12_chi_21 hl (by decide) rfl (fun ls hl => ?_)
    refine r_ind (I := fun n u_ H locs ls => va_P (dC, dI) vwCl (rW cs b u_) H ∧ va_S (AR b s.heap.size) s.heap H locs ∧ FR [3, 4, 5, 6, 7, 8, 9, 10, 11, 12, 13, 14, 17, 18, 19, 20] [1, 5, 21, 22] true u u_ ∧ ∃ (k_4 : Nat) (x1_4 : Int64) (y1_4 : Int64), n = vN a + eN a - k_4 ∧ (k_4 ≤ vN a + eN a) ∧ (LW k_4 y1_4) ∧ lv_has ls 12 [(0, .ref (b 0)), (1, .int x), (2, .long x1_4), (4, .long y1_4), (6, .int (nI k_4))]) (fun n u4 H locs ls hI ih4 => ?_) _ u _ _ _ ⟨hP, hS, hfr, 0, 0, 1, rfl, (by first | assumption | omega | rfl | (congr 1; omega)), (by exact lw_1), lv_sub hl [3, 4, 2, 1, 0] rfl⟩
    obtain ⟨hP, hS, hfr, k_4, x1_4, y1_4, hmu4, hL4_0, hL4_1, hl⟩ := hI
    have hA5 := (hfr.1 1 (by decide)).trans hA1
    subst hmu4
    refine lv_iload hx hb dX12_chi_23 (lv_at hl 4 rfl) ?_
    refine lv_aload_n hx hb dX12_chi_25 rfl (lv_at hl 0 rfl) ?_
    refine lv_iconst (v := 0) hx hb dX12_chi_26 (by decide) ?_
    refine vp_callSi (va_Run.run (va_runV (As := [.int (nI 0)]) (rest := [.int (nI k_4)]) ⟨hx, hb, hml, hown, noTs⟩ (r_X12_of l dC dI H.size cs b u4 a hA5 0 (by first | assumption | omega | rfl | (congr 1; omega))) ⟨cbE 1 (wd_1536 hE) (wd_126 hE) (wd_1533 hE) rfl rfl (by decide +kernel) ⟨Nat.le_of_ble_eq_true rfl, Nat.le_of_ble_eq_true rfl⟩, (wd_1535 hE), (wd_61 hE)⟩ ⟨PR.blind, r_recv hK hP rfl, (r_pre (av := [.ref (b 0), .int (nI 0)]) hK hP hJ hE)⟩ rfl rfl hl.1 rfl (lv_room (Nat.le_of_ble_eq_true rfl)) dX12_chi_27 ⟨Nat.le_of_ble_eq_true rfl, Nat.le_of_ble_eq_true rfl⟩)) (fun r6 hr6 => ?_)
    have hr6 := hr6.trans (gg_v hG)
    subst hr6
    refine lv_aload_n hx hb dX12_chi_30 rfl (lv_at hl 0 rfl) ?_
    refine lv_iconst (v := 1) hx hb dX12_chi_31 (by decide) ?_
    refine vp_callSi (va_Run.run (va_runV (As := [.int (nI 1)]) (rest := [.int (nI (vN a)), .int (nI k_4)]) ⟨hx, hb, hml, hown, noTs⟩ (r_X12_of l dC dI H.size cs b u4 a hA5 1 (by first | assumption | omega | rfl | (congr 1; omega))) ⟨cbE 1 (wd_1536 hE) (wd_126 hE) (wd_1533 hE) rfl rfl (by decide +kernel) ⟨Nat.le_of_ble_eq_true rfl, Nat.le_of_ble_eq_true rfl⟩, (wd_1535 hE), (wd_61 hE)⟩ ⟨PR.blind, r_recv hK hP rfl, (r_pre (av := [.ref (b 0), .int (nI 1)]) hK hP hJ hE)⟩ rfl rfl hl.1 rfl (lv_room (Nat.le_of_ble_eq_true rfl)) dX12_chi_32 ⟨Nat.le_of_ble_eq_true rfl, Nat.le_of_ble_eq_true rfl⟩)) (fun r7 hr7 => ?_)
    have hr7 := hr7.trans (gg_e hG)
    subst hr7
    refine lv_iadd hx hb dX12_chi_35 ?_
    refine W.eq (g2 := F0 m 36 ls [.int (nI ((vN a) + (eN a))), .int (nI k_4)]) (congrArg (fun z : Int32 => F0 m 36 ls (.int z :: [.int (nI k_4)])) (nI_add (vN a) (eN a))) ?_
    refine lv_icmp_ge (tgt := 138) hx hb dX12_chi_36 (by decide) (fun c8 => ?_) (fun c8 => ?_)
    · have c8 := (b_le (nI_toInt (n := (vN a) + (eN a)) (by omega)) (nI_toInt (n := k_4) (by omega))).mp c8
      refine lv_aload_n hx hb dX12_chi_138 rfl (lv_at hl 0 rfl) ?_
      refine lv_iload_n hx hb dX12_chi_139 rfl (lv_at hl 1 rfl) ?_
      refine lv_if_ne (tgt := 147) hx hb dX12_chi_140 (by decide) (fun c9 => ?_) (fun c9 => ?_)
      · have c9 := mt (b_eq (rfl : Int32.toInt x = _) (show Int32.toInt 0 = 0 from rfl)).mpr c9
        refine lv_lload hx hb dX12_chi_147 (lv_at hl 3 rfl) ?_
        refine lv_l2i hx hb dX12_chi_149 rfl ?_
        refine lv_topi (fun x10 ex10 => ?_)
        refine rc_i hAL hS hA (va_runV (As := [.int x10]) (rest := []) ⟨hx, hb, hml, hown, noTs⟩ (r_X12_gives l dC dI H.size cs b u4 a hA5 x10) ⟨cbE 1 (wd_1621 hE) (wd_126 hE) (wd_1618 hE) rfl rfl (by decide +kernel) ⟨Nat.le_of_ble_eq_true rfl, Nat.le_of_ble_eq_true rfl⟩, (wd_1620 hE), (wd_80 hE)⟩ ⟨PR.blind, r_recv hK hP rfl, (r_pre (av := [.ref (b 0), .int x10]) hK hP hJ hE)⟩ rfl rfl hl.1 rfl (lv_room (Nat.le_of_ble_eq_true rfl)) dX12_chi_150 ⟨Nat.le_of_ble_eq_true rfl, Nat.le_of_ble_eq_true rfl⟩) (fun r11 u11 H locs hpo11 hP hS => ?_)
        obtain ⟨hr11, hq11⟩ := hpo11
        have hA12 := (hq11.1 1 List.not_mem_nil).trans hA5
        have hfr := FR.step hfr hq11 (fun _ h => absurd h List.not_mem_nil) (by decide) (fun h => rfl)
        refine W.eq (g2 := F0 m 153 ls [.int x10]) (by rw [hr11]) ?_
        exact W.iret (v := x10) hx hb hr (fun t ht hW => ⟨⟨x10, u11, rfl, ⟨trivial, hfr⟩, (show va_P (dC, dI) vwCl (rW cs b u11) t.heap by rw [ht]; exact hP)⟩, hS.F ht⟩) hS.2.2 dX12_chi_153
      · have c9 := (b_eq (rfl : Int32.toInt x = _) (show Int32.toInt 0 = 0 from rfl)).mp c9
        refine lv_lload_n hx hb dX12_chi_143 rfl (lv_at hl 2 rfl) ?_
        refine lv_goto (tgt := 149) hx hb dX12_chi_144 (by decide) ?_
        refine lv_l2i hx hb dX12_chi_149 rfl ?_
        refine lv_topi (fun x13 ex13 => ?_)
        refine rc_i hAL hS hA (va_runV (As := [.int x13]) (rest := []) ⟨hx, hb, hml, hown, noTs⟩ (r_X12_gives l dC dI H.size cs b u4 a hA5 x13) ⟨cbE 1 (wd_1621 hE) (wd_126 hE) (wd_1618 hE) rfl rfl (by decide +kernel) ⟨Nat.le_of_ble_eq_true rfl, Nat.le_of_ble_eq_true rfl⟩, (wd_1620 hE), (wd_80 hE)⟩ ⟨PR.blind, r_recv hK hP rfl, (r_pre (av := [.ref (b 0), .int x13]) hK hP hJ hE)⟩ rfl rfl hl.1 rfl (lv_room (Nat.le_of_ble_eq_true rfl)) dX12_chi_150 ⟨Nat.le_of_ble_eq_true rfl, Nat.le_of_ble_eq_true rfl⟩) (fun r14 u14 H locs hpo14 hP hS => ?_)
        obtain ⟨hr14, hq14⟩ := hpo14
        have hA15 := (hq14.1 1 List.not_mem_nil).trans hA5
        have hfr := FR.step hfr hq14 (fun _ h => absurd h List.not_mem_nil) (by decide) (fun h => rfl)
        refine W.eq (g2 := F0 m 153 ls [.int x13]) (by rw [hr14]) ?_
        exact W.iret (v := x13) hx hb hr (fun t ht hW => ⟨⟨x13, u14, rfl, ⟨trivial, hfr⟩, (show va_P (dC, dI) vwCl (rW cs b u14) t.heap by rw [ht]; exact hP)⟩, hS.F ht⟩) hS.2.2 dX12_chi_153
    · have c8 := mt (b_le (nI_toInt (n := (vN a) + (eN a)) (by omega)) (nI_toInt (n := k_4) (by omega))).mpr c8
      refine lv_iload hx hb dX12_chi_39 (lv_at hl 4 rfl) ?_
      refine lv_aload_n hx hb dX12_chi_41 rfl (lv_at hl 0 rfl) ?_
      refine lv_iconst (v := 0) hx hb dX12_chi_42 (by decide) ?_
      refine vp_callSi (va_Run.run (va_runV (As := [.int (nI 0)]) (rest := [.int (nI k_4)]) ⟨hx, hb, hml, hown, noTs⟩ (r_X12_of l dC dI H.size cs b u4 a hA5 0 (by first | assumption | omega | rfl | (congr 1; omega))) ⟨cbE 1 (wd_1536 hE) (wd_126 hE) (wd_1533 hE) rfl rfl (by decide +kernel) ⟨Nat.le_of_ble_eq_true rfl, Nat.le_of_ble_eq_true rfl⟩, (wd_1535 hE), (wd_61 hE)⟩ ⟨PR.blind, r_recv hK hP rfl, (r_pre (av := [.ref (b 0), .int (nI 0)]) hK hP hJ hE)⟩ rfl rfl hl.1 rfl (lv_room (Nat.le_of_ble_eq_true rfl)) dX12_chi_43 ⟨Nat.le_of_ble_eq_true rfl, Nat.le_of_ble_eq_true rfl⟩)) (fun r16 hr16 => ?_)
      have hr16 := hr16.trans (gg_v hG)
      subst hr16
      refine lv_isub hx hb dX12_chi_46 ?_
      refine lv_topi (fun x17 ex17 => ?_)
      have hz18 : x17.toInt = ((k_4 : Nat) : Int) - ((vN a : Nat) : Int) := by rw [ex17]; exact z_sub (nI_toInt (n := k_4) (by omega)) (nI_toInt (n := vN a) (by omega)) (by omega) (by omega)
      refine lv_istore (lv' := [(7, .int x17), (0, .ref (b 0)), (1, .int x), (2, .long x1_4), (4, .long y1_4), (6, .int (nI k_4))]) hx hb dX12_chi_47 hl (by decide) rfl (fun ls hl => ?_)
      refine lv_iload hx hb dX12_chi_49 (lv_at hl 0 rfl) ?_
      refine lv_if_ge (tgt := 64) hx hb dX12_chi_51 (by decide) (fun c19 => ?_) (fun c19 => ?_)
      · have c19 := (b_le (show Int32.toInt 0 = 0 from rfl) hz18).mp c19
        have hi20 : x17 = nI (k_4 - vN a) := z_nat hz18 (by omega)
        subst hi20
        have hti21 := nI_toInt (n := k_4 - vN a) (by omega)
        refine lv_aload_n hx hb dX12_chi_64 rfl (lv_at hl 1 rfl) ?_
        refine lv_aload_n hx hb dX12_chi_65 rfl (lv_at hl 1 rfl) ?_
        refine lv_iload hx hb dX12_chi_66 (lv_at hl 0 rfl) ?_
        refine lv_iconst (v := 0) hx hb dX12_chi_68 (by decide) ?_
        refine vp_callSi (va_Run.run (va_runV (As := [.int (nI (k_4 - vN a)), .int (nI 0)]) (rest := [.ref (b 0)]) ⟨hx, hb, hml, hown, noTs⟩ (r_X12_ofEdge l dC dI H.size cs b u4 a hA5 (k_4 - vN a) 0 (by first | assumption | omega | rfl | (congr 1; omega)) (by first | assumption | omega | rfl | (congr 1; omega)) (by first | assumption | omega | rfl | (congr 1; omega))) ⟨cbE 2 (wd_1595 hE) (wd_126 hE) (wd_1592 hE) rfl rfl (by decide +kernel) ⟨Nat.le_of_ble_eq_true rfl, Nat.le_of_ble_eq_true rfl⟩, (wd_1594 hE), (wd_75 hE)⟩ ⟨PR.blind, r_recv hK hP rfl, (r_pre (av := [.ref (b 0), .int (nI (k_4 - vN a)), .int (nI 0)]) hK hP hJ hE)⟩ rfl rfl hl.1 rfl (lv_room (Nat.le_of_ble_eq_true rfl)) dX12_chi_69 ⟨Nat.le_of_ble_eq_true rfl, Nat.le_of_ble_eq_true rfl⟩)) (fun r22 hr22 => ?_)
        have hev0 := (gg_edge hG (e := k_4 - vN a) (by omega)).2.1
        subst hr22
        refine vp_callSi (va_Run.run (va_runV (As := [.int (nI (ev a (k_4 - vN a) 0))]) (rest := []) ⟨hx, hb, hml, hown, noTs⟩ (r_X12_orderAt l dC dI H.size cs b u4 a hA5 (ev a (k_4 - vN a) 0) (by first | assumption | omega | rfl | (congr 1; omega)) (by first | assumption | omega | rfl | (congr 1; omega))) ⟨cbE 1 (wd_1564 hE) (wd_126 hE) (wd_1561 hE) rfl rfl (by decide +kernel) ⟨Nat.le_of_ble_eq_true rfl, Nat.le_of_ble_eq_true rfl⟩, (wd_1563 hE), (wd_68 hE)⟩ ⟨PR.blind, r_recv hK hP rfl, (r_pre (av := [.ref (b 0), .int (nI (ev a (k_4 - vN a) 0))]) hK hP hJ hE)⟩ rfl rfl hl.1 rfl (lv_room (Nat.le_of_ble_eq_true rfl)) dX12_chi_72 ⟨Nat.le_of_ble_eq_true rfl, Nat.le_of_ble_eq_true rfl⟩)) (fun r23 hr23 => ?_)
        have hau23 := (gg_od (a := a) (v := (ev a (k_4 - vN a) 0)) (by assumption) (by first | assumption | omega)).2
        subst hr23
        refine lv_aload_n hx hb dX12_chi_75 rfl (lv_at hl 1 rfl) ?_
        refine lv_iload hx hb dX12_chi_76 (lv_at hl 0 rfl) ?_
        refine lv_iconst (v := 1) hx hb dX12_chi_78 (by decide) ?_
        refine vp_callSi (va_Run.run (va_runV (As := [.int (nI (k_4 - vN a)), .int (nI 1)]) (rest := [.int (nI (od a (ev a (k_4 - vN a) 0)))]) ⟨hx, hb, hml, hown, noTs⟩ (r_X12_ofEdge l dC dI H.size cs b u4 a hA5 (k_4 - vN a) 1 (by first | assumption | omega | rfl | (congr 1; omega)) (by first | assumption | omega | rfl | (congr 1; omega)) (by first | assumption | omega | rfl | (congr 1; omega))) ⟨cbE 2 (wd_1595 hE) (wd_126 hE) (wd_1592 hE) rfl rfl (by decide +kernel) ⟨Nat.le_of_ble_eq_true rfl, Nat.le_of_ble_eq_true rfl⟩, (wd_1594 hE), (wd_75 hE)⟩ ⟨PR.blind, r_recv hK hP rfl, (r_pre (av := [.ref (b 0), .int (nI (k_4 - vN a)), .int (nI 1)]) hK hP hJ hE)⟩ rfl rfl hl.1 rfl (lv_room (Nat.le_of_ble_eq_true rfl)) dX12_chi_79 ⟨Nat.le_of_ble_eq_true rfl, Nat.le_of_ble_eq_true rfl⟩)) (fun r24 hr24 => ?_)
        subst hr24
        obtain ⟨-, he0, -, cq, hq1, hq2⟩ := gg_edge hG (e := k_4 - vN a) (by omega)
        have hqo := gg_od hG he0
        have hqp := mul_pos1 hq1 hqo.2.1
        refine lv_idiv hx hb dX12_chi_82 (nI_ne0 (n := ev a (k_4 - vN a) 1) (by omega) (by omega)) ?_
        refine W.eq (g2 := F0 m 83 ls [.int (nI ((od a (ev a (k_4 - vN a) 0)) / (ev a (k_4 - vN a) 1)))]) (congrArg (fun z : Int32 => F0 m 83 ls (.int z :: [])) (pk_div (a := od a (ev a (k_4 - vN a) 0)) (d := ev a (k_4 - vN a) 1) (by omega) (by omega) (by omega))) ?_
        have hmd25 := Nat.div_le_self (od a (ev a (k_4 - vN a) 0)) (ev a (k_4 - vN a) 1)
        have hqd : od a (ev a (k_4 - vN a) 0) / ev a (k_4 - vN a) 1 = cq := by rw [hq1]; exact Nat.mul_div_cancel _ (by omega)
        have hcq : cq ≤ 60 := by have := Nat.le_mul_of_pos_right cq (show 0 < ev a (k_4 - vN a) 1 by omega); omega
        refine lv_i2l hx hb dX12_chi_83 rfl ?_
        refine W.eq (g2 := F0 m 84 ls [.long (lN ((od a (ev a (k_4 - vN a) 0)) / (ev a (k_4 - vN a) 1)))]) (congrArg (fun z : Int64 => F0 m 84 ls (.long z :: [])) (nI_l (n := (od a (ev a (k_4 - vN a) 0)) / (ev a (k_4 - vN a) 1)) (by omega))) ?_
        refine lv_lstore (lv' := [(8, .long (lN ((od a (ev a (k_4 - vN a) 0)) / (ev a (k_4 - vN a) 1)))), (7, .int (nI (k_4 - vN a))), (0, .ref (b 0)), (1, .int x), (2, .long x1_4), (4, .long y1_4), (6, .int (nI k_4))]) hx hb dX12_chi_84 hl (by decide) rfl (fun ls hl => ?_)
        refine lv_lload_n hx hb dX12_chi_86 rfl (lv_at hl 4 rfl) ?_
        refine lv_lload hx hb dX12_chi_87 (lv_at hl 0 rfl) ?_
        refine lv_lmul hx hb dX12_chi_89 ?_
        refine lv_topl (fun x26 ex26 => ?_)
        refine lv_iload hx hb dX12_chi_90 (lv_at hl 1 rfl) ?_
        refine lv_if_ge (tgt := 100) hx hb dX12_chi_92 (by decide) (fun c27 => ?_) (fun c27 => ?_)
        · have c27 := (b_le (show Int32.toInt 0 = 0 from rfl) (nI_toInt (n := k_4 - vN a) (by omega))).mp c27
          refine lv_lload hx hb dX12_chi_100 (lv_at hl 5 rfl) ?_
          refine lv_lneg hx hb dX12_chi_102 ?_
          refine lv_topl (fun x28 ex28 => ?_)
          refine lv_ladd hx hb dX12_chi_103 ?_
          refine lv_topl (fun x29 ex29 => ?_)
          refine lv_lstore_n (lv' := [(2, .long x29), (8, .long (lN ((od a (ev a (k_4 - vN a) 0)) / (ev a (k_4 - vN a) 1)))), (7, .int (nI (k_4 - vN a))), (0, .ref (b 0)), (1, .int x), (4, .long y1_4), (6, .int (nI k_4))]) hx hb dX12_chi_104 rfl hl (by decide) rfl (fun ls hl => ?_)
          refine lv_lload hx hb dX12_chi_105 (lv_at hl 5 rfl) ?_
          refine lv_lload hx hb dX12_chi_107 (lv_at hl 1 rfl) ?_
          refine lv_lmul hx hb dX12_chi_109 ?_
          refine lv_topl (fun x30 ex30 => ?_)
          have LW2 := lw_mul (n := ((od a (ev a (k_4 - vN a) 0)) / (ev a (k_4 - vN a) 1))) hL4_1 (by omega) (by omega) (by omega) ex30
          refine lv_lstore (lv' := [(4, .long x30), (2, .long x29), (8, .long (lN ((od a (ev a (k_4 - vN a) 0)) / (ev a (k_4 - vN a) 1)))), (7, .int (nI (k_4 - vN a))), (0, .ref (b 0)), (1, .int x), (6, .int (nI k_4))]) hx hb dX12_chi_110 hl (by decide) rfl (fun ls hl => ?_)
          refine lv_lload_n hx hb dX12_chi_112 rfl (lv_at hl 1 rfl) ?_
          refine lv_lload hx hb dX12_chi_113 (lv_at hl 0 rfl) ?_
          refine vp_callSl (va_Run.run (va_runS (As := [.long x29, .long x30]) (rest := []) ⟨hx, hb, hml, hown, noTs⟩ (r_X12_common_ l dC dI H.size cs b u4 x29 x30 (by exact lw_ne LW2)) ⟨cbE 2 (wd_1963 hE) (wd_126 hE) (wd_1961 hE) rfl rfl (by decide +kernel) ⟨Nat.le_of_ble_eq_true rfl, Nat.le_of_ble_eq_true rfl⟩, (wd_1962 hE)⟩ ⟨PR.blind, (r_pre (av := [.long x29, .long x30]) hK hP hJ hE)⟩ rfl rfl hl.1 rfl (lv_room (Nat.le_of_ble_eq_true rfl)) dX12_chi_115 ⟨Nat.le_of_ble_eq_true rfl, Nat.le_of_ble_eq_true rfl⟩)) (fun r31 hr31 => ?_)
          have CM := hr31
          refine lv_lstore (lv' := [(10, .long r31), (4, .long x30), (2, .long x29), (8, .long (lN ((od a (ev a (k_4 - vN a) 0)) / (ev a (k_4 - vN a) 1)))), (7, .int (nI (k_4 - vN a))), (0, .ref (b 0)), (1, .int x), (6, .int (nI k_4))]) hx hb dX12_chi_118 hl (by decide) rfl (fun ls hl => ?_)
          refine lv_lload_n hx hb dX12_chi_120 rfl (lv_at hl 2 rfl) ?_
          refine lv_lload hx hb dX12_chi_121 (lv_at hl 0 rfl) ?_
          refine lv_ldiv hx hb dX12_chi_123 CM.1 ?_
          refine lv_topl (fun x32 ex32 => ?_)
          refine lv_lstore_n (lv' := [(2, .long x32), (10, .long r31), (4, .long x30), (8, .long (lN ((od a (ev a (k_4 - vN a) 0)) / (ev a (k_4 - vN a) 1)))), (7, .int (nI (k_4 - vN a))), (0, .ref (b 0)), (1, .int x), (6, .int (nI k_4))]) hx hb dX12_chi_124 rfl hl (by decide) rfl (fun ls hl => ?_)
          refine lv_lload hx hb dX12_chi_125 (lv_at hl 2 rfl) ?_
          refine lv_lload hx hb dX12_chi_127 (lv_at hl 1 rfl) ?_
          refine lv_ldiv hx hb dX12_chi_129 CM.1 ?_
          refine lv_topl (fun x33 ex33 => ?_)
          have LW3 := lw_div LW2 CM.1 CM.2 (by omega) ex33
          refine lv_lstore (lv' := [(4, .long x33), (2, .long x32), (10, .long r31), (8, .long (lN ((od a (ev a (k_4 - vN a) 0)) / (ev a (k_4 - vN a) 1)))), (7, .int (nI (k_4 - vN a))), (0, .ref (b 0)), (1, .int x), (6, .int (nI k_4))]) hx hb dX12_chi_130 hl (by decide) rfl (fun ls hl => ?_)
          refine lv_iinc (v := nI (k_4 + 1)) (lv' := [(6, .int (nI (k_4 + 1))), (4, .long x33), (2, .long x32), (10, .long r31), (8, .long (lN ((od a (ev a (k_4 - vN a) 0)) / (ev a (k_4 - vN a) 1)))), (7, .int (nI (k_4 - vN a))), (0, .ref (b 0)), (1, .int x)]) hx hb dX12_chi_132 hl (k := 7) rfl (nI_1 k_4) (by decide) rfl (fun ls hl => ?_)
          refine lv_goto (tgt := 23) hx hb dX12_chi_135 (by decide) ?_
          exact ih4 _ u4 _ _ _ (by omega) ⟨hP, hS, hfr, (k_4 + 1), x32, x33, rfl, (by first | assumption | omega | rfl | (congr 1; omega)), (by exact LW3), lv_sub hl [6, 7, 2, 1, 0] rfl⟩
        · have c27 := mt (b_le (show Int32.toInt 0 = 0 from rfl) (nI_toInt (n := k_4 - vN a) (by omega))).mpr c27
          refine lv_lload hx hb dX12_chi_95 (lv_at hl 5 rfl) ?_
          refine lv_goto (tgt := 103) hx hb dX12_chi_97 (by decide) ?_
          refine lv_ladd hx hb dX12_chi_103 ?_
          refine lv_topl (fun x34 ex34 => ?_)
          refine lv_lstore_n (lv' := [(2, .long x34), (8, .long (lN ((od a (ev a (k_4 - vN a) 0)) / (ev a (k_4 - vN a) 1)))), (7, .int (nI (k_4 - vN a))), (0, .ref (b 0)), (1, .int x), (4, .long y1_4), (6, .int (nI k_4))]) hx hb dX12_chi_104 rfl hl (by decide) rfl (fun ls hl => ?_)
          refine lv_lload hx hb dX12_chi_105 (lv_at hl 5 rfl) ?_
          refine lv_lload hx hb dX12_chi_107 (lv_at hl 1 rfl) ?_
          refine lv_lmul hx hb dX12_chi_109 ?_
          refine lv_topl (fun x35 ex35 => ?_)
          have LW2 := lw_mul (n := ((od a (ev a (k_4 - vN a) 0)) / (ev a (k_4 - vN a) 1))) hL4_1 (by omega) (by omega) (by omega) ex35
          refine lv_lstore (lv' := [(4, .long x35), (2, .long x34), (8, .long (lN ((od a (ev a (k_4 - vN a) 0)) / (ev a (k_4 - vN a) 1)))), (7, .int (nI (k_4 - vN a))), (0, .ref (b 0)), (1, .int x), (6, .int (nI k_4))]) hx hb dX12_chi_110 hl (by decide) rfl (fun ls hl => ?_)
          refine lv_lload_n hx hb dX12_chi_112 rfl (lv_at hl 1 rfl) ?_
          refine lv_lload hx hb dX12_chi_113 (lv_at hl 0 rfl) ?_
          refine vp_callSl (va_Run.run (va_runS (As := [.long x34, .long x35]) (rest := []) ⟨hx, hb, hml, hown, noTs⟩ (r_X12_common_ l dC dI H.size cs b u4 x34 x35 (by exact lw_ne LW2)) ⟨cbE 2 (wd_1963 hE) (wd_126 hE) (wd_1961 hE) rfl rfl (by decide +kernel) ⟨Nat.le_of_ble_eq_true rfl, Nat.le_of_ble_eq_true rfl⟩, (wd_1962 hE)⟩ ⟨PR.blind, (r_pre (av := [.long x34, .long x35]) hK hP hJ hE)⟩ rfl rfl hl.1 rfl (lv_room (Nat.le_of_ble_eq_true rfl)) dX12_chi_115 ⟨Nat.le_of_ble_eq_true rfl, Nat.le_of_ble_eq_true rfl⟩)) (fun r36 hr36 => ?_)
          have CM := hr36
          refine lv_lstore (lv' := [(10, .long r36), (4, .long x35), (2, .long x34), (8, .long (lN ((od a (ev a (k_4 - vN a) 0)) / (ev a (k_4 - vN a) 1)))), (7, .int (nI (k_4 - vN a))), (0, .ref (b 0)), (1, .int x), (6, .int (nI k_4))]) hx hb dX12_chi_118 hl (by decide) rfl (fun ls hl => ?_)
          refine lv_lload_n hx hb dX12_chi_120 rfl (lv_at hl 2 rfl) ?_
          refine lv_lload hx hb dX12_chi_121 (lv_at hl 0 rfl) ?_
          refine lv_ldiv hx hb dX12_chi_123 CM.1 ?_
          refine lv_topl (fun x37 ex37 => ?_)
          refine lv_lstore_n (lv' := [(2, .long x37), (10, .long r36), (4, .long x35), (8, .long (lN ((od a (ev a (k_4 - vN a) 0)) / (ev a (k_4 - vN a) 1)))), (7, .int (nI (k_4 - vN a))), (0, .ref (b 0)), (1, .int x), (6, .int (nI k_4))]) hx hb dX12_chi_124 rfl hl (by decide) rfl (fun ls hl => ?_)
          refine lv_lload hx hb dX12_chi_125 (lv_at hl 2 rfl) ?_
          refine lv_lload hx hb dX12_chi_127 (lv_at hl 1 rfl) ?_
          refine lv_ldiv hx hb dX12_chi_129 CM.1 ?_
          refine lv_topl (fun x38 ex38 => ?_)
          have LW3 := lw_div LW2 CM.1 CM.2 (by omega) ex38
          refine lv_lstore (lv' := [(4, .long x38), (2, .long x37), (10, .long r36), (8, .long (lN ((od a (ev a (k_4 - vN a) 0)) / (ev a (k_4 - vN a) 1)))), (7, .int (nI (k_4 - vN a))), (0, .ref (b 0)), (1, .int x), (6, .int (nI k_4))]) hx hb dX12_chi_130 hl (by decide) rfl (fun ls hl => ?_)
          refine lv_iinc (v := nI (k_4 + 1)) (lv' := [(6, .int (nI (k_4 + 1))), (4, .long x38), (2, .long x37), (10, .long r36), (8, .long (lN ((od a (ev a (k_4 - vN a) 0)) / (ev a (k_4 - vN a) 1)))), (7, .int (nI (k_4 - vN a))), (0, .ref (b 0)), (1, .int x)]) hx hb dX12_chi_132 hl (k := 7) rfl (nI_1 k_4) (by decide) rfl (fun ls hl => ?_)
          refine lv_goto (tgt := 23) hx hb dX12_chi_135 (by decide) ?_
          exact ih4 _ u4 _ _ _ (by omega) ⟨hP, hS, hfr, (k_4 + 1), x37, x38, rfl, (by first | assumption | omega | rfl | (congr 1; omega)), (by exact LW3), lv_sub hl [6, 7, 2, 1, 0] rfl⟩
      · have c19 := mt (b_le (show Int32.toInt 0 = 0 from rfl) hz18).mpr c19
        refine lv_aload_n hx hb dX12_chi_54 rfl (lv_at hl 1 rfl) ?_
        refine lv_iload hx hb dX12_chi_55 (lv_at hl 5 rfl) ?_
        refine vp_callSi (va_Run.run (va_runV (As := [.int (nI k_4)]) (rest := []) ⟨hx, hb, hml, hown, noTs⟩ (r_X12_orderAt l dC dI H.size cs b u4 a hA5 k_4 (by first | assumption | omega | rfl | (congr 1; omega)) (by first | assumption | omega | rfl | (congr 1; omega))) ⟨cbE 1 (wd_1564 hE) (wd_126 hE) (wd_1561 hE) rfl rfl (by decide +kernel) ⟨Nat.le_of_ble_eq_true rfl, Nat.le_of_ble_eq_true rfl⟩, (wd_1563 hE), (wd_68 hE)⟩ ⟨PR.blind, r_recv hK hP rfl, (r_pre (av := [.ref (b 0), .int (nI k_4)]) hK hP hJ hE)⟩ rfl rfl hl.1 rfl (lv_room (Nat.le_of_ble_eq_true rfl)) dX12_chi_57 ⟨Nat.le_of_ble_eq_true rfl, Nat.le_of_ble_eq_true rfl⟩)) (fun r39 hr39 => ?_)
        have hau39 := (gg_od (a := a) (v := k_4) (by assumption) (by first | assumption | omega)).2
        subst hr39
        refine lv_i2l hx hb dX12_chi_60 rfl ?_
        refine W.eq (g2 := F0 m 61 ls [.long (lN (od a k_4))]) (congrArg (fun z : Int64 => F0 m 61 ls (.long z :: [])) (nI_l (n := od a k_4) (by omega))) ?_
        refine lv_goto (tgt := 84) hx hb dX12_chi_61 (by decide) ?_
        refine lv_lstore (lv' := [(8, .long (lN (od a k_4))), (7, .int x17), (0, .ref (b 0)), (1, .int x), (2, .long x1_4), (4, .long y1_4), (6, .int (nI k_4))]) hx hb dX12_chi_84 hl (by decide) rfl (fun ls hl => ?_)
        refine lv_lload_n hx hb dX12_chi_86 rfl (lv_at hl 4 rfl) ?_
        refine lv_lload hx hb dX12_chi_87 (lv_at hl 0 rfl) ?_
        refine lv_lmul hx hb dX12_chi_89 ?_
        refine lv_topl (fun x40 ex40 => ?_)
        refine lv_iload hx hb dX12_chi_90 (lv_at hl 1 rfl) ?_
        refine lv_if_ge (tgt := 100) hx hb dX12_chi_92 (by decide) (fun c41 => ?_) (fun c41 => ?_)
        · have c41 := (b_le (show Int32.toInt 0 = 0 from rfl) hz18).mp c41
          refine lv_lload hx hb dX12_chi_100 (lv_at hl 5 rfl) ?_
          refine lv_lneg hx hb dX12_chi_102 ?_
          refine lv_topl (fun x42 ex42 => ?_)
          refine lv_ladd hx hb dX12_chi_103 ?_
          refine lv_topl (fun x43 ex43 => ?_)
          refine lv_lstore_n (lv' := [(2, .long x43), (8, .long (lN (od a k_4))), (7, .int x17), (0, .ref (b 0)), (1, .int x), (4, .long y1_4), (6, .int (nI k_4))]) hx hb dX12_chi_104 rfl hl (by decide) rfl (fun ls hl => ?_)
          refine lv_lload hx hb dX12_chi_105 (lv_at hl 5 rfl) ?_
          refine lv_lload hx hb dX12_chi_107 (lv_at hl 1 rfl) ?_
          refine lv_lmul hx hb dX12_chi_109 ?_
          refine lv_topl (fun x44 ex44 => ?_)
          have LW2 := lw_mul (n := (od a k_4)) hL4_1 (by omega) (by omega) (by omega) ex44
          refine lv_lstore (lv' := [(4, .long x44), (2, .long x43), (8, .long (lN (od a k_4))), (7, .int x17), (0, .ref (b 0)), (1, .int x), (6, .int (nI k_4))]) hx hb dX12_chi_110 hl (by decide) rfl (fun ls hl => ?_)
          refine lv_lload_n hx hb dX12_chi_112 rfl (lv_at hl 1 rfl) ?_
          refine lv_lload hx hb dX12_chi_113 (lv_at hl 0 rfl) ?_
          refine vp_callSl (va_Run.run (va_runS (As := [.long x43, .long x44]) (rest := []) ⟨hx, hb, hml, hown, noTs⟩ (r_X12_common_ l dC dI H.size cs b u4 x43 x44 (by exact lw_ne LW2)) ⟨cbE 2 (wd_1963 hE) (wd_126 hE) (wd_1961 hE) rfl rfl (by decide +kernel) ⟨Nat.le_of_ble_eq_true rfl, Nat.le_of_ble_eq_true rfl⟩, (wd_1962 hE)⟩ ⟨PR.blind, (r_pre (av := [.long x43, .long x44]) hK hP hJ hE)⟩ rfl rfl hl.1 rfl (lv_room (Nat.le_of_ble_eq_true rfl)) dX12_chi_115 ⟨Nat.le_of_ble_eq_true rfl, Nat.le_of_ble_eq_true rfl⟩)) (fun r45 hr45 => ?_)
          have CM := hr45
          refine lv_lstore (lv' := [(10, .long r45), (4, .long x44), (2, .long x43), (8, .long (lN (od a k_4))), (7, .int x17), (0, .ref (b 0)), (1, .int x), (6, .int (nI k_4))]) hx hb dX12_chi_118 hl (by decide) rfl (fun ls hl => ?_)
          refine lv_lload_n hx hb dX12_chi_120 rfl (lv_at hl 2 rfl) ?_
          refine lv_lload hx hb dX12_chi_121 (lv_at hl 0 rfl) ?_
          refine lv_ldiv hx hb dX12_chi_123 CM.1 ?_
          refine lv_topl (fun x46 ex46 => ?_)
          refine lv_lstore_n (lv' := [(2, .long x46), (10, .long r45), (4, .long x44), (8, .long (lN (od a k_4))), (7, .int x17), (0, .ref (b 0)), (1, .int x), (6, .int (nI k_4))]) hx hb dX12_chi_124 rfl hl (by decide) rfl (fun ls hl => ?_)
          refine lv_lload hx hb dX12_chi_125 (lv_at hl 2 rfl) ?_
          refine lv_lload hx hb dX12_chi_127 (lv_at hl 1 rfl) ?_
          refine lv_ldiv hx hb dX12_chi_129 CM.1 ?_
          refine lv_topl (fun x47 ex47 => ?_)
          have LW3 := lw_div LW2 CM.1 CM.2 (by omega) ex47
          refine lv_lstore (lv' := [(4, .long x47), (2, .long x46), (10, .long r45), (8, .long (lN (od a k_4))), (7, .int x17), (0, .ref (b 0)), (1, .int x), (6, .int (nI k_4))]) hx hb dX12_chi_130 hl (by decide) rfl (fun ls hl => ?_)
          refine lv_iinc (v := nI (k_4 + 1)) (lv' := [(6, .int (nI (k_4 + 1))), (4, .long x47), (2, .long x46), (10, .long r45), (8, .long (lN (od a k_4))), (7, .int x17), (0, .ref (b 0)), (1, .int x)]) hx hb dX12_chi_132 hl (k := 7) rfl (nI_1 k_4) (by decide) rfl (fun ls hl => ?_)
          refine lv_goto (tgt := 23) hx hb dX12_chi_135 (by decide) ?_
          exact ih4 _ u4 _ _ _ (by omega) ⟨hP, hS, hfr, (k_4 + 1), x46, x47, rfl, (by first | assumption | omega | rfl | (congr 1; omega)), (by exact LW3), lv_sub hl [6, 7, 2, 1, 0] rfl⟩
        · have c41 := mt (b_le (show Int32.toInt 0 = 0 from rfl) hz18).mpr c41
          refine lv_lload hx hb dX12_chi_95 (lv_at hl 5 rfl) ?_
          refine lv_goto (tgt := 103) hx hb dX12_chi_97 (by decide) ?_
          refine lv_ladd hx hb dX12_chi_103 ?_
          refine lv_topl (fun x48 ex48 => ?_)
          refine lv_lstore_n (lv' := [(2, .long x48), (8, .long (lN (od a k_4))), (7, .int x17), (0, .ref (b 0)), (1, .int x), (4, .long y1_4), (6, .int (nI k_4))]) hx hb dX12_chi_104 rfl hl (by decide) rfl (fun ls hl => ?_)
          refine lv_lload hx hb dX12_chi_105 (lv_at hl 5 rfl) ?_
          refine lv_lload hx hb dX12_chi_107 (lv_at hl 1 rfl) ?_
          refine lv_lmul hx hb dX12_chi_109 ?_
          refine lv_topl (fun x49 ex49 => ?_)
          have LW2 := lw_mul (n := (od a k_4)) hL4_1 (by omega) (by omega) (by omega) ex49
          refine lv_lstore (lv' := [(4, .long x49), (2, .long x48), (8, .long (lN (od a k_4))), (7, .int x17), (0, .ref (b 0)), (1, .int x), (6, .int (nI k_4))]) hx hb dX12_chi_110 hl (by decide) rfl (fun ls hl => ?_)
          refine lv_lload_n hx hb dX12_chi_112 rfl (lv_at hl 1 rfl) ?_
          refine lv_lload hx hb dX12_chi_113 (lv_at hl 0 rfl) ?_
          refine vp_callSl (va_Run.run (va_runS (As := [.long x48, .long x49]) (rest := []) ⟨hx, hb, hml, hown, noTs⟩ (r_X12_common_ l dC dI H.size cs b u4 x48 x49 (by exact lw_ne LW2)) ⟨cbE 2 (wd_1963 hE) (wd_126 hE) (wd_1961 hE) rfl rfl (by decide +kernel) ⟨Nat.le_of_ble_eq_true rfl, Nat.le_of_ble_eq_true rfl⟩, (wd_1962 hE)⟩ ⟨PR.blind, (r_pre (av := [.long x48, .long x49]) hK hP hJ hE)⟩ rfl rfl hl.1 rfl (lv_room (Nat.le_of_ble_eq_true rfl)) dX12_chi_115 ⟨Nat.le_of_ble_eq_true rfl, Nat.le_of_ble_eq_true rfl⟩)) (fun r50 hr50 => ?_)
          have CM := hr50
          refine lv_lstore (lv' := [(10, .long r50), (4, .long x49), (2, .long x48), (8, .long (lN (od a k_4))), (7, .int x17), (0, .ref (b 0)), (1, .int x), (6, .int (nI k_4))]) hx hb dX12_chi_118 hl (by decide) rfl (fun ls hl => ?_)
          refine lv_lload_n hx hb dX12_chi_120 rfl (lv_at hl 2 rfl) ?_
          refine lv_lload hx hb dX12_chi_121 (lv_at hl 0 rfl) ?_
          refine lv_ldiv hx hb dX12_chi_123 CM.1 ?_
          refine lv_topl (fun x51 ex51 => ?_)
          refine lv_lstore_n (lv' := [(2, .long x51), (10, .long r50), (4, .long x49), (8, .long (lN (od a k_4))), (7, .int x17), (0, .ref (b 0)), (1, .int x), (6, .int (nI k_4))]) hx hb dX12_chi_124 rfl hl (by decide) rfl (fun ls hl => ?_)
          refine lv_lload hx hb dX12_chi_125 (lv_at hl 2 rfl) ?_
          refine lv_lload hx hb dX12_chi_127 (lv_at hl 1 rfl) ?_
          refine lv_ldiv hx hb dX12_chi_129 CM.1 ?_
          refine lv_topl (fun x52 ex52 => ?_)
          have LW3 := lw_div LW2 CM.1 CM.2 (by omega) ex52
          refine lv_lstore (lv' := [(4, .long x52), (2, .long x51), (10, .long r50), (8, .long (lN (od a k_4))), (7, .int x17), (0, .ref (b 0)), (1, .int x), (6, .int (nI k_4))]) hx hb dX12_chi_130 hl (by decide) rfl (fun ls hl => ?_)
          refine lv_iinc (v := nI (k_4 + 1)) (lv' := [(6, .int (nI (k_4 + 1))), (4, .long x52), (2, .long x51), (10, .long r50), (8, .long (lN (od a k_4))), (7, .int x17), (0, .ref (b 0)), (1, .int x)]) hx hb dX12_chi_132 hl (k := 7) rfl (nI_1 k_4) (by decide) rfl (fun ls hl => ?_)
          refine lv_goto (tgt := 23) hx hb dX12_chi_135 (by decide) ?_
          exact ih4 _ u4 _ _ _ (by omega) ⟨hP, hS, hfr, (k_4 + 1), x51, x52, rfl, (by first | assumption | omega | rfl | (congr 1; omega)), (by exact LW3), lv_sub hl [6, 7, 2, 1, 0] rfl⟩
  · refine lv_if_ne (tgt := 15) hx hb dX12_chi_6 (by decide) (fun c53 => absurd c53 (by decide)) (fun c53 => ?_)
    refine lv_aload_n hx hb dX12_chi_9 rfl (lv_at hl 0 rfl) ?_
    refine lv_iconst (v := 1) hx hb dX12_chi_10 (by decide) ?_
    refine rc_i hAL hS hA (va_runV (As := [.int 1]) (rest := []) ⟨hx, hb, hml, hown, noTs⟩ (r_X12_refuse l dC dI s.heap.size cs b u a hA1 1) ⟨cbE 1 (wd_1498 hE) (wd_126 hE) (wd_1495 hE) rfl rfl (by decide +kernel) ⟨Nat.le_of_ble_eq_true rfl, Nat.le_of_ble_eq_true rfl⟩, (wd_1497 hE), (wd_54 hE)⟩ ⟨PR.blind, r_recv hK hP rfl, (r_pre (av := [.ref (b 0), .int 1]) hK hP hJ hE)⟩ rfl rfl hl.1 rfl (lv_room (Nat.le_of_ble_eq_true rfl)) dX12_chi_11 ⟨Nat.le_of_ble_eq_true rfl, Nat.le_of_ble_eq_true rfl⟩) (fun r54 u54 H locs hpo54 hP hS => ?_)
    obtain ⟨hr54, hq54⟩ := hpo54
    have hA55 := (hq54.1 1 List.not_mem_nil).trans hA1
    have hfr := FR.step hfr hq54 (fun _ h => absurd h List.not_mem_nil) (by decide) (fun h => rfl)
    subst hr54
    exact W.iret (v := -1) hx hb hr (fun t ht hW => ⟨⟨-1, u54, rfl, ⟨trivial, hfr⟩, (show va_P (dC, dI) vwCl (rW cs b u54) t.heap by rw [ht]; exact hP)⟩, hS.F ht⟩) hS.2.2 dX12_chi_14
