theorem lc_lt {x : Int32} {X Y : Int64} (h : x = lg_cmp X Y) : x < 0 ↔ X < Y := by rw [h]; exact lg_cmp_lt X Y
theorem lc_le {x : Int32} {X Y : Int64} (h : x = lg_cmp X Y) : x ≤ 0 ↔ X ≤ Y := by rw [h]; exact lg_cmp_le X Y
theorem lc_gt {x : Int32} {X Y : Int64} (h : x = lg_cmp X Y) : 0 < x ↔ Y < X := by rw [h]; exact lg_cmp_gt X Y
theorem lc_ge {x : Int32} {X Y : Int64} (h : x = lg_cmp X Y) : 0 ≤ x ↔ Y ≤ X := by rw [h]; exact lg_cmp_ge X Y
theorem lc_eq {x : Int32} {X Y : Int64} (h : x = lg_cmp X Y) : x = 0 ↔ X = Y := by rw [h]; exact lg_cmp_eq X Y
theorem came_up {x : Int32} {k : Nat} (h : x.toInt = (k : Int) - 1) (hk : k ≤ 1000) : x + 1 = nI k :=
  z_nat (z_add h (show Int32.toInt 1 = 1 from rfl) (by omega) (by omega)) (by omega)
theorem came_ix {x : Int32} {n k : Nat} (h : x.toInt = (k : Int) - 1) (hk : k ≤ 1000) (hn : n < 1000000) : nI n + x + 1 = nI (n + k) :=
  z_nat (z_add (z_add (nI_toInt (n := n) (by omega)) h (by omega) (by omega)) (show Int32.toInt 1 = 1 from rfl) (by omega) (by omega)) (by omega)
/-- in how many ways one goes on by a step -/
def ch (a : Nat → Int32) (s k : Nat) : Nat := idx a s - (if k ≠ 0 ∧ s = fl (k - 1) then 1 else 0)
theorem ch_le {a : Nat → Int32} (hG : GG a) {s k : Nat} (hs : s < 2 * eN a) : ch a s k ≤ 60 := by
  have := gg_idx hG hs
  unfold ch
  omega
def hd (x : Nat) : Nat := if 1000000000000 < x then 1000000000000 else x
theorem hd_le (x : Nat) : hd x ≤ 1000000000000 := by unfold hd; split <;> omega
theorem hd_lt (x : Nat) : hd x ≤ x := by unfold hd; split <;> omega
def hsum (a : Nat → Int32) (v k : Nat) (f : Nat → Nat) : Nat → Nat
  | 0 => 0
  | m + 1 => if src a m = v then hd (hsum a v k f m + ch a m k * f m) else hsum a v k f m
def usum (a : Nat → Int32) (v k : Nat) (f : Nat → Nat) : Nat → Nat
  | 0 => 0
  | m + 1 => if src a m = v then usum a v k f m + ch a m k * f m else usum a v k f m
theorem hsum_le {a : Nat → Int32} {v k : Nat} {f : Nat → Nat} : ∀ m, hsum a v k f m ≤ usum a v k f m
  | 0 => Nat.le_refl 0
  | m + 1 => by
    have h := hsum_le (a := a) (v := v) (k := k) (f := f) m
    unfold hsum usum
    split
    · exact Nat.le_trans (hd_lt _) (Nat.add_le_add_right h _)
    · exact h
theorem hsum_b {a : Nat → Int32} {v k : Nat} {f : Nat → Nat} : ∀ m, hsum a v k f m ≤ 1000000000000
  | 0 => Nat.zero_le _
  | m + 1 => by
    unfold hsum
    split
    · exact hd_le _
    · exact hsum_b m
theorem hsum_t {a : Nat → Int32} {v k m : Nat} {f : Nat → Nat} (h : src a m = v) : hsum a v k f (m + 1) = hd (hsum a v k f m + ch a m k * f m) := if_pos h
theorem hsum_f {a : Nat → Int32} {v k m : Nat} {f : Nat → Nat} (h : ¬ src a m = v) : hsum a v k f (m + 1) = hsum a v k f m := if_neg h
theorem usum_t {a : Nat → Int32} {v k m : Nat} {f : Nat → Nat} (h : src a m = v) : usum a v k f (m + 1) = usum a v k f m + ch a m k * f m := if_pos h
theorem usum_f {a : Nat → Int32} {v k m : Nat} {f : Nat → Nat} (h : ¬ src a m = v) : usum a v k f (m + 1) = usum a v k f m := if_neg h
/-- how many forms lead home -/
def hM (a : Nat → Int32) (g : Nat) : Nat → Nat → Nat → Nat
  | 0, v, _ => if v = g then od a g else 0
  | n + 1, v, k => hsum a v k (fun s => hM a g n (dst a s) (s + 1)) (2 * eN a)
theorem hM_s {a : Nat → Int32} {g n v k : Nat} (h : 1 ≤ n) : hM a g n v k = hsum a v k (fun s => hM a g (n - 1) (dst a s) (s + 1)) (2 * eN a) := by
  obtain ⟨q, rfl⟩ : ∃ q, n = q + 1 := ⟨n - 1, by omega⟩
  rfl
theorem hM_b {a : Nat → Int32} (hG : GG a) {g n v k : Nat} (hg : g < vN a) : hM a g n v k ≤ 1000000000000 := by
  cases n with
  | zero =>
    have := gg_od hG hg
    show (if v = g then od a g else 0) ≤ _
    split <;> omega
  | succ n => exact hsum_b _
theorem mul_b {x y : Nat} (hx : x ≤ 60) (hy : y ≤ 1000000000000) : x * y ≤ 60000000000000 := Nat.mul_le_mul hx hy
/-- what the table of ways home holds -/
def HM (a : Nat → Int32) (g : Nat) (u : RS) : Prop := ∀ v k q, v < 6 → k < 13 → q < 13 → rL u (28 + 13 * v + k) q = -1 ∨ rL u (28 + 13 * v + k) q = lN (hM a g k v q)
theorem hm_put {a : Nat → Int32} {g v k q : Nat} {u u1 : RS} {y : Int64} (h : HM a g u) (hv : v < 6) (hk : k < 13) (hs : rL u1 (28 + 13 * v + k) = vp_updL (rL u (28 + 13 * v + k)) q y) (ho : ∀ j, j ≠ 28 + 13 * v + k → rL u1 j = rL u j) (hy : y = lN (hM a g k v q)) : HM a g u1 := fun v' k' q' hv' hk' hq' => by
  by_cases e : 28 + 13 * v' + k' = 28 + 13 * v + k
  · have e1 : v' = v := by omega
    have e2 : k' = k := by omega
    subst e1 e2
    rw [hs]
    by_cases e3 : q' = q
    · subst e3
      rw [pk_uLs]
      exact Or.inr hy
    · rw [pk_uLn e3]
      exact h v' k' q' hv' hk' hq'
  · rw [ho _ e]
    exact h v' k' q' hv' hk' hq'
theorem hm_fr {a : Nat → Int32} {g : Nat} {u u1 : RS} {js ks : List Nat} (h : HM a g u) (hf : FR js ks false u u1) : HM a g u1 := fun v k q hv hk hq => by
  rw [hf.2.2 rfl]
  exact h v k q hv hk hq

set_option maxHeartbeats 4000000 in
set_option maxRecDepth 100000 in
theorem r_X12_held (l : Launch) (dC : Nat → ClassId) (dI : Nat → Nat → Nat) (sz : Nat) (cs : Nat → ClassId) (b : Nat → Nat) (u : RS) (y : Nat) (hp0 : y < 4611686018427387904) : Met l yX12_held [.code yX12_held cX12_held 2 (some .long)] ({ frames := 0, cells := 0, slots := 0, locals := 0 }) (PR [.long (lN y)] sz dC dI cs b u) (vp_Sl (fun (r : Int64) => r = lN (hd y))) 0 0 (fun _ => False) := by
  refine Met.ofW (cc := cX12_held) (maxL := 2) (ret := (some .long)) (by decide) rfl ?_
  intro p e s m args below meth c s₁ B hml hv
  obtain ⟨rfl, hsz, hP, hK, hJ, hE⟩ := hv
  have hx := B.exec
  have hb := B.bytes
  have hr := B.returns
  have hown : s.vm.findClass RX12 = some m.cls := findClass_of_methodNamed B.named
  have hlocks := B.notSynchronized
  subst hsz
  have hl := lv_entry ([.long (lN y)]) (n := 2) (Nat.le_of_ble_eq_true rfl)
  rw [lg_entry_eq]
  generalize (lg_sl ([.long (lN y)]) ++ List.replicate (2 - (lg_sl ([.long (lN y)])).length) Slot.unset).toArray = ls at hl ⊢
  have hl : lv_has ls 2 [(0, .long (lN y))] := hl
  refine lv_lload_n hx hb dX12_held_0 rfl (lv_at hl 0 rfl) ?_
  refine lv_ldc2 (v := 1000000000000) hx hb hown (wd_1901 hE) dX12_held_1 ?_
  refine W.lcmp hx hb dX12_held_4 ?_
  refine lv_topi (fun x2 ex2 => ?_)
  refine lv_if_le (tgt := 14) hx hb dX12_held_5 (by decide) (fun c4 => ?_) (fun c4 => ?_)
  · have c4 := (lc_le ex2).mp c4
    have c4 := (pk_lLE (a := y) (b := 1000000000000) (by omega) (by omega)).mp c4
    refine lv_lload_n hx hb dX12_held_14 rfl (lv_at hl 0 rfl) ?_
    exact W.lret (v := lN y) hx hb hr (fun t ht hW => ⟨lN y, rfl, (by first | (unfold hd; rw [if_pos (by omega)]; rfl) | (unfold hd; rw [if_neg (by omega)])), ht⟩) (fun _ h => absurd h List.not_mem_nil) dX12_held_15
  · have c4 := mt (lc_le ex2).mpr c4
    have c4 := mt (pk_lLE (a := y) (b := 1000000000000) (by omega) (by omega)).mpr c4
    refine lv_ldc2 (v := 1000000000000) hx hb hown (wd_1901 hE) dX12_held_8 ?_
    refine lv_goto (tgt := 15) hx hb dX12_held_11 (by decide) ?_
    exact W.lret (v := 1000000000000) hx hb hr (fun t ht hW => ⟨1000000000000, rfl, (by first | (unfold hd; rw [if_pos (by omega)]; rfl) | (unfold hd; rw [if_neg (by omega)])), ht⟩) (fun _ h => absurd h List.not_mem_nil) dX12_held_15

set_option maxHeartbeats 4000000 in
set_option maxRecDepth 100000 in
theorem r_X12_held_any (l : Launch) (dC : Nat → ClassId) (dI : Nat → Nat → Nat) (sz : Nat) (cs : Nat → ClassId) (b : Nat → Nat) (u : RS) (y : Int64) : Met l yX12_held [.code yX12_held cX12_held 2 (some .long)] ({ frames := 0, cells := 0, slots := 0, locals := 0 }) (PR [.long y] sz dC dI cs b u) (vp_Sl (fun (r : Int64) => True)) 0 0 (fun _ => False) := by
  refine Met.ofW (cc := cX12_held) (maxL := 2) (ret := (some .long)) (by decide) rfl ?_
  intro p e s m args below meth c s₁ B hml hv
  obtain ⟨rfl, hsz, hP, hK, hJ, hE⟩ := hv
  have hx := B.exec
  have hb := B.bytes
  have hr := B.returns
  have hown : s.vm.findClass RX12 = some m.cls := findClass_of_methodNamed B.named
  have hlocks := B.notSynchronized
  subst hsz
  have hl := lv_entry ([.long y]) (n := 2) (Nat.le_of_ble_eq_true rfl)
  rw [lg_entry_eq]
  generalize (lg_sl ([.long y]) ++ List.replicate (2 - (lg_sl ([.long y])).length) Slot.unset).toArray = ls at hl ⊢
  have hl : lv_has ls 2 [(0, .long y)] := hl
  refine lv_lload_n hx hb dX12_held_0 rfl (lv_at hl 0 rfl) ?_
  refine lv_ldc2 (v := 1000000000000) hx hb hown (wd_1901 hE) dX12_held_1 ?_
  refine W.lcmp hx hb dX12_held_4 ?_
  refine lv_topi (fun x1 ex1 => ?_)
  refine lv_if_le (tgt := 14) hx hb dX12_held_5 (by decide) (fun c3 => ?_) (fun c3 => ?_)
  · have c3 := (lc_le ex1).mp c3
    refine lv_lload_n hx hb dX12_held_14 rfl (lv_at hl 0 rfl) ?_
    exact W.lret (v := y) hx hb hr (fun t ht hW => ⟨y, rfl, trivial, ht⟩) (fun _ h => absurd h List.not_mem_nil) dX12_held_15
  · have c3 := mt (lc_le ex1).mpr c3
    refine lv_ldc2 (v := 1000000000000) hx hb hown (wd_1901 hE) dX12_held_8 ?_
    refine lv_goto (tgt := 15) hx hb dX12_held_11 (by decide) ?_
    exact W.lret (v := 1000000000000) hx hb hr (fun t ht hW => ⟨1000000000000, rfl, trivial, ht⟩) (fun _ h => absurd h List.not_mem_nil) dX12_held_15

set_option maxHeartbeats 4000000 in
set_option maxRecDepth 100000 in
theorem r_X12_choices (l : Launch) (dC : Nat → ClassId) (dI : Nat → Nat → Nat) (sz : Nat) (cs : Nat → ClassId) (b : Nat → Nat) (u : RS) (a : Nat → Int32) (hA1 : rA u 1 = a) (sx : Nat) (x : Int32) (cz : Nat) (hp0 : GG a) (hp1 : sx < 2 * eN a) (hp2 : x.toInt = (cz : Int) - 1) (hp3 : cz ≤ 12) : Met l yX12_choices [.code yX12_choices cX12_choices 3 (some .int)] ({ frames := 3, cells := 0, slots := 0, locals := 120 }) (PR [.ref (b 0), .int (nI sx), .int x] sz dC dI cs b u) (vp_Si (fun (r : Int32) => r = nI (ch a sx cz))) 0 0 (fun _ => False) := by
  refine Met.ofW (cc := cX12_choices) (maxL := 3) (ret := (some .int)) (by decide) rfl ?_
  intro p e s m args below meth c s₁ B hml hv
  obtain ⟨rfl, hsz, hP, hK, hJ, hE⟩ := hv
  have hx := B.exec
  have hb := B.bytes
  have hr := B.returns
  have hown : s.vm.findClass RX12 = some m.cls := findClass_of_methodNamed B.named
  have hlocks := B.notSynchronized
  subst hsz
  have hl := lv_entry ([.ref (b 0), .int (nI sx), .int x]) (n := 3) (Nat.le_of_ble_eq_true rfl)
  rw [lg_entry_eq]
  generalize (lg_sl ([.ref (b 0), .int (nI sx), .int x]) ++ List.replicate (3 - (lg_sl ([.ref (b 0), .int (nI sx), .int x])).length) Slot.unset).toArray = ls at hl ⊢
  have hl : lv_has ls 3 [(0, .ref (b 0)), (1, .int (nI sx)), (2, .int x)] := hl
  have hG := hp0
  have ha1 := gg_le hp0
  refine lv_aload_n hx hb dX12_choices_0 rfl (lv_at hl 0 rfl) ?_
  refine lv_iload_n hx hb dX12_choices_1 rfl (lv_at hl 1 rfl) ?_
  refine vp_callSi (va_Run.run (va_runV (As := [.int (nI sx)]) (rest := []) ⟨hx, hb, hml, hown, noTs⟩ (r_X12_by l dC dI s.heap.size cs b u a hA1 sx (by first | assumption | omega | rfl | (congr 1; omega)) (by first | assumption | omega | rfl | (congr 1; omega))) ⟨cbE 1 (wd_1668 hE) (wd_126 hE) (wd_1665 hE) rfl rfl (by decide +kernel) ⟨Nat.le_of_ble_eq_true rfl, Nat.le_of_ble_eq_true rfl⟩, (wd_1667 hE), (wd_86 hE)⟩ ⟨PR.blind, r_recv hK hP rfl, (r_pre (av := [.ref (b 0), .int (nI sx)]) hK hP hJ hE)⟩ rfl rfl hl.1 rfl (lv_room (Nat.le_of_ble_eq_true rfl)) dX12_choices_2 ⟨Nat.le_of_ble_eq_true rfl, Nat.le_of_ble_eq_true rfl⟩)) (fun r5 hr5 => ?_)
  have hau5 := gg_idx (a := a) (s := sx) (by assumption) (by first | assumption | omega)
  subst hr5
  refine lv_iload_n hx hb dX12_choices_5 rfl (lv_at hl 2 rfl) ?_
  refine lv_if_lt (tgt := 20) hx hb dX12_choices_6 (by decide) (fun c6 => ?_) (fun c6 => ?_)
  · have c6 := (b_lt (rfl : Int32.toInt x = _) (show Int32.toInt 0 = 0 from rfl)).mp c6
    refine lv_iconst (v := 0) hx hb dX12_choices_20 (by decide) ?_
    refine lv_isub hx hb dX12_choices_21 ?_
    refine W.eq (g2 := F0 m 22 ls [.int (nI ((idx a sx) - 0))]) (congrArg (fun z : Int32 => F0 m 22 ls (.int z :: [])) (pk_sub (a := idx a sx) (b := 0) (by omega))) ?_
    exact W.iret (v := nI ((idx a sx) - 0)) hx hb hr (fun t ht hW => ⟨nI ((idx a sx) - 0), rfl, (by congr 1; unfold ch; first | (rw [if_pos ⟨by omega, by omega⟩]) | (rw [if_neg (fun h => by omega)])), ht⟩) (fun _ h => absurd h List.not_mem_nil) dX12_choices_22
  · have c6 := mt (b_lt (rfl : Int32.toInt x = _) (show Int32.toInt 0 = 0 from rfl)).mpr c6
    have hi7 : x = nI (cz - 1) := z_nat hp2 (by omega)
    subst hi7
    have hti8 := nI_toInt (n := cz - 1) (by omega)
    refine lv_iload_n hx hb dX12_choices_9 rfl (lv_at hl 1 rfl) ?_
    refine lv_iload_n hx hb dX12_choices_10 rfl (lv_at hl 2 rfl) ?_
    refine lv_iconst (v := 1) hx hb dX12_choices_11 (by decide) ?_
    refine lv_ixor hx hb dX12_choices_12 ?_
    refine W.eq (g2 := F0 m 13 ls [.int (nI (fl (cz - 1))), .int (nI sx), .int (nI (idx a sx))]) (congrArg (fun z : Int32 => F0 m 13 ls (.int z :: [.int (nI sx), .int (nI (idx a sx))])) (nI_fl (s := cz - 1) (by omega))) ?_
    have hfa9 := fl_half (cz - 1)
    have hfb9 := fl_mod (cz - 1)
    refine lv_icmp_ne (tgt := 20) hx hb dX12_choices_13 (by decide) (fun c10 => ?_) (fun c10 => ?_)
    · have c10 := mt (b_eq (nI_toInt (n := sx) (by omega)) (nI_toInt (n := fl (cz - 1)) (by omega))).mpr c10
      refine lv_iconst (v := 0) hx hb dX12_choices_20 (by decide) ?_
      refine lv_isub hx hb dX12_choices_21 ?_
      refine W.eq (g2 := F0 m 22 ls [.int (nI ((idx a sx) - 0))]) (congrArg (fun z : Int32 => F0 m 22 ls (.int z :: [])) (pk_sub (a := idx a sx) (b := 0) (by omega))) ?_
      exact W.iret (v := nI ((idx a sx) - 0)) hx hb hr (fun t ht hW => ⟨nI ((idx a sx) - 0), rfl, (by congr 1; unfold ch; first | (rw [if_pos ⟨by omega, by omega⟩]) | (rw [if_neg (fun h => by omega)])), ht⟩) (fun _ h => absurd h List.not_mem_nil) dX12_choices_22
    · have c10 := (b_eq (nI_toInt (n := sx) (by omega)) (nI_toInt (n := fl (cz - 1)) (by omega))).mp c10
      refine lv_iconst (v := 1) hx hb dX12_choices_16 (by decide) ?_
      refine lv_goto (tgt := 21) hx hb dX12_choices_17 (by decide) ?_
      refine lv_isub hx hb dX12_choices_21 ?_
      refine W.eq (g2 := F0 m 22 ls [.int (nI ((idx a sx) - 1))]) (congrArg (fun z : Int32 => F0 m 22 ls (.int z :: [])) (pk_sub (a := idx a sx) (b := 1) (by omega))) ?_
      exact W.iret (v := nI ((idx a sx) - 1)) hx hb hr (fun t ht hW => ⟨nI ((idx a sx) - 1), rfl, (by congr 1; unfold ch; first | (rw [if_pos ⟨by omega, by omega⟩]) | (rw [if_neg (fun h => by omega)])), ht⟩) (fun _ h => absurd h List.not_mem_nil) dX12_choices_22

set_option maxHeartbeats 4000000 in
set_option maxRecDepth 100000 in
theorem r_X12_homes (l : Launch) (dC : Nat → ClassId) (dI : Nat → Nat → Nat) : ∀ (nn : Nat) (sz : Nat) (cs : Nat → ClassId) (b : Nat → Nat) (u : RS) (a : Nat → Int32) (hA1 : rA u 1 = a) (v : Nat) (k : Nat) (x : Int32) (gl : Nat) (cz : Nat) (hp0 : GG a) (hp1 : v < vN a) (hp2 : k ≤ 12) (hp3 : x.toInt = (cz : Int) - 1) (hp4 : cz ≤ 12) (hp5 : gl < vN a) (hp6 : HM a gl u) (hnn : k < nn), Met l yX12_homes [.code yX12_homes cX12_homes 8 (some .long)] ({ frames := nn + 8, cells := 0, slots := 0, locals := 40 * (nn + 8) }) (PR [.ref (b 0), .int (nI v), .int (nI k), .int x, .int (nI gl)] sz dC dI cs b u) (va_Ql (fun (r : Int64) (u' : RS) => (r = lN (hM a gl k v cz)) ∧ (HM a gl u') ∧ FR [] [] true u u') (BR dC dI cs b) (AR b sz)) 0 0 (AR b sz) := sorry
