theorem lc_lt {x : Int32} {X Y : Int64} (h : x = lg_cmp X Y) : x < 0 ↔ X < Y := by rw [h]; exact lg_cmp_lt X Y
theorem lc_le {x : Int32} {X Y : Int64} (h : x = lg_cmp X Y) : x ≤ 0 ↔ X ≤ Y := by rw [h]; exact lg_cmp_le X Y
theorem lc_gt {x : Int32} {X Y : Int64} (h : x = lg_cmp X Y) : 0 < x ↔ Y < X := by rw [h]; exact lg_cmp_gt X Y
theorem lc_ge {x : Int32} {X Y : Int64} (h : x = lg_cmp X Y) : 0 ≤ x ↔ Y ≤ X := by rw [h]; exact lg_cmp_ge X Y
theorem lc_eq {x : Int32} {X Y : Int64} (h : x = lg_cmp X Y) : x = 0 ↔ X = Y := by rw [h]; exact lg_cmp_eq X Y
theorem came_up {x : Int32} {k : Nat} (h : x.toInt = (k : Int) - 1) (hk : k ≤ 1000) : x + 1 = nI k :=
  z_nat (z_add h (show Int32.toInt 1 = 1 from rfl) (by omega) (by omega)) (by omega)
theorem came_ix {x : Int32} {n k : Nat} (h : x.toInt = (k : Int) - 1) (hk : k ≤ 1000) (hn : n < 1000000) : nI n + x + 1 = nI (n + k) :=
  z_nat (z_add (z_add (nI_toInt (n := n) (by omega)) h (by omega) (by omega)) (show Int32.toInt 1 = 1 from rfl) (by omega) (by omega)) (by omega)
/-- in how many ways one goes on by a step -/
def ch (a : Nat → Int32) (s k : Nat) : Nat := idx a s - (if k ≠ 0 ∧ s = fl (k - 1) then 1 else 0)
theorem ch_le {a : Nat → Int32} (hG : GG a) {s k : Nat} (hs : s < 2 * eN a) : ch a s k ≤ 60 := by
  have := gg_idx hG hs
  unfold ch
  omega
def hd (x : Nat) : Nat := if 1000000000000 < x then 1000000000000 else x
theorem hd_le (x : Nat) : hd x ≤ 1000000000000 := by unfold hd; split <;> omega
theorem hd_lt (x : Nat) : hd x ≤ x := by unfold hd; split <;> omega
def hsum (a : Nat → Int32) (v k : Nat) (f : Nat → Nat) : Nat → Nat
  | 0 => 0
  | m + 1 => if src a m = v then hd (hsum a v k f m + ch a m k * f m) else hsum a v k f m
def usum (a : Nat → Int32) (v k : Nat) (f : Nat → Nat) : Nat → Nat
  | 0 => 0
  | m + 1 => if src a m = v then usum a v k f m + ch a m k * f m else usum a v k f m
theorem hsum_le {a : Nat → Int32} {v k : Nat} {f : Nat → Nat} : ∀ m, hsum a v k f m ≤ usum a v k f m
  | 0 => Nat.le_refl 0
  | m + 1 => by
    have h := hsum_le (a := a) (v := v) (k := k) (f := f) m
    unfold hsum usum
    split
    · exact Nat.le_trans (hd_lt _) (Nat.add_le_add_right h _)
    · exact h
theorem hsum_b {a : Nat → Int32} {v k : Nat} {f : Nat → Nat} : ∀ m, hsum a v k f m ≤ 1000000000000
  | 0 => Nat.zero_le _
  | m + 1 => by
    unfold hsum
    split
    · exact hd_le _
    · exact hsum_b m
theorem hsum_t {a : Nat → Int32} {v k m : Nat} {f : Nat → Nat} (h : src a m = v) : hsum a v k f (m + 1) = hd (hsum a v k f m + ch a m k * f m) := if_pos h
theorem hsum_f {a : Nat → Int32} {v k m : Nat} {f : Nat → Nat} (h : ¬ src a m = v) : hsum a v k f (m + 1) = hsum a v k f m := if_neg h
theorem usum_t {a : Nat → Int32} {v k m : Nat} {f : Nat → Nat} (h : src a m = v) : usum a v k f (m + 1) = usum a v k f m + ch a m k * f m := if_pos h
theorem usum_f {a : Nat → Int32} {v k m : Nat} {f : Nat → Nat} (h : ¬ src a m = v) : usum a v k f (m + 1) = usum a v k f m := if_neg h
/-- how many forms lead home -/
def hM (a : Nat → Int32) (g : Nat) : Nat → Nat → Nat → Nat
  | 0, v, _ => if v = g then od a g else 0
  | n + 1, v, k => hsum a v k (fun s => hM a g n (dst a s) (s + 1)) (2 * eN a)
theorem hM_s {a : Nat → Int32} {g n v k : Nat} (h : 1 ≤ n) : hM a g n v k = hsum a v k (fun s => hM a g (n - 1) (dst a s) (s + 1)) (2 * eN a) := by
  obtain ⟨q, rfl⟩ : ∃ q, n = q + 1 := ⟨n - 1, by omega⟩
  rfl
theorem hM_b {a : Nat → Int32} (hG : GG a) {g n v k : Nat} (hg : g < vN a) : hM a g n v k ≤ 1000000000000 := by
  cases n with
  | zero =>
    have := gg_od hG hg
    show (if v = g then od a g else 0) ≤ _
    split <;> omega
  | succ n => exact hsum_b _
theorem mul_b {x y : Nat} (hx : x ≤ 60) (hy : y ≤ 1000000000000) : x * y ≤ 60000000000000 := Nat.mul_le_mul hx hy
/-- what the table of ways home holds -/
def HM (a : Nat → Int32) (g : Nat) (u : RS) : Prop := ∀ v k q, v < 6 → k < 13 → q < 13 → rL u (28 + 13 * v + k) q = -1 ∨ rL u (28 + 13 * v + k) q = lN (hM a g k v q)
theorem hm_put {a : Nat → Int32} {g v k q : Nat} {u u1 : RS} {y : Int64} (h : HM a g u) (hv : v < 6) (hk : k < 13) (hs : rL u1 (28 + 13 * v + k) = vp_updL (rL u (28 + 13 * v + k)) q y) (ho : ∀ j, j ≠ 28 + 13 * v + k → rL u1 j = rL u j) (hy : y = lN (hM a g k v q)) : HM a g u1 := fun v' k' q' hv' hk' hq' => by
  by_cases e : 28 + 13 * v' + k' = 28 + 13 * v + k
  · have e1 : v' = v := by omega
    have e2 : k' = k := by omega
    subst e1 e2
    rw [hs]
    by_cases e3 : q' = q
    · subst e3
      rw [pk_uLs]
      exact Or.inr hy
    · rw [pk_uLn e3]
      exact h v' k' q' hv' hk' hq'
  · rw [ho _ e]
    exact h v' k' q' hv' hk' hq'
theorem hm_fr {a : Nat → Int32} {g : Nat} {u u1 : RS} {js ks : List Nat} (h : HM a g u) (hf : FR js ks false u u1) : HM a g u1 := fun v k q hv hk hq => by
  rw [hf.2.2 rfl]
  exact h v k q hv hk hq

set_option maxHeartbeats 4000000 in
set_option maxRecDepth 100000 in
theorem r_X12_held (l : Launch) (dC : Nat → ClassId) (dI : Nat → Nat → Nat) (sz : Nat) (cs : Nat → ClassId) (b : Nat → Nat) (u : RS) (y : Nat) (hp0 : y < 4611686018427387904) : Met l yX12_held [.code yX12_held cX12_held 2 (some .long)] ({ frames := 0, cells := 0, slots := 0, locals := 0 }) (PR [.long (lN y)] sz dC dI cs b u) (vp_Sl (fun (r : Int64) => r = lN (hd y))) 0 0 (fun _ => False) := by
  refine Met.ofW (cc := cX12_held) (maxL := 2) (ret := (some .long)) (by decide) rfl ?_
  intro p e s m args below meth c s₁ B hml hv
  obtain ⟨rfl, hsz, hP, hK, hJ, hE⟩ := hv
  have hx := B.exec
  have hb := B.bytes
  have hr := B.returns
  have hown : s.vm.findClass RX12 = some m.cls := findClass_of_methodNamed B.named
  have hlocks := B.notSynchronized
  subst hsz
  have hl := lv_entry ([.long (lN y)]) (n := 2) (Nat.le_of_ble_eq_true rfl)
  rw [lg_entry_eq]
  generalize (lg_sl ([.long (lN y)]) ++ List.replicate (2 - (lg_sl ([.long (lN y)])).length) Slot.unset).toArray = ls at hl ⊢
  have hl : lv_has ls 2 [(0, .long (lN y))] := hl
  refine lv_lload_n hx hb dX12_held_0 rfl (lv_at hl 0 rfl) ?_
  refine lv_ldc2 (v := 1000000000000) hx hb hown (wd_1901 hE) dX12_held_1 ?_
  refine W.lcmp hx hb dX12_held_4 ?_
  refine lv_topi (fun x2 ex2 => ?_)
  refine lv_if_le (tgt := 14) hx hb dX12_held_5 (by decide) (fun c4 => ?_) (fun c4 => ?_)
  · have c4 := (lc_le ex2).mp c4
    have c4 := (pk_lLE (a := y) (b := 1000000000000) (by omega) (by omega)).mp c4
    refine lv_lload_n hx hb dX12_held_14 rfl (lv_at hl 0 rfl) ?_
    exact W.lret (v := lN y) hx hb hr (fun t ht hW => ⟨lN y, rfl, (by first | (unfold hd; rw [if_pos (by omega)]; rfl) | (unfold hd; rw [if_neg (by omega)])), ht⟩) (fun _ h => absurd h List.not_mem_nil) dX12_held_15
  · have c4 := mt (lc_le ex2).mpr c4
    have c4 := mt (pk_lLE (a := y) (b := 1000000000000) (by omega) (by omega)).mpr c4
    refine lv_ldc2 (v := 1000000000000) hx hb hown (wd_1901 hE) dX12_held_8 ?_
    refine lv_goto (tgt := 15) hx hb dX12_held_11 (by decide) ?_
    exact W.lret (v := 1000000000000) hx hb hr (fun t ht hW => ⟨1000000000000, rfl, (by first | (unfold hd; rw [if_pos (by omega)]; rfl) | (unfold hd; rw [if_neg (by omega)])), ht⟩) (fun _ h => absurd h List.not_mem_nil) dX12_held_15

set_option maxHeartbeats 4000000 in
set_option maxRecDepth 100000 in
theorem r_X12_held_any (l : Launch) (dC : Nat → ClassId) (dI : Nat → Nat → Nat) (sz : Nat) (cs : Nat → ClassId) (b : Nat → Nat) (u : RS) (y : Int64) : Met l yX12_held [.code yX12_held cX12_held 2 (some .long)] ({ frames := 0, cells := 0, slots := 0, locals := 0 }) (PR [.long y] sz dC dI cs b u) (vp_Sl (fun (r : Int64) => True)) 0 0 (fun _ => False) := by
  refine Met.ofW (cc := cX12_held) (maxL := 2) (ret := (some .long)) (by decide) rfl ?_
  intro p e s m args below meth c s₁ B hml hv
  obtain ⟨rfl, hsz, hP, hK, hJ, hE⟩ := hv
  have hx := B.exec
  have hb := B.bytes
  have hr := B.returns
  have hown : s.vm.findClass RX12 = some m.cls := findClass_of_methodNamed B.named
  have hlocks := B.notSynchronized
  subst hsz
  have hl := lv_entry ([.long y]) (n := 2) (Nat.le_of_ble_eq_true rfl)
  rw [lg_entry_eq]
  generalize (lg_sl ([.long y]) ++ List.replicate (2 - (lg_sl ([.long y])).length) Slot.unset).toArray = ls at hl ⊢
  have hl : lv_has ls 2 [(0, .long y)] := hl
  refine lv_lload_n hx hb dX12_held_0 rfl (lv_at hl 0 rfl) ?_
  refine lv_ldc2 (v := 1000000000000) hx hb hown (wd_1901 hE) dX12_held_1 ?_
  refine W.lcmp hx hb dX12_held_4 ?_
  refine lv_topi (fun x1 ex1 => ?_)
  refine lv_if_le (tgt := 14) hx hb dX12_held_5 (by decide) (fun c3 => ?_) (fun c3 => ?_)
  · have c3 := (lc_le ex1).mp c3
    refine lv_lload_n hx hb dX12_held_14 rfl (lv_at hl 0 rfl) ?_
    exact W.lret (v := y) hx hb hr (fun t ht hW => ⟨y, rfl, trivial, ht⟩) (fun _ h => absurd h List.not_mem_nil) dX12_held_15
  · have c3 := mt (lc_le ex1).mpr c3
    refine lv_ldc2 (v := 1000000000000) hx hb hown (wd_1901 hE) dX12_held_8 ?_
    refine lv_goto (tgt := 15) hx hb dX12_held_11 (by decide) ?_
    exact W.lret (v := 1000000000000) hx hb hr (fun t ht hW => ⟨1000000000000, rfl, trivial, ht⟩) (fun _ h => absurd h List.not_mem_nil) dX12_held_15

set_option maxHeartbeats 4000000 in
set_option maxRecDepth 100000 in
theorem r_X12_choices (l : Launch) (dC : Nat → ClassId) (dI : Nat → Nat → Nat) (sz : Nat) (cs : Nat → ClassId) (b : Nat → Nat) (u : RS) (a : Nat → Int32) (hA1 : rA u 1 = a) (sx : Nat) (x : Int32) (cz : Nat) (hp0 : GG a) (hp1 : sx < 2 * eN a) (hp2 : x.toInt = (cz : Int) - 1) (hp3 : cz ≤ 12) : Met l yX12_choices [.code yX12_choices cX12_choices 3 (some .int)] ({ frames := 3, cells := 0, slots := 0, locals := 120 }) (PR [.ref (b 0), .int (nI sx), .int x] sz dC dI cs b u) (vp_Si (fun (r : Int32) => r = nI (ch a sx cz))) 0 0 (fun _ => False) := by
  refine Met.ofW (cc := cX12_choices) (maxL := 3) (ret := (some .int)) (by decide) rfl ?_
  intro p e s m args below meth c s₁ B hml hv
  obtain ⟨rfl, hsz, hP, hK, hJ, hE⟩ := hv
  have hx := B.exec
  have hb := B.bytes
  have hr := B.returns
  have hown : s.vm.findClass RX12 = some m.cls := findClass_of_methodNamed B.named
  have hlocks := B.notSynchronized
  subst hsz
  have hl := lv_entry ([.ref (b 0), .int (nI sx), .int x]) (n := 3) (Nat.le_of_ble_eq_true rfl)
  rw [lg_entry_eq]
  generalize (lg_sl ([.ref (b 0), .int (nI sx), .int x]) ++ List.replicate (3 - (lg_sl ([.ref (b 0), .int (nI sx), .int x])).length) Slot.unset).toArray = ls at hl ⊢
  have hl : lv_has ls 3 [(0, .ref (b 0)), (1, .int (nI sx)), (2, .int x)] := hl
  have hG := hp0
  have ha1 := gg_le hp0
  refine lv_aload_n hx hb dX12_choices_0 rfl (lv_at hl 0 rfl) ?_
  refine lv_iload_n hx hb dX12_choices_1 rfl (lv_at hl 1 rfl) ?_
  refine vp_callSi (va_Run.run (va_runV (As := [.int (nI sx)]) (rest := []) ⟨hx, hb, hml, hown, noTs⟩ (r_X12_by l dC dI s.heap.size cs b u a hA1 sx (by first | assumption | omega | rfl | (congr 1; omega)) (by first | assumption | omega | rfl | (congr 1; omega))) ⟨cbE 1 (wd_1668 hE) (wd_126 hE) (wd_1665 hE) rfl rfl (by decide +kernel) ⟨Nat.le_of_ble_eq_true rfl, Nat.le_of_ble_eq_true rfl⟩, (wd_1667 hE), (wd_86 hE)⟩ ⟨PR.blind, r_recv hK hP rfl, (r_pre (av := [.ref (b 0), .int (nI sx)]) hK hP hJ hE)⟩ rfl rfl hl.1 rfl (lv_room (Nat.le_of_ble_eq_true rfl)) dX12_choices_2 ⟨Nat.le_of_ble_eq_true rfl, Nat.le_of_ble_eq_true rfl⟩)) (fun r5 hr5 => ?_)
  have hau5 := gg_idx (a := a) (s := sx) (by assumption) (by first | assumption | omega)
  subst hr5
  refine lv_iload_n hx hb dX12_choices_5 rfl (lv_at hl 2 rfl) ?_
  refine lv_if_lt (tgt := 20) hx hb dX12_choices_6 (by decide) (fun c6 => ?_) (fun c6 => ?_)
  · have c6 := (b_lt (rfl : Int32.toInt x = _) (show Int32.toInt 0 = 0 from rfl)).mp c6
    refine lv_iconst (v := 0) hx hb dX12_choices_20 (by decide) ?_
    refine lv_isub hx hb dX12_choices_21 ?_
    refine W.eq (g2 := F0 m 22 ls [.int (nI ((idx a sx) - 0))]) (congrArg (fun z : Int32 => F0 m 22 ls (.int z :: [])) (pk_sub (a := idx a sx) (b := 0) (by omega))) ?_
    exact W.iret (v := nI ((idx a sx) - 0)) hx hb hr (fun t ht hW => ⟨nI ((idx a sx) - 0), rfl, (by congr 1; unfold ch; first | (rw [if_pos ⟨by omega, by omega⟩]) | (rw [if_neg (fun h => by omega)])), ht⟩) (fun _ h => absurd h List.not_mem_nil) dX12_choices_22
  · have c6 := mt (b_lt (rfl : Int32.toInt x = _) (show Int32.toInt 0 = 0 from rfl)).mpr c6
    have hi7 : x = nI (cz - 1) := z_nat hp2 (by omega)
    subst hi7
    have hti8 := nI_toInt (n := cz - 1) (by omega)
    refine lv_iload_n hx hb dX12_choices_9 rfl (lv_at hl 1 rfl) ?_
    refine lv_iload_n hx hb dX12_choices_10 rfl (lv_at hl 2 rfl) ?_
    refine lv_iconst (v := 1) hx hb dX12_choices_11 (by decide) ?_
    refine lv_ixor hx hb dX12_choices_12 ?_
    refine W.eq (g2 := F0 m 13 ls [.int (nI (fl (cz - 1))), .int (nI sx), .int (nI (idx a sx))]) (congrArg (fun z : Int32 => F0 m 13 ls (.int z :: [.int (nI sx), .int (nI (idx a sx))])) (nI_fl (s := cz - 1) (by omega))) ?_
    have hfa9 := fl_half (cz - 1)
    have hfb9 := fl_mod (cz - 1)
    refine lv_icmp_ne (tgt := 20) hx hb dX12_choices_13 (by decide) (fun c10 => ?_) (fun c10 => ?_)
    · have c10 := mt (b_eq (nI_toInt (n := sx) (by omega)) (nI_toInt (n := fl (cz - 1)) (by omega))).mpr c10
      refine lv_iconst (v := 0) hx hb dX12_choices_20 (by decide) ?_
      refine lv_isub hx hb dX12_choices_21 ?_
      refine W.eq (g2 := F0 m 22 ls [.int (nI ((idx a sx) - 0))]) (congrArg (fun z : Int32 => F0 m 22 ls (.int z :: [])) (pk_sub (a := idx a sx) (b := 0) (by omega))) ?_
      exact W.iret (v := nI ((idx a sx) - 0)) hx hb hr (fun t ht hW => ⟨nI ((idx a sx) - 0), rfl, (by congr 1; unfold ch; first | (rw [if_pos ⟨by omega, by omega⟩]) | (rw [if_neg (fun h => by omega)])), ht⟩) (fun _ h => absurd h List.not_mem_nil) dX12_choices_22
    · have c10 := (b_eq (nI_toInt (n := sx) (by omega)) (nI_toInt (n := fl (cz - 1)) (by omega))).mp c10
      refine lv_iconst (v := 1) hx hb dX12_choices_16 (by decide) ?_
      refine lv_goto (tgt := 21) hx hb dX12_choices_17 (by decide) ?_
      refine lv_isub hx hb dX12_choices_21 ?_
      refine W.eq (g2 := F0 m 22 ls [.int (nI ((idx a sx) - 1))]) (congrArg (fun z : Int32 => F0 m 22 ls (.int z :: [])) (pk_sub (a := idx a sx) (b := 1) (by omega))) ?_
      exact W.iret (v := nI ((idx a sx) - 1)) hx hb hr (fun t ht hW => ⟨nI ((idx a sx) - 1), rfl, (by congr 1; unfold ch; first | (rw [if_pos ⟨by omega, by omega⟩]) | (rw [if_neg (fun h => by omega)])), ht⟩) (fun _ h => absurd h List.not_mem_nil) dX12_choices_22

set_option maxHeartbeats 4000000 in
set_option maxRecDepth 100000 in
theorem r_X12_homes (l : Launch) (dC : Nat → ClassId) (dI : Nat → Nat → Nat) : ∀ (nn : Nat) (sz : Nat) (cs : Nat → ClassId) (b : Nat → Nat) (u : RS) (a : Nat → Int32) (hA1 : rA u 1 = a) (v : Nat) (k : Nat) (x : Int32) (gl : Nat) (cz : Nat) (hp0 : GG a) (hp1 : v < vN a) (hp2 : k ≤ 12) (hp3 : x.toInt = (cz : Int) - 1) (hp4 : cz ≤ 12) (hp5 : gl < vN a) (hp6 : HM a gl u) (hnn : k < nn), Met l yX12_homes [.code yX12_homes cX12_homes 8 (some .long)] ({ frames := nn + 8, cells := 0, slots := 0, locals := 40 * (nn + 8) }) (PR [.ref (b 0), .int (nI v), .int (nI k), .int x, .int (nI gl)] sz dC dI cs b u) (va_Ql (fun (r : Int64) (u' : RS) => (r = lN (hM a gl k v cz)) ∧ (HM a gl u') ∧ FR [] [] true u u') (BR dC dI cs b) (AR b sz)) 0 0 (AR b sz) := by
  intro nn
  induction nn with
  | zero => intro sz cs b u a hA1 v k x gl cz hp0 hp1 hp2 hp3 hp4 hp5 hp6 hnn; exact absurd hnn (Nat.not_lt_zero _)
  | succ nn ih =>
  intro sz cs b u a hA1 v k x gl cz hp0 hp1 hp2 hp3 hp4 hp5 hp6 hnn
  refine Met.ofW (cc := cX12_homes) (maxL := 8) (ret := (some .long)) (by decide) rfl ?_
  intro p e s m args below meth c s₁ B hml hv
  obtain ⟨rfl, hsz, hP, hK, hJ, hE⟩ := hv
  have hx := B.exec
  have hb := B.bytes
  have hr := B.returns
  have hown : s.vm.findClass RX12 = some m.cls := findClass_of_methodNamed B.named
  have hlocks := B.notSynchronized
  subst hsz
  have hAL : ∀ i, i < 108 → AR b s.heap.size (b i) := fun i h => Or.inl ⟨i, h, rfl⟩
  have hA : ∀ q : Nat, s.heap.size ≤ q → AR b s.heap.size q := fun q h => Or.inr h
  have hS : va_S (AR b s.heap.size) s.heap s.heap [] := va_S.rf
  have hfr : FR [] [] true u u := FR.refl
  have hl := lv_entry ([.ref (b 0), .int (nI v), .int (nI k), .int x, .int (nI gl)]) (n := 8) (Nat.le_of_ble_eq_true rfl)
  rw [lg_entry_eq]
  generalize (lg_sl ([.ref (b 0), .int (nI v), .int (nI k), .int x, .int (nI gl)]) ++ List.replicate (8 - (lg_sl ([.ref (b 0), .int (nI v), .int (nI k), .int x, .int (nI gl)])).length) Slot.unset).toArray = ls at hl ⊢
  have hl : lv_has ls 8 [(0, .ref (b 0)), (1, .int (nI v)), (2, .int (nI k)), (3, .int x), (4, .int (nI gl))] := hl
  have hG := hp0
  have ha1 := gg_le hp0
  refine lv_iload_n hx hb dX12_homes_0 rfl (lv_at hl 2 rfl) ?_
  refine lv_if_ne (tgt := 22) hx hb dX12_homes_1 (by decide) (fun c8 => ?_) (fun c8 => ?_)
  · have c8 := mt (b_eq (nI_toInt (n := k) (by omega)) (show Int32.toInt 0 = 0 from rfl)).mpr c8
    have hk1 : 1 ≤ k := by omega
    refine lv_aload_n hx hb dX12_homes_22 rfl (lv_at hl 0 rfl) ?_
    refine r_get (v := .ref (b 21)) hx hb (ly_X12 hE) hown hK hP rfl 27 (by decide) (wd_1408 hE) (fun _ h9 => h9) rfl dX12_homes_23 ?_
    refine lv_iload_n hx hb dX12_homes_26 rfl (lv_at hl 1 rfl) ?_
    refine r_aald (j := 21) (k := v) (n := 6) (t0 := 5) (j2 := 22 + v) hx hb hK hP (by decide) rfl rfl (by omega) (by decide) rfl dX12_homes_27 ?_
    refine lv_iload_n hx hb dX12_homes_28 rfl (lv_at hl 2 rfl) ?_
    refine r_aald (j := 22 + v) (k := k) (n := 13) (t0 := 6) (j2 := 28 + 13 * v + k) hx hb hK hP (by omega) (rE_home1 (by omega)) rfl (by omega) (by decide) (by show some (b (28 + 13 * (22 + v - 22) + k)) = _; rw [show 22 + v - 22 = v by omega]) dX12_homes_29 ?_
    refine lv_iload_n hx hb dX12_homes_30 rfl (lv_at hl 3 rfl) ?_
    refine lv_iconst (v := 1) hx hb dX12_homes_31 (by decide) ?_
    refine lv_iadd hx hb dX12_homes_32 ?_
    refine W.eq (g2 := F0 m 33 ls [.int (nI cz), .ref (b (28 + 13 * v + k))]) (congrArg (fun z : Int32 => F0 m 33 ls (.int z :: [.ref (b (28 + 13 * v + k))])) (came_up hp3 (by omega))) ?_
    obtain ⟨y9, hy9⟩ : ∃ z : Int64, rL u (28 + 13 * v + k) cz = z := ⟨_, rfl⟩
    refine r_lald (j := 28 + 13 * v + k) (k := cz) (n := 13) (x := y9) hx hb hK hP (by omega) (rE_home2 (by omega)) (by omega) (by decide) hy9 dX12_homes_33 ?_
    refine lv_lconst (v := 0) hx hb dX12_homes_34 (by decide) ?_
    refine W.lcmp hx hb dX12_homes_35 ?_
    refine lv_topi (fun x10 ex10 => ?_)
    refine lv_if_lt (tgt := 52) hx hb dX12_homes_36 (by decide) (fun c12 => ?_) (fun c12 => ?_)
    · have c12 := (lc_lt ex10).mp c12
      refine lv_lconst (v := 0) hx hb dX12_homes_52 (by decide) ?_
      refine lv_lstore (lv' := [(5, .long 0), (0, .ref (b 0)), (1, .int (nI v)), (2, .int (nI k)), (3, .int x), (4, .int (nI gl))]) hx hb dX12_homes_53 hl (by decide) rfl (fun ls hl => ?_)
      refine lv_iconst (v := 0) hx hb dX12_homes_55 (by decide) ?_
      refine lv_istore (lv' := [(7, .int 0), (5, .long 0), (0, .ref (b 0)), (1, .int (nI v)), (2, .int (nI k)), (3, .int x), (4, .int (nI gl))]) hx hb dX12_homes_56 hl (by decide) rfl (fun ls hl => ?_)
      refine r_ind (I := fun n u_ H locs ls => va_P (dC, dI) vwCl (rW cs b u_) H ∧ va_S (AR b s.heap.size) s.heap H locs ∧ FR [] [] true u u_ ∧ ∃ (sq_13 : Nat) (n1_13 : Nat), n = 2 * eN a - sq_13 ∧ (HM a gl u_) ∧ (sq_13 ≤ 2 * eN a) ∧ (n1_13 = hsum a v cz (fun s => hM a gl (k - 1) (dst a s) (s + 1)) sq_13) ∧ lv_has ls 8 [(0, .ref (b 0)), (1, .int (nI v)), (2, .int (nI k)), (3, .int x), (4, .int (nI gl)), (5, .long (lN n1_13)), (7, .int (nI sq_13))]) (fun n u13 H locs ls hI ih13 => ?_) _ u _ _ _ ⟨hP, hS, hfr, 0, 0, rfl, (by first | assumption | omega | rfl | (congr 1; omega)), (by first | assumption | omega | rfl | (congr 1; omega)), (by first | assumption | omega | rfl | (congr 1; omega)), lv_sub hl [2, 3, 4, 5, 6, 1, 0] rfl⟩
      obtain ⟨hP, hS, hfr, sq_13, n1_13, hmu13, hL13_0, hL13_1, hL13_2, hl⟩ := hI
      have hA14 := (hfr.1 1 List.not_mem_nil).trans hA1
      subst hmu13
      have hsb := hsum_b (a := a) (v := v) (k := cz) (f := fun s => hM a gl (k - 1) (dst a s) (s + 1)) sq_13
      refine lv_iload hx hb dX12_homes_58 (lv_at hl 6 rfl) ?_
      refine lv_iconst (v := 2) hx hb dX12_homes_60 (by decide) ?_
      refine lv_aload_n hx hb dX12_homes_61 rfl (lv_at hl 0 rfl) ?_
      refine lv_iconst (v := 1) hx hb dX12_homes_62 (by decide) ?_
      refine vp_callSi (va_Run.run (va_runV (As := [.int (nI 1)]) (rest := [.int 2, .int (nI sq_13)]) ⟨hx, hb, hml, hown, noTs⟩ (r_X12_of l dC dI H.size cs b u13 a hA14 1 (by first | assumption | omega | rfl | (congr 1; omega))) ⟨cbE 1 (wd_1536 hE) (wd_126 hE) (wd_1533 hE) rfl rfl (by decide +kernel) ⟨by show 0 + 1 ≤ nn + 1 + 8; omega, by show 8 + (2 + 11) + 0 ≤ 40 * (nn + 1 + 8); omega⟩, (wd_1535 hE), (wd_61 hE)⟩ ⟨PR.blind, r_recv hK hP rfl, (r_pre (av := [.ref (b 0), .int (nI 1)]) hK hP hJ hE)⟩ rfl rfl hl.1 rfl (lv_room (Nat.le_of_ble_eq_true rfl)) dX12_homes_63 ⟨Nat.le_of_ble_eq_true rfl, Nat.le_of_ble_eq_true rfl⟩)) (fun r15 hr15 => ?_)
      have hr15 := hr15.trans (gg_e hG)
      subst hr15
      refine lv_imul hx hb dX12_homes_66 ?_
      refine W.eq (g2 := F0 m 67 ls [.int (nI (2 * (eN a))), .int (nI sq_13)]) (congrArg (fun z : Int32 => F0 m 67 ls (.int z :: [.int (nI sq_13)])) (pk_mul 2 (eN a))) ?_
      refine lv_icmp_ge (tgt := 120) hx hb dX12_homes_67 (by decide) (fun c16 => ?_) (fun c16 => ?_)
      · have c16 := (b_le (nI_toInt (n := 2 * (eN a)) (by omega)) (nI_toInt (n := sq_13) (by omega))).mp c16
        refine lv_aload_n hx hb dX12_homes_120 rfl (lv_at hl 0 rfl) ?_
        refine r_get (v := .ref (b 21)) hx hb (ly_X12 hE) hown hK hP rfl 27 (by decide) (wd_1408 hE) (fun _ h9 => h9) rfl dX12_homes_121 ?_
        refine lv_iload_n hx hb dX12_homes_124 rfl (lv_at hl 1 rfl) ?_
        refine r_aald (j := 21) (k := v) (n := 6) (t0 := 5) (j2 := 22 + v) hx hb hK hP (by decide) rfl rfl (by omega) (by decide) rfl dX12_homes_125 ?_
        refine lv_iload_n hx hb dX12_homes_126 rfl (lv_at hl 2 rfl) ?_
        refine r_aald (j := 22 + v) (k := k) (n := 13) (t0 := 6) (j2 := 28 + 13 * v + k) hx hb hK hP (by omega) (rE_home1 (by omega)) rfl (by omega) (by decide) (by show some (b (28 + 13 * (22 + v - 22) + k)) = _; rw [show 22 + v - 22 = v by omega]) dX12_homes_127 ?_
        refine lv_iload_n hx hb dX12_homes_128 rfl (lv_at hl 3 rfl) ?_
        refine lv_iconst (v := 1) hx hb dX12_homes_129 (by decide) ?_
        refine lv_iadd hx hb dX12_homes_130 ?_
        refine W.eq (g2 := F0 m 131 ls [.int (nI cz), .ref (b (28 + 13 * v + k))]) (congrArg (fun z : Int32 => F0 m 131 ls (.int z :: [.ref (b (28 + 13 * v + k))])) (came_up hp3 (by omega))) ?_
        refine lv_lload hx hb dX12_homes_131 (lv_at hl 5 rfl) ?_
        have hHX := hL13_0
        refine r_last (j := 28 + 13 * v + k) (k := cz) (n := 13) hx hb hK hP hJ hAL hS (by omega) (fun _ => (rE_home2 (by omega))) (by omega) (by decide) dX12_homes_133 (fun u17 H locs hs17 ho17 hq17 hP hS => ?_)
        have hA18 := (hq17.1 1 List.not_mem_nil).trans hA14
        have hfr := FR.step hfr hq17 (fun _ h => absurd h List.not_mem_nil) (fun _ h => absurd h List.not_mem_nil) (fun h => h)
        have hHY := hm_put (v := v) (k := k) (q := cz) hHX (by omega) (by omega) hs17 ho17 (by rw [hL13_2, hM_s (by omega), show sq_13 = 2 * eN a by omega])
        refine lv_lload hx hb dX12_homes_134 (lv_at hl 5 rfl) ?_
        exact W.lret (v := lN n1_13) hx hb hr (fun t ht hW => ⟨⟨lN n1_13, u17, rfl, ⟨(by rw [hL13_2, hM_s (by omega), show sq_13 = 2 * eN a by omega]), (by exact hHY), hfr⟩, (show va_P (dC, dI) vwCl (rW cs b u17) t.heap by rw [ht]; exact hP)⟩, hS.F ht⟩) hS.2.2 dX12_homes_136
      · have c16 := mt (b_le (nI_toInt (n := 2 * (eN a)) (by omega)) (nI_toInt (n := sq_13) (by omega))).mpr c16
        refine lv_aload_n hx hb dX12_homes_70 rfl (lv_at hl 0 rfl) ?_
        refine lv_iload hx hb dX12_homes_71 (lv_at hl 6 rfl) ?_
        refine vp_callSi (va_Run.run (va_runV (As := [.int (nI sq_13)]) (rest := []) ⟨hx, hb, hml, hown, noTs⟩ (r_X12_from l dC dI H.size cs b u13 a hA14 sq_13 (by first | assumption | omega | rfl | (congr 1; omega)) (by first | assumption | omega | rfl | (congr 1; omega))) ⟨cbE 1 (wd_1591 hE) (wd_126 hE) (wd_1588 hE) rfl rfl (by decide +kernel) ⟨by show 2 + 1 ≤ nn + 1 + 8; omega, by show 8 + (2 + 11) + 80 ≤ 40 * (nn + 1 + 8); omega⟩, (wd_1590 hE), (wd_74 hE)⟩ ⟨PR.blind, r_recv hK hP rfl, (r_pre (av := [.ref (b 0), .int (nI sq_13)]) hK hP hJ hE)⟩ rfl rfl hl.1 rfl (lv_room (Nat.le_of_ble_eq_true rfl)) dX12_homes_73 ⟨Nat.le_of_ble_eq_true rfl, Nat.le_of_ble_eq_true rfl⟩)) (fun r19 hr19 => ?_)
        have hau19 := gg_src (a := a) (s := sq_13) (by assumption) (by first | assumption | omega)
        subst hr19
        refine lv_iload_n hx hb dX12_homes_76 rfl (lv_at hl 1 rfl) ?_
        refine lv_icmp_ne (tgt := 114) hx hb dX12_homes_77 (by decide) (fun c20 => ?_) (fun c20 => ?_)
        · have c20 := mt (b_eq (nI_toInt (n := src a sq_13) (by omega)) (nI_toInt (n := v) (by omega))).mpr c20
          refine lv_iinc (v := nI (sq_13 + 1)) (lv' := [(7, .int (nI (sq_13 + 1))), (0, .ref (b 0)), (1, .int (nI v)), (2, .int (nI k)), (3, .int x), (4, .int (nI gl)), (5, .long (lN n1_13))]) hx hb dX12_homes_114 hl (k := 6) rfl (nI_1 sq_13) (by decide) rfl (fun ls hl => ?_)
          refine lv_goto (tgt := 58) hx hb dX12_homes_117 (by decide) ?_
          exact ih13 _ u13 _ _ _ (by omega) ⟨hP, hS, hfr, (sq_13 + 1), n1_13, rfl, (by first | assumption | omega | rfl | (congr 1; omega)), (by first | assumption | omega | rfl | (congr 1; omega)), (by first | (rw [hsum_f (by omega)]; exact hL13_2) | (rw [hsum_t (by omega), ← hL13_2])), lv_sub hl [1, 2, 3, 4, 5, 6, 0] rfl⟩
        · have c20 := (b_eq (nI_toInt (n := src a sq_13) (by omega)) (nI_toInt (n := v) (by omega))).mp c20
          refine lv_lload hx hb dX12_homes_80 (lv_at hl 5 rfl) ?_
          refine lv_aload_n hx hb dX12_homes_82 rfl (lv_at hl 0 rfl) ?_
          refine lv_iload hx hb dX12_homes_83 (lv_at hl 6 rfl) ?_
          refine lv_iload_n hx hb dX12_homes_85 rfl (lv_at hl 3 rfl) ?_
          refine vp_callSi (va_Run.run (va_runV (As := [.int (nI sq_13), .int x]) (rest := [.long (lN n1_13)]) ⟨hx, hb, hml, hown, noTs⟩ (r_X12_choices l dC dI H.size cs b u13 a hA14 sq_13 x cz (by first | assumption | omega | rfl | (congr 1; omega)) (by first | assumption | omega | rfl | (congr 1; omega)) ((rfl : Int32.toInt x = _).trans (by omega)) (by first | assumption | omega | rfl | (congr 1; omega))) ⟨cbE 2 (wd_1897 hE) (wd_126 hE) (wd_1894 hE) rfl rfl (by decide +kernel) ⟨by show 3 + 1 ≤ nn + 1 + 8; omega, by show 8 + (3 + 11) + 120 ≤ 40 * (nn + 1 + 8); omega⟩, (wd_1896 hE), (wd_108 hE)⟩ ⟨PR.blind, r_recv hK hP rfl, (r_pre (av := [.ref (b 0), .int (nI sq_13), .int x]) hK hP hJ hE)⟩ rfl rfl hl.1 rfl (lv_room (Nat.le_of_ble_eq_true rfl)) dX12_homes_86 ⟨Nat.le_of_ble_eq_true rfl, Nat.le_of_ble_eq_true rfl⟩)) (fun r21 hr21 => ?_)
          have hcb := ch_le (a := a) (k := cz) hG (s := sq_13) (by omega)
          have hau21 := ch_le (a := a) (k := cz) (s := sq_13) (by assumption) (by first | assumption | omega)
          subst hr21
          refine lv_i2l hx hb dX12_homes_89 rfl ?_
          refine W.eq (g2 := F0 m 90 ls [.long (lN (ch a sq_13 cz)), .long (lN n1_13)]) (congrArg (fun z : Int64 => F0 m 90 ls (.long z :: [.long (lN n1_13)])) (nI_l (n := ch a sq_13 cz) (by omega))) ?_
          refine lv_aload_n hx hb dX12_homes_90 rfl (lv_at hl 0 rfl) ?_
          refine lv_aload_n hx hb dX12_homes_91 rfl (lv_at hl 0 rfl) ?_
          refine lv_iload hx hb dX12_homes_92 (lv_at hl 6 rfl) ?_
          refine vp_callSi (va_Run.run (va_runV (As := [.int (nI sq_13)]) (rest := [.ref (b 0), .long (lN (ch a sq_13 cz)), .long (lN n1_13)]) ⟨hx, hb, hml, hown, noTs⟩ (r_X12_to l dC dI H.size cs b u13 a hA14 sq_13 (by first | assumption | omega | rfl | (congr 1; omega)) (by first | assumption | omega | rfl | (congr 1; omega))) ⟨cbE 1 (wd_1606 hE) (wd_126 hE) (wd_1603 hE) rfl rfl (by decide +kernel) ⟨by show 3 + 1 ≤ nn + 1 + 8; omega, by show 8 + (2 + 11) + 120 ≤ 40 * (nn + 1 + 8); omega⟩, (wd_1605 hE), (wd_77 hE)⟩ ⟨PR.blind, r_recv hK hP rfl, (r_pre (av := [.ref (b 0), .int (nI sq_13)]) hK hP hJ hE)⟩ rfl rfl hl.1 rfl (lv_room (Nat.le_of_ble_eq_true rfl)) dX12_homes_94 ⟨Nat.le_of_ble_eq_true rfl, Nat.le_of_ble_eq_true rfl⟩)) (fun r22 hr22 => ?_)
          have hau22 := gg_dst (a := a) (s := sq_13) (by assumption) (by first | assumption | omega)
          subst hr22
          refine lv_iload_n hx hb dX12_homes_97 rfl (lv_at hl 2 rfl) ?_
          refine lv_iconst (v := 1) hx hb dX12_homes_98 (by decide) ?_
          refine lv_isub hx hb dX12_homes_99 ?_
          refine W.eq (g2 := F0 m 100 ls [.int (nI (k - 1)), .int (nI (dst a sq_13)), .ref (b 0), .long (lN (ch a sq_13 cz)), .long (lN n1_13)]) (congrArg (fun z : Int32 => F0 m 100 ls (.int z :: [.int (nI (dst a sq_13)), .ref (b 0), .long (lN (ch a sq_13 cz)), .long (lN n1_13)])) (pk_sub (a := k) (b := 1) (by omega))) ?_
          refine lv_iload hx hb dX12_homes_100 (lv_at hl 6 rfl) ?_
          refine lv_iload hx hb dX12_homes_102 (lv_at hl 4 rfl) ?_
          refine rc_l hAL hS hA (va_runV (As := [.int (nI (dst a sq_13)), .int (nI (k - 1)), .int (nI sq_13), .int (nI gl)]) (rest := [.long (lN (ch a sq_13 cz)), .long (lN n1_13)]) ⟨hx, hb, hml, hown, noTs⟩ (ih H.size cs b u13 a hA14 (dst a sq_13) (k - 1) (nI sq_13) gl (sq_13 + 1) (by first | assumption | omega | rfl | (congr 1; omega)) (by first | assumption | omega | rfl | (congr 1; omega)) (by first | assumption | omega | rfl | (congr 1; omega)) ((nI_toInt (n := sq_13) (by omega)).trans (by omega)) (by first | assumption | omega | rfl | (congr 1; omega)) (by first | assumption | omega | rfl | (congr 1; omega)) (by exact hL13_0) (by omega)) ⟨cbE 4 (wd_1921 hE) (wd_126 hE) (wd_1918 hE) rfl rfl (by decide +kernel) ⟨by show nn + 8 + 1 ≤ nn + 1 + 8; omega, by show 8 + (8 + 11) + 40 * (nn + 8) ≤ 40 * (nn + 1 + 8); omega⟩, (wd_1920 hE), (wd_111 hE)⟩ ⟨PR.blind, r_recv hK hP rfl, (r_pre (av := [.ref (b 0), .int (nI (dst a sq_13)), .int (nI (k - 1)), .int (nI sq_13), .int (nI gl)]) hK hP hJ hE)⟩ rfl rfl hl.1 rfl (lv_room (Nat.le_of_ble_eq_true rfl)) dX12_homes_104 ⟨Nat.le_of_ble_eq_true rfl, Nat.le_of_ble_eq_true rfl⟩) (fun r23 u23 H locs hpo23 hP hS => ?_)
          obtain ⟨hr23, h23_0, hq23⟩ := hpo23
          have hA24 := (hq23.1 1 List.not_mem_nil).trans hA14
          have hfr := FR.step hfr hq23 (fun _ h => absurd h List.not_mem_nil) (fun _ h => absurd h List.not_mem_nil) (fun h => h)
          have hmb := hM_b (a := a) hG (g := gl) (n := k - 1) (v := dst a sq_13) (k := sq_13 + 1) hp5
          have hpb := mul_b hcb hmb
          have hHM := h23_0
          subst hr23
          refine lv_lmul hx hb dX12_homes_107 ?_
          refine W.eq (g2 := F0 m 108 ls [.long (lN ((ch a sq_13 cz) * (hM a gl (k - 1) (dst a sq_13) (sq_13 + 1)))), .long (lN n1_13)]) (congrArg (fun z : Int64 => F0 m 108 ls (.long z :: [.long (lN n1_13)])) (lN_mul (ch a sq_13 cz) (hM a gl (k - 1) (dst a sq_13) (sq_13 + 1)))) ?_
          refine lv_ladd hx hb dX12_homes_108 ?_
          refine W.eq (g2 := F0 m 109 ls [.long (lN (n1_13 + ((ch a sq_13 cz) * (hM a gl (k - 1) (dst a sq_13) (sq_13 + 1)))))]) (congrArg (fun z : Int64 => F0 m 109 ls (.long z :: [])) (lN_add n1_13 ((ch a sq_13 cz) * (hM a gl (k - 1) (dst a sq_13) (sq_13 + 1))))) ?_
          refine vp_callSl (va_Run.run (va_runS (As := [.long (lN (n1_13 + ((ch a sq_13 cz) * (hM a gl (k - 1) (dst a sq_13) (sq_13 + 1)))))]) (rest := []) ⟨hx, hb, hml, hown, noTs⟩ (r_X12_held l dC dI H.size cs b u23 (n1_13 + ((ch a sq_13 cz) * (hM a gl (k - 1) (dst a sq_13) (sq_13 + 1)))) (by first | assumption | omega | rfl | (congr 1; omega))) ⟨cbE 1 (wd_1900 hE) (wd_126 hE) (wd_1898 hE) rfl rfl (by decide +kernel) ⟨by show 0 + 1 ≤ nn + 1 + 8; omega, by show 8 + (2 + 11) + 0 ≤ 40 * (nn + 1 + 8); omega⟩, (wd_1899 hE)⟩ ⟨PR.blind, (r_pre (av := [.long (lN (n1_13 + ((ch a sq_13 cz) * (hM a gl (k - 1) (dst a sq_13) (sq_13 + 1)))))]) hK hP hJ hE)⟩ rfl rfl hl.1 rfl (lv_room (Nat.le_of_ble_eq_true rfl)) dX12_homes_109 ⟨Nat.le_of_ble_eq_true rfl, Nat.le_of_ble_eq_true rfl⟩)) (fun r25 hr25 => ?_)
          subst hr25
          refine lv_lstore (lv' := [(5, .long (lN (hd (n1_13 + ((ch a sq_13 cz) * (hM a gl (k - 1) (dst a sq_13) (sq_13 + 1))))))), (0, .ref (b 0)), (1, .int (nI v)), (2, .int (nI k)), (3, .int x), (4, .int (nI gl)), (7, .int (nI sq_13))]) hx hb dX12_homes_112 hl (by decide) rfl (fun ls hl => ?_)
          refine lv_iinc (v := nI (sq_13 + 1)) (lv' := [(7, .int (nI (sq_13 + 1))), (5, .long (lN (hd (n1_13 + ((ch a sq_13 cz) * (hM a gl (k - 1) (dst a sq_13) (sq_13 + 1))))))), (0, .ref (b 0)), (1, .int (nI v)), (2, .int (nI k)), (3, .int x), (4, .int (nI gl))]) hx hb dX12_homes_114 hl (k := 6) rfl (nI_1 sq_13) (by decide) rfl (fun ls hl => ?_)
          refine lv_goto (tgt := 58) hx hb dX12_homes_117 (by decide) ?_
          exact ih13 _ u23 _ _ _ (by omega) ⟨hP, hS, hfr, (sq_13 + 1), (hd (n1_13 + ((ch a sq_13 cz) * (hM a gl (k - 1) (dst a sq_13) (sq_13 + 1))))), rfl, (by first | assumption | omega | rfl | (congr 1; omega)), (by first | assumption | omega | rfl | (congr 1; omega)), (by first | (rw [hsum_f (by omega)]; exact hL13_2) | (rw [hsum_t (by omega), ← hL13_2])), lv_sub hl [2, 3, 4, 5, 6, 1, 0] rfl⟩
    · have c12 := mt (lc_lt ex10).mpr c12
      have hmy : rL u (28 + 13 * v + k) cz = lN (hM a gl k v cz) := by
        rcases hp6 v k cz (by omega) (by omega) (by omega) with e9 | e9
        · exact absurd (show rL u (28 + 13 * v + k) cz < 0 by rw [e9]; decide) (by rw [hy9]; assumption)
        · exact e9
      refine lv_aload_n hx hb dX12_homes_39 rfl (lv_at hl 0 rfl) ?_
      refine r_get (v := .ref (b 21)) hx hb (ly_X12 hE) hown hK hP rfl 27 (by decide) (wd_1408 hE) (fun _ h9 => h9) rfl dX12_homes_40 ?_
      refine lv_iload_n hx hb dX12_homes_43 rfl (lv_at hl 1 rfl) ?_
      refine r_aald (j := 21) (k := v) (n := 6) (t0 := 5) (j2 := 22 + v) hx hb hK hP (by decide) rfl rfl (by omega) (by decide) rfl dX12_homes_44 ?_
      refine lv_iload_n hx hb dX12_homes_45 rfl (lv_at hl 2 rfl) ?_
      refine r_aald (j := 22 + v) (k := k) (n := 13) (t0 := 6) (j2 := 28 + 13 * v + k) hx hb hK hP (by omega) (rE_home1 (by omega)) rfl (by omega) (by decide) (by show some (b (28 + 13 * (22 + v - 22) + k)) = _; rw [show 22 + v - 22 = v by omega]) dX12_homes_46 ?_
      refine lv_iload_n hx hb dX12_homes_47 rfl (lv_at hl 3 rfl) ?_
      refine lv_iconst (v := 1) hx hb dX12_homes_48 (by decide) ?_
      refine lv_iadd hx hb dX12_homes_49 ?_
      refine W.eq (g2 := F0 m 50 ls [.int (nI cz), .ref (b (28 + 13 * v + k))]) (congrArg (fun z : Int32 => F0 m 50 ls (.int z :: [.ref (b (28 + 13 * v + k))])) (came_up hp3 (by omega))) ?_
      obtain ⟨y26, hy26⟩ : ∃ z : Int64, rL u (28 + 13 * v + k) cz = z := ⟨_, rfl⟩
      refine r_lald (j := 28 + 13 * v + k) (k := cz) (n := 13) (x := y26) hx hb hK hP (by omega) (rE_home2 (by omega)) (by omega) (by decide) hy26 dX12_homes_50 ?_
      exact W.lret (v := y26) hx hb hr (fun t ht hW => ⟨⟨y26, u, rfl, ⟨(by first | (rw [← hmy]; exact hy26.symm) | exact hmy), (by assumption), hfr⟩, (show va_P (dC, dI) vwCl (rW cs b u) t.heap by rw [ht]; exact hP)⟩, hS.F ht⟩) hS.2.2 dX12_homes_51
  · have c8 := (b_eq (nI_toInt (n := k) (by omega)) (show Int32.toInt 0 = 0 from rfl)).mp c8
    have hk0 : k = 0 := by omega
    refine lv_iload_n hx hb dX12_homes_4 rfl (lv_at hl 1 rfl) ?_
    refine lv_iload hx hb dX12_homes_5 (lv_at hl 4 rfl) ?_
    refine lv_icmp_ne (tgt := 20) hx hb dX12_homes_7 (by decide) (fun c27 => ?_) (fun c27 => ?_)
    · have c27 := mt (b_eq (nI_toInt (n := v) (by omega)) (nI_toInt (n := gl) (by omega))).mpr c27
      refine lv_lconst (v := 0) hx hb dX12_homes_20 (by decide) ?_
      exact W.lret (v := 0) hx hb hr (fun t ht hW => ⟨⟨0, u, rfl, ⟨(by subst hk0; show _ = lN (if v = gl then od a gl else 0); first | (rw [if_pos (by omega)]) | (rw [if_neg (by omega)]; rfl)), (by assumption), hfr⟩, (show va_P (dC, dI) vwCl (rW cs b u) t.heap by rw [ht]; exact hP)⟩, hS.F ht⟩) hS.2.2 dX12_homes_21
    · have c27 := (b_eq (nI_toInt (n := v) (by omega)) (nI_toInt (n := gl) (by omega))).mp c27
      refine lv_aload_n hx hb dX12_homes_10 rfl (lv_at hl 0 rfl) ?_
      refine lv_iload hx hb dX12_homes_11 (lv_at hl 4 rfl) ?_
      refine vp_callSi (va_Run.run (va_runV (As := [.int (nI gl)]) (rest := []) ⟨hx, hb, hml, hown, noTs⟩ (r_X12_orderAt l dC dI s.heap.size cs b u a hA1 gl (by first | assumption | omega | rfl | (congr 1; omega)) (by first | assumption | omega | rfl | (congr 1; omega))) ⟨cbE 1 (wd_1564 hE) (wd_126 hE) (wd_1561 hE) rfl rfl (by decide +kernel) ⟨by show 1 + 1 ≤ nn + 1 + 8; omega, by show 8 + (2 + 11) + 40 ≤ 40 * (nn + 1 + 8); omega⟩, (wd_1563 hE), (wd_68 hE)⟩ ⟨PR.blind, r_recv hK hP rfl, (r_pre (av := [.ref (b 0), .int (nI gl)]) hK hP hJ hE)⟩ rfl rfl hl.1 rfl (lv_room (Nat.le_of_ble_eq_true rfl)) dX12_homes_13 ⟨Nat.le_of_ble_eq_true rfl, Nat.le_of_ble_eq_true rfl⟩)) (fun r28 hr28 => ?_)
      have hau28 := (gg_od (a := a) (v := gl) (by assumption) (by first | assumption | omega)).2
      subst hr28
      refine lv_i2l hx hb dX12_homes_16 rfl ?_
      refine W.eq (g2 := F0 m 17 ls [.long (lN (od a gl))]) (congrArg (fun z : Int64 => F0 m 17 ls (.long z :: [])) (nI_l (n := od a gl) (by omega))) ?_
      refine lv_goto (tgt := 21) hx hb dX12_homes_17 (by decide) ?_
      exact W.lret (v := lN (od a gl)) hx hb hr (fun t ht hW => ⟨⟨lN (od a gl), u, rfl, ⟨(by subst hk0; show _ = lN (if v = gl then od a gl else 0); first | (rw [if_pos (by omega)]) | (rw [if_neg (by omega)]; rfl)), (by assumption), hfr⟩, (show va_P (dC, dI) vwCl (rW cs b u) t.heap by rw [ht]; exact hP)⟩, hS.F ht⟩) hS.2.2 dX12_homes_21
