/-! the text constants: "vertex", "edge", "word" of the class, " vertex edge word " of the reference -/
abbrev lenS : List Nat := [6, 4, 4, 18]
abbrev bytS : List (List Int32) := [[118, 101, 114, 116, 101, 120], [101, 100, 103, 101], [119, 111, 114, 100], [32, 118, 101, 114, 116, 101, 120, 32, 101, 100, 103, 101, 32, 119, 111, 114, 100, 32]]
def SX (adK adV : Nat → Nat) (A : Nat → Prop) (U : State) (H : Heap) : Prop := vk_S 4 lenS bytS adK adV A U H ∧ va_Z "java/lang/String" "COMPACT_STRINGS" "Z" (.int 1) A U H ∧ va_Zq "jdk/internal/util/Preconditions" "SIOOBE_FORMATTER" "Ljava/util/function/BiFunction;" A U H
theorem SX.moved {adK adV : Nat → Nat} {A : Nat → Prop} {u U : State} {H : Heap} (hvm : u.vm.Alike U.vm) (h : SX adK adV A u H) : SX adK adV A U H := ⟨h.1.moved hvm, h.2.1.moved hvm, h.2.2.moved hvm⟩
theorem SX.kept {adK adV : Nat → Nat} {A : Nat → Prop} {U : State} {H H1 : Heap} (h : SX adK adV A U H) (hq : ∀ a : Nat, a < H.size → ¬ A a → H1[a]? = H[a]?) : SX adK adV A U H1 := ⟨h.1.kept hq, h.2.1.kept hq, h.2.2.kept hq⟩
theorem SX.narrow {adK adV : Nat → Nat} {A B : Nat → Prop} {U : State} {H : Heap} (h : SX adK adV A U H) (hAB : ∀ q, B q → A q) : SX adK adV B U H := ⟨h.1.narrow hAB, h.2.1.narrow hAB, h.2.2.narrow hAB⟩
def PS (av : List Value) (adK adV : Nat → Nat) : Array Value → State → Prop := va_Pc av (fun U => SX adK adV (fun _ => False) U U.heap ∧ EX U)
theorem PS.blind {av : List Value} {adK adV : Nat → Nat} : FrameBlind (PS av adK adV) := fun a U g mk q => by
  obtain ⟨q0, qX, qE⟩ := q
  exact ⟨q0, SX.moved (u := U) (U := U.calling g mk a) (Vm.Alike.refl U.vm) qX, qE.blind⟩
theorem ps_pre {av : List Value} {adK adV : Nat → Nat} {A : Nat → Prop} {s : State} {H : Heap} {locs : List Loc} (hX : SX adK adV A s s.heap) (hS : va_S A s.heap H locs) (hE : EX s) : ∀ U : State, U.heap = H → s.WarmedH U.vm → PS av adK adV av.toArray U := fun U hU hw =>
  ⟨rfl, by rw [hU]; exact ((hX.kept hS.2.1).narrow (fun _ h => h.elim)).moved hw.alike, hE.warm hw⟩
theorem len31 : ∀ i, i < 4 → lenS.getD i 0 < 2 ^ 31 := by decide

set_option maxHeartbeats 4000000 in
theorem s_J0_coder (l : Launch) (adK adV : Nat → Nat) (i : Nat) (hi : i < 4) : Met l yJ0_coder_7d493 [.code yJ0_coder_7d493 cJ0_coder_7d493 1 (some .byte)] ({ frames := 0, cells := 0, slots := 0, locals := 0 }) (PS [.ref (adK i)] adK adV) (vp_Si (fun (r : Int32) => r = 0)) 0 0 (fun _ => False) := by
  refine Met.ofW (cc := cJ0_coder_7d493) (maxL := 1) (ret := (some .byte)) (by decide) rfl ?_
  intro p e s m args below meth c s₁ B hml hv
  obtain ⟨rfl, hX, hE⟩ := hv
  have hx := B.exec
  have hb := B.bytes
  have hr := B.returns
  have hown : s.vm.findClass RJ0 = some m.cls := findClass_of_methodNamed B.named
  have hS : va_S (fun _ => False) s.heap s.heap [] := va_S.rf
  have hl := lv_entry ([.ref (adK i)]) (n := 1) (Nat.le_of_ble_eq_true rfl)
  rw [lg_entry_eq]
  generalize (lg_sl ([.ref (adK i)]) ++ List.replicate (1 - (lg_sl ([.ref (adK i)])).length) Slot.unset).toArray = ls at hl ⊢
  have hl : lv_has ls 1 [(0, .ref (adK i))] := hl
  refine va_gets hx hb hX.2.1 hS hown (wd_493 hE) (fun _ h => h) dJ0_coder_7d493_0 ?_
  refine lv_if_eq (tgt := 13) hx hb dJ0_coder_7d493_3 (by decide) (fun h => absurd h (by decide)) (fun _ => ?_)
  refine lv_aload_n hx hb dJ0_coder_7d493_6 rfl (lv_at hl 0 rfl) ?_
  refine vk_getf hx hb (hX.1.1 i hi).2.1 hS hown (wd_1965 hE) (fun _ h => h) dJ0_coder_7d493_7 ?_
  refine lv_goto (tgt := 14) hx hb dJ0_coder_7d493_10 (by decide) ?_
  exact W.zret (v := 0) hx hb hr rfl (fun t ht hW => ⟨0, rfl, rfl, ht⟩) (fun _ h => absurd h List.not_mem_nil) dJ0_coder_7d493_14

set_option maxHeartbeats 4000000 in
theorem s_J0_length (l : Launch) (adK adV : Nat → Nat) (i : Nat) (hi : i < 4) : Met l yJ0_length_8abf5 [.code yJ0_length_8abf5 cJ0_length_8abf5 1 (some .int)] ({ frames := 1, cells := 0, slots := 0, locals := 40 }) (PS [.ref (adK i)] adK adV) (vp_Si (fun (r : Int32) => r = nI (lenS.getD i 0))) 0 0 (fun _ => False) := by
  refine Met.ofW (cc := cJ0_length_8abf5) (maxL := 1) (ret := (some .int)) (by decide) rfl ?_
  intro p e s m args below meth c s₁ B hml hv
  obtain ⟨rfl, hX, hE⟩ := hv
  have hx := B.exec
  have hb := B.bytes
  have hr := B.returns
  have hown : s.vm.findClass RJ0 = some m.cls := findClass_of_methodNamed B.named
  have hS : va_S (fun _ => False) s.heap s.heap [] := va_S.rf
  have hl := lv_entry ([.ref (adK i)]) (n := 1) (Nat.le_of_ble_eq_true rfl)
  rw [lg_entry_eq]
  generalize (lg_sl ([.ref (adK i)]) ++ List.replicate (1 - (lg_sl ([.ref (adK i)])).length) Slot.unset).toArray = ls at hl ⊢
  have hl : lv_has ls 1 [(0, .ref (adK i))] := hl
  refine lv_aload_n hx hb dJ0_length_8abf5_0 rfl (lv_at hl 0 rfl) ?_
  refine vk_getf hx hb (hX.1.1 i hi).2.2.1 hS hown (wd_1964 hE) (fun _ h => h) dJ0_length_8abf5_1 ?_
  refine va_tlen (v := nI (lenS.getD i 0)) hx hb (hX.1.1 i hi).2.2.2 hS rfl dJ0_length_8abf5_4 ?_
  refine lv_aload_n hx hb dJ0_length_8abf5_5 rfl (lv_at hl 0 rfl) ?_
  refine vp_callSi (va_Run.run (va_runV (As := []) (rest := [.int (nI (lenS.getD i 0))]) ⟨hx, hb, hml, hown, noTs⟩ (s_J0_coder l adK adV i hi) ⟨cbE 0 (wd_492 hE) (wd_129 hE) (wd_489 hE) rfl rfl (by decide +kernel) ⟨Nat.le_of_ble_eq_true rfl, Nat.le_of_ble_eq_true rfl⟩, (wd_490 hE), (wd_491 hE)⟩ ⟨PS.blind, vk_recv hX.1 hi hS, ps_pre (av := [.ref (adK i)]) hX hS hE⟩ rfl rfl hl.1 rfl (lv_room (Nat.le_of_ble_eq_true rfl)) dJ0_length_8abf5_6 ⟨Nat.le_of_ble_eq_true rfl, Nat.le_of_ble_eq_true rfl⟩)) (fun r5 hr5 => ?_)
  subst hr5
  refine lv_ishr hx hb dJ0_length_8abf5_9 ?_
  refine lv_topi (fun x6 ex6 => ?_)
  exact W.iret (v := x6) hx hb hr (fun t ht hW => ⟨x6, rfl, by rw [ex6]; exact sc_shr0 (len31 i hi), ht⟩) (fun _ h => absurd h List.not_mem_nil) dJ0_length_8abf5_10

set_option maxHeartbeats 4000000 in
theorem s_J0_isLatin1 (l : Launch) (adK adV : Nat → Nat) (i : Nat) (hi : i < 4) : Met l yJ0_isLatin1_aae02 [.code yJ0_isLatin1_aae02 cJ0_isLatin1_aae02 1 (some .boolean)] ({ frames := 0, cells := 0, slots := 0, locals := 0 }) (PS [.ref (adK i)] adK adV) (vp_Si (fun (r : Int32) => r = 1)) 0 0 (fun _ => False) := by
  refine Met.ofW (cc := cJ0_isLatin1_aae02) (maxL := 1) (ret := (some .boolean)) (by decide) rfl ?_
  intro p e s m args below meth c s₁ B hml hv
  obtain ⟨rfl, hX, hE⟩ := hv
  have hx := B.exec
  have hb := B.bytes
  have hr := B.returns
  have hown : s.vm.findClass RJ0 = some m.cls := findClass_of_methodNamed B.named
  have hS : va_S (fun _ => False) s.heap s.heap [] := va_S.rf
  have hl := lv_entry ([.ref (adK i)]) (n := 1) (Nat.le_of_ble_eq_true rfl)
  rw [lg_entry_eq]
  generalize (lg_sl ([.ref (adK i)]) ++ List.replicate (1 - (lg_sl ([.ref (adK i)])).length) Slot.unset).toArray = ls at hl ⊢
  have hl : lv_has ls 1 [(0, .ref (adK i))] := hl
  refine va_gets hx hb hX.2.1 hS hown (wd_493 hE) (fun _ h => h) dJ0_isLatin1_aae02_0 ?_
  refine lv_if_eq (tgt := 17) hx hb dJ0_isLatin1_aae02_3 (by decide) (fun h => absurd h (by decide)) (fun _ => ?_)
  refine lv_aload_n hx hb dJ0_isLatin1_aae02_6 rfl (lv_at hl 0 rfl) ?_
  refine vk_getf hx hb (hX.1.1 i hi).2.1 hS hown (wd_1965 hE) (fun _ h => h) dJ0_isLatin1_aae02_7 ?_
  refine lv_if_ne (tgt := 17) hx hb dJ0_isLatin1_aae02_10 (by decide) (fun h => absurd rfl h) (fun _ => ?_)
  refine lv_iconst (v := 1) hx hb dJ0_isLatin1_aae02_13 (by decide) ?_
  refine lv_goto (tgt := 18) hx hb dJ0_isLatin1_aae02_14 (by decide) ?_
  exact W.zret (v := 1) hx hb hr rfl (fun t ht hW => ⟨1, rfl, rfl, ht⟩) (fun _ h => absurd h List.not_mem_nil) dJ0_isLatin1_aae02_18

set_option maxHeartbeats 4000000 in
theorem s_J3_checkIndex_n (l : Launch) (adK adV : Nat → Nat) (k n : Nat) (hk : k < n) (hn : n < 2 ^ 31) : Met l yJ3_checkIndex_8e157 [.code yJ3_checkIndex_8e157 cJ3_checkIndex_8e157 3 (some .int)] ({ frames := 0, cells := 0, slots := 0, locals := 0 }) (PS [.int (nI k), .int (nI n), .null] adK adV) (vp_Si (fun (r : Int32) => True)) 0 0 (fun _ => False) := by
  refine Met.ofW (cc := cJ3_checkIndex_8e157) (maxL := 3) (ret := (some .int)) (by decide) rfl ?_
  intro p e s m args below meth c s₁ B hml hv
  obtain ⟨rfl, hX, hE⟩ := hv
  have hx := B.exec
  have hb := B.bytes
  have hr := B.returns
  have hown : s.vm.findClass RJ3 = some m.cls := findClass_of_methodNamed B.named
  have hS : va_S (fun _ => False) s.heap s.heap [] := va_S.rf
  have hl := lv_entry ([.int (nI k), .int (nI n), .null]) (n := 3) (Nat.le_of_ble_eq_true rfl)
  rw [lg_entry_eq]
  generalize (lg_sl ([.int (nI k), .int (nI n), .null]) ++ List.replicate (3 - (lg_sl ([.int (nI k), .int (nI n), .null])).length) Slot.unset).toArray = ls at hl ⊢
  have hl : lv_has ls 3 [(0, .int (nI k)), (1, .int (nI n)), (2, .null)] := hl
  refine lv_iload_n hx hb dJ3_checkIndex_8e157_0 rfl (lv_at hl 0 rfl) ?_
  refine lv_if_lt (tgt := 9) hx hb dJ3_checkIndex_8e157_1 (by decide) (fun h => absurd h (nI_pos (by omega))) (fun _ => ?_)
  refine lv_iload_n hx hb dJ3_checkIndex_8e157_4 rfl (lv_at hl 0 rfl) ?_
  refine lv_iload_n hx hb dJ3_checkIndex_8e157_5 rfl (lv_at hl 1 rfl) ?_
  refine lv_icmp_lt (tgt := 16) hx hb dJ3_checkIndex_8e157_6 (by decide) (fun _ => ?_) (fun h => absurd (nI_lt hk hn) h)
  refine lv_iload_n hx hb dJ3_checkIndex_8e157_16 rfl (lv_at hl 0 rfl) ?_
  exact W.iret (v := nI k) hx hb hr (fun t ht hW => ⟨nI k, rfl, trivial, ht⟩) (fun _ h => absurd h List.not_mem_nil) dJ3_checkIndex_8e157_17

set_option maxHeartbeats 4000000 in
theorem s_J3_checkIndex_q (l : Launch) (adK adV : Nat → Nat) (k n : Nat) (q : Nat) (hk : k < n) (hn : n < 2 ^ 31) : Met l yJ3_checkIndex_8e157 [.code yJ3_checkIndex_8e157 cJ3_checkIndex_8e157 3 (some .int)] ({ frames := 0, cells := 0, slots := 0, locals := 0 }) (PS [.int (nI k), .int (nI n), .ref q] adK adV) (vp_Si (fun (r : Int32) => True)) 0 0 (fun _ => False) := by
  refine Met.ofW (cc := cJ3_checkIndex_8e157) (maxL := 3) (ret := (some .int)) (by decide) rfl ?_
  intro p e s m args below meth c s₁ B hml hv
  obtain ⟨rfl, hX, hE⟩ := hv
  have hx := B.exec
  have hb := B.bytes
  have hr := B.returns
  have hown : s.vm.findClass RJ3 = some m.cls := findClass_of_methodNamed B.named
  have hS : va_S (fun _ => False) s.heap s.heap [] := va_S.rf
  have hl := lv_entry ([.int (nI k), .int (nI n), .ref q]) (n := 3) (Nat.le_of_ble_eq_true rfl)
  rw [lg_entry_eq]
  generalize (lg_sl ([.int (nI k), .int (nI n), .ref q]) ++ List.replicate (3 - (lg_sl ([.int (nI k), .int (nI n), .ref q])).length) Slot.unset).toArray = ls at hl ⊢
  have hl : lv_has ls 3 [(0, .int (nI k)), (1, .int (nI n)), (2, .ref q)] := hl
  refine lv_iload_n hx hb dJ3_checkIndex_8e157_0 rfl (lv_at hl 0 rfl) ?_
  refine lv_if_lt (tgt := 9) hx hb dJ3_checkIndex_8e157_1 (by decide) (fun h => absurd h (nI_pos (by omega))) (fun _ => ?_)
  refine lv_iload_n hx hb dJ3_checkIndex_8e157_4 rfl (lv_at hl 0 rfl) ?_
  refine lv_iload_n hx hb dJ3_checkIndex_8e157_5 rfl (lv_at hl 1 rfl) ?_
  refine lv_icmp_lt (tgt := 16) hx hb dJ3_checkIndex_8e157_6 (by decide) (fun _ => ?_) (fun h => absurd (nI_lt hk hn) h)
  refine lv_iload_n hx hb dJ3_checkIndex_8e157_16 rfl (lv_at hl 0 rfl) ?_
  exact W.iret (v := nI k) hx hb hr (fun t ht hW => ⟨nI k, rfl, trivial, ht⟩) (fun _ h => absurd h List.not_mem_nil) dJ3_checkIndex_8e157_17

set_option maxHeartbeats 4000000 in
theorem s_J0_checkIndex (l : Launch) (adK adV : Nat → Nat) (k n : Nat) (hk : k < n) (hn : n < 2 ^ 31) : Met l yJ0_checkIndex_df160 [.code yJ0_checkIndex_df160 cJ0_checkIndex_df160 2 none] ({ frames := 1, cells := 0, slots := 0, locals := 40 }) (PS [.int (nI k), .int (nI n)] adK adV) (va_Sv (fun _ => True)) 0 0 (fun _ => False) := by
  refine Met.ofW (cc := cJ0_checkIndex_df160) (maxL := 2) (ret := none) (by decide) rfl ?_
  intro p e s m args below meth c s₁ B hml hv
  obtain ⟨rfl, hX, hE⟩ := hv
  have hx := B.exec
  have hb := B.bytes
  have hr := B.returns
  have hown : s.vm.findClass RJ0 = some m.cls := findClass_of_methodNamed B.named
  have hS : va_S (fun _ => False) s.heap s.heap [] := va_S.rf
  have hl := lv_entry ([.int (nI k), .int (nI n)]) (n := 2) (Nat.le_of_ble_eq_true rfl)
  rw [lg_entry_eq]
  generalize (lg_sl ([.int (nI k), .int (nI n)]) ++ List.replicate (2 - (lg_sl ([.int (nI k), .int (nI n)])).length) Slot.unset).toArray = ls at hl ⊢
  have hl : lv_has ls 2 [(0, .int (nI k)), (1, .int (nI n))] := hl
  refine lv_iload_n hx hb dJ0_checkIndex_df160_0 rfl (lv_at hl 0 rfl) ?_
  refine lv_iload_n hx hb dJ0_checkIndex_df160_1 rfl (lv_at hl 1 rfl) ?_
  rcases hX.2.2 with hZ | ⟨q, hZ⟩
  · refine va_gets hx hb hZ hS hown (wd_509 hE) (fun _ h => h) dJ0_checkIndex_df160_2 ?_
    refine vp_callSi (va_Run.run (va_runS (As := [.int (nI k), .int (nI n), .null]) (rest := []) ⟨hx, hb, hml, hown, noTs⟩ (s_J3_checkIndex_n l adK adV k n hk hn) ⟨cbE 3 (wd_513 hE) (wd_131 hE) (wd_511 hE) rfl rfl (by decide +kernel) ⟨Nat.le_of_ble_eq_true rfl, Nat.le_of_ble_eq_true rfl⟩, (wd_512 hE)⟩ ⟨PS.blind, ps_pre (av := [.int (nI k), .int (nI n), .null]) hX hS hE⟩ rfl rfl hl.1 rfl (lv_room (Nat.le_of_ble_eq_true rfl)) dJ0_checkIndex_df160_5 ⟨Nat.le_of_ble_eq_true rfl, Nat.le_of_ble_eq_true rfl⟩)) (fun r5 hr5 => ?_)
    refine lv_pop hx hb dJ0_checkIndex_df160_8 rfl ?_
    exact W.vret hx hb hr (fun t ht hW => ⟨rfl, trivial, ht⟩) (fun _ h => absurd h List.not_mem_nil) dJ0_checkIndex_df160_9
  · refine va_gets hx hb hZ hS hown (wd_509 hE) (fun _ h => h) dJ0_checkIndex_df160_2 ?_
    refine vp_callSi (va_Run.run (va_runS (As := [.int (nI k), .int (nI n), .ref q]) (rest := []) ⟨hx, hb, hml, hown, noTs⟩ (s_J3_checkIndex_q l adK adV k n q hk hn) ⟨cbE 3 (wd_513 hE) (wd_131 hE) (wd_511 hE) rfl rfl (by decide +kernel) ⟨Nat.le_of_ble_eq_true rfl, Nat.le_of_ble_eq_true rfl⟩, (wd_512 hE)⟩ ⟨PS.blind, ps_pre (av := [.int (nI k), .int (nI n), .ref q]) hX hS hE⟩ rfl rfl hl.1 rfl (lv_room (Nat.le_of_ble_eq_true rfl)) dJ0_checkIndex_df160_5 ⟨Nat.le_of_ble_eq_true rfl, Nat.le_of_ble_eq_true rfl⟩)) (fun r5 hr5 => ?_)
    refine lv_pop hx hb dJ0_checkIndex_df160_8 rfl ?_
    exact W.vret hx hb hr (fun t ht hW => ⟨rfl, trivial, ht⟩) (fun _ h => absurd h List.not_mem_nil) dJ0_checkIndex_df160_9

def chS (i k : Nat) : Int32 := (bytS.getD i []).getD k 0 &&& 255

set_option maxHeartbeats 4000000 in
theorem s_J1_charAt (l : Launch) (adK adV : Nat → Nat) (i k : Nat) (hi : i < 4) (hk : k < lenS.getD i 0) : Met l yJ1_charAt_3b067 [.code yJ1_charAt_3b067 cJ1_charAt_3b067 2 (some .char)] ({ frames := 2, cells := 0, slots := 0, locals := 80 }) (PS [.ref (adV i), .int (nI k)] adK adV) (vp_Si (fun (r : Int32) => r = chS i k)) 0 0 (fun _ => False) := by
  refine Met.ofW (cc := cJ1_charAt_3b067) (maxL := 2) (ret := (some .char)) (by decide) rfl ?_
  intro p e s m args below meth c s₁ B hml hv
  obtain ⟨rfl, hX, hE⟩ := hv
  have hx := B.exec
  have hb := B.bytes
  have hr := B.returns
  have hown : s.vm.findClass RJ1 = some m.cls := findClass_of_methodNamed B.named
  have hS : va_S (fun _ => False) s.heap s.heap [] := va_S.rf
  have hl := lv_entry ([.ref (adV i), .int (nI k)]) (n := 2) (Nat.le_of_ble_eq_true rfl)
  rw [lg_entry_eq]
  generalize (lg_sl ([.ref (adV i), .int (nI k)]) ++ List.replicate (2 - (lg_sl ([.ref (adV i), .int (nI k)])).length) Slot.unset).toArray = ls at hl ⊢
  have hl : lv_has ls 2 [(0, .ref (adV i)), (1, .int (nI k))] := hl
  have h31 := len31 i hi
  refine lv_iload_n hx hb dJ1_charAt_3b067_0 rfl (lv_at hl 1 rfl) ?_
  refine lv_aload_n hx hb dJ1_charAt_3b067_1 rfl (lv_at hl 0 rfl) ?_
  refine va_tlen (v := nI (lenS.getD i 0)) hx hb (hX.1.1 i hi).2.2.2 hS rfl dJ1_charAt_3b067_2 ?_
  refine va_csv (va_Run.run (va_runS (As := [.int (nI k), .int (nI (lenS.getD i 0))]) (rest := []) ⟨hx, hb, hml, hown, noTs⟩ (s_J0_checkIndex l adK adV k (lenS.getD i 0) hk h31) ⟨cbE 2 (wd_508 hE) (wd_129 hE) (wd_506 hE) rfl rfl (by decide +kernel) ⟨Nat.le_of_ble_eq_true rfl, Nat.le_of_ble_eq_true rfl⟩, (wd_507 hE)⟩ ⟨PS.blind, ps_pre (av := [.int (nI k), .int (nI (lenS.getD i 0))]) hX hS hE⟩ rfl rfl hl.1 rfl (lv_room (Nat.le_of_ble_eq_true rfl)) dJ1_charAt_3b067_3 ⟨Nat.le_of_ble_eq_true rfl, Nat.le_of_ble_eq_true rfl⟩)) (fun _ => ?_)
  refine lv_aload_n hx hb dJ1_charAt_3b067_6 rfl (lv_at hl 0 rfl) ?_
  refine lv_iload_n hx hb dJ1_charAt_3b067_7 rfl (lv_at hl 1 rfl) ?_
  refine va_tb (v := .int ((bytS.getD i []).getD k 0)) hx hb (hX.1.1 i hi).2.2.2 hS (vp_in_nI hk h31) (by rw [nI_clamp (Nat.lt_trans hk h31)]) dJ1_charAt_3b067_8 ?_
  refine lv_sipush (v := 255) hx hb dJ1_charAt_3b067_9 (by decide) ?_
  refine lv_iand hx hb dJ1_charAt_3b067_12 ?_
  refine lv_i2c (v := chS i k) hx hb dJ1_charAt_3b067_13 (sc_c2 _) ?_
  exact W.zret (v := chS i k) hx hb hr (sc_nar _) (fun t ht hW => ⟨chS i k, rfl, rfl, ht⟩) (fun _ h => absurd h List.not_mem_nil) dJ1_charAt_3b067_14

set_option maxHeartbeats 4000000 in
theorem s_J0_charAt (l : Launch) (adK adV : Nat → Nat) (i k : Nat) (hi : i < 4) (hk : k < lenS.getD i 0) : Met l yJ0_charAt_5068e [.code yJ0_charAt_5068e cJ0_charAt_5068e 2 (some .char)] ({ frames := 3, cells := 0, slots := 0, locals := 120 }) (PS [.ref (adK i), .int (nI k)] adK adV) (vp_Si (fun (r : Int32) => r = chS i k)) 0 0 (fun _ => False) := by
  refine Met.ofW (cc := cJ0_charAt_5068e) (maxL := 2) (ret := (some .char)) (by decide) rfl ?_
  intro p e s m args below meth c s₁ B hml hv
  obtain ⟨rfl, hX, hE⟩ := hv
  have hx := B.exec
  have hb := B.bytes
  have hr := B.returns
  have hown : s.vm.findClass RJ0 = some m.cls := findClass_of_methodNamed B.named
  have hS : va_S (fun _ => False) s.heap s.heap [] := va_S.rf
  have hl := lv_entry ([.ref (adK i), .int (nI k)]) (n := 2) (Nat.le_of_ble_eq_true rfl)
  rw [lg_entry_eq]
  generalize (lg_sl ([.ref (adK i), .int (nI k)]) ++ List.replicate (2 - (lg_sl ([.ref (adK i), .int (nI k)])).length) Slot.unset).toArray = ls at hl ⊢
  have hl : lv_has ls 2 [(0, .ref (adK i)), (1, .int (nI k))] := hl
  refine lv_aload_n hx hb dJ0_charAt_5068e_0 rfl (lv_at hl 0 rfl) ?_
  refine vp_callSi (va_Run.run (va_runV (As := []) (rest := []) ⟨hx, hb, hml, hown, noTs⟩ (s_J0_isLatin1 l adK adV i hi) ⟨cbE 0 (wd_502 hE) (wd_129 hE) (wd_499 hE) rfl rfl (by decide +kernel) ⟨Nat.le_of_ble_eq_true rfl, Nat.le_of_ble_eq_true rfl⟩, (wd_500 hE), (wd_501 hE)⟩ ⟨PS.blind, vk_recv hX.1 hi hS, ps_pre (av := [.ref (adK i)]) hX hS hE⟩ rfl rfl hl.1 rfl (lv_room (Nat.le_of_ble_eq_true rfl)) dJ0_charAt_5068e_1 ⟨Nat.le_of_ble_eq_true rfl, Nat.le_of_ble_eq_true rfl⟩)) (fun r5 hr5 => ?_)
  subst hr5
  refine lv_if_eq (tgt := 16) hx hb dJ0_charAt_5068e_4 (by decide) (fun h => absurd h (by decide)) (fun _ => ?_)
  refine lv_aload_n hx hb dJ0_charAt_5068e_7 rfl (lv_at hl 0 rfl) ?_
  refine vk_getf hx hb (hX.1.1 i hi).2.2.1 hS hown (wd_1964 hE) (fun _ h => h) dJ0_charAt_5068e_8 ?_
  refine lv_iload_n hx hb dJ0_charAt_5068e_11 rfl (lv_at hl 1 rfl) ?_
  refine vp_callSi (va_Run.run (va_runS (As := [.ref (adV i), .int (nI k)]) (rest := []) ⟨hx, hb, hml, hown, noTs⟩ (s_J1_charAt l adK adV i k hi hk) ⟨cbE 2 (wd_505 hE) (wd_130 hE) (wd_503 hE) rfl rfl (by decide +kernel) ⟨Nat.le_of_ble_eq_true rfl, Nat.le_of_ble_eq_true rfl⟩, (wd_504 hE)⟩ ⟨PS.blind, ps_pre (av := [.ref (adV i), .int (nI k)]) hX hS hE⟩ rfl rfl hl.1 rfl (lv_room (Nat.le_of_ble_eq_true rfl)) dJ0_charAt_5068e_12 ⟨Nat.le_of_ble_eq_true rfl, Nat.le_of_ble_eq_true rfl⟩)) (fun r6 hr6 => ?_)
  subst hr6
  exact W.zret (v := chS i k) hx hb hr (sc_nar _) (fun t ht hW => ⟨chS i k, rfl, rfl, ht⟩) (fun _ h => absurd h List.not_mem_nil) dJ0_charAt_5068e_15
def PRX (av : List Value) (sz : Nat) (dC : Nat → ClassId) (dI : Nat → Nat → Nat) (cs : Nat → ClassId) (b : Nat → Nat) (u : RS) (adK adV : Nat → Nat) : Array Value → State → Prop :=
  va_Pc av (fun U => U.heap.size = sz ∧ va_P (dC, dI) vwCl (rW cs b u) U.heap ∧ va_K (dC, dI) vwCl (RTY cs) U ∧ RJ b ∧ EX U ∧ SX adK adV (AR b sz) U U.heap ∧ vk_R "GluedWordsModel" 172 " vertex edge word " (adK 3) U)
theorem PRX.blind {av : List Value} {sz : Nat} {dC : Nat → ClassId} {dI : Nat → Nat → Nat} {cs : Nat → ClassId} {b : Nat → Nat} {u : RS} {adK adV : Nat → Nat} : FrameBlind (PRX av sz dC dI cs b u adK adV) := fun a U g mk q => by
  obtain ⟨q0, q1, qP, qK, qD, qE, qX, qZ⟩ := q
  exact ⟨q0, q1, qP, va_K.moved (u := U) (U := U.calling g mk a) (Vm.Alike.refl U.vm) qK, qD, qE.blind, SX.moved (u := U) (U := U.calling g mk a) (Vm.Alike.refl U.vm) qX, vk_R.same (u := U) (U := U.calling g mk a) rfl qZ⟩
theorem rx_pre {av : List Value} {dC : Nat → ClassId} {dI : Nat → Nat → Nat} {cs : Nat → ClassId} {b : Nat → Nat} {u : RS} {adK adV : Nat → Nat} {s : State} {H : Heap} {locs : List Loc} (hK : va_K (dC, dI) vwCl (RTY cs) s) (hP : va_P (dC, dI) vwCl (rW cs b u) H) (hJ : RJ b) (hE : EX s) (hX : SX adK adV (AR b s.heap.size) s s.heap) (hZ : vk_R "GluedWordsModel" 172 " vertex edge word " (adK 3) s) (hS : va_S (AR b s.heap.size) s.heap H locs) : ∀ U : State, U.heap = H → s.WarmedH U.vm → PRX av H.size dC dI cs b u adK adV av.toArray U := fun U hU hw =>
  ⟨rfl, by rw [hU], by rw [hU]; exact hP, va_K.moved hw.alike hK, hJ, hE.warm hw, by rw [hU]; exact ((hX.kept hS.2.1).narrow (fun q h => h.elim Or.inl (fun h => Or.inr (Nat.le_trans hS.1 h)))).moved hw.alike, hZ.warm hw⟩

