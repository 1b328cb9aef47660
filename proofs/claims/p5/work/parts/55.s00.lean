/-! the text constants: "vertex", "edge", "word" of the class, " vertex edge word " of the reference -/
abbrev lenS : List Nat := [6, 4, 4, 18]
abbrev bytS : List (List Int32) := [[118, 101, 114, 116, 101, 120], [101, 100, 103, 101], [119, 111, 114, 100], [32, 118, 101, 114, 116, 101, 120, 32, 101, 100, 103, 101, 32, 119, 111, 114, 100, 32]]
def SX (adK adV : Nat → Nat) (A : Nat → Prop) (U : State) (H : Heap) : Prop := vk_S 4 lenS bytS adK adV A U H ∧ va_Z "java/lang/String" "COMPACT_STRINGS" "Z" (.int 1) A U H ∧ va_Zq "jdk/internal/util/Preconditions" "SIOOBE_FORMATTER" "Ljava/util/function/BiFunction;" A U H
theorem SX.moved {adK adV : Nat → Nat} {A : Nat → Prop} {u U : State} {H : Heap} (hvm : u.vm.Alike U.vm) (h : SX adK adV A u H) : SX adK adV A U H := ⟨h.1.moved hvm, h.2.1.moved hvm, h.2.2.moved hvm⟩
theorem SX.kept {adK adV : Nat → Nat} {A : Nat → Prop} {U : State} {H H1 : Heap} (h : SX adK adV A U H) (hq : ∀ a : Nat, a < H.size → ¬ A a → H1[a]? = H[a]?) : SX adK adV A U H1 := ⟨h.1.kept hq, h.2.1.kept hq, h.2.2.kept hq⟩
theorem SX.narrow {adK adV : Nat → Nat} {A B : Nat → Prop} {U : State} {H : Heap} (h : SX adK adV A U H) (hAB : ∀ q, B q → A q) : SX adK adV B U H := ⟨h.1.narrow hAB, h.2.1.narrow hAB, h.2.2.narrow hAB⟩
def PS (av : List Value) (adK adV : Nat → Nat) : Array Value → State → Prop := va_Pc av (fun U => SX adK adV (fun _ => False) U U.heap ∧ EX U)
theorem PS.blind {av : List Value} {adK adV : Nat → Nat} : FrameBlind (PS av adK adV) := fun a U g mk q => by
  obtain ⟨q0, qX, qE⟩ := q
  exact ⟨q0, SX.moved (u := U) (U := U.calling g mk a) (Vm.Alike.refl U.vm) qX, qE.blind⟩
theorem ps_pre {av : List Value} {adK adV : Nat → Nat} {A : Nat → Prop} {s : State} {H : Heap} {locs : List Loc} (hX : SX adK adV A s s.heap) (hS : va_S A s.heap H locs) (hE : EX s) : ∀ U : State, U.heap = H → s.WarmedH U.vm → PS av adK adV av.toArray U := fun U hU hw =>
  ⟨rfl, by rw [hU]; exact ((hX.kept hS.2.1).narrow (fun _ h => h.elim)).moved hw.alike, hE.warm hw⟩
theorem len31 : ∀ i, i < 4 → lenS.getD i 0 < 2 ^ 31 := by decide

set_option maxHeartbeats 4000000 in
theorem s_J0_coder (l : Launch) (adK adV : Nat → Nat) (i : Nat) (hi : i < 4) : Met l yJ0_coder_7d493 [.code yJ0_coder_7d493 cJ0_coder_7d493 1 (some .byte)] ({ frames := 0, cells := 0, slots := 0, locals := 0 }) (PS [.ref (adK i)] adK adV) (vp_Si (fun (r : Int32) => r = 0)) 0 0 (fun _ => False) := by
  refine Met.ofW (cc := cJ0_coder_7d493) (maxL := 1) (ret := (some .byte)) (by decide) rfl ?_
  intro p e s m args below meth c s₁ B hml hv
  obtain ⟨rfl, hX, hE⟩ := hv
  have hx := B.exec
  have hb := B.bytes
  have hr := B.returns
  have hown : s.vm.findClass RJ0 = some m.cls := findClass_of_methodNamed B.named
  have hS : va_S (fun _ => False) s.heap s.heap [] := va_S.rf
  have hl := lv_entry ([.ref (adK i)]) (n := 1) (Nat.le_of_ble_eq_true rfl)
  rw [lg_entry_eq]
  generalize (lg_sl ([.ref (adK i)]) ++ List.replicate (1 - (lg_sl ([.ref (adK i)])).length) Slot.unset).toArray = ls at hl ⊢
  have hl : lv_has ls 1 [(0, .ref (adK i))] := hl
  refine va_gets hx hb hX.2.1 hS hown (wd_493 hE) (fun _ h => h) dJ0_coder_7d493_0 ?_
  refine lv_if_eq (tgt := 13) hx hb dJ0_coder_7d493_3 (by decide) (fun h => absurd h (by decide)) (fun _ => ?_)
  refine lv_aload_n hx hb dJ0_coder_7d493_6 rfl (lv_at hl 0 rfl) ?_
  refine vk_getf hx hb (hX.1.1 i hi).2.1 hS hown (wd_1965 hE) (fun _ h => h) dJ0_coder_7d493_7 ?_
  refine lv_goto (tgt := 14) hx hb dJ0_coder_7d493_10 (by decide) ?_
  exact W.zret (v := 0) hx hb hr rfl (fun t ht hW => ⟨0, rfl, rfl, ht⟩) (fun _ h => absurd h List.not_mem_nil) dJ0_coder_7d493_14

set_option maxHeartbeats 4000000 in
theorem s_J0_length (l : Launch) (adK adV : Nat → Nat) (i : Nat) (hi : i < 4) : Met l yJ0_length_8abf5 [.code yJ0_length_8abf5 cJ0_length_8abf5 1 (some .int)] ({ frames := 1, cells := 0, slots := 0, locals := 40 }) (PS [.ref (adK i)] adK adV) (vp_Si (fun (r : Int32) => r = nI (lenS.getD i 0))) 0 0 (fun _ => False) := by
  refine Met.ofW (cc := cJ0_length_8abf5) (maxL := 1) (ret := (some .int)) (by decide) rfl ?_
  intro p e s m args below meth c s₁ B hml hv
  obtain ⟨rfl, hX, hE⟩ := hv
  have hx := B.exec
  have hb := B.bytes
  have hr := B.returns
  have hown : s.vm.findClass RJ0 = some m.cls := findClass_of_methodNamed B.named
  have hS : va_S (fun _ => False) s.heap s.heap [] := va_S.rf
  have hl := lv_entry ([.ref (adK i)]) (n := 1) (Nat.le_of_ble_eq_true rfl)
  rw [lg_entry_eq]
  generalize (lg_sl ([.ref (adK i)]) ++ List.replicate (1 - (lg_sl ([.ref (adK i)])).length) Slot.unset).toArray = ls at hl ⊢
  have hl : lv_has ls 1 [(0, .ref (adK i))] := hl
  refine lv_aload_n hx hb dJ0_length_8abf5_0 rfl (lv_at hl 0 rfl) ?_
  refine vk_getf hx hb (hX.1.1 i hi).2.2.1 hS hown (wd_1964 hE) (fun _ h => h) dJ0_length_8abf5_1 ?_
  refine va_tlen (v := nI (lenS.getD i 0)) hx hb (hX.1.1 i hi).2.2.2 hS rfl dJ0_length_8abf5_4 ?_
  refine lv_aload_n hx hb dJ0_length_8abf5_5 rfl (lv_at hl 0 rfl) ?_
  refine vp_callSi (va_Run.run (va_runV (As := []) (rest := [.int (nI (lenS.getD i 0))]) ⟨hx, hb, hml, hown, noTs⟩ (s_J0_coder l adK adV i hi) ⟨cbE 0 (wd_492 hE) (wd_129 hE) (wd_489 hE) rfl rfl (by decide +kernel) ⟨Nat.le_of_ble_eq_true rfl, Nat.le_of_ble_eq_true rfl⟩, (wd_490 hE), (wd_491 hE)⟩ ⟨PS.blind, vk_recv hX.1 hi hS, ps_pre (av := [.ref (adK i)]) hX hS hE⟩ rfl rfl hl.1 rfl (lv_room (Nat.le_of_ble_eq_true rfl)) dJ0_length_8abf5_6 ⟨Nat.le_of_ble_eq_true rfl, Nat.le_of_ble_eq_true rfl⟩)) (fun r5 hr5 => ?_)
  subst hr5
  refine lv_ishr hx hb dJ0_length_8abf5_9 ?_
  refine lv_topi (fun x6 ex6 => ?_)
  exact W.iret (v := x6) hx hb hr (fun t ht hW => ⟨x6, rfl, by rw [ex6]; exact sc_shr0 (len31 i hi), ht⟩) (fun _ h => absurd h List.not_mem_nil) dJ0_length_8abf5_10

set_option maxHeartbeats 4000000 in
theorem s_J0_isLatin1 (l : Launch) (adK adV : Nat → Nat) (i : Nat) (hi : i < 4) : Met l yJ0_isLatin1_aae02 [.code yJ0_isLatin1_aae02 cJ0_isLatin1_aae02 1 (some .boolean)] ({ frames := 0, cells := 0, slots := 0, locals := 0 }) (PS [.ref (adK i)] adK adV) (vp_Si (fun (r : Int32) => r = 1)) 0 0 (fun _ => False) := by
  refine Met.ofW (cc := cJ0_isLatin1_aae02) (maxL := 1) (ret := (some .boolean)) (by decide) rfl ?_
  intro p e s m args below meth c s₁ B hml hv
  obtain ⟨rfl, hX, hE⟩ := hv
  have hx := B.exec
  have hb := B.bytes
  have hr := B.returns
  have hown : s.vm.findClass RJ0 = some m.cls := findClass_of_methodNamed B.named
  have hS : va_S (fun _ => False) s.heap s.heap [] := va_S.rf
  have hl := lv_entry ([.ref (adK i)]) (n := 1) (Nat.le_of_ble_eq_true rfl)
  rw [lg_entry_eq]
  generalize (lg_sl ([.ref (adK i)]) ++ List.replicate (1 - (lg_sl ([.ref (adK i)])).length) Slot.unset).toArray = ls at hl ⊢
  have hl : lv_has ls 1 [(0, .ref (adK i))] := hl
  refine va_gets hx hb hX.2.1 hS hown (wd_493 hE) (fun _ h => h) dJ0_isLatin1_aae02_0 ?_
  refine lv_if_eq (tgt := 17) hx hb dJ0_isLatin1_aae02_3 (by decide) (fun h => absurd h (by decide)) (fun _ => ?_)
  refine lv_aload_n hx hb dJ0_isLatin1_aae02_6 rfl (lv_at hl 0 rfl) ?_
  refine vk_getf hx hb (hX.1.1 i hi).2.1 hS hown (wd_1965 hE) (fun _ h => h) dJ0_isLatin1_aae02_7 ?_
  refine lv_if_ne (tgt := 17) hx hb dJ0_isLatin1_aae02_10 (by decide) (fun h => absurd rfl h) (fun _ => ?_)
  refine lv_iconst (v := 1) hx hb dJ0_isLatin1_aae02_13 (by decide) ?_
  refine lv_goto (tgt := 18) hx hb dJ0_isLatin1_aae02_14 (by decide) ?_
  exact W.zret (v := 1) hx hb hr rfl (fun t ht hW => ⟨1, rfl, rfl, ht⟩) (fun _ h => absurd h List.not_mem_nil) dJ0_isLatin1_aae02_18

set_option maxHeartbeats 4000000 in
theorem s_J3_checkIndex_n (l : Launch) (adK adV : Nat → Nat) (k n : Nat) (hk : k < n) (hn : n < 2 ^ 31) : Met l yJ3_checkIndex_8e157 [.code yJ3_checkIndex_8e157 cJ3_checkIndex_8e157 3 (some .int)] ({ frames := 0, cells := 0, slots := 0, locals := 0 }) (PS [.int (nI k), .int (nI n), .null] adK adV) (vp_Si (fun (r : Int32) => True)) 0 0 (fun _ => False) := by
  refine Met.ofW (cc := cJ3_checkIndex_8e157) (maxL := 3) (ret := (some .int)) (by decide) rfl ?_
  intro p e s m args below meth c s₁ B hml hv
  obtain ⟨rfl, hX, hE⟩ := hv
  have hx := B.exec
  have hb := B.bytes
  have hr := B.returns
  have hown : s.vm.findClass RJ3 = some m.cls := findClass_of_methodNamed B.named
  have hS : va_S (fun _ => False) s.heap s.heap [] := va_S.rf
  have hl := lv_entry ([.int (nI k), .int (nI n), .null]) (n := 3) (Nat.le_of_ble_eq_true rfl)
  rw [lg_entry_eq]
  generalize (lg_sl ([.int (nI k), .int (nI n), .null]) ++ List.replicate (3 - (lg_sl ([.int (nI k), .int (nI n), .null])).length) Slot.unset).toArray = ls at hl ⊢
  have hl : lv_has ls 3 [(0, .int (nI k)), (1, .int (nI n)), (2, .null)] := hl
  refine lv_iload_n hx hb dJ3_checkIndex_8e157_0 rfl (lv_at hl 0 rfl) ?_
  refine lv_if_lt (tgt := 9) hx hb dJ3_checkIndex_8e157_1 (by decide) (fun h => absurd h (nI_pos (by omega))) (fun _ => ?_)
  refine lv_iload_n hx hb dJ3_checkIndex_8e157_4 rfl (lv_at hl 0 rfl) ?_
  refine lv_iload_n hx hb dJ3_checkIndex_8e157_5 rfl (lv_at hl 1 rfl) ?_
  refine lv_icmp_lt (tgt := 16) hx hb dJ3_checkIndex_8e157_6 (by decide) (fun _ => ?_) (fun h => absurd (nI_lt hk hn) h)
  refine lv_iload_n hx hb dJ3_checkIndex_8e157_16 rfl (lv_at hl 0 rfl) ?_
  exact W.iret (v := nI k) hx hb hr (fun t ht hW => ⟨nI k, rfl, trivial, ht⟩) (fun _ h => absurd h List.not_mem_nil) dJ3_checkIndex_8e157_17

set_option maxHeartbeats 4000000 in
theorem s_J3_checkIndex_q (l : Launch) (adK adV : Nat → Nat) (k n : Nat) (q : Nat) (hk : k < n) (hn : n < 2 ^ 31) : Met l yJ3_checkIndex_8e157 [.code yJ3_checkIndex_8e157 cJ3_checkIndex_8e157 3 (some .int)] ({ frames := 0, cells := 0, slots := 0, locals := 0 }) (PS [.int (nI k), .int (nI n), .ref q] adK adV) (vp_Si (fun (r : Int32) => True)) 0 0 (fun _ => False) := by
  refine Met.ofW (cc := cJ3_checkIndex_8e157) (maxL := 3) (ret := (some .int)) (by decide) rfl ?_
  intro p e s m args below meth c s₁ B hml hv
  obtain ⟨rfl, hX, hE⟩ := hv
  have hx := B.exec
  have hb := B.bytes
  have hr := B.returns
  have hown : s.vm.findClass RJ3 = some m.cls := findClass_of_methodNamed B.named
  have hS : va_S (fun _ => False) s.heap s.heap [] := va_S.rf
  have hl := lv_entry ([.int (nI k), .int (nI n), .ref q]) (n := 3) (Nat.le_of_ble_eq_true rfl)
  rw [lg_entry_eq]
  generalize (lg_sl ([.int (nI k), .int (nI n), .ref q]) ++ List.replicate (3 - (lg_sl ([.int (nI k), .int (nI n), .ref q])).length) Slot.unset).toArray = ls at hl ⊢
  have hl : lv_has ls 3 [(0, .int (nI k)), (1, .int (nI n)), (2, .ref q)] := hl
  refine lv_iload_n hx hb dJ3_checkIndex_8e157_0 rfl (lv_at hl 0 rfl) ?_
  refine lv_if_lt (tgt := 9) hx hb dJ3_checkIndex_8e157_1 (by decide) (fun h => absurd h (nI_pos (by omega))) (fun _ => ?_)
  refine lv_iload_n hx hb dJ3_checkIndex_8e157_4 rfl (lv_at hl 0 rfl) ?_
  refine lv_iload_n hx hb dJ3_checkIndex_8e157_5 rfl (lv_at hl 1 rfl) ?_
  refine lv_icmp_lt (tgt := 16) hx hb dJ3_checkIndex_8e157_6 (by decide) (fun _ => ?_) (fun h => absurd (nI_lt hk hn) h)
  refine lv_iload_n hx hb dJ3_checkIndex_8e157_16 rfl (lv_at hl 0 rfl) ?_
  exact W.iret (v := nI k) hx hb hr (fun t ht hW => ⟨nI k, rfl, trivial, ht⟩) (fun _ h => absurd h List.not_mem_nil) dJ3_checkIndex_8e157_17

set_option maxHeartbeats 4000000 in
theorem s_J0_checkIndex (l : Launch) (adK adV : Nat → Nat) (k n : Nat) (hk : k < n) (hn : n < 2 ^ 31) : Met l yJ0_checkIndex_df160 [.code yJ0_checkIndex_df160 cJ0_checkIndex_df160 2 none] ({ frames := 1, cells := 0, slots := 0, locals := 40 }) (PS [.int (nI k), .int (nI n)] adK adV) (va_Sv (fun _ => True)) 0 0 (fun _ => False) := by
  refine Met.ofW (cc := cJ0_checkIndex_df160) (maxL := 2) (ret := none) (by decide) rfl ?_
  intro p e s m args below meth c s₁ B hml hv
  obtain ⟨rfl, hX, hE⟩ := hv
  have hx := B.exec
  have hb := B.bytes
  have hr := B.returns
  have hown : s.vm.findClass RJ0 = some m.cls := findClass_of_methodNamed B.named
  have hS : va_S (fun _ => False) s.heap s.heap [] := va_S.rf
  have hl := lv_entry ([.int (nI k), .int (nI n)]) (n := 2) (Nat.le_of_ble_eq_true rfl)
  rw [lg_entry_eq]
  generalize (lg_sl ([.int (nI k), .int (nI n)]) ++ List.replicate (2 - (lg_sl ([.int (nI k), .int (nI n)])).length) Slot.unset).toArray = ls at hl ⊢
  have hl : lv_has ls 2 [(0, .int (nI k)), (1, .int (nI n))] := hl
  refine lv_iload_n hx hb dJ0_checkIndex_df160_0 rfl (lv_at hl 0 rfl) ?_
  refine lv_iload_n hx hb dJ0_checkIndex_df160_1 rfl (lv_at hl 1 rfl) ?_
  rcases hX.2.2 with hZ | ⟨q, hZ⟩
  · refine va_gets hx hb hZ hS hown (wd_509 hE) (fun _ h => h) dJ0_checkIndex_df160_2 ?_
    refine vp_callSi (va_Run.run (va_runS (As := [.int (nI k), .int (nI n), .null]) (rest := []) ⟨hx, hb, hml, hown, noTs⟩ (s_J3_checkIndex_n l adK adV k n hk hn) ⟨cbE 3 (wd_513 hE) (wd_131 hE) (wd_511 hE) rfl rfl (by decide +kernel) ⟨Nat.le_of_ble_eq_true rfl, Nat.le_of_ble_eq_true rfl⟩, (wd_512 hE)⟩ ⟨PS.blind, ps_pre (av := [.int (nI k), .int (nI n), .null]) hX hS hE⟩ rfl rfl hl.1 rfl (lv_room (Nat.le_of_ble_eq_true rfl)) dJ0_checkIndex_df160_5 ⟨Nat.le_of_ble_eq_true rfl, Nat.le_of_ble_eq_true rfl⟩)) (fun r5 hr5 => ?_)
    refine lv_pop hx hb dJ0_checkIndex_df160_8 rfl ?_
    exact W.vret hx hb hr (fun t ht hW => ⟨rfl, trivial, ht⟩) (fun _ h => absurd h List.not_mem_nil) dJ0_checkIndex_df160_9
  · refine va_gets hx hb hZ hS hown (wd_509 hE) (fun _ h => h) dJ0_checkIndex_df160_2 ?_
    refine vp_callSi (va_Run.run (va_runS (As := [.int (nI k), .int (nI n), .ref q]) (rest := []) ⟨hx, hb, hml, hown, noTs⟩ (s_J3_checkIndex_q l adK adV k n q hk hn) ⟨cbE 3 (wd_513 hE) (wd_131 hE) (wd_511 hE) rfl rfl (by decide +kernel) ⟨Nat.le_of_ble_eq_true rfl, Nat.le_of_ble_eq_true rfl⟩, (wd_512 hE)⟩ ⟨PS.blind, ps_pre (av := [.int (nI k), .int (nI n), .ref q]) hX hS hE⟩ rfl rfl hl.1 rfl (lv_room (Nat.le_of_ble_eq_true rfl)) dJ0_checkIndex_df160_5 ⟨Nat.le_of_ble_eq_true rfl, Nat.le_of_ble_eq_true rfl⟩)) (fun r5 hr5 => ?_)
    refine lv_pop hx hb dJ0_checkIndex_df160_8 rfl ?_
    exact W.vret hx hb hr (fun t ht hW => ⟨rfl, trivial, ht⟩) (fun _ h => absurd h List.not_mem_nil) dJ0_checkIndex_df160_9

def chS (i k : Nat) : Int32 := (bytS.getD i []).getD k 0 &&& 255

set_option maxHeartbeats 4000000 in
theorem s_J1_charAt (l : Launch) (adK adV : Nat → Nat) (i k : Nat) (hi : i < 4) (hk : k < lenS.getD i 0) : Met l yJ1_charAt_3b067 [.code yJ1_charAt_3b067 cJ1_charAt_3b067 2 (some .char)] ({ frames := 2, cells := 0, slots := 0, locals := 80 }) (PS [.ref (adV i), .int (nI k)] adK adV) (vp_Si (fun (r : Int32) => r = chS i k)) 0 0 (fun _ => False) := by
  refine Met.ofW (cc := cJ1_charAt_3b067) (maxL := 2) (ret := (some .char)) (by decide) rfl ?_
  intro p e s m args below meth c s₁ B hml hv
  obtain ⟨rfl, hX, hE⟩ := hv
  have hx := B.exec
  have hb := B.bytes
  have hr := B.returns
  have hown : s.vm.findClass RJ1 = some m.cls := findClass_of_methodNamed B.named
  have hS : va_S (fun _ => False) s.heap s.heap [] := va_S.rf
  have hl := lv_entry ([.ref (adV i), .int (nI k)]) (n := 2) (Nat.le_of_ble_eq_true rfl)
  rw [lg_entry_eq]
  generalize (lg_sl ([.ref (adV i), .int (nI k)]) ++ List.replicate (2 - (lg_sl ([.ref (adV i), .int (nI k)])).length) Slot.unset).toArray = ls at hl ⊢
  have hl : lv_has ls 2 [(0, .ref (adV i)), (1, .int (nI k))] := hl
  have h31 := len31 i hi
  refine lv_iload_n hx hb dJ1_charAt_3b067_0 rfl (lv_at hl 1 rfl) ?_
  refine lv_aload_n hx hb dJ1_charAt_3b067_1 rfl (lv_at hl 0 rfl) ?_
  refine va_tlen (v := nI (lenS.getD i 0)) hx hb (hX.1.1 i hi).2.2.2 hS rfl dJ1_charAt_3b067_2 ?_
  refine va_csv (va_Run.run (va_runS (As := [.int (nI k), .int (nI (lenS.getD i 0))]) (rest := []) ⟨hx, hb, hml, hown, noTs⟩ (s_J0_checkIndex l adK adV k (lenS.getD i 0) hk h31) ⟨cbE 2 (wd_508 hE) (wd_129 hE) (wd_506 hE) rfl rfl (by decide +kernel) ⟨Nat.le_of_ble_eq_true rfl, Nat.le_of_ble_eq_true rfl⟩, (wd_507 hE)⟩ ⟨PS.blind, ps_pre (av := [.int (nI k), .int (nI (lenS.getD i 0))]) hX hS hE⟩ rfl rfl hl.1 rfl (lv_room (Nat.le_of_ble_eq_true rfl)) dJ1_charAt_3b067_3 ⟨Nat.le_of_ble_eq_true rfl, Nat.le_of_ble_eq_true rfl⟩)) (fun _ => ?_)
  refine lv_aload_n hx hb dJ1_charAt_3b067_6 rfl (lv_at hl 0 rfl) ?_
  refine lv_iload_n hx hb dJ1_charAt_3b067_7 rfl (lv_at hl 1 rfl) ?_
  refine va_tb (v := .int ((bytS.getD i []).getD k 0)) hx hb (hX.1.1 i hi).2.2.2 hS (vp_in_nI hk h31) (by rw [nI_clamp (Nat.lt_trans hk h31)]) dJ1_charAt_3b067_8 ?_
  refine lv_sipush (v := 255) hx hb dJ1_charAt_3b067_9 (by decide) ?_
  refine lv_iand hx hb dJ1_charAt_3b067_12 ?_
  refine lv_i2c (v := chS i k) hx hb dJ1_charAt_3b067_13 (sc_c2 _) ?_
  exact W.zret (v := chS i k) hx hb hr (sc_nar _) (fun t ht hW => ⟨chS i k, rfl, rfl, ht⟩) (fun _ h => absurd h List.not_mem_nil) dJ1_charAt_3b067_14

set_option maxHeartbeats 4000000 in
theorem s_J0_charAt (l : Launch) (adK adV : Nat → Nat) (i k : Nat) (hi : i < 4) (hk : k < lenS.getD i 0) : Met l yJ0_charAt_5068e [.code yJ0_charAt_5068e cJ0_charAt_5068e 2 (some .char)] ({ frames := 3, cells := 0, slots := 0, locals := 120 }) (PS [.ref (adK i), .int (nI k)] adK adV) (vp_Si (fun (r : Int32) => r = chS i k)) 0 0 (fun _ => False) := by
  refine Met.ofW (cc := cJ0_charAt_5068e) (maxL := 2) (ret := (some .char)) (by decide) rfl ?_
  intro p e s m args below meth c s₁ B hml hv
  obtain ⟨rfl, hX, hE⟩ := hv
  have hx := B.exec
  have hb := B.bytes
  have hr := B.returns
  have hown : s.vm.findClass RJ0 = some m.cls := findClass_of_methodNamed B.named
  have hS : va_S (fun _ => False) s.heap s.heap [] := va_S.rf
  have hl := lv_entry ([.ref (adK i), .int (nI k)]) (n := 2) (Nat.le_of_ble_eq_true rfl)
  rw [lg_entry_eq]
  generalize (lg_sl ([.ref (adK i), .int (nI k)]) ++ List.replicate (2 - (lg_sl ([.ref (adK i), .int (nI k)])).length) Slot.unset).toArray = ls at hl ⊢
  have hl : lv_has ls 2 [(0, .ref (adK i)), (1, .int (nI k))] := hl
  refine lv_aload_n hx hb dJ0_charAt_5068e_0 rfl (lv_at hl 0 rfl) ?_
  refine vp_callSi (va_Run.run (va_runV (As := []) (rest := []) ⟨hx, hb, hml, hown, noTs⟩ (s_J0_isLatin1 l adK adV i hi) ⟨cbE 0 (wd_502 hE) (wd_129 hE) (wd_499 hE) rfl rfl (by decide +kernel) ⟨Nat.le_of_ble_eq_true rfl, Nat.le_of_ble_eq_true rfl⟩, (wd_500 hE), (wd_501 hE)⟩ ⟨PS.blind, vk_recv hX.1 hi hS, ps_pre (av := [.ref (adK i)]) hX hS hE⟩ rfl rfl hl.1 rfl (lv_room (Nat.le_of_ble_eq_true rfl)) dJ0_charAt_5068e_1 ⟨Nat.le_of_ble_eq_true rfl, Nat.le_of_ble_eq_true rfl⟩)) (fun r5 hr5 => ?_)
  subst hr5
  refine lv_if_eq (tgt := 16) hx hb dJ0_charAt_5068e_4 (by decide) (fun h => absurd h (by decide)) (fun _ => ?_)
  refine lv_aload_n hx hb dJ0_charAt_5068e_7 rfl (lv_at hl 0 rfl) ?_
  refine vk_getf hx hb (hX.1.1 i hi).2.2.1 hS hown (wd_1964 hE) (fun _ h => h) dJ0_charAt_5068e_8 ?_
  refine lv_iload_n hx hb dJ0_charAt_5068e_11 rfl (lv_at hl 1 rfl) ?_
  refine vp_callSi (va_Run.run (va_runS (As := [.ref (adV i), .int (nI k)]) (rest := []) ⟨hx, hb, hml, hown, noTs⟩ (s_J1_charAt l adK adV i k hi hk) ⟨cbE 2 (wd_505 hE) (wd_130 hE) (wd_503 hE) rfl rfl (by decide +kernel) ⟨Nat.le_of_ble_eq_true rfl, Nat.le_of_ble_eq_true rfl⟩, (wd_504 hE)⟩ ⟨PS.blind, ps_pre (av := [.ref (adV i), .int (nI k)]) hX hS hE⟩ rfl rfl hl.1 rfl (lv_room (Nat.le_of_ble_eq_true rfl)) dJ0_charAt_5068e_12 ⟨Nat.le_of_ble_eq_true rfl, Nat.le_of_ble_eq_true rfl⟩)) (fun r6 hr6 => ?_)
  subst hr6
  exact W.zret (v := chS i k) hx hb hr (sc_nar _) (fun t ht hW => ⟨chS i k, rfl, rfl, ht⟩) (fun _ h => absurd h List.not_mem_nil) dJ0_charAt_5068e_15
def PRX (av : List Value) (sz : Nat) (dC : Nat → ClassId) (dI : Nat → Nat → Nat) (cs : Nat → ClassId) (b : Nat → Nat) (u : RS) (adK adV : Nat → Nat) : Array Value → State → Prop :=
  va_Pc av (fun U => U.heap.size = sz ∧ va_P (dC, dI) vwCl (rW cs b u) U.heap ∧ va_K (dC, dI) vwCl (RTY cs) U ∧ RJ b ∧ EX U ∧ SX adK adV (AR b sz) U U.heap ∧ vk_R "GluedWordsModel" 172 " vertex edge word " (adK 3) U)
theorem PRX.blind {av : List Value} {sz : Nat} {dC : Nat → ClassId} {dI : Nat → Nat → Nat} {cs : Nat → ClassId} {b : Nat → Nat} {u : RS} {adK adV : Nat → Nat} : FrameBlind (PRX av sz dC dI cs b u adK adV) := fun a U g mk q => by
  obtain ⟨q0, q1, qP, qK, qD, qE, qX, qZ⟩ := q
  exact ⟨q0, q1, qP, va_K.moved (u := U) (U := U.calling g mk a) (Vm.Alike.refl U.vm) qK, qD, qE.blind, SX.moved (u := U) (U := U.calling g mk a) (Vm.Alike.refl U.vm) qX, vk_R.same (u := U) (U := U.calling g mk a) rfl qZ⟩
theorem rx_pre {av : List Value} {dC : Nat → ClassId} {dI : Nat → Nat → Nat} {cs : Nat → ClassId} {b : Nat → Nat} {u : RS} {adK adV : Nat → Nat} {s : State} {H : Heap} {locs : List Loc} (hK : va_K (dC, dI) vwCl (RTY cs) s) (hP : va_P (dC, dI) vwCl (rW cs b u) H) (hJ : RJ b) (hE : EX s) (hX : SX adK adV (AR b s.heap.size) s s.heap) (hZ : vk_R "GluedWordsModel" 172 " vertex edge word " (adK 3) s) (hS : va_S (AR b s.heap.size) s.heap H locs) : ∀ U : State, U.heap = H → s.WarmedH U.vm → PRX av H.size dC dI cs b u adK adV av.toArray U := fun U hU hw =>
  ⟨rfl, by rw [hU], by rw [hU]; exact hP, va_K.moved hw.alike hK, hJ, hE.warm hw, by rw [hU]; exact ((hX.kept hS.2.1).narrow (fun q h => h.elim Or.inl (fun h => Or.inr (Nat.le_trans hS.1 h)))).moved hw.alike, hZ.warm hw⟩

set_option maxHeartbeats 4000000 in
set_option maxRecDepth 100000 in
theorem r_X12_key (l : Launch) (dC : Nat → ClassId) (dI : Nat → Nat → Nat) (sz : Nat) (cs : Nat → ClassId) (b : Nat → Nat) (u : RS) (adK adV : Nat → Nat) (tx : Nat → Int32) (hAc16 : rA u 16 = tx) (sz1 : Nat) (hF11 : rF u 11 = nI sz1) (hp0 : TK u sz1) (hp1 : sz1 ≤ 700) : Met l yX12_key [.code yX12_key cX12_key 6 (some .int)] ({ frames := 4, cells := 0, slots := 0, locals := 160 }) (PRX [.ref (b 0)] sz dC dI cs b u adK adV) (vp_Si (fun (r : Int32) => True)) 0 0 (fun _ => False) := by
  refine Met.ofW (cc := cX12_key) (maxL := 6) (ret := (some .int)) (by decide) rfl ?_
  intro p e s m args below meth c s₁ B hml hv
  obtain ⟨rfl, hsz, hP, hK, hJ, hE, hX, hZ⟩ := hv
  have hx := B.exec
  have hb := B.bytes
  have hr := B.returns
  have hown : s.vm.findClass RX12 = some m.cls := findClass_of_methodNamed B.named
  have hlocks := B.notSynchronized
  subst hsz
  have hS : va_S (AR b s.heap.size) s.heap s.heap [] := va_S.rf
  have hl := lv_entry ([.ref (b 0)]) (n := 6) (Nat.le_of_ble_eq_true rfl)
  rw [lg_entry_eq]
  generalize (lg_sl ([.ref (b 0)]) ++ List.replicate (6 - (lg_sl ([.ref (b 0)])).length) Slot.unset).toArray = ls at hl ⊢
  have hl : lv_has ls 6 [(0, .ref (b 0))] := hl
  have htk2 := hp0.2.2.2
  refine lv_aload_n hx hb dX12_key_0 rfl (lv_at hl 0 rfl) ?_
  obtain ⟨y4, hy4⟩ : ∃ z : Int32, rF u 12 = z := ⟨_, rfl⟩
  refine r_get (v := .int y4) hx hb (ly_X12 hE) hown hK hP rfl 12 (by decide) (wd_1393 hE) (fun _ h9 => h9) (congrArg (fun z : Int32 => some (Value.int z)) hy4) dX12_key_1 ?_
  refine lv_iconst (v := 2) hx hb dX12_key_4 (by decide) ?_
  refine lv_icmp_eq (tgt := 10) hx hb dX12_key_5 (by decide) (fun c5 => ?_) (fun c5 => ?_)
  · have c5 := (b_eq (rfl : Int32.toInt y4 = _) (show Int32.toInt 2 = 2 from rfl)).mp c5
    refine lv_iconst (v := 0) hx hb dX12_key_10 (by decide) ?_
    refine lv_istore_n (lv' := [(1, .int 0), (0, .ref (b 0))]) hx hb dX12_key_11 rfl hl (by decide) rfl (fun ls hl => ?_)
    refine lv_iconst (v := 1) hx hb dX12_key_12 (by decide) ?_
    refine lv_istore_n (lv' := [(2, .int 1), (1, .int 0), (0, .ref (b 0))]) hx hb dX12_key_13 rfl hl (by decide) rfl (fun ls hl => ?_)
    refine lv_iload_n hx hb dX12_key_14 rfl (lv_at hl 0 rfl) ?_
    refine va_ldcS hx hb hown hZ dX12_key_15 ?_
    refine vp_callSi (va_Run.run (va_runV (As := []) (rest := [.int 1]) ⟨hx, hb, hml, hown, noTs⟩ (s_J0_length l adK adV 3 (by decide)) ⟨cbE 0 (wd_488 hE) (wd_129 hE) (wd_1527 hE) rfl rfl (by decide +kernel) ⟨Nat.le_of_ble_eq_true rfl, Nat.le_of_ble_eq_true rfl⟩, (wd_486 hE), (wd_487 hE)⟩ ⟨PS.blind, vk_recv hX.1 (by decide) hS, ps_pre (av := [.ref (adK 3)]) hX hS hE⟩ rfl rfl hl.1 rfl (lv_room (Nat.le_of_ble_eq_true rfl)) dX12_key_17 ⟨Nat.le_of_ble_eq_true rfl, Nat.le_of_ble_eq_true rfl⟩)) (fun r6 hr6 => ?_)
    have hr6 : r6 = 18 := hr6
    subst hr6
    refine lv_icmp_ge (tgt := 133) hx hb dX12_key_20 (by decide) (fun c7 => absurd c7 (by decide)) (fun c7 => ?_)
    refine lv_iload_n hx hb dX12_key_23 rfl (lv_at hl 0 rfl) ?_
    refine lv_istore_n (lv' := [(3, .int 1), (2, .int 1), (1, .int 0), (0, .ref (b 0))]) hx hb dX12_key_24 rfl hl (by decide) rfl (fun ls hl => ?_)
    refine va_ldcS hx hb hown hZ dX12_key_25 ?_
    refine lv_iload_n hx hb dX12_key_27 rfl (lv_at hl 0 rfl) ?_
    refine vp_callSi (va_Run.run (va_runV (As := [.int (nI 1)]) (rest := []) ⟨hx, hb, hml, hown, noTs⟩ (s_J0_charAt l adK adV 3 1 (by decide) (by show _ < 18; omega)) ⟨cbE 1 (wd_498 hE) (wd_129 hE) (wd_1528 hE) rfl rfl (by decide +kernel) ⟨Nat.le_of_ble_eq_true rfl, Nat.le_of_ble_eq_true rfl⟩, (wd_496 hE), (wd_497 hE)⟩ ⟨PS.blind, vk_recv hX.1 (by decide) hS, ps_pre (av := [.ref (adK 3), .int (nI 1)]) hX hS hE⟩ rfl rfl hl.1 rfl (lv_room (Nat.le_of_ble_eq_true rfl)) dX12_key_28 ⟨Nat.le_of_ble_eq_true rfl, Nat.le_of_ble_eq_true rfl⟩)) (fun r8 hr8 => ?_)
    have hr8 : r8 = 118 := hr8.trans (by decide)
    subst hr8
    refine lv_bipush (v := 32) hx hb dX12_key_31 (by decide) ?_
    refine lv_icmp_eq (tgt := 42) hx hb dX12_key_33 (by decide) (fun c9 => absurd c9 (by decide)) (fun c9 => ?_)
    refine lv_iinc (v := 2) (lv' := [(3, .int 2), (2, .int 1), (1, .int 0), (0, .ref (b 0))]) hx hb dX12_key_36 hl (k := 0) rfl (by decide) (by decide) rfl (fun ls hl => ?_)
    refine lv_goto (tgt := 25) hx hb dX12_key_39 (by decide) ?_
    refine va_ldcS hx hb hown hZ dX12_key_25 ?_
    refine lv_iload_n hx hb dX12_key_27 rfl (lv_at hl 0 rfl) ?_
    refine vp_callSi (va_Run.run (va_runV (As := [.int (nI 2)]) (rest := []) ⟨hx, hb, hml, hown, noTs⟩ (s_J0_charAt l adK adV 3 2 (by decide) (by show _ < 18; omega)) ⟨cbE 1 (wd_498 hE) (wd_129 hE) (wd_1528 hE) rfl rfl (by decide +kernel) ⟨Nat.le_of_ble_eq_true rfl, Nat.le_of_ble_eq_true rfl⟩, (wd_496 hE), (wd_497 hE)⟩ ⟨PS.blind, vk_recv hX.1 (by decide) hS, ps_pre (av := [.ref (adK 3), .int (nI 2)]) hX hS hE⟩ rfl rfl hl.1 rfl (lv_room (Nat.le_of_ble_eq_true rfl)) dX12_key_28 ⟨Nat.le_of_ble_eq_true rfl, Nat.le_of_ble_eq_true rfl⟩)) (fun r10 hr10 => ?_)
    have hr10 : r10 = 101 := hr10.trans (by decide)
    subst hr10
    refine lv_bipush (v := 32) hx hb dX12_key_31 (by decide) ?_
    refine lv_icmp_eq (tgt := 42) hx hb dX12_key_33 (by decide) (fun c11 => absurd c11 (by decide)) (fun c11 => ?_)
    refine lv_iinc (v := 3) (lv' := [(3, .int 3), (2, .int 1), (1, .int 0), (0, .ref (b 0))]) hx hb dX12_key_36 hl (k := 0) rfl (by decide) (by decide) rfl (fun ls hl => ?_)
    refine lv_goto (tgt := 25) hx hb dX12_key_39 (by decide) ?_
    refine va_ldcS hx hb hown hZ dX12_key_25 ?_
    refine lv_iload_n hx hb dX12_key_27 rfl (lv_at hl 0 rfl) ?_
    refine vp_callSi (va_Run.run (va_runV (As := [.int (nI 3)]) (rest := []) ⟨hx, hb, hml, hown, noTs⟩ (s_J0_charAt l adK adV 3 3 (by decide) (by show _ < 18; omega)) ⟨cbE 1 (wd_498 hE) (wd_129 hE) (wd_1528 hE) rfl rfl (by decide +kernel) ⟨Nat.le_of_ble_eq_true rfl, Nat.le_of_ble_eq_true rfl⟩, (wd_496 hE), (wd_497 hE)⟩ ⟨PS.blind, vk_recv hX.1 (by decide) hS, ps_pre (av := [.ref (adK 3), .int (nI 3)]) hX hS hE⟩ rfl rfl hl.1 rfl (lv_room (Nat.le_of_ble_eq_true rfl)) dX12_key_28 ⟨Nat.le_of_ble_eq_true rfl, Nat.le_of_ble_eq_true rfl⟩)) (fun r12 hr12 => ?_)
    have hr12 : r12 = 114 := hr12.trans (by decide)
    subst hr12
    refine lv_bipush (v := 32) hx hb dX12_key_31 (by decide) ?_
    refine lv_icmp_eq (tgt := 42) hx hb dX12_key_33 (by decide) (fun c13 => absurd c13 (by decide)) (fun c13 => ?_)
    refine lv_iinc (v := 4) (lv' := [(3, .int 4), (2, .int 1), (1, .int 0), (0, .ref (b 0))]) hx hb dX12_key_36 hl (k := 0) rfl (by decide) (by decide) rfl (fun ls hl => ?_)
    refine lv_goto (tgt := 25) hx hb dX12_key_39 (by decide) ?_
    refine va_ldcS hx hb hown hZ dX12_key_25 ?_
    refine lv_iload_n hx hb dX12_key_27 rfl (lv_at hl 0 rfl) ?_
    refine vp_callSi (va_Run.run (va_runV (As := [.int (nI 4)]) (rest := []) ⟨hx, hb, hml, hown, noTs⟩ (s_J0_charAt l adK adV 3 4 (by decide) (by show _ < 18; omega)) ⟨cbE 1 (wd_498 hE) (wd_129 hE) (wd_1528 hE) rfl rfl (by decide +kernel) ⟨Nat.le_of_ble_eq_true rfl, Nat.le_of_ble_eq_true rfl⟩, (wd_496 hE), (wd_497 hE)⟩ ⟨PS.blind, vk_recv hX.1 (by decide) hS, ps_pre (av := [.ref (adK 3), .int (nI 4)]) hX hS hE⟩ rfl rfl hl.1 rfl (lv_room (Nat.le_of_ble_eq_true rfl)) dX12_key_28 ⟨Nat.le_of_ble_eq_true rfl, Nat.le_of_ble_eq_true rfl⟩)) (fun r14 hr14 => ?_)
    have hr14 : r14 = 116 := hr14.trans (by decide)
    subst hr14
    refine lv_bipush (v := 32) hx hb dX12_key_31 (by decide) ?_
    refine lv_icmp_eq (tgt := 42) hx hb dX12_key_33 (by decide) (fun c15 => absurd c15 (by decide)) (fun c15 => ?_)
    refine lv_iinc (v := 5) (lv' := [(3, .int 5), (2, .int 1), (1, .int 0), (0, .ref (b 0))]) hx hb dX12_key_36 hl (k := 0) rfl (by decide) (by decide) rfl (fun ls hl => ?_)
    refine lv_goto (tgt := 25) hx hb dX12_key_39 (by decide) ?_
    refine va_ldcS hx hb hown hZ dX12_key_25 ?_
    refine lv_iload_n hx hb dX12_key_27 rfl (lv_at hl 0 rfl) ?_
    refine vp_callSi (va_Run.run (va_runV (As := [.int (nI 5)]) (rest := []) ⟨hx, hb, hml, hown, noTs⟩ (s_J0_charAt l adK adV 3 5 (by decide) (by show _ < 18; omega)) ⟨cbE 1 (wd_498 hE) (wd_129 hE) (wd_1528 hE) rfl rfl (by decide +kernel) ⟨Nat.le_of_ble_eq_true rfl, Nat.le_of_ble_eq_true rfl⟩, (wd_496 hE), (wd_497 hE)⟩ ⟨PS.blind, vk_recv hX.1 (by decide) hS, ps_pre (av := [.ref (adK 3), .int (nI 5)]) hX hS hE⟩ rfl rfl hl.1 rfl (lv_room (Nat.le_of_ble_eq_true rfl)) dX12_key_28 ⟨Nat.le_of_ble_eq_true rfl, Nat.le_of_ble_eq_true rfl⟩)) (fun r16 hr16 => ?_)
    have hr16 : r16 = 101 := hr16.trans (by decide)
    subst hr16
    refine lv_bipush (v := 32) hx hb dX12_key_31 (by decide) ?_
    refine lv_icmp_eq (tgt := 42) hx hb dX12_key_33 (by decide) (fun c17 => absurd c17 (by decide)) (fun c17 => ?_)
    refine lv_iinc (v := 6) (lv' := [(3, .int 6), (2, .int 1), (1, .int 0), (0, .ref (b 0))]) hx hb dX12_key_36 hl (k := 0) rfl (by decide) (by decide) rfl (fun ls hl => ?_)
    refine lv_goto (tgt := 25) hx hb dX12_key_39 (by decide) ?_
    refine va_ldcS hx hb hown hZ dX12_key_25 ?_
    refine lv_iload_n hx hb dX12_key_27 rfl (lv_at hl 0 rfl) ?_
    refine vp_callSi (va_Run.run (va_runV (As := [.int (nI 6)]) (rest := []) ⟨hx, hb, hml, hown, noTs⟩ (s_J0_charAt l adK adV 3 6 (by decide) (by show _ < 18; omega)) ⟨cbE 1 (wd_498 hE) (wd_129 hE) (wd_1528 hE) rfl rfl (by decide +kernel) ⟨Nat.le_of_ble_eq_true rfl, Nat.le_of_ble_eq_true rfl⟩, (wd_496 hE), (wd_497 hE)⟩ ⟨PS.blind, vk_recv hX.1 (by decide) hS, ps_pre (av := [.ref (adK 3), .int (nI 6)]) hX hS hE⟩ rfl rfl hl.1 rfl (lv_room (Nat.le_of_ble_eq_true rfl)) dX12_key_28 ⟨Nat.le_of_ble_eq_true rfl, Nat.le_of_ble_eq_true rfl⟩)) (fun r18 hr18 => ?_)
    have hr18 : r18 = 120 := hr18.trans (by decide)
    subst hr18
    refine lv_bipush (v := 32) hx hb dX12_key_31 (by decide) ?_
    refine lv_icmp_eq (tgt := 42) hx hb dX12_key_33 (by decide) (fun c19 => absurd c19 (by decide)) (fun c19 => ?_)
    refine lv_iinc (v := 7) (lv' := [(3, .int 7), (2, .int 1), (1, .int 0), (0, .ref (b 0))]) hx hb dX12_key_36 hl (k := 0) rfl (by decide) (by decide) rfl (fun ls hl => ?_)
    refine lv_goto (tgt := 25) hx hb dX12_key_39 (by decide) ?_
    refine va_ldcS hx hb hown hZ dX12_key_25 ?_
    refine lv_iload_n hx hb dX12_key_27 rfl (lv_at hl 0 rfl) ?_
    refine vp_callSi (va_Run.run (va_runV (As := [.int (nI 7)]) (rest := []) ⟨hx, hb, hml, hown, noTs⟩ (s_J0_charAt l adK adV 3 7 (by decide) (by show _ < 18; omega)) ⟨cbE 1 (wd_498 hE) (wd_129 hE) (wd_1528 hE) rfl rfl (by decide +kernel) ⟨Nat.le_of_ble_eq_true rfl, Nat.le_of_ble_eq_true rfl⟩, (wd_496 hE), (wd_497 hE)⟩ ⟨PS.blind, vk_recv hX.1 (by decide) hS, ps_pre (av := [.ref (adK 3), .int (nI 7)]) hX hS hE⟩ rfl rfl hl.1 rfl (lv_room (Nat.le_of_ble_eq_true rfl)) dX12_key_28 ⟨Nat.le_of_ble_eq_true rfl, Nat.le_of_ble_eq_true rfl⟩)) (fun r20 hr20 => ?_)
    have hr20 : r20 = 32 := hr20.trans (by decide)
    subst hr20
    refine lv_bipush (v := 32) hx hb dX12_key_31 (by decide) ?_
    refine lv_icmp_eq (tgt := 42) hx hb dX12_key_33 (by decide) (fun c21 => ?_) (fun c21 => absurd c21 (by decide))
    refine lv_iload_n hx hb dX12_key_42 rfl (lv_at hl 0 rfl) ?_
    refine lv_iload_n hx hb dX12_key_43 rfl (lv_at hl 1 rfl) ?_
    refine lv_isub hx hb dX12_key_44 ?_
    refine W.eq (g2 := F0 m 45 ls [.int 6]) rfl ?_
    refine lv_aload_n hx hb dX12_key_45 rfl (lv_at hl 3 rfl) ?_
    refine r_get (v := .int (nI (fN u 14))) hx hb (ly_X12 hE) hown hK hP rfl 14 (by decide) (wd_1395 hE) (fun _ h9 => h9) (congrArg (fun z : Int32 => some (Value.int z)) hp0.2.1) dX12_key_46 ?_
    refine lv_aload_n hx hb dX12_key_49 rfl (lv_at hl 3 rfl) ?_
    refine r_get (v := .int (nI (fN u 13))) hx hb (ly_X12 hE) hown hK hP rfl 13 (by decide) (wd_1394 hE) (fun _ h9 => h9) (congrArg (fun z : Int32 => some (Value.int z)) hp0.1) dX12_key_50 ?_
    refine lv_isub hx hb dX12_key_53 ?_
    refine W.eq (g2 := F0 m 54 ls [.int (nI ((fN u 14) - (fN u 13))), .int 6]) (congrArg (fun z : Int32 => F0 m 54 ls (.int z :: [.int 6])) (pk_sub (a := fN u 14) (b := fN u 13) (by omega))) ?_
    refine lv_icmp_ne (tgt := 61) hx hb dX12_key_54 (by decide) (fun c22 => ?_) (fun c22 => ?_)
    · have c22 := mt (b_eq (show Int32.toInt 6 = 6 from rfl) (nI_toInt (n := (fN u 14) - (fN u 13)) (by omega))).mpr c22
      refine lv_iconst (v := 0) hx hb dX12_key_61 (by decide) ?_
      refine lv_istore (lv' := [(4, .int 0), (3, .int 7), (2, .int 1), (1, .int 0), (0, .ref (b 0))]) hx hb dX12_key_62 hl (by decide) rfl (fun ls hl => ?_)
      refine lv_iconst (v := 0) hx hb dX12_key_64 (by decide) ?_
      refine lv_istore (lv' := [(5, .int 0), (4, .int 0), (3, .int 7), (2, .int 1), (1, .int 0), (0, .ref (b 0))]) hx hb dX12_key_65 hl (by decide) rfl (fun ls hl => ?_)
      refine r_indP (I := fun n ls => ∃ (i_23 : Nat) (x1_23 : Int32), n = 7 - 1 - i_23 ∧ (i_23 ≤ 7 - 1) ∧ lv_has ls 6 [(0, .ref (b 0)), (1, .int 0), (2, .int 1), (3, .int 7), (4, .int x1_23), (5, .int (nI i_23))]) (fun n ls hI ih23 => ?_) _ _ ⟨0, 0, rfl, (by first | assumption | omega | rfl | (congr 1; omega)), lv_sub hl [5, 4, 3, 2, 1, 0] rfl⟩
      obtain ⟨i_23, x1_23, hmu23, hL23_0, hl⟩ := hI
      subst hmu23
      refine lv_iload hx hb dX12_key_67 (lv_at hl 5 rfl) ?_
      refine lv_iload_n hx hb dX12_key_69 rfl (lv_at hl 3 rfl) ?_
      refine lv_iload_n hx hb dX12_key_70 rfl (lv_at hl 2 rfl) ?_
      refine lv_isub hx hb dX12_key_71 ?_
      refine W.eq (g2 := F0 m 72 ls [.int 6, .int (nI i_23)]) rfl ?_
      refine lv_icmp_ge (tgt := 116) hx hb dX12_key_72 (by decide) (fun c24 => ?_) (fun c24 => ?_)
      · have c24 := (b_le (show Int32.toInt 6 = 6 from rfl) (nI_toInt (n := i_23) (by omega))).mp c24
        refine lv_iload hx hb dX12_key_116 (lv_at hl 4 rfl) ?_
        refine lv_if_eq (tgt := 123) hx hb dX12_key_118 (by decide) (fun c25 => ?_) (fun c25 => ?_)
        · have c25 := (b_eq (rfl : Int32.toInt x1_23 = _) (show Int32.toInt 0 = 0 from rfl)).mp c25
          refine lv_iinc (v := 1) (lv' := [(1, .int 1), (0, .ref (b 0)), (2, .int 1), (3, .int 7), (4, .int x1_23), (5, .int (nI i_23))]) hx hb dX12_key_123 hl (k := 1) rfl (by decide) (by decide) rfl (fun ls hl => ?_)
          refine lv_iload_n hx hb dX12_key_126 rfl (lv_at hl 3 rfl) ?_
          refine lv_iconst (v := 1) hx hb dX12_key_127 (by decide) ?_
          refine lv_iadd hx hb dX12_key_128 ?_
          refine W.eq (g2 := F0 m 129 ls [.int 8]) rfl ?_
          refine lv_istore_n (lv' := [(2, .int 8), (1, .int 1), (0, .ref (b 0)), (3, .int 7), (4, .int x1_23), (5, .int (nI i_23))]) hx hb dX12_key_129 rfl hl (by decide) rfl (fun ls hl => ?_)
          refine lv_goto (tgt := 14) hx hb dX12_key_130 (by decide) ?_
          refine lv_iload_n hx hb dX12_key_14 rfl (lv_at hl 0 rfl) ?_
          refine va_ldcS hx hb hown hZ dX12_key_15 ?_
          refine vp_callSi (va_Run.run (va_runV (As := []) (rest := [.int 8]) ⟨hx, hb, hml, hown, noTs⟩ (s_J0_length l adK adV 3 (by decide)) ⟨cbE 0 (wd_488 hE) (wd_129 hE) (wd_1527 hE) rfl rfl (by decide +kernel) ⟨Nat.le_of_ble_eq_true rfl, Nat.le_of_ble_eq_true rfl⟩, (wd_486 hE), (wd_487 hE)⟩ ⟨PS.blind, vk_recv hX.1 (by decide) hS, ps_pre (av := [.ref (adK 3)]) hX hS hE⟩ rfl rfl hl.1 rfl (lv_room (Nat.le_of_ble_eq_true rfl)) dX12_key_17 ⟨Nat.le_of_ble_eq_true rfl, Nat.le_of_ble_eq_true rfl⟩)) (fun r26 hr26 => ?_)
          have hr26 : r26 = 18 := hr26
          subst hr26
          refine lv_icmp_ge (tgt := 133) hx hb dX12_key_20 (by decide) (fun c27 => absurd c27 (by decide)) (fun c27 => ?_)
          refine lv_iload_n hx hb dX12_key_23 rfl (lv_at hl 0 rfl) ?_
          refine lv_istore_n (lv' := [(3, .int 8), (2, .int 8), (1, .int 1), (0, .ref (b 0)), (4, .int x1_23), (5, .int (nI i_23))]) hx hb dX12_key_24 rfl hl (by decide) rfl (fun ls hl => ?_)
          refine va_ldcS hx hb hown hZ dX12_key_25 ?_
          refine lv_iload_n hx hb dX12_key_27 rfl (lv_at hl 0 rfl) ?_
          refine vp_callSi (va_Run.run (va_runV (As := [.int (nI 8)]) (rest := []) ⟨hx, hb, hml, hown, noTs⟩ (s_J0_charAt l adK adV 3 8 (by decide) (by show _ < 18; omega)) ⟨cbE 1 (wd_498 hE) (wd_129 hE) (wd_1528 hE) rfl rfl (by decide +kernel) ⟨Nat.le_of_ble_eq_true rfl, Nat.le_of_ble_eq_true rfl⟩, (wd_496 hE), (wd_497 hE)⟩ ⟨PS.blind, vk_recv hX.1 (by decide) hS, ps_pre (av := [.ref (adK 3), .int (nI 8)]) hX hS hE⟩ rfl rfl hl.1 rfl (lv_room (Nat.le_of_ble_eq_true rfl)) dX12_key_28 ⟨Nat.le_of_ble_eq_true rfl, Nat.le_of_ble_eq_true rfl⟩)) (fun r28 hr28 => ?_)
          have hr28 : r28 = 101 := hr28.trans (by decide)
          subst hr28
          refine lv_bipush (v := 32) hx hb dX12_key_31 (by decide) ?_
          refine lv_icmp_eq (tgt := 42) hx hb dX12_key_33 (by decide) (fun c29 => absurd c29 (by decide)) (fun c29 => ?_)
          refine lv_iinc (v := 9) (lv' := [(3, .int 9), (2, .int 8), (1, .int 1), (0, .ref (b 0)), (4, .int x1_23), (5, .int (nI i_23))]) hx hb dX12_key_36 hl (k := 0) rfl (by decide) (by decide) rfl (fun ls hl => ?_)
          refine lv_goto (tgt := 25) hx hb dX12_key_39 (by decide) ?_
          refine va_ldcS hx hb hown hZ dX12_key_25 ?_
          refine lv_iload_n hx hb dX12_key_27 rfl (lv_at hl 0 rfl) ?_
          refine vp_callSi (va_Run.run (va_runV (As := [.int (nI 9)]) (rest := []) ⟨hx, hb, hml, hown, noTs⟩ (s_J0_charAt l adK adV 3 9 (by decide) (by show _ < 18; omega)) ⟨cbE 1 (wd_498 hE) (wd_129 hE) (wd_1528 hE) rfl rfl (by decide +kernel) ⟨Nat.le_of_ble_eq_true rfl, Nat.le_of_ble_eq_true rfl⟩, (wd_496 hE), (wd_497 hE)⟩ ⟨PS.blind, vk_recv hX.1 (by decide) hS, ps_pre (av := [.ref (adK 3), .int (nI 9)]) hX hS hE⟩ rfl rfl hl.1 rfl (lv_room (Nat.le_of_ble_eq_true rfl)) dX12_key_28 ⟨Nat.le_of_ble_eq_true rfl, Nat.le_of_ble_eq_true rfl⟩)) (fun r30 hr30 => ?_)
          have hr30 : r30 = 100 := hr30.trans (by decide)
          subst hr30
          refine lv_bipush (v := 32) hx hb dX12_key_31 (by decide) ?_
          refine lv_icmp_eq (tgt := 42) hx hb dX12_key_33 (by decide) (fun c31 => absurd c31 (by decide)) (fun c31 => ?_)
          refine lv_iinc (v := 10) (lv' := [(3, .int 10), (2, .int 8), (1, .int 1), (0, .ref (b 0)), (4, .int x1_23), (5, .int (nI i_23))]) hx hb dX12_key_36 hl (k := 0) rfl (by decide) (by decide) rfl (fun ls hl => ?_)
          refine lv_goto (tgt := 25) hx hb dX12_key_39 (by decide) ?_
          refine va_ldcS hx hb hown hZ dX12_key_25 ?_
          refine lv_iload_n hx hb dX12_key_27 rfl (lv_at hl 0 rfl) ?_
          refine vp_callSi (va_Run.run (va_runV (As := [.int (nI 10)]) (rest := []) ⟨hx, hb, hml, hown, noTs⟩ (s_J0_charAt l adK adV 3 10 (by decide) (by show _ < 18; omega)) ⟨cbE 1 (wd_498 hE) (wd_129 hE) (wd_1528 hE) rfl rfl (by decide +kernel) ⟨Nat.le_of_ble_eq_true rfl, Nat.le_of_ble_eq_true rfl⟩, (wd_496 hE), (wd_497 hE)⟩ ⟨PS.blind, vk_recv hX.1 (by decide) hS, ps_pre (av := [.ref (adK 3), .int (nI 10)]) hX hS hE⟩ rfl rfl hl.1 rfl (lv_room (Nat.le_of_ble_eq_true rfl)) dX12_key_28 ⟨Nat.le_of_ble_eq_true rfl, Nat.le_of_ble_eq_true rfl⟩)) (fun r32 hr32 => ?_)
          have hr32 : r32 = 103 := hr32.trans (by decide)
          subst hr32
          refine lv_bipush (v := 32) hx hb dX12_key_31 (by decide) ?_
          refine lv_icmp_eq (tgt := 42) hx hb dX12_key_33 (by decide) (fun c33 => absurd c33 (by decide)) (fun c33 => ?_)
          refine lv_iinc (v := 11) (lv' := [(3, .int 11), (2, .int 8), (1, .int 1), (0, .ref (b 0)), (4, .int x1_23), (5, .int (nI i_23))]) hx hb dX12_key_36 hl (k := 0) rfl (by decide) (by decide) rfl (fun ls hl => ?_)
          refine lv_goto (tgt := 25) hx hb dX12_key_39 (by decide) ?_
          refine va_ldcS hx hb hown hZ dX12_key_25 ?_
          refine lv_iload_n hx hb dX12_key_27 rfl (lv_at hl 0 rfl) ?_
          refine vp_callSi (va_Run.run (va_runV (As := [.int (nI 11)]) (rest := []) ⟨hx, hb, hml, hown, noTs⟩ (s_J0_charAt l adK adV 3 11 (by decide) (by show _ < 18; omega)) ⟨cbE 1 (wd_498 hE) (wd_129 hE) (wd_1528 hE) rfl rfl (by decide +kernel) ⟨Nat.le_of_ble_eq_true rfl, Nat.le_of_ble_eq_true rfl⟩, (wd_496 hE), (wd_497 hE)⟩ ⟨PS.blind, vk_recv hX.1 (by decide) hS, ps_pre (av := [.ref (adK 3), .int (nI 11)]) hX hS hE⟩ rfl rfl hl.1 rfl (lv_room (Nat.le_of_ble_eq_true rfl)) dX12_key_28 ⟨Nat.le_of_ble_eq_true rfl, Nat.le_of_ble_eq_true rfl⟩)) (fun r34 hr34 => ?_)
          have hr34 : r34 = 101 := hr34.trans (by decide)
          subst hr34
          refine lv_bipush (v := 32) hx hb dX12_key_31 (by decide) ?_
          refine lv_icmp_eq (tgt := 42) hx hb dX12_key_33 (by decide) (fun c35 => absurd c35 (by decide)) (fun c35 => ?_)
          refine lv_iinc (v := 12) (lv' := [(3, .int 12), (2, .int 8), (1, .int 1), (0, .ref (b 0)), (4, .int x1_23), (5, .int (nI i_23))]) hx hb dX12_key_36 hl (k := 0) rfl (by decide) (by decide) rfl (fun ls hl => ?_)
          refine lv_goto (tgt := 25) hx hb dX12_key_39 (by decide) ?_
          refine va_ldcS hx hb hown hZ dX12_key_25 ?_
          refine lv_iload_n hx hb dX12_key_27 rfl (lv_at hl 0 rfl) ?_
          refine vp_callSi (va_Run.run (va_runV (As := [.int (nI 12)]) (rest := []) ⟨hx, hb, hml, hown, noTs⟩ (s_J0_charAt l adK adV 3 12 (by decide) (by show _ < 18; omega)) ⟨cbE 1 (wd_498 hE) (wd_129 hE) (wd_1528 hE) rfl rfl (by decide +kernel) ⟨Nat.le_of_ble_eq_true rfl, Nat.le_of_ble_eq_true rfl⟩, (wd_496 hE), (wd_497 hE)⟩ ⟨PS.blind, vk_recv hX.1 (by decide) hS, ps_pre (av := [.ref (adK 3), .int (nI 12)]) hX hS hE⟩ rfl rfl hl.1 rfl (lv_room (Nat.le_of_ble_eq_true rfl)) dX12_key_28 ⟨Nat.le_of_ble_eq_true rfl, Nat.le_of_ble_eq_true rfl⟩)) (fun r36 hr36 => ?_)
          have hr36 : r36 = 32 := hr36.trans (by decide)
          subst hr36
          refine lv_bipush (v := 32) hx hb dX12_key_31 (by decide) ?_
          refine lv_icmp_eq (tgt := 42) hx hb dX12_key_33 (by decide) (fun c37 => ?_) (fun c37 => absurd c37 (by decide))
          refine lv_iload_n hx hb dX12_key_42 rfl (lv_at hl 0 rfl) ?_
          refine lv_iload_n hx hb dX12_key_43 rfl (lv_at hl 1 rfl) ?_
          refine lv_isub hx hb dX12_key_44 ?_
          refine W.eq (g2 := F0 m 45 ls [.int 4]) rfl ?_
          refine lv_aload_n hx hb dX12_key_45 rfl (lv_at hl 3 rfl) ?_
          refine r_get (v := .int (nI (fN u 14))) hx hb (ly_X12 hE) hown hK hP rfl 14 (by decide) (wd_1395 hE) (fun _ h9 => h9) (congrArg (fun z : Int32 => some (Value.int z)) hp0.2.1) dX12_key_46 ?_
          refine lv_aload_n hx hb dX12_key_49 rfl (lv_at hl 3 rfl) ?_
          refine r_get (v := .int (nI (fN u 13))) hx hb (ly_X12 hE) hown hK hP rfl 13 (by decide) (wd_1394 hE) (fun _ h9 => h9) (congrArg (fun z : Int32 => some (Value.int z)) hp0.1) dX12_key_50 ?_
          refine lv_isub hx hb dX12_key_53 ?_
          refine W.eq (g2 := F0 m 54 ls [.int (nI ((fN u 14) - (fN u 13))), .int 4]) (congrArg (fun z : Int32 => F0 m 54 ls (.int z :: [.int 4])) (pk_sub (a := fN u 14) (b := fN u 13) (by omega))) ?_
          refine lv_icmp_ne (tgt := 61) hx hb dX12_key_54 (by decide) (fun c38 => ?_) (fun c38 => ?_)
          · have c38 := mt (b_eq (show Int32.toInt 4 = 4 from rfl) (nI_toInt (n := (fN u 14) - (fN u 13)) (by omega))).mpr c38
            refine lv_iconst (v := 0) hx hb dX12_key_61 (by decide) ?_
            refine lv_istore (lv' := [(4, .int 0), (3, .int 12), (2, .int 8), (1, .int 1), (0, .ref (b 0)), (5, .int (nI i_23))]) hx hb dX12_key_62 hl (by decide) rfl (fun ls hl => ?_)
            refine lv_iconst (v := 0) hx hb dX12_key_64 (by decide) ?_
            refine lv_istore (lv' := [(5, .int 0), (4, .int 0), (3, .int 12), (2, .int 8), (1, .int 1), (0, .ref (b 0))]) hx hb dX12_key_65 hl (by decide) rfl (fun ls hl => ?_)
            refine r_indP (I := fun n ls => ∃ (i_39 : Nat) (x1_39 : Int32), n = 12 - 8 - i_39 ∧ (i_39 ≤ 12 - 8) ∧ lv_has ls 6 [(0, .ref (b 0)), (1, .int 1), (2, .int 8), (3, .int 12), (4, .int x1_39), (5, .int (nI i_39))]) (fun n ls hI ih39 => ?_) _ _ ⟨0, 0, rfl, (by first | assumption | omega | rfl | (congr 1; omega)), lv_sub hl [5, 4, 3, 2, 1, 0] rfl⟩
            obtain ⟨i_39, x1_39, hmu39, hL39_0, hl⟩ := hI
            subst hmu39
            refine lv_iload hx hb dX12_key_67 (lv_at hl 5 rfl) ?_
            refine lv_iload_n hx hb dX12_key_69 rfl (lv_at hl 3 rfl) ?_
            refine lv_iload_n hx hb dX12_key_70 rfl (lv_at hl 2 rfl) ?_
            refine lv_isub hx hb dX12_key_71 ?_
            refine W.eq (g2 := F0 m 72 ls [.int 4, .int (nI i_39)]) rfl ?_
            refine lv_icmp_ge (tgt := 116) hx hb dX12_key_72 (by decide) (fun c40 => ?_) (fun c40 => ?_)
            · have c40 := (b_le (show Int32.toInt 4 = 4 from rfl) (nI_toInt (n := i_39) (by omega))).mp c40
              refine lv_iload hx hb dX12_key_116 (lv_at hl 4 rfl) ?_
              refine lv_if_eq (tgt := 123) hx hb dX12_key_118 (by decide) (fun c41 => ?_) (fun c41 => ?_)
              · have c41 := (b_eq (rfl : Int32.toInt x1_39 = _) (show Int32.toInt 0 = 0 from rfl)).mp c41
                refine lv_iinc (v := 2) (lv' := [(1, .int 2), (0, .ref (b 0)), (2, .int 8), (3, .int 12), (4, .int x1_39), (5, .int (nI i_39))]) hx hb dX12_key_123 hl (k := 1) rfl (by decide) (by decide) rfl (fun ls hl => ?_)
                refine lv_iload_n hx hb dX12_key_126 rfl (lv_at hl 3 rfl) ?_
                refine lv_iconst (v := 1) hx hb dX12_key_127 (by decide) ?_
                refine lv_iadd hx hb dX12_key_128 ?_
                refine W.eq (g2 := F0 m 129 ls [.int 13]) rfl ?_
                refine lv_istore_n (lv' := [(2, .int 13), (1, .int 2), (0, .ref (b 0)), (3, .int 12), (4, .int x1_39), (5, .int (nI i_39))]) hx hb dX12_key_129 rfl hl (by decide) rfl (fun ls hl => ?_)
                refine lv_goto (tgt := 14) hx hb dX12_key_130 (by decide) ?_
                refine lv_iload_n hx hb dX12_key_14 rfl (lv_at hl 0 rfl) ?_
                refine va_ldcS hx hb hown hZ dX12_key_15 ?_
                refine vp_callSi (va_Run.run (va_runV (As := []) (rest := [.int 13]) ⟨hx, hb, hml, hown, noTs⟩ (s_J0_length l adK adV 3 (by decide)) ⟨cbE 0 (wd_488 hE) (wd_129 hE) (wd_1527 hE) rfl rfl (by decide +kernel) ⟨Nat.le_of_ble_eq_true rfl, Nat.le_of_ble_eq_true rfl⟩, (wd_486 hE), (wd_487 hE)⟩ ⟨PS.blind, vk_recv hX.1 (by decide) hS, ps_pre (av := [.ref (adK 3)]) hX hS hE⟩ rfl rfl hl.1 rfl (lv_room (Nat.le_of_ble_eq_true rfl)) dX12_key_17 ⟨Nat.le_of_ble_eq_true rfl, Nat.le_of_ble_eq_true rfl⟩)) (fun r42 hr42 => ?_)
                have hr42 : r42 = 18 := hr42
                subst hr42
                refine lv_icmp_ge (tgt := 133) hx hb dX12_key_20 (by decide) (fun c43 => absurd c43 (by decide)) (fun c43 => ?_)
                refine lv_iload_n hx hb dX12_key_23 rfl (lv_at hl 0 rfl) ?_
                refine lv_istore_n (lv' := [(3, .int 13), (2, .int 13), (1, .int 2), (0, .ref (b 0)), (4, .int x1_39), (5, .int (nI i_39))]) hx hb dX12_key_24 rfl hl (by decide) rfl (fun ls hl => ?_)
                refine va_ldcS hx hb hown hZ dX12_key_25 ?_
                refine lv_iload_n hx hb dX12_key_27 rfl (lv_at hl 0 rfl) ?_
                refine vp_callSi (va_Run.run (va_runV (As := [.int (nI 13)]) (rest := []) ⟨hx, hb, hml, hown, noTs⟩ (s_J0_charAt l adK adV 3 13 (by decide) (by show _ < 18; omega)) ⟨cbE 1 (wd_498 hE) (wd_129 hE) (wd_1528 hE) rfl rfl (by decide +kernel) ⟨Nat.le_of_ble_eq_true rfl, Nat.le_of_ble_eq_true rfl⟩, (wd_496 hE), (wd_497 hE)⟩ ⟨PS.blind, vk_recv hX.1 (by decide) hS, ps_pre (av := [.ref (adK 3), .int (nI 13)]) hX hS hE⟩ rfl rfl hl.1 rfl (lv_room (Nat.le_of_ble_eq_true rfl)) dX12_key_28 ⟨Nat.le_of_ble_eq_true rfl, Nat.le_of_ble_eq_true rfl⟩)) (fun r44 hr44 => ?_)
                have hr44 : r44 = 119 := hr44.trans (by decide)
                subst hr44
                refine lv_bipush (v := 32) hx hb dX12_key_31 (by decide) ?_
                refine lv_icmp_eq (tgt := 42) hx hb dX12_key_33 (by decide) (fun c45 => absurd c45 (by decide)) (fun c45 => ?_)
                refine lv_iinc (v := 14) (lv' := [(3, .int 14), (2, .int 13), (1, .int 2), (0, .ref (b 0)), (4, .int x1_39), (5, .int (nI i_39))]) hx hb dX12_key_36 hl (k := 0) rfl (by decide) (by decide) rfl (fun ls hl => ?_)
                refine lv_goto (tgt := 25) hx hb dX12_key_39 (by decide) ?_
                refine va_ldcS hx hb hown hZ dX12_key_25 ?_
                refine lv_iload_n hx hb dX12_key_27 rfl (lv_at hl 0 rfl) ?_
                refine vp_callSi (va_Run.run (va_runV (As := [.int (nI 14)]) (rest := []) ⟨hx, hb, hml, hown, noTs⟩ (s_J0_charAt l adK adV 3 14 (by decide) (by show _ < 18; omega)) ⟨cbE 1 (wd_498 hE) (wd_129 hE) (wd_1528 hE) rfl rfl (by decide +kernel) ⟨Nat.le_of_ble_eq_true rfl, Nat.le_of_ble_eq_true rfl⟩, (wd_496 hE), (wd_497 hE)⟩ ⟨PS.blind, vk_recv hX.1 (by decide) hS, ps_pre (av := [.ref (adK 3), .int (nI 14)]) hX hS hE⟩ rfl rfl hl.1 rfl (lv_room (Nat.le_of_ble_eq_true rfl)) dX12_key_28 ⟨Nat.le_of_ble_eq_true rfl, Nat.le_of_ble_eq_true rfl⟩)) (fun r46 hr46 => ?_)
                have hr46 : r46 = 111 := hr46.trans (by decide)
                subst hr46
                refine lv_bipush (v := 32) hx hb dX12_key_31 (by decide) ?_
                refine lv_icmp_eq (tgt := 42) hx hb dX12_key_33 (by decide) (fun c47 => absurd c47 (by decide)) (fun c47 => ?_)
                refine lv_iinc (v := 15) (lv' := [(3, .int 15), (2, .int 13), (1, .int 2), (0, .ref (b 0)), (4, .int x1_39), (5, .int (nI i_39))]) hx hb dX12_key_36 hl (k := 0) rfl (by decide) (by decide) rfl (fun ls hl => ?_)
                refine lv_goto (tgt := 25) hx hb dX12_key_39 (by decide) ?_
                refine va_ldcS hx hb hown hZ dX12_key_25 ?_
                refine lv_iload_n hx hb dX12_key_27 rfl (lv_at hl 0 rfl) ?_
                refine vp_callSi (va_Run.run (va_runV (As := [.int (nI 15)]) (rest := []) ⟨hx, hb, hml, hown, noTs⟩ (s_J0_charAt l adK adV 3 15 (by decide) (by show _ < 18; omega)) ⟨cbE 1 (wd_498 hE) (wd_129 hE) (wd_1528 hE) rfl rfl (by decide +kernel) ⟨Nat.le_of_ble_eq_true rfl, Nat.le_of_ble_eq_true rfl⟩, (wd_496 hE), (wd_497 hE)⟩ ⟨PS.blind, vk_recv hX.1 (by decide) hS, ps_pre (av := [.ref (adK 3), .int (nI 15)]) hX hS hE⟩ rfl rfl hl.1 rfl (lv_room (Nat.le_of_ble_eq_true rfl)) dX12_key_28 ⟨Nat.le_of_ble_eq_true rfl, Nat.le_of_ble_eq_true rfl⟩)) (fun r48 hr48 => ?_)
                have hr48 : r48 = 114 := hr48.trans (by decide)
                subst hr48
                refine lv_bipush (v := 32) hx hb dX12_key_31 (by decide) ?_
                refine lv_icmp_eq (tgt := 42) hx hb dX12_key_33 (by decide) (fun c49 => absurd c49 (by decide)) (fun c49 => ?_)
                refine lv_iinc (v := 16) (lv' := [(3, .int 16), (2, .int 13), (1, .int 2), (0, .ref (b 0)), (4, .int x1_39), (5, .int (nI i_39))]) hx hb dX12_key_36 hl (k := 0) rfl (by decide) (by decide) rfl (fun ls hl => ?_)
                refine lv_goto (tgt := 25) hx hb dX12_key_39 (by decide) ?_
                refine va_ldcS hx hb hown hZ dX12_key_25 ?_
                refine lv_iload_n hx hb dX12_key_27 rfl (lv_at hl 0 rfl) ?_
                refine vp_callSi (va_Run.run (va_runV (As := [.int (nI 16)]) (rest := []) ⟨hx, hb, hml, hown, noTs⟩ (s_J0_charAt l adK adV 3 16 (by decide) (by show _ < 18; omega)) ⟨cbE 1 (wd_498 hE) (wd_129 hE) (wd_1528 hE) rfl rfl (by decide +kernel) ⟨Nat.le_of_ble_eq_true rfl, Nat.le_of_ble_eq_true rfl⟩, (wd_496 hE), (wd_497 hE)⟩ ⟨PS.blind, vk_recv hX.1 (by decide) hS, ps_pre (av := [.ref (adK 3), .int (nI 16)]) hX hS hE⟩ rfl rfl hl.1 rfl (lv_room (Nat.le_of_ble_eq_true rfl)) dX12_key_28 ⟨Nat.le_of_ble_eq_true rfl, Nat.le_of_ble_eq_true rfl⟩)) (fun r50 hr50 => ?_)
                have hr50 : r50 = 100 := hr50.trans (by decide)
                subst hr50
                refine lv_bipush (v := 32) hx hb dX12_key_31 (by decide) ?_
                refine lv_icmp_eq (tgt := 42) hx hb dX12_key_33 (by decide) (fun c51 => absurd c51 (by decide)) (fun c51 => ?_)
                refine lv_iinc (v := 17) (lv' := [(3, .int 17), (2, .int 13), (1, .int 2), (0, .ref (b 0)), (4, .int x1_39), (5, .int (nI i_39))]) hx hb dX12_key_36 hl (k := 0) rfl (by decide) (by decide) rfl (fun ls hl => ?_)
                refine lv_goto (tgt := 25) hx hb dX12_key_39 (by decide) ?_
                refine va_ldcS hx hb hown hZ dX12_key_25 ?_
                refine lv_iload_n hx hb dX12_key_27 rfl (lv_at hl 0 rfl) ?_
                refine vp_callSi (va_Run.run (va_runV (As := [.int (nI 17)]) (rest := []) ⟨hx, hb, hml, hown, noTs⟩ (s_J0_charAt l adK adV 3 17 (by decide) (by show _ < 18; omega)) ⟨cbE 1 (wd_498 hE) (wd_129 hE) (wd_1528 hE) rfl rfl (by decide +kernel) ⟨Nat.le_of_ble_eq_true rfl, Nat.le_of_ble_eq_true rfl⟩, (wd_496 hE), (wd_497 hE)⟩ ⟨PS.blind, vk_recv hX.1 (by decide) hS, ps_pre (av := [.ref (adK 3), .int (nI 17)]) hX hS hE⟩ rfl rfl hl.1 rfl (lv_room (Nat.le_of_ble_eq_true rfl)) dX12_key_28 ⟨Nat.le_of_ble_eq_true rfl, Nat.le_of_ble_eq_true rfl⟩)) (fun r52 hr52 => ?_)
                have hr52 : r52 = 32 := hr52.trans (by decide)
                subst hr52
                refine lv_bipush (v := 32) hx hb dX12_key_31 (by decide) ?_
                refine lv_icmp_eq (tgt := 42) hx hb dX12_key_33 (by decide) (fun c53 => ?_) (fun c53 => absurd c53 (by decide))
                refine lv_iload_n hx hb dX12_key_42 rfl (lv_at hl 0 rfl) ?_
                refine lv_iload_n hx hb dX12_key_43 rfl (lv_at hl 1 rfl) ?_
                refine lv_isub hx hb dX12_key_44 ?_
                refine W.eq (g2 := F0 m 45 ls [.int 4]) rfl ?_
                refine lv_aload_n hx hb dX12_key_45 rfl (lv_at hl 3 rfl) ?_
                refine r_get (v := .int (nI (fN u 14))) hx hb (ly_X12 hE) hown hK hP rfl 14 (by decide) (wd_1395 hE) (fun _ h9 => h9) (congrArg (fun z : Int32 => some (Value.int z)) hp0.2.1) dX12_key_46 ?_
                refine lv_aload_n hx hb dX12_key_49 rfl (lv_at hl 3 rfl) ?_
                refine r_get (v := .int (nI (fN u 13))) hx hb (ly_X12 hE) hown hK hP rfl 13 (by decide) (wd_1394 hE) (fun _ h9 => h9) (congrArg (fun z : Int32 => some (Value.int z)) hp0.1) dX12_key_50 ?_
                refine lv_isub hx hb dX12_key_53 ?_
                refine W.eq (g2 := F0 m 54 ls [.int (nI ((fN u 14) - (fN u 13))), .int 4]) (congrArg (fun z : Int32 => F0 m 54 ls (.int z :: [.int 4])) (pk_sub (a := fN u 14) (b := fN u 13) (by omega))) ?_
                refine lv_icmp_ne (tgt := 61) hx hb dX12_key_54 (by decide) (fun c54 => ?_) (fun c54 => ?_)
                · have c54 := mt (b_eq (show Int32.toInt 4 = 4 from rfl) (nI_toInt (n := (fN u 14) - (fN u 13)) (by omega))).mpr c54
                  refine lv_iconst (v := 0) hx hb dX12_key_61 (by decide) ?_
                  refine lv_istore (lv' := [(4, .int 0), (3, .int 17), (2, .int 13), (1, .int 2), (0, .ref (b 0)), (5, .int (nI i_39))]) hx hb dX12_key_62 hl (by decide) rfl (fun ls hl => ?_)
                  refine lv_iconst (v := 0) hx hb dX12_key_64 (by decide) ?_
                  refine lv_istore (lv' := [(5, .int 0), (4, .int 0), (3, .int 17), (2, .int 13), (1, .int 2), (0, .ref (b 0))]) hx hb dX12_key_65 hl (by decide) rfl (fun ls hl => ?_)
                  refine r_indP (I := fun n ls => ∃ (i_55 : Nat) (x1_55 : Int32), n = 17 - 13 - i_55 ∧ (i_55 ≤ 17 - 13) ∧ lv_has ls 6 [(0, .ref (b 0)), (1, .int 2), (2, .int 13), (3, .int 17), (4, .int x1_55), (5, .int (nI i_55))]) (fun n ls hI ih55 => ?_) _ _ ⟨0, 0, rfl, (by first | assumption | omega | rfl | (congr 1; omega)), lv_sub hl [5, 4, 3, 2, 1, 0] rfl⟩
                  obtain ⟨i_55, x1_55, hmu55, hL55_0, hl⟩ := hI
                  subst hmu55
                  refine lv_iload hx hb dX12_key_67 (lv_at hl 5 rfl) ?_
                  refine lv_iload_n hx hb dX12_key_69 rfl (lv_at hl 3 rfl) ?_
                  refine lv_iload_n hx hb dX12_key_70 rfl (lv_at hl 2 rfl) ?_
                  refine lv_isub hx hb dX12_key_71 ?_
                  refine W.eq (g2 := F0 m 72 ls [.int 4, .int (nI i_55)]) rfl ?_
                  refine lv_icmp_ge (tgt := 116) hx hb dX12_key_72 (by decide) (fun c56 => ?_) (fun c56 => ?_)
                  · have c56 := (b_le (show Int32.toInt 4 = 4 from rfl) (nI_toInt (n := i_55) (by omega))).mp c56
                    refine lv_iload hx hb dX12_key_116 (lv_at hl 4 rfl) ?_
                    refine lv_if_eq (tgt := 123) hx hb dX12_key_118 (by decide) (fun c57 => ?_) (fun c57 => ?_)
                    · have c57 := (b_eq (rfl : Int32.toInt x1_55 = _) (show Int32.toInt 0 = 0 from rfl)).mp c57
                      refine lv_iinc (v := 3) (lv' := [(1, .int 3), (0, .ref (b 0)), (2, .int 13), (3, .int 17), (4, .int x1_55), (5, .int (nI i_55))]) hx hb dX12_key_123 hl (k := 1) rfl (by decide) (by decide) rfl (fun ls hl => ?_)
                      refine lv_iload_n hx hb dX12_key_126 rfl (lv_at hl 3 rfl) ?_
                      refine lv_iconst (v := 1) hx hb dX12_key_127 (by decide) ?_
                      refine lv_iadd hx hb dX12_key_128 ?_
                      refine W.eq (g2 := F0 m 129 ls [.int 18]) rfl ?_
                      refine lv_istore_n (lv' := [(2, .int 18), (1, .int 3), (0, .ref (b 0)), (3, .int 17), (4, .int x1_55), (5, .int (nI i_55))]) hx hb dX12_key_129 rfl hl (by decide) rfl (fun ls hl => ?_)
                      refine lv_goto (tgt := 14) hx hb dX12_key_130 (by decide) ?_
                      refine lv_iload_n hx hb dX12_key_14 rfl (lv_at hl 0 rfl) ?_
                      refine va_ldcS hx hb hown hZ dX12_key_15 ?_
                      refine vp_callSi (va_Run.run (va_runV (As := []) (rest := [.int 18]) ⟨hx, hb, hml, hown, noTs⟩ (s_J0_length l adK adV 3 (by decide)) ⟨cbE 0 (wd_488 hE) (wd_129 hE) (wd_1527 hE) rfl rfl (by decide +kernel) ⟨Nat.le_of_ble_eq_true rfl, Nat.le_of_ble_eq_true rfl⟩, (wd_486 hE), (wd_487 hE)⟩ ⟨PS.blind, vk_recv hX.1 (by decide) hS, ps_pre (av := [.ref (adK 3)]) hX hS hE⟩ rfl rfl hl.1 rfl (lv_room (Nat.le_of_ble_eq_true rfl)) dX12_key_17 ⟨Nat.le_of_ble_eq_true rfl, Nat.le_of_ble_eq_true rfl⟩)) (fun r58 hr58 => ?_)
                      have hr58 : r58 = 18 := hr58
                      subst hr58
                      refine lv_icmp_ge (tgt := 133) hx hb dX12_key_20 (by decide) (fun c59 => ?_) (fun c59 => absurd c59 (by decide))
                      refine lv_iconst (v := -1) hx hb dX12_key_133 (by decide) ?_
                      exact W.iret (v := -1) hx hb hr (fun t ht hW => ⟨-1, rfl, trivial, ht⟩) (fun _ h => absurd h List.not_mem_nil) dX12_key_134
                    · have c57 := mt (b_eq (rfl : Int32.toInt x1_55 = _) (show Int32.toInt 0 = 0 from rfl)).mpr c57
                      refine lv_iload_n hx hb dX12_key_121 rfl (lv_at hl 1 rfl) ?_
                      exact W.iret (v := 2) hx hb hr (fun t ht hW => ⟨2, rfl, trivial, ht⟩) (fun _ h => absurd h List.not_mem_nil) dX12_key_122
                  · have c56 := mt (b_le (show Int32.toInt 4 = 4 from rfl) (nI_toInt (n := i_55) (by omega))).mpr c56
                    refine lv_iload hx hb dX12_key_75 (lv_at hl 4 rfl) ?_
                    refine lv_if_eq (tgt := 116) hx hb dX12_key_77 (by decide) (fun c60 => ?_) (fun c60 => ?_)
                    · have c60 := (b_eq (rfl : Int32.toInt x1_55 = _) (show Int32.toInt 0 = 0 from rfl)).mp c60
                      refine lv_iload hx hb dX12_key_116 (lv_at hl 4 rfl) ?_
                      refine lv_if_eq (tgt := 123) hx hb dX12_key_118 (by decide) (fun c61 => ?_) (fun c61 => ?_)
                      · have c61 := (b_eq (rfl : Int32.toInt x1_55 = _) (show Int32.toInt 0 = 0 from rfl)).mp c61
                        refine lv_iinc (v := 3) (lv' := [(1, .int 3), (0, .ref (b 0)), (2, .int 13), (3, .int 17), (4, .int x1_55), (5, .int (nI i_55))]) hx hb dX12_key_123 hl (k := 1) rfl (by decide) (by decide) rfl (fun ls hl => ?_)
                        refine lv_iload_n hx hb dX12_key_126 rfl (lv_at hl 3 rfl) ?_
                        refine lv_iconst (v := 1) hx hb dX12_key_127 (by decide) ?_
                        refine lv_iadd hx hb dX12_key_128 ?_
                        refine W.eq (g2 := F0 m 129 ls [.int 18]) rfl ?_
                        refine lv_istore_n (lv' := [(2, .int 18), (1, .int 3), (0, .ref (b 0)), (3, .int 17), (4, .int x1_55), (5, .int (nI i_55))]) hx hb dX12_key_129 rfl hl (by decide) rfl (fun ls hl => ?_)
                        refine lv_goto (tgt := 14) hx hb dX12_key_130 (by decide) ?_
                        refine lv_iload_n hx hb dX12_key_14 rfl (lv_at hl 0 rfl) ?_
                        refine va_ldcS hx hb hown hZ dX12_key_15 ?_
                        refine vp_callSi (va_Run.run (va_runV (As := []) (rest := [.int 18]) ⟨hx, hb, hml, hown, noTs⟩ (s_J0_length l adK adV 3 (by decide)) ⟨cbE 0 (wd_488 hE) (wd_129 hE) (wd_1527 hE) rfl rfl (by decide +kernel) ⟨Nat.le_of_ble_eq_true rfl, Nat.le_of_ble_eq_true rfl⟩, (wd_486 hE), (wd_487 hE)⟩ ⟨PS.blind, vk_recv hX.1 (by decide) hS, ps_pre (av := [.ref (adK 3)]) hX hS hE⟩ rfl rfl hl.1 rfl (lv_room (Nat.le_of_ble_eq_true rfl)) dX12_key_17 ⟨Nat.le_of_ble_eq_true rfl, Nat.le_of_ble_eq_true rfl⟩)) (fun r62 hr62 => ?_)
                        have hr62 : r62 = 18 := hr62
                        subst hr62
                        refine lv_icmp_ge (tgt := 133) hx hb dX12_key_20 (by decide) (fun c63 => ?_) (fun c63 => absurd c63 (by decide))
                        refine lv_iconst (v := -1) hx hb dX12_key_133 (by decide) ?_
                        exact W.iret (v := -1) hx hb hr (fun t ht hW => ⟨-1, rfl, trivial, ht⟩) (fun _ h => absurd h List.not_mem_nil) dX12_key_134
                      · have c61 := mt (b_eq (rfl : Int32.toInt x1_55 = _) (show Int32.toInt 0 = 0 from rfl)).mpr c61
                        refine lv_iload_n hx hb dX12_key_121 rfl (lv_at hl 1 rfl) ?_
                        exact W.iret (v := 2) hx hb hr (fun t ht hW => ⟨2, rfl, trivial, ht⟩) (fun _ h => absurd h List.not_mem_nil) dX12_key_122
                    · have c60 := mt (b_eq (rfl : Int32.toInt x1_55 = _) (show Int32.toInt 0 = 0 from rfl)).mpr c60
                      refine va_ldcS hx hb hown hZ dX12_key_80 ?_
                      refine lv_iload_n hx hb dX12_key_82 rfl (lv_at hl 2 rfl) ?_
                      refine lv_iload hx hb dX12_key_83 (lv_at hl 5 rfl) ?_
                      refine lv_iadd hx hb dX12_key_85 ?_
                      refine W.eq (g2 := F0 m 86 ls [.int (nI (13 + i_55)), .ref (adK 3)]) (congrArg (fun z : Int32 => F0 m 86 ls (.int z :: [.ref (adK 3)])) (nI_add 13 i_55)) ?_
                      refine vp_callSi (va_Run.run (va_runV (As := [.int (nI (13 + i_55))]) (rest := []) ⟨hx, hb, hml, hown, noTs⟩ (s_J0_charAt l adK adV 3 (13 + i_55) (by decide) (by show _ < 18; omega)) ⟨cbE 1 (wd_498 hE) (wd_129 hE) (wd_1528 hE) rfl rfl (by decide +kernel) ⟨Nat.le_of_ble_eq_true rfl, Nat.le_of_ble_eq_true rfl⟩, (wd_496 hE), (wd_497 hE)⟩ ⟨PS.blind, vk_recv hX.1 (by decide) hS, ps_pre (av := [.ref (adK 3), .int (nI (13 + i_55))]) hX hS hE⟩ rfl rfl hl.1 rfl (lv_room (Nat.le_of_ble_eq_true rfl)) dX12_key_86 ⟨Nat.le_of_ble_eq_true rfl, Nat.le_of_ble_eq_true rfl⟩)) (fun r64 hr64 => ?_)
                      refine lv_aload_n hx hb dX12_key_89 rfl (lv_at hl 0 rfl) ?_
                      refine lv_aload_n hx hb dX12_key_90 rfl (lv_at hl 0 rfl) ?_
                      refine r_get (v := .int (nI (fN u 13))) hx hb (ly_X12 hE) hown hK hP rfl 13 (by decide) (wd_1394 hE) (fun _ h9 => h9) (congrArg (fun z : Int32 => some (Value.int z)) hp0.1) dX12_key_91 ?_
                      refine lv_iload hx hb dX12_key_94 (lv_at hl 5 rfl) ?_
                      refine lv_iadd hx hb dX12_key_96 ?_
                      refine W.eq (g2 := F0 m 97 ls [.int (nI ((fN u 13) + i_55)), .ref (b 0), .int r64]) (congrArg (fun z : Int32 => F0 m 97 ls (.int z :: [.ref (b 0), .int r64])) (nI_add (fN u 13) i_55)) ?_
                      refine vp_callSi (va_Run.run (va_runV (As := [.int (nI ((fN u 13) + i_55))]) (rest := [.int r64]) ⟨hx, hb, hml, hown, noTs⟩ (r_X12_byteAt l dC dI s.heap.size cs b u tx hAc16 ((fN u 13) + i_55) sz1 hF11 (by first | assumption | omega | rfl | (congr 1; omega)) (by first | assumption | omega | rfl | (congr 1; omega))) ⟨cbE 1 (wd_1510 hE) (wd_126 hE) (wd_1507 hE) rfl rfl (by decide +kernel) ⟨Nat.le_of_ble_eq_true rfl, Nat.le_of_ble_eq_true rfl⟩, (wd_1509 hE), (wd_57 hE)⟩ ⟨PR.blind, r_recv hK hP rfl, (r_pre (av := [.ref (b 0), .int (nI ((fN u 13) + i_55))]) hK hP hJ hE)⟩ rfl rfl hl.1 rfl (lv_room (Nat.le_of_ble_eq_true rfl)) dX12_key_97 ⟨Nat.le_of_ble_eq_true rfl, Nat.le_of_ble_eq_true rfl⟩)) (fun r65 hr65 => ?_)
                      subst hr65
                      have htf65 := bA_f tx sz1 ((fN u 13) + i_55)
                      refine lv_icmp_ne (tgt := 107) hx hb dX12_key_100 (by decide) (fun c66 => ?_) (fun c66 => ?_)
                      · have c66 := mt (b_eq (rfl : Int32.toInt r64 = _) (rfl : Int32.toInt (bA tx sz1 ((fN u 13) + i_55)) = _)).mpr c66
                        refine lv_iconst (v := 0) hx hb dX12_key_107 (by decide) ?_
                        refine lv_istore (lv' := [(4, .int 0), (0, .ref (b 0)), (1, .int 2), (2, .int 13), (3, .int 17), (5, .int (nI i_55))]) hx hb dX12_key_108 hl (by decide) rfl (fun ls hl => ?_)
                        refine lv_iinc (v := nI (i_55 + 1)) (lv' := [(5, .int (nI (i_55 + 1))), (4, .int 0), (0, .ref (b 0)), (1, .int 2), (2, .int 13), (3, .int 17)]) hx hb dX12_key_110 hl (k := 5) rfl (nI_1 i_55) (by decide) rfl (fun ls hl => ?_)
                        refine lv_goto (tgt := 67) hx hb dX12_key_113 (by decide) ?_
                        exact ih55 _ _ (by omega) ⟨(i_55 + 1), 0, rfl, (by first | assumption | omega | rfl | (congr 1; omega)), lv_sub hl [2, 3, 4, 5, 1, 0] rfl⟩
                      · have c66 := (b_eq (rfl : Int32.toInt r64 = _) (rfl : Int32.toInt (bA tx sz1 ((fN u 13) + i_55)) = _)).mp c66
                        refine lv_iconst (v := 1) hx hb dX12_key_103 (by decide) ?_
                        refine lv_goto (tgt := 108) hx hb dX12_key_104 (by decide) ?_
                        refine lv_istore (lv' := [(4, .int 1), (0, .ref (b 0)), (1, .int 2), (2, .int 13), (3, .int 17), (5, .int (nI i_55))]) hx hb dX12_key_108 hl (by decide) rfl (fun ls hl => ?_)
                        refine lv_iinc (v := nI (i_55 + 1)) (lv' := [(5, .int (nI (i_55 + 1))), (4, .int 1), (0, .ref (b 0)), (1, .int 2), (2, .int 13), (3, .int 17)]) hx hb dX12_key_110 hl (k := 5) rfl (nI_1 i_55) (by decide) rfl (fun ls hl => ?_)
                        refine lv_goto (tgt := 67) hx hb dX12_key_113 (by decide) ?_
                        exact ih55 _ _ (by omega) ⟨(i_55 + 1), 1, rfl, (by first | assumption | omega | rfl | (congr 1; omega)), lv_sub hl [2, 3, 4, 5, 1, 0] rfl⟩
                · have c54 := (b_eq (show Int32.toInt 4 = 4 from rfl) (nI_toInt (n := (fN u 14) - (fN u 13)) (by omega))).mp c54
                  refine lv_iconst (v := 1) hx hb dX12_key_57 (by decide) ?_
                  refine lv_goto (tgt := 62) hx hb dX12_key_58 (by decide) ?_
                  refine lv_istore (lv' := [(4, .int 1), (3, .int 17), (2, .int 13), (1, .int 2), (0, .ref (b 0)), (5, .int (nI i_39))]) hx hb dX12_key_62 hl (by decide) rfl (fun ls hl => ?_)
                  refine lv_iconst (v := 0) hx hb dX12_key_64 (by decide) ?_
                  refine lv_istore (lv' := [(5, .int 0), (4, .int 1), (3, .int 17), (2, .int 13), (1, .int 2), (0, .ref (b 0))]) hx hb dX12_key_65 hl (by decide) rfl (fun ls hl => ?_)
                  refine r_indP (I := fun n ls => ∃ (i_67 : Nat) (x1_67 : Int32), n = 17 - 13 - i_67 ∧ (i_67 ≤ 17 - 13) ∧ lv_has ls 6 [(0, .ref (b 0)), (1, .int 2), (2, .int 13), (3, .int 17), (4, .int x1_67), (5, .int (nI i_67))]) (fun n ls hI ih67 => ?_) _ _ ⟨0, 1, rfl, (by first | assumption | omega | rfl | (congr 1; omega)), lv_sub hl [5, 4, 3, 2, 1, 0] rfl⟩
                  obtain ⟨i_67, x1_67, hmu67, hL67_0, hl⟩ := hI
                  subst hmu67
                  refine lv_iload hx hb dX12_key_67 (lv_at hl 5 rfl) ?_
                  refine lv_iload_n hx hb dX12_key_69 rfl (lv_at hl 3 rfl) ?_
                  refine lv_iload_n hx hb dX12_key_70 rfl (lv_at hl 2 rfl) ?_
                  refine lv_isub hx hb dX12_key_71 ?_
                  refine W.eq (g2 := F0 m 72 ls [.int 4, .int (nI i_67)]) rfl ?_
                  refine lv_icmp_ge (tgt := 116) hx hb dX12_key_72 (by decide) (fun c68 => ?_) (fun c68 => ?_)
                  · have c68 := (b_le (show Int32.toInt 4 = 4 from rfl) (nI_toInt (n := i_67) (by omega))).mp c68
                    refine lv_iload hx hb dX12_key_116 (lv_at hl 4 rfl) ?_
                    refine lv_if_eq (tgt := 123) hx hb dX12_key_118 (by decide) (fun c69 => ?_) (fun c69 => ?_)
                    · have c69 := (b_eq (rfl : Int32.toInt x1_67 = _) (show Int32.toInt 0 = 0 from rfl)).mp c69
                      refine lv_iinc (v := 3) (lv' := [(1, .int 3), (0, .ref (b 0)), (2, .int 13), (3, .int 17), (4, .int x1_67), (5, .int (nI i_67))]) hx hb dX12_key_123 hl (k := 1) rfl (by decide) (by decide) rfl (fun ls hl => ?_)
                      refine lv_iload_n hx hb dX12_key_126 rfl (lv_at hl 3 rfl) ?_
                      refine lv_iconst (v := 1) hx hb dX12_key_127 (by decide) ?_
                      refine lv_iadd hx hb dX12_key_128 ?_
                      refine W.eq (g2 := F0 m 129 ls [.int 18]) rfl ?_
                      refine lv_istore_n (lv' := [(2, .int 18), (1, .int 3), (0, .ref (b 0)), (3, .int 17), (4, .int x1_67), (5, .int (nI i_67))]) hx hb dX12_key_129 rfl hl (by decide) rfl (fun ls hl => ?_)
                      refine lv_goto (tgt := 14) hx hb dX12_key_130 (by decide) ?_
                      refine lv_iload_n hx hb dX12_key_14 rfl (lv_at hl 0 rfl) ?_
                      refine va_ldcS hx hb hown hZ dX12_key_15 ?_
                      refine vp_callSi (va_Run.run (va_runV (As := []) (rest := [.int 18]) ⟨hx, hb, hml, hown, noTs⟩ (s_J0_length l adK adV 3 (by decide)) ⟨cbE 0 (wd_488 hE) (wd_129 hE) (wd_1527 hE) rfl rfl (by decide +kernel) ⟨Nat.le_of_ble_eq_true rfl, Nat.le_of_ble_eq_true rfl⟩, (wd_486 hE), (wd_487 hE)⟩ ⟨PS.blind, vk_recv hX.1 (by decide) hS, ps_pre (av := [.ref (adK 3)]) hX hS hE⟩ rfl rfl hl.1 rfl (lv_room (Nat.le_of_ble_eq_true rfl)) dX12_key_17 ⟨Nat.le_of_ble_eq_true rfl, Nat.le_of_ble_eq_true rfl⟩)) (fun r70 hr70 => ?_)
                      have hr70 : r70 = 18 := hr70
                      subst hr70
                      refine lv_icmp_ge (tgt := 133) hx hb dX12_key_20 (by decide) (fun c71 => ?_) (fun c71 => absurd c71 (by decide))
                      refine lv_iconst (v := -1) hx hb dX12_key_133 (by decide) ?_
                      exact W.iret (v := -1) hx hb hr (fun t ht hW => ⟨-1, rfl, trivial, ht⟩) (fun _ h => absurd h List.not_mem_nil) dX12_key_134
                    · have c69 := mt (b_eq (rfl : Int32.toInt x1_67 = _) (show Int32.toInt 0 = 0 from rfl)).mpr c69
                      refine lv_iload_n hx hb dX12_key_121 rfl (lv_at hl 1 rfl) ?_
                      exact W.iret (v := 2) hx hb hr (fun t ht hW => ⟨2, rfl, trivial, ht⟩) (fun _ h => absurd h List.not_mem_nil) dX12_key_122
                  · have c68 := mt (b_le (show Int32.toInt 4 = 4 from rfl) (nI_toInt (n := i_67) (by omega))).mpr c68
                    refine lv_iload hx hb dX12_key_75 (lv_at hl 4 rfl) ?_
                    refine lv_if_eq (tgt := 116) hx hb dX12_key_77 (by decide) (fun c72 => ?_) (fun c72 => ?_)
                    · have c72 := (b_eq (rfl : Int32.toInt x1_67 = _) (show Int32.toInt 0 = 0 from rfl)).mp c72
                      refine lv_iload hx hb dX12_key_116 (lv_at hl 4 rfl) ?_
                      refine lv_if_eq (tgt := 123) hx hb dX12_key_118 (by decide) (fun c73 => ?_) (fun c73 => ?_)
                      · have c73 := (b_eq (rfl : Int32.toInt x1_67 = _) (show Int32.toInt 0 = 0 from rfl)).mp c73
                        refine lv_iinc (v := 3) (lv' := [(1, .int 3), (0, .ref (b 0)), (2, .int 13), (3, .int 17), (4, .int x1_67), (5, .int (nI i_67))]) hx hb dX12_key_123 hl (k := 1) rfl (by decide) (by decide) rfl (fun ls hl => ?_)
                        refine lv_iload_n hx hb dX12_key_126 rfl (lv_at hl 3 rfl) ?_
                        refine lv_iconst (v := 1) hx hb dX12_key_127 (by decide) ?_
                        refine lv_iadd hx hb dX12_key_128 ?_
                        refine W.eq (g2 := F0 m 129 ls [.int 18]) rfl ?_
                        refine lv_istore_n (lv' := [(2, .int 18), (1, .int 3), (0, .ref (b 0)), (3, .int 17), (4, .int x1_67), (5, .int (nI i_67))]) hx hb dX12_key_129 rfl hl (by decide) rfl (fun ls hl => ?_)
                        refine lv_goto (tgt := 14) hx hb dX12_key_130 (by decide) ?_
                        refine lv_iload_n hx hb dX12_key_14 rfl (lv_at hl 0 rfl) ?_
                        refine va_ldcS hx hb hown hZ dX12_key_15 ?_
                        refine vp_callSi (va_Run.run (va_runV (As := []) (rest := [.int 18]) ⟨hx, hb, hml, hown, noTs⟩ (s_J0_length l adK adV 3 (by decide)) ⟨cbE 0 (wd_488 hE) (wd_129 hE) (wd_1527 hE) rfl rfl (by decide +kernel) ⟨Nat.le_of_ble_eq_true rfl, Nat.le_of_ble_eq_true rfl⟩, (wd_486 hE), (wd_487 hE)⟩ ⟨PS.blind, vk_recv hX.1 (by decide) hS, ps_pre (av := [.ref (adK 3)]) hX hS hE⟩ rfl rfl hl.1 rfl (lv_room (Nat.le_of_ble_eq_true rfl)) dX12_key_17 ⟨Nat.le_of_ble_eq_true rfl, Nat.le_of_ble_eq_true rfl⟩)) (fun r74 hr74 => ?_)
                        have hr74 : r74 = 18 := hr74
                        subst hr74
                        refine lv_icmp_ge (tgt := 133) hx hb dX12_key_20 (by decide) (fun c75 => ?_) (fun c75 => absurd c75 (by decide))
                        refine lv_iconst (v := -1) hx hb dX12_key_133 (by decide) ?_
                        exact W.iret (v := -1) hx hb hr (fun t ht hW => ⟨-1, rfl, trivial, ht⟩) (fun _ h => absurd h List.not_mem_nil) dX12_key_134
                      · have c73 := mt (b_eq (rfl : Int32.toInt x1_67 = _) (show Int32.toInt 0 = 0 from rfl)).mpr c73
                        refine lv_iload_n hx hb dX12_key_121 rfl (lv_at hl 1 rfl) ?_
                        exact W.iret (v := 2) hx hb hr (fun t ht hW => ⟨2, rfl, trivial, ht⟩) (fun _ h => absurd h List.not_mem_nil) dX12_key_122
                    · have c72 := mt (b_eq (rfl : Int32.toInt x1_67 = _) (show Int32.toInt 0 = 0 from rfl)).mpr c72
                      refine va_ldcS hx hb hown hZ dX12_key_80 ?_
                      refine lv_iload_n hx hb dX12_key_82 rfl (lv_at hl 2 rfl) ?_
                      refine lv_iload hx hb dX12_key_83 (lv_at hl 5 rfl) ?_
                      refine lv_iadd hx hb dX12_key_85 ?_
                      refine W.eq (g2 := F0 m 86 ls [.int (nI (13 + i_67)), .ref (adK 3)]) (congrArg (fun z : Int32 => F0 m 86 ls (.int z :: [.ref (adK 3)])) (nI_add 13 i_67)) ?_
                      refine vp_callSi (va_Run.run (va_runV (As := [.int (nI (13 + i_67))]) (rest := []) ⟨hx, hb, hml, hown, noTs⟩ (s_J0_charAt l adK adV 3 (13 + i_67) (by decide) (by show _ < 18; omega)) ⟨cbE 1 (wd_498 hE) (wd_129 hE) (wd_1528 hE) rfl rfl (by decide +kernel) ⟨Nat.le_of_ble_eq_true rfl, Nat.le_of_ble_eq_true rfl⟩, (wd_496 hE), (wd_497 hE)⟩ ⟨PS.blind, vk_recv hX.1 (by decide) hS, ps_pre (av := [.ref (adK 3), .int (nI (13 + i_67))]) hX hS hE⟩ rfl rfl hl.1 rfl (lv_room (Nat.le_of_ble_eq_true rfl)) dX12_key_86 ⟨Nat.le_of_ble_eq_true rfl, Nat.le_of_ble_eq_true rfl⟩)) (fun r76 hr76 => ?_)
                      refine lv_aload_n hx hb dX12_key_89 rfl (lv_at hl 0 rfl) ?_
                      refine lv_aload_n hx hb dX12_key_90 rfl (lv_at hl 0 rfl) ?_
                      refine r_get (v := .int (nI (fN u 13))) hx hb (ly_X12 hE) hown hK hP rfl 13 (by decide) (wd_1394 hE) (fun _ h9 => h9) (congrArg (fun z : Int32 => some (Value.int z)) hp0.1) dX12_key_91 ?_
                      refine lv_iload hx hb dX12_key_94 (lv_at hl 5 rfl) ?_
                      refine lv_iadd hx hb dX12_key_96 ?_
                      refine W.eq (g2 := F0 m 97 ls [.int (nI ((fN u 13) + i_67)), .ref (b 0), .int r76]) (congrArg (fun z : Int32 => F0 m 97 ls (.int z :: [.ref (b 0), .int r76])) (nI_add (fN u 13) i_67)) ?_
                      refine vp_callSi (va_Run.run (va_runV (As := [.int (nI ((fN u 13) + i_67))]) (rest := [.int r76]) ⟨hx, hb, hml, hown, noTs⟩ (r_X12_byteAt l dC dI s.heap.size cs b u tx hAc16 ((fN u 13) + i_67) sz1 hF11 (by first | assumption | omega | rfl | (congr 1; omega)) (by first | assumption | omega | rfl | (congr 1; omega))) ⟨cbE 1 (wd_1510 hE) (wd_126 hE) (wd_1507 hE) rfl rfl (by decide +kernel) ⟨Nat.le_of_ble_eq_true rfl, Nat.le_of_ble_eq_true rfl⟩, (wd_1509 hE), (wd_57 hE)⟩ ⟨PR.blind, r_recv hK hP rfl, (r_pre (av := [.ref (b 0), .int (nI ((fN u 13) + i_67))]) hK hP hJ hE)⟩ rfl rfl hl.1 rfl (lv_room (Nat.le_of_ble_eq_true rfl)) dX12_key_97 ⟨Nat.le_of_ble_eq_true rfl, Nat.le_of_ble_eq_true rfl⟩)) (fun r77 hr77 => ?_)
                      subst hr77
                      have htf77 := bA_f tx sz1 ((fN u 13) + i_67)
                      refine lv_icmp_ne (tgt := 107) hx hb dX12_key_100 (by decide) (fun c78 => ?_) (fun c78 => ?_)
                      · have c78 := mt (b_eq (rfl : Int32.toInt r76 = _) (rfl : Int32.toInt (bA tx sz1 ((fN u 13) + i_67)) = _)).mpr c78
                        refine lv_iconst (v := 0) hx hb dX12_key_107 (by decide) ?_
                        refine lv_istore (lv' := [(4, .int 0), (0, .ref (b 0)), (1, .int 2), (2, .int 13), (3, .int 17), (5, .int (nI i_67))]) hx hb dX12_key_108 hl (by decide) rfl (fun ls hl => ?_)
                        refine lv_iinc (v := nI (i_67 + 1)) (lv' := [(5, .int (nI (i_67 + 1))), (4, .int 0), (0, .ref (b 0)), (1, .int 2), (2, .int 13), (3, .int 17)]) hx hb dX12_key_110 hl (k := 5) rfl (nI_1 i_67) (by decide) rfl (fun ls hl => ?_)
                        refine lv_goto (tgt := 67) hx hb dX12_key_113 (by decide) ?_
                        exact ih67 _ _ (by omega) ⟨(i_67 + 1), 0, rfl, (by first | assumption | omega | rfl | (congr 1; omega)), lv_sub hl [2, 3, 4, 5, 1, 0] rfl⟩
                      · have c78 := (b_eq (rfl : Int32.toInt r76 = _) (rfl : Int32.toInt (bA tx sz1 ((fN u 13) + i_67)) = _)).mp c78
                        refine lv_iconst (v := 1) hx hb dX12_key_103 (by decide) ?_
                        refine lv_goto (tgt := 108) hx hb dX12_key_104 (by decide) ?_
                        refine lv_istore (lv' := [(4, .int 1), (0, .ref (b 0)), (1, .int 2), (2, .int 13), (3, .int 17), (5, .int (nI i_67))]) hx hb dX12_key_108 hl (by decide) rfl (fun ls hl => ?_)
                        refine lv_iinc (v := nI (i_67 + 1)) (lv' := [(5, .int (nI (i_67 + 1))), (4, .int 1), (0, .ref (b 0)), (1, .int 2), (2, .int 13), (3, .int 17)]) hx hb dX12_key_110 hl (k := 5) rfl (nI_1 i_67) (by decide) rfl (fun ls hl => ?_)
                        refine lv_goto (tgt := 67) hx hb dX12_key_113 (by decide) ?_
                        exact ih67 _ _ (by omega) ⟨(i_67 + 1), 1, rfl, (by first | assumption | omega | rfl | (congr 1; omega)), lv_sub hl [2, 3, 4, 5, 1, 0] rfl⟩
              · have c41 := mt (b_eq (rfl : Int32.toInt x1_39 = _) (show Int32.toInt 0 = 0 from rfl)).mpr c41
                refine lv_iload_n hx hb dX12_key_121 rfl (lv_at hl 1 rfl) ?_
                exact W.iret (v := 1) hx hb hr (fun t ht hW => ⟨1, rfl, trivial, ht⟩) (fun _ h => absurd h List.not_mem_nil) dX12_key_122
            · have c40 := mt (b_le (show Int32.toInt 4 = 4 from rfl) (nI_toInt (n := i_39) (by omega))).mpr c40
              refine lv_iload hx hb dX12_key_75 (lv_at hl 4 rfl) ?_
              refine lv_if_eq (tgt := 116) hx hb dX12_key_77 (by decide) (fun c79 => ?_) (fun c79 => ?_)
              · have c79 := (b_eq (rfl : Int32.toInt x1_39 = _) (show Int32.toInt 0 = 0 from rfl)).mp c79
                refine lv_iload hx hb dX12_key_116 (lv_at hl 4 rfl) ?_
                refine lv_if_eq (tgt := 123) hx hb dX12_key_118 (by decide) (fun c80 => ?_) (fun c80 => ?_)
                · have c80 := (b_eq (rfl : Int32.toInt x1_39 = _) (show Int32.toInt 0 = 0 from rfl)).mp c80
                  refine lv_iinc (v := 2) (lv' := [(1, .int 2), (0, .ref (b 0)), (2, .int 8), (3, .int 12), (4, .int x1_39), (5, .int (nI i_39))]) hx hb dX12_key_123 hl (k := 1) rfl (by decide) (by decide) rfl (fun ls hl => ?_)
                  refine lv_iload_n hx hb dX12_key_126 rfl (lv_at hl 3 rfl) ?_
                  refine lv_iconst (v := 1) hx hb dX12_key_127 (by decide) ?_
                  refine lv_iadd hx hb dX12_key_128 ?_
                  refine W.eq (g2 := F0 m 129 ls [.int 13]) rfl ?_
                  refine lv_istore_n (lv' := [(2, .int 13), (1, .int 2), (0, .ref (b 0)), (3, .int 12), (4, .int x1_39), (5, .int (nI i_39))]) hx hb dX12_key_129 rfl hl (by decide) rfl (fun ls hl => ?_)
                  refine lv_goto (tgt := 14) hx hb dX12_key_130 (by decide) ?_
                  refine lv_iload_n hx hb dX12_key_14 rfl (lv_at hl 0 rfl) ?_
                  refine va_ldcS hx hb hown hZ dX12_key_15 ?_
                  refine vp_callSi (va_Run.run (va_runV (As := []) (rest := [.int 13]) ⟨hx, hb, hml, hown, noTs⟩ (s_J0_length l adK adV 3 (by decide)) ⟨cbE 0 (wd_488 hE) (wd_129 hE) (wd_1527 hE) rfl rfl (by decide +kernel) ⟨Nat.le_of_ble_eq_true rfl, Nat.le_of_ble_eq_true rfl⟩, (wd_486 hE), (wd_487 hE)⟩ ⟨PS.blind, vk_recv hX.1 (by decide) hS, ps_pre (av := [.ref (adK 3)]) hX hS hE⟩ rfl rfl hl.1 rfl (lv_room (Nat.le_of_ble_eq_true rfl)) dX12_key_17 ⟨Nat.le_of_ble_eq_true rfl, Nat.le_of_ble_eq_true rfl⟩)) (fun r81 hr81 => ?_)
                  have hr81 : r81 = 18 := hr81
                  subst hr81
                  refine lv_icmp_ge (tgt := 133) hx hb dX12_key_20 (by decide) (fun c82 => absurd c82 (by decide)) (fun c82 => ?_)
                  refine lv_iload_n hx hb dX12_key_23 rfl (lv_at hl 0 rfl) ?_
                  refine lv_istore_n (lv' := [(3, .int 13), (2, .int 13), (1, .int 2), (0, .ref (b 0)), (4, .int x1_39), (5, .int (nI i_39))]) hx hb dX12_key_24 rfl hl (by decide) rfl (fun ls hl => ?_)
                  refine va_ldcS hx hb hown hZ dX12_key_25 ?_
                  refine lv_iload_n hx hb dX12_key_27 rfl (lv_at hl 0 rfl) ?_
                  refine vp_callSi (va_Run.run (va_runV (As := [.int (nI 13)]) (rest := []) ⟨hx, hb, hml, hown, noTs⟩ (s_J0_charAt l adK adV 3 13 (by decide) (by show _ < 18; omega)) ⟨cbE 1 (wd_498 hE) (wd_129 hE) (wd_1528 hE) rfl rfl (by decide +kernel) ⟨Nat.le_of_ble_eq_true rfl, Nat.le_of_ble_eq_true rfl⟩, (wd_496 hE), (wd_497 hE)⟩ ⟨PS.blind, vk_recv hX.1 (by decide) hS, ps_pre (av := [.ref (adK 3), .int (nI 13)]) hX hS hE⟩ rfl rfl hl.1 rfl (lv_room (Nat.le_of_ble_eq_true rfl)) dX12_key_28 ⟨Nat.le_of_ble_eq_true rfl, Nat.le_of_ble_eq_true rfl⟩)) (fun r83 hr83 => ?_)
                  have hr83 : r83 = 119 := hr83.trans (by decide)
                  subst hr83
                  refine lv_bipush (v := 32) hx hb dX12_key_31 (by decide) ?_
                  refine lv_icmp_eq (tgt := 42) hx hb dX12_key_33 (by decide) (fun c84 => absurd c84 (by decide)) (fun c84 => ?_)
                  refine lv_iinc (v := 14) (lv' := [(3, .int 14), (2, .int 13), (1, .int 2), (0, .ref (b 0)), (4, .int x1_39), (5, .int (nI i_39))]) hx hb dX12_key_36 hl (k := 0) rfl (by decide) (by decide) rfl (fun ls hl => ?_)
                  refine lv_goto (tgt := 25) hx hb dX12_key_39 (by decide) ?_
                  refine va_ldcS hx hb hown hZ dX12_key_25 ?_
                  refine lv_iload_n hx hb dX12_key_27 rfl (lv_at hl 0 rfl) ?_
                  refine vp_callSi (va_Run.run (va_runV (As := [.int (nI 14)]) (rest := []) ⟨hx, hb, hml, hown, noTs⟩ (s_J0_charAt l adK adV 3 14 (by decide) (by show _ < 18; omega)) ⟨cbE 1 (wd_498 hE) (wd_129 hE) (wd_1528 hE) rfl rfl (by decide +kernel) ⟨Nat.le_of_ble_eq_true rfl, Nat.le_of_ble_eq_true rfl⟩, (wd_496 hE), (wd_497 hE)⟩ ⟨PS.blind, vk_recv hX.1 (by decide) hS, ps_pre (av := [.ref (adK 3), .int (nI 14)]) hX hS hE⟩ rfl rfl hl.1 rfl (lv_room (Nat.le_of_ble_eq_true rfl)) dX12_key_28 ⟨Nat.le_of_ble_eq_true rfl, Nat.le_of_ble_eq_true rfl⟩)) (fun r85 hr85 => ?_)
                  have hr85 : r85 = 111 := hr85.trans (by decide)
                  subst hr85
                  refine lv_bipush (v := 32) hx hb dX12_key_31 (by decide) ?_
                  refine lv_icmp_eq (tgt := 42) hx hb dX12_key_33 (by decide) (fun c86 => absurd c86 (by decide)) (fun c86 => ?_)
                  refine lv_iinc (v := 15) (lv' := [(3, .int 15), (2, .int 13), (1, .int 2), (0, .ref (b 0)), (4, .int x1_39), (5, .int (nI i_39))]) hx hb dX12_key_36 hl (k := 0) rfl (by decide) (by decide) rfl (fun ls hl => ?_)
                  refine lv_goto (tgt := 25) hx hb dX12_key_39 (by decide) ?_
                  refine va_ldcS hx hb hown hZ dX12_key_25 ?_
                  refine lv_iload_n hx hb dX12_key_27 rfl (lv_at hl 0 rfl) ?_
                  refine vp_callSi (va_Run.run (va_runV (As := [.int (nI 15)]) (rest := []) ⟨hx, hb, hml, hown, noTs⟩ (s_J0_charAt l adK adV 3 15 (by decide) (by show _ < 18; omega)) ⟨cbE 1 (wd_498 hE) (wd_129 hE) (wd_1528 hE) rfl rfl (by decide +kernel) ⟨Nat.le_of_ble_eq_true rfl, Nat.le_of_ble_eq_true rfl⟩, (wd_496 hE), (wd_497 hE)⟩ ⟨PS.blind, vk_recv hX.1 (by decide) hS, ps_pre (av := [.ref (adK 3), .int (nI 15)]) hX hS hE⟩ rfl rfl hl.1 rfl (lv_room (Nat.le_of_ble_eq_true rfl)) dX12_key_28 ⟨Nat.le_of_ble_eq_true rfl, Nat.le_of_ble_eq_true rfl⟩)) (fun r87 hr87 => ?_)
                  have hr87 : r87 = 114 := hr87.trans (by decide)
                  subst hr87
                  refine lv_bipush (v := 32) hx hb dX12_key_31 (by decide) ?_
                  refine lv_icmp_eq (tgt := 42) hx hb dX12_key_33 (by decide) (fun c88 => absurd c88 (by decide)) (fun c88 => ?_)
                  refine lv_iinc (v := 16) (lv' := [(3, .int 16), (2, .int 13), (1, .int 2), (0, .ref (b 0)), (4, .int x1_39), (5, .int (nI i_39))]) hx hb dX12_key_36 hl (k := 0) rfl (by decide) (by decide) rfl (fun ls hl => ?_)
                  refine lv_goto (tgt := 25) hx hb dX12_key_39 (by decide) ?_
                  refine va_ldcS hx hb hown hZ dX12_key_25 ?_
                  refine lv_iload_n hx hb dX12_key_27 rfl (lv_at hl 0 rfl) ?_
                  refine vp_callSi (va_Run.run (va_runV (As := [.int (nI 16)]) (rest := []) ⟨hx, hb, hml, hown, noTs⟩ (s_J0_charAt l adK adV 3 16 (by decide) (by show _ < 18; omega)) ⟨cbE 1 (wd_498 hE) (wd_129 hE) (wd_1528 hE) rfl rfl (by decide +kernel) ⟨Nat.le_of_ble_eq_true rfl, Nat.le_of_ble_eq_true rfl⟩, (wd_496 hE), (wd_497 hE)⟩ ⟨PS.blind, vk_recv hX.1 (by decide) hS, ps_pre (av := [.ref (adK 3), .int (nI 16)]) hX hS hE⟩ rfl rfl hl.1 rfl (lv_room (Nat.le_of_ble_eq_true rfl)) dX12_key_28 ⟨Nat.le_of_ble_eq_true rfl, Nat.le_of_ble_eq_true rfl⟩)) (fun r89 hr89 => ?_)
                  have hr89 : r89 = 100 := hr89.trans (by decide)
                  subst hr89
                  refine lv_bipush (v := 32) hx hb dX12_key_31 (by decide) ?_
                  refine lv_icmp_eq (tgt := 42) hx hb dX12_key_33 (by decide) (fun c90 => absurd c90 (by decide)) (fun c90 => ?_)
                  refine lv_iinc (v := 17) (lv' := [(3, .int 17), (2, .int 13), (1, .int 2), (0, .ref (b 0)), (4, .int x1_39), (5, .int (nI i_39))]) hx hb dX12_key_36 hl (k := 0) rfl (by decide) (by decide) rfl (fun ls hl => ?_)
                  refine lv_goto (tgt := 25) hx hb dX12_key_39 (by decide) ?_
                  refine va_ldcS hx hb hown hZ dX12_key_25 ?_
                  refine lv_iload_n hx hb dX12_key_27 rfl (lv_at hl 0 rfl) ?_
                  refine vp_callSi (va_Run.run (va_runV (As := [.int (nI 17)]) (rest := []) ⟨hx, hb, hml, hown, noTs⟩ (s_J0_charAt l adK adV 3 17 (by decide) (by show _ < 18; omega)) ⟨cbE 1 (wd_498 hE) (wd_129 hE) (wd_1528 hE) rfl rfl (by decide +kernel) ⟨Nat.le_of_ble_eq_true rfl, Nat.le_of_ble_eq_true rfl⟩, (wd_496 hE), (wd_497 hE)⟩ ⟨PS.blind, vk_recv hX.1 (by decide) hS, ps_pre (av := [.ref (adK 3), .int (nI 17)]) hX hS hE⟩ rfl rfl hl.1 rfl (lv_room (Nat.le_of_ble_eq_true rfl)) dX12_key_28 ⟨Nat.le_of_ble_eq_true rfl, Nat.le_of_ble_eq_true rfl⟩)) (fun r91 hr91 => ?_)
                  have hr91 : r91 = 32 := hr91.trans (by decide)
                  subst hr91
                  refine lv_bipush (v := 32) hx hb dX12_key_31 (by decide) ?_
                  refine lv_icmp_eq (tgt := 42) hx hb dX12_key_33 (by decide) (fun c92 => ?_) (fun c92 => absurd c92 (by decide))
                  refine lv_iload_n hx hb dX12_key_42 rfl (lv_at hl 0 rfl) ?_
                  refine lv_iload_n hx hb dX12_key_43 rfl (lv_at hl 1 rfl) ?_
                  refine lv_isub hx hb dX12_key_44 ?_
                  refine W.eq (g2 := F0 m 45 ls [.int 4]) rfl ?_
                  refine lv_aload_n hx hb dX12_key_45 rfl (lv_at hl 3 rfl) ?_
                  refine r_get (v := .int (nI (fN u 14))) hx hb (ly_X12 hE) hown hK hP rfl 14 (by decide) (wd_1395 hE) (fun _ h9 => h9) (congrArg (fun z : Int32 => some (Value.int z)) hp0.2.1) dX12_key_46 ?_
                  refine lv_aload_n hx hb dX12_key_49 rfl (lv_at hl 3 rfl) ?_
                  refine r_get (v := .int (nI (fN u 13))) hx hb (ly_X12 hE) hown hK hP rfl 13 (by decide) (wd_1394 hE) (fun _ h9 => h9) (congrArg (fun z : Int32 => some (Value.int z)) hp0.1) dX12_key_50 ?_
                  refine lv_isub hx hb dX12_key_53 ?_
                  refine W.eq (g2 := F0 m 54 ls [.int (nI ((fN u 14) - (fN u 13))), .int 4]) (congrArg (fun z : Int32 => F0 m 54 ls (.int z :: [.int 4])) (pk_sub (a := fN u 14) (b := fN u 13) (by omega))) ?_
                  refine lv_icmp_ne (tgt := 61) hx hb dX12_key_54 (by decide) (fun c93 => ?_) (fun c93 => ?_)
                  · have c93 := mt (b_eq (show Int32.toInt 4 = 4 from rfl) (nI_toInt (n := (fN u 14) - (fN u 13)) (by omega))).mpr c93
                    refine lv_iconst (v := 0) hx hb dX12_key_61 (by decide) ?_
                    refine lv_istore (lv' := [(4, .int 0), (3, .int 17), (2, .int 13), (1, .int 2), (0, .ref (b 0)), (5, .int (nI i_39))]) hx hb dX12_key_62 hl (by decide) rfl (fun ls hl => ?_)
                    refine lv_iconst (v := 0) hx hb dX12_key_64 (by decide) ?_
                    refine lv_istore (lv' := [(5, .int 0), (4, .int 0), (3, .int 17), (2, .int 13), (1, .int 2), (0, .ref (b 0))]) hx hb dX12_key_65 hl (by decide) rfl (fun ls hl => ?_)
                    refine r_indP (I := fun n ls => ∃ (i_94 : Nat) (x1_94 : Int32), n = 17 - 13 - i_94 ∧ (i_94 ≤ 17 - 13) ∧ lv_has ls 6 [(0, .ref (b 0)), (1, .int 2), (2, .int 13), (3, .int 17), (4, .int x1_94), (5, .int (nI i_94))]) (fun n ls hI ih94 => ?_) _ _ ⟨0, 0, rfl, (by first | assumption | omega | rfl | (congr 1; omega)), lv_sub hl [5, 4, 3, 2, 1, 0] rfl⟩
                    obtain ⟨i_94, x1_94, hmu94, hL94_0, hl⟩ := hI
                    subst hmu94
                    refine lv_iload hx hb dX12_key_67 (lv_at hl 5 rfl) ?_
                    refine lv_iload_n hx hb dX12_key_69 rfl (lv_at hl 3 rfl) ?_
                    refine lv_iload_n hx hb dX12_key_70 rfl (lv_at hl 2 rfl) ?_
                    refine lv_isub hx hb dX12_key_71 ?_
                    refine W.eq (g2 := F0 m 72 ls [.int 4, .int (nI i_94)]) rfl ?_
                    refine lv_icmp_ge (tgt := 116) hx hb dX12_key_72 (by decide) (fun c95 => ?_) (fun c95 => ?_)
                    · have c95 := (b_le (show Int32.toInt 4 = 4 from rfl) (nI_toInt (n := i_94) (by omega))).mp c95
                      refine lv_iload hx hb dX12_key_116 (lv_at hl 4 rfl) ?_
                      refine lv_if_eq (tgt := 123) hx hb dX12_key_118 (by decide) (fun c96 => ?_) (fun c96 => ?_)
                      · have c96 := (b_eq (rfl : Int32.toInt x1_94 = _) (show Int32.toInt 0 = 0 from rfl)).mp c96
                        refine lv_iinc (v := 3) (lv' := [(1, .int 3), (0, .ref (b 0)), (2, .int 13), (3, .int 17), (4, .int x1_94), (5, .int (nI i_94))]) hx hb dX12_key_123 hl (k := 1) rfl (by decide) (by decide) rfl (fun ls hl => ?_)
                        refine lv_iload_n hx hb dX12_key_126 rfl (lv_at hl 3 rfl) ?_
                        refine lv_iconst (v := 1) hx hb dX12_key_127 (by decide) ?_
                        refine lv_iadd hx hb dX12_key_128 ?_
                        refine W.eq (g2 := F0 m 129 ls [.int 18]) rfl ?_
                        refine lv_istore_n (lv' := [(2, .int 18), (1, .int 3), (0, .ref (b 0)), (3, .int 17), (4, .int x1_94), (5, .int (nI i_94))]) hx hb dX12_key_129 rfl hl (by decide) rfl (fun ls hl => ?_)
                        refine lv_goto (tgt := 14) hx hb dX12_key_130 (by decide) ?_
                        refine lv_iload_n hx hb dX12_key_14 rfl (lv_at hl 0 rfl) ?_
                        refine va_ldcS hx hb hown hZ dX12_key_15 ?_
                        refine vp_callSi (va_Run.run (va_runV (As := []) (rest := [.int 18]) ⟨hx, hb, hml, hown, noTs⟩ (s_J0_length l adK adV 3 (by decide)) ⟨cbE 0 (wd_488 hE) (wd_129 hE) (wd_1527 hE) rfl rfl (by decide +kernel) ⟨Nat.le_of_ble_eq_true rfl, Nat.le_of_ble_eq_true rfl⟩, (wd_486 hE), (wd_487 hE)⟩ ⟨PS.blind, vk_recv hX.1 (by decide) hS, ps_pre (av := [.ref (adK 3)]) hX hS hE⟩ rfl rfl hl.1 rfl (lv_room (Nat.le_of_ble_eq_true rfl)) dX12_key_17 ⟨Nat.le_of_ble_eq_true rfl, Nat.le_of_ble_eq_true rfl⟩)) (fun r97 hr97 => ?_)
                        have hr97 : r97 = 18 := hr97
                        subst hr97
                        refine lv_icmp_ge (tgt := 133) hx hb dX12_key_20 (by decide) (fun c98 => ?_) (fun c98 => absurd c98 (by decide))
                        refine lv_iconst (v := -1) hx hb dX12_key_133 (by decide) ?_
                        exact W.iret (v := -1) hx hb hr (fun t ht hW => ⟨-1, rfl, trivial, ht⟩) (fun _ h => absurd h List.not_mem_nil) dX12_key_134
                      · have c96 := mt (b_eq (rfl : Int32.toInt x1_94 = _) (show Int32.toInt 0 = 0 from rfl)).mpr c96
                        refine lv_iload_n hx hb dX12_key_121 rfl (lv_at hl 1 rfl) ?_
                        exact W.iret (v := 2) hx hb hr (fun t ht hW => ⟨2, rfl, trivial, ht⟩) (fun _ h => absurd h List.not_mem_nil) dX12_key_122
                    · have c95 := mt (b_le (show Int32.toInt 4 = 4 from rfl) (nI_toInt (n := i_94) (by omega))).mpr c95
                      refine lv_iload hx hb dX12_key_75 (lv_at hl 4 rfl) ?_
                      refine lv_if_eq (tgt := 116) hx hb dX12_key_77 (by decide) (fun c99 => ?_) (fun c99 => ?_)
                      · have c99 := (b_eq (rfl : Int32.toInt x1_94 = _) (show Int32.toInt 0 = 0 from rfl)).mp c99
                        refine lv_iload hx hb dX12_key_116 (lv_at hl 4 rfl) ?_
                        refine lv_if_eq (tgt := 123) hx hb dX12_key_118 (by decide) (fun c100 => ?_) (fun c100 => ?_)
                        · have c100 := (b_eq (rfl : Int32.toInt x1_94 = _) (show Int32.toInt 0 = 0 from rfl)).mp c100
                          refine lv_iinc (v := 3) (lv' := [(1, .int 3), (0, .ref (b 0)), (2, .int 13), (3, .int 17), (4, .int x1_94), (5, .int (nI i_94))]) hx hb dX12_key_123 hl (k := 1) rfl (by decide) (by decide) rfl (fun ls hl => ?_)
                          refine lv_iload_n hx hb dX12_key_126 rfl (lv_at hl 3 rfl) ?_
                          refine lv_iconst (v := 1) hx hb dX12_key_127 (by decide) ?_
                          refine lv_iadd hx hb dX12_key_128 ?_
                          refine W.eq (g2 := F0 m 129 ls [.int 18]) rfl ?_
                          refine lv_istore_n (lv' := [(2, .int 18), (1, .int 3), (0, .ref (b 0)), (3, .int 17), (4, .int x1_94), (5, .int (nI i_94))]) hx hb dX12_key_129 rfl hl (by decide) rfl (fun ls hl => ?_)
                          refine lv_goto (tgt := 14) hx hb dX12_key_130 (by decide) ?_
                          refine lv_iload_n hx hb dX12_key_14 rfl (lv_at hl 0 rfl) ?_
                          refine va_ldcS hx hb hown hZ dX12_key_15 ?_
                          refine vp_callSi (va_Run.run (va_runV (As := []) (rest := [.int 18]) ⟨hx, hb, hml, hown, noTs⟩ (s_J0_length l adK adV 3 (by decide)) ⟨cbE 0 (wd_488 hE) (wd_129 hE) (wd_1527 hE) rfl rfl (by decide +kernel) ⟨Nat.le_of_ble_eq_true rfl, Nat.le_of_ble_eq_true rfl⟩, (wd_486 hE), (wd_487 hE)⟩ ⟨PS.blind, vk_recv hX.1 (by decide) hS, ps_pre (av := [.ref (adK 3)]) hX hS hE⟩ rfl rfl hl.1 rfl (lv_room (Nat.le_of_ble_eq_true rfl)) dX12_key_17 ⟨Nat.le_of_ble_eq_true rfl, Nat.le_of_ble_eq_true rfl⟩)) (fun r101 hr101 => ?_)
                          have hr101 : r101 = 18 := hr101
                          subst hr101
                          refine lv_icmp_ge (tgt := 133) hx hb dX12_key_20 (by decide) (fun c102 => ?_) (fun c102 => absurd c102 (by decide))
                          refine lv_iconst (v := -1) hx hb dX12_key_133 (by decide) ?_
                          exact W.iret (v := -1) hx hb hr (fun t ht hW => ⟨-1, rfl, trivial, ht⟩) (fun _ h => absurd h List.not_mem_nil) dX12_key_134
                        · have c100 := mt (b_eq (rfl : Int32.toInt x1_94 = _) (show Int32.toInt 0 = 0 from rfl)).mpr c100
                          refine lv_iload_n hx hb dX12_key_121 rfl (lv_at hl 1 rfl) ?_
                          exact W.iret (v := 2) hx hb hr (fun t ht hW => ⟨2, rfl, trivial, ht⟩) (fun _ h => absurd h List.not_mem_nil) dX12_key_122
                      · have c99 := mt (b_eq (rfl : Int32.toInt x1_94 = _) (show Int32.toInt 0 = 0 from rfl)).mpr c99
                        refine va_ldcS hx hb hown hZ dX12_key_80 ?_
                        refine lv_iload_n hx hb dX12_key_82 rfl (lv_at hl 2 rfl) ?_
                        refine lv_iload hx hb dX12_key_83 (lv_at hl 5 rfl) ?_
                        refine lv_iadd hx hb dX12_key_85 ?_
                        refine W.eq (g2 := F0 m 86 ls [.int (nI (13 + i_94)), .ref (adK 3)]) (congrArg (fun z : Int32 => F0 m 86 ls (.int z :: [.ref (adK 3)])) (nI_add 13 i_94)) ?_
                        refine vp_callSi (va_Run.run (va_runV (As := [.int (nI (13 + i_94))]) (rest := []) ⟨hx, hb, hml, hown, noTs⟩ (s_J0_charAt l adK adV 3 (13 + i_94) (by decide) (by show _ < 18; omega)) ⟨cbE 1 (wd_498 hE) (wd_129 hE) (wd_1528 hE) rfl rfl (by decide +kernel) ⟨Nat.le_of_ble_eq_true rfl, Nat.le_of_ble_eq_true rfl⟩, (wd_496 hE), (wd_497 hE)⟩ ⟨PS.blind, vk_recv hX.1 (by decide) hS, ps_pre (av := [.ref (adK 3), .int (nI (13 + i_94))]) hX hS hE⟩ rfl rfl hl.1 rfl (lv_room (Nat.le_of_ble_eq_true rfl)) dX12_key_86 ⟨Nat.le_of_ble_eq_true rfl, Nat.le_of_ble_eq_true rfl⟩)) (fun r103 hr103 => ?_)
                        refine lv_aload_n hx hb dX12_key_89 rfl (lv_at hl 0 rfl) ?_
                        refine lv_aload_n hx hb dX12_key_90 rfl (lv_at hl 0 rfl) ?_
                        refine r_get (v := .int (nI (fN u 13))) hx hb (ly_X12 hE) hown hK hP rfl 13 (by decide) (wd_1394 hE) (fun _ h9 => h9) (congrArg (fun z : Int32 => some (Value.int z)) hp0.1) dX12_key_91 ?_
                        refine lv_iload hx hb dX12_key_94 (lv_at hl 5 rfl) ?_
                        refine lv_iadd hx hb dX12_key_96 ?_
                        refine W.eq (g2 := F0 m 97 ls [.int (nI ((fN u 13) + i_94)), .ref (b 0), .int r103]) (congrArg (fun z : Int32 => F0 m 97 ls (.int z :: [.ref (b 0), .int r103])) (nI_add (fN u 13) i_94)) ?_
                        refine vp_callSi (va_Run.run (va_runV (As := [.int (nI ((fN u 13) + i_94))]) (rest := [.int r103]) ⟨hx, hb, hml, hown, noTs⟩ (r_X12_byteAt l dC dI s.heap.size cs b u tx hAc16 ((fN u 13) + i_94) sz1 hF11 (by first | assumption | omega | rfl | (congr 1; omega)) (by first | assumption | omega | rfl | (congr 1; omega))) ⟨cbE 1 (wd_1510 hE) (wd_126 hE) (wd_1507 hE) rfl rfl (by decide +kernel) ⟨Nat.le_of_ble_eq_true rfl, Nat.le_of_ble_eq_true rfl⟩, (wd_1509 hE), (wd_57 hE)⟩ ⟨PR.blind, r_recv hK hP rfl, (r_pre (av := [.ref (b 0), .int (nI ((fN u 13) + i_94))]) hK hP hJ hE)⟩ rfl rfl hl.1 rfl (lv_room (Nat.le_of_ble_eq_true rfl)) dX12_key_97 ⟨Nat.le_of_ble_eq_true rfl, Nat.le_of_ble_eq_true rfl⟩)) (fun r104 hr104 => ?_)
                        subst hr104
                        have htf104 := bA_f tx sz1 ((fN u 13) + i_94)
                        refine lv_icmp_ne (tgt := 107) hx hb dX12_key_100 (by decide) (fun c105 => ?_) (fun c105 => ?_)
                        · have c105 := mt (b_eq (rfl : Int32.toInt r103 = _) (rfl : Int32.toInt (bA tx sz1 ((fN u 13) + i_94)) = _)).mpr c105
                          refine lv_iconst (v := 0) hx hb dX12_key_107 (by decide) ?_
                          refine lv_istore (lv' := [(4, .int 0), (0, .ref (b 0)), (1, .int 2), (2, .int 13), (3, .int 17), (5, .int (nI i_94))]) hx hb dX12_key_108 hl (by decide) rfl (fun ls hl => ?_)
                          refine lv_iinc (v := nI (i_94 + 1)) (lv' := [(5, .int (nI (i_94 + 1))), (4, .int 0), (0, .ref (b 0)), (1, .int 2), (2, .int 13), (3, .int 17)]) hx hb dX12_key_110 hl (k := 5) rfl (nI_1 i_94) (by decide) rfl (fun ls hl => ?_)
                          refine lv_goto (tgt := 67) hx hb dX12_key_113 (by decide) ?_
                          exact ih94 _ _ (by omega) ⟨(i_94 + 1), 0, rfl, (by first | assumption | omega | rfl | (congr 1; omega)), lv_sub hl [2, 3, 4, 5, 1, 0] rfl⟩
                        · have c105 := (b_eq (rfl : Int32.toInt r103 = _) (rfl : Int32.toInt (bA tx sz1 ((fN u 13) + i_94)) = _)).mp c105
                          refine lv_iconst (v := 1) hx hb dX12_key_103 (by decide) ?_
                          refine lv_goto (tgt := 108) hx hb dX12_key_104 (by decide) ?_
                          refine lv_istore (lv' := [(4, .int 1), (0, .ref (b 0)), (1, .int 2), (2, .int 13), (3, .int 17), (5, .int (nI i_94))]) hx hb dX12_key_108 hl (by decide) rfl (fun ls hl => ?_)
                          refine lv_iinc (v := nI (i_94 + 1)) (lv' := [(5, .int (nI (i_94 + 1))), (4, .int 1), (0, .ref (b 0)), (1, .int 2), (2, .int 13), (3, .int 17)]) hx hb dX12_key_110 hl (k := 5) rfl (nI_1 i_94) (by decide) rfl (fun ls hl => ?_)
                          refine lv_goto (tgt := 67) hx hb dX12_key_113 (by decide) ?_
                          exact ih94 _ _ (by omega) ⟨(i_94 + 1), 1, rfl, (by first | assumption | omega | rfl | (congr 1; omega)), lv_sub hl [2, 3, 4, 5, 1, 0] rfl⟩
                  · have c93 := (b_eq (show Int32.toInt 4 = 4 from rfl) (nI_toInt (n := (fN u 14) - (fN u 13)) (by omega))).mp c93
                    refine lv_iconst (v := 1) hx hb dX12_key_57 (by decide) ?_
                    refine lv_goto (tgt := 62) hx hb dX12_key_58 (by decide) ?_
                    refine lv_istore (lv' := [(4, .int 1), (3, .int 17), (2, .int 13), (1, .int 2), (0, .ref (b 0)), (5, .int (nI i_39))]) hx hb dX12_key_62 hl (by decide) rfl (fun ls hl => ?_)
                    refine lv_iconst (v := 0) hx hb dX12_key_64 (by decide) ?_
                    refine lv_istore (lv' := [(5, .int 0), (4, .int 1), (3, .int 17), (2, .int 13), (1, .int 2), (0, .ref (b 0))]) hx hb dX12_key_65 hl (by decide) rfl (fun ls hl => ?_)
                    refine r_indP (I := fun n ls => ∃ (i_106 : Nat) (x1_106 : Int32), n = 17 - 13 - i_106 ∧ (i_106 ≤ 17 - 13) ∧ lv_has ls 6 [(0, .ref (b 0)), (1, .int 2), (2, .int 13), (3, .int 17), (4, .int x1_106), (5, .int (nI i_106))]) (fun n ls hI ih106 => ?_) _ _ ⟨0, 1, rfl, (by first | assumption | omega | rfl | (congr 1; omega)), lv_sub hl [5, 4, 3, 2, 1, 0] rfl⟩
                    obtain ⟨i_106, x1_106, hmu106, hL106_0, hl⟩ := hI
                    subst hmu106
                    refine lv_iload hx hb dX12_key_67 (lv_at hl 5 rfl) ?_
                    refine lv_iload_n hx hb dX12_key_69 rfl (lv_at hl 3 rfl) ?_
                    refine lv_iload_n hx hb dX12_key_70 rfl (lv_at hl 2 rfl) ?_
                    refine lv_isub hx hb dX12_key_71 ?_
                    refine W.eq (g2 := F0 m 72 ls [.int 4, .int (nI i_106)]) rfl ?_
                    refine lv_icmp_ge (tgt := 116) hx hb dX12_key_72 (by decide) (fun c107 => ?_) (fun c107 => ?_)
                    · have c107 := (b_le (show Int32.toInt 4 = 4 from rfl) (nI_toInt (n := i_106) (by omega))).mp c107
                      refine lv_iload hx hb dX12_key_116 (lv_at hl 4 rfl) ?_
                      refine lv_if_eq (tgt := 123) hx hb dX12_key_118 (by decide) (fun c108 => ?_) (fun c108 => ?_)
                      · have c108 := (b_eq (rfl : Int32.toInt x1_106 = _) (show Int32.toInt 0 = 0 from rfl)).mp c108
                        refine lv_iinc (v := 3) (lv' := [(1, .int 3), (0, .ref (b 0)), (2, .int 13), (3, .int 17), (4, .int x1_106), (5, .int (nI i_106))]) hx hb dX12_key_123 hl (k := 1) rfl (by decide) (by decide) rfl (fun ls hl => ?_)
                        refine lv_iload_n hx hb dX12_key_126 rfl (lv_at hl 3 rfl) ?_
                        refine lv_iconst (v := 1) hx hb dX12_key_127 (by decide) ?_
                        refine lv_iadd hx hb dX12_key_128 ?_
                        refine W.eq (g2 := F0 m 129 ls [.int 18]) rfl ?_
                        refine lv_istore_n (lv' := [(2, .int 18), (1, .int 3), (0, .ref (b 0)), (3, .int 17), (4, .int x1_106), (5, .int (nI i_106))]) hx hb dX12_key_129 rfl hl (by decide) rfl (fun ls hl => ?_)
                        refine lv_goto (tgt := 14) hx hb dX12_key_130 (by decide) ?_
                        refine lv_iload_n hx hb dX12_key_14 rfl (lv_at hl 0 rfl) ?_
                        refine va_ldcS hx hb hown hZ dX12_key_15 ?_
                        refine vp_callSi (va_Run.run (va_runV (As := []) (rest := [.int 18]) ⟨hx, hb, hml, hown, noTs⟩ (s_J0_length l adK adV 3 (by decide)) ⟨cbE 0 (wd_488 hE) (wd_129 hE) (wd_1527 hE) rfl rfl (by decide +kernel) ⟨Nat.le_of_ble_eq_true rfl, Nat.le_of_ble_eq_true rfl⟩, (wd_486 hE), (wd_487 hE)⟩ ⟨PS.blind, vk_recv hX.1 (by decide) hS, ps_pre (av := [.ref (adK 3)]) hX hS hE⟩ rfl rfl hl.1 rfl (lv_room (Nat.le_of_ble_eq_true rfl)) dX12_key_17 ⟨Nat.le_of_ble_eq_true rfl, Nat.le_of_ble_eq_true rfl⟩)) (fun r109 hr109 => ?_)
                        have hr109 : r109 = 18 := hr109
                        subst hr109
                        refine lv_icmp_ge (tgt := 133) hx hb dX12_key_20 (by decide) (fun c110 => ?_) (fun c110 => absurd c110 (by decide))
                        refine lv_iconst (v := -1) hx hb dX12_key_133 (by decide) ?_
                        exact W.iret (v := -1) hx hb hr (fun t ht hW => ⟨-1, rfl, trivial, ht⟩) (fun _ h => absurd h List.not_mem_nil) dX12_key_134
                      · have c108 := mt (b_eq (rfl : Int32.toInt x1_106 = _) (show Int32.toInt 0 = 0 from rfl)).mpr c108
                        refine lv_iload_n hx hb dX12_key_121 rfl (lv_at hl 1 rfl) ?_
                        exact W.iret (v := 2) hx hb hr (fun t ht hW => ⟨2, rfl, trivial, ht⟩) (fun _ h => absurd h List.not_mem_nil) dX12_key_122
                    · have c107 := mt (b_le (show Int32.toInt 4 = 4 from rfl) (nI_toInt (n := i_106) (by omega))).mpr c107
                      refine lv_iload hx hb dX12_key_75 (lv_at hl 4 rfl) ?_
                      refine lv_if_eq (tgt := 116) hx hb dX12_key_77 (by decide) (fun c111 => ?_) (fun c111 => ?_)
                      · have c111 := (b_eq (rfl : Int32.toInt x1_106 = _) (show Int32.toInt 0 = 0 from rfl)).mp c111
                        refine lv_iload hx hb dX12_key_116 (lv_at hl 4 rfl) ?_
                        refine lv_if_eq (tgt := 123) hx hb dX12_key_118 (by decide) (fun c112 => ?_) (fun c112 => ?_)
                        · have c112 := (b_eq (rfl : Int32.toInt x1_106 = _) (show Int32.toInt 0 = 0 from rfl)).mp c112
                          refine lv_iinc (v := 3) (lv' := [(1, .int 3), (0, .ref (b 0)), (2, .int 13), (3, .int 17), (4, .int x1_106), (5, .int (nI i_106))]) hx hb dX12_key_123 hl (k := 1) rfl (by decide) (by decide) rfl (fun ls hl => ?_)
                          refine lv_iload_n hx hb dX12_key_126 rfl (lv_at hl 3 rfl) ?_
                          refine lv_iconst (v := 1) hx hb dX12_key_127 (by decide) ?_
                          refine lv_iadd hx hb dX12_key_128 ?_
                          refine W.eq (g2 := F0 m 129 ls [.int 18]) rfl ?_
                          refine lv_istore_n (lv' := [(2, .int 18), (1, .int 3), (0, .ref (b 0)), (3, .int 17), (4, .int x1_106), (5, .int (nI i_106))]) hx hb dX12_key_129 rfl hl (by decide) rfl (fun ls hl => ?_)
                          refine lv_goto (tgt := 14) hx hb dX12_key_130 (by decide) ?_
                          refine lv_iload_n hx hb dX12_key_14 rfl (lv_at hl 0 rfl) ?_
                          refine va_ldcS hx hb hown hZ dX12_key_15 ?_
                          refine vp_callSi (va_Run.run (va_runV (As := []) (rest := [.int 18]) ⟨hx, hb, hml, hown, noTs⟩ (s_J0_length l adK adV 3 (by decide)) ⟨cbE 0 (wd_488 hE) (wd_129 hE) (wd_1527 hE) rfl rfl (by decide +kernel) ⟨Nat.le_of_ble_eq_true rfl, Nat.le_of_ble_eq_true rfl⟩, (wd_486 hE), (wd_487 hE)⟩ ⟨PS.blind, vk_recv hX.1 (by decide) hS, ps_pre (av := [.ref (adK 3)]) hX hS hE⟩ rfl rfl hl.1 rfl (lv_room (Nat.le_of_ble_eq_true rfl)) dX12_key_17 ⟨Nat.le_of_ble_eq_true rfl, Nat.le_of_ble_eq_true rfl⟩)) (fun r113 hr113 => ?_)
                          have hr113 : r113 = 18 := hr113
                          subst hr113
                          refine lv_icmp_ge (tgt := 133) hx hb dX12_key_20 (by decide) (fun c114 => ?_) (fun c114 => absurd c114 (by decide))
                          refine lv_iconst (v := -1) hx hb dX12_key_133 (by decide) ?_
                          exact W.iret (v := -1) hx hb hr (fun t ht hW => ⟨-1, rfl, trivial, ht⟩) (fun _ h => absurd h List.not_mem_nil) dX12_key_134
                        · have c112 := mt (b_eq (rfl : Int32.toInt x1_106 = _) (show Int32.toInt 0 = 0 from rfl)).mpr c112
                          refine lv_iload_n hx hb dX12_key_121 rfl (lv_at hl 1 rfl) ?_
                          exact W.iret (v := 2) hx hb hr (fun t ht hW => ⟨2, rfl, trivial, ht⟩) (fun _ h => absurd h List.not_mem_nil) dX12_key_122
                      · have c111 := mt (b_eq (rfl : Int32.toInt x1_106 = _) (show Int32.toInt 0 = 0 from rfl)).mpr c111
                        refine va_ldcS hx hb hown hZ dX12_key_80 ?_
                        refine lv_iload_n hx hb dX12_key_82 rfl (lv_at hl 2 rfl) ?_
                        refine lv_iload hx hb dX12_key_83 (lv_at hl 5 rfl) ?_
                        refine lv_iadd hx hb dX12_key_85 ?_
                        refine W.eq (g2 := F0 m 86 ls [.int (nI (13 + i_106)), .ref (adK 3)]) (congrArg (fun z : Int32 => F0 m 86 ls (.int z :: [.ref (adK 3)])) (nI_add 13 i_106)) ?_
                        refine vp_callSi (va_Run.run (va_runV (As := [.int (nI (13 + i_106))]) (rest := []) ⟨hx, hb, hml, hown, noTs⟩ (s_J0_charAt l adK adV 3 (13 + i_106) (by decide) (by show _ < 18; omega)) ⟨cbE 1 (wd_498 hE) (wd_129 hE) (wd_1528 hE) rfl rfl (by decide +kernel) ⟨Nat.le_of_ble_eq_true rfl, Nat.le_of_ble_eq_true rfl⟩, (wd_496 hE), (wd_497 hE)⟩ ⟨PS.blind, vk_recv hX.1 (by decide) hS, ps_pre (av := [.ref (adK 3), .int (nI (13 + i_106))]) hX hS hE⟩ rfl rfl hl.1 rfl (lv_room (Nat.le_of_ble_eq_true rfl)) dX12_key_86 ⟨Nat.le_of_ble_eq_true rfl, Nat.le_of_ble_eq_true rfl⟩)) (fun r115 hr115 => ?_)
                        refine lv_aload_n hx hb dX12_key_89 rfl (lv_at hl 0 rfl) ?_
                        refine lv_aload_n hx hb dX12_key_90 rfl (lv_at hl 0 rfl) ?_
                        refine r_get (v := .int (nI (fN u 13))) hx hb (ly_X12 hE) hown hK hP rfl 13 (by decide) (wd_1394 hE) (fun _ h9 => h9) (congrArg (fun z : Int32 => some (Value.int z)) hp0.1) dX12_key_91 ?_
                        refine lv_iload hx hb dX12_key_94 (lv_at hl 5 rfl) ?_
                        refine lv_iadd hx hb dX12_key_96 ?_
                        refine W.eq (g2 := F0 m 97 ls [.int (nI ((fN u 13) + i_106)), .ref (b 0), .int r115]) (congrArg (fun z : Int32 => F0 m 97 ls (.int z :: [.ref (b 0), .int r115])) (nI_add (fN u 13) i_106)) ?_
                        refine vp_callSi (va_Run.run (va_runV (As := [.int (nI ((fN u 13) + i_106))]) (rest := [.int r115]) ⟨hx, hb, hml, hown, noTs⟩ (r_X12_byteAt l dC dI s.heap.size cs b u tx hAc16 ((fN u 13) + i_106) sz1 hF11 (by first | assumption | omega | rfl | (congr 1; omega)) (by first | assumption | omega | rfl | (congr 1; omega))) ⟨cbE 1 (wd_1510 hE) (wd_126 hE) (wd_1507 hE) rfl rfl (by decide +kernel) ⟨Nat.le_of_ble_eq_true rfl, Nat.le_of_ble_eq_true rfl⟩, (wd_1509 hE), (wd_57 hE)⟩ ⟨PR.blind, r_recv hK hP rfl, (r_pre (av := [.ref (b 0), .int (nI ((fN u 13) + i_106))]) hK hP hJ hE)⟩ rfl rfl hl.1 rfl (lv_room (Nat.le_of_ble_eq_true rfl)) dX12_key_97 ⟨Nat.le_of_ble_eq_true rfl, Nat.le_of_ble_eq_true rfl⟩)) (fun r116 hr116 => ?_)
                        subst hr116
                        have htf116 := bA_f tx sz1 ((fN u 13) + i_106)
                        refine lv_icmp_ne (tgt := 107) hx hb dX12_key_100 (by decide) (fun c117 => ?_) (fun c117 => ?_)
                        · have c117 := mt (b_eq (rfl : Int32.toInt r115 = _) (rfl : Int32.toInt (bA tx sz1 ((fN u 13) + i_106)) = _)).mpr c117
                          refine lv_iconst (v := 0) hx hb dX12_key_107 (by decide) ?_
                          refine lv_istore (lv' := [(4, .int 0), (0, .ref (b 0)), (1, .int 2), (2, .int 13), (3, .int 17), (5, .int (nI i_106))]) hx hb dX12_key_108 hl (by decide) rfl (fun ls hl => ?_)
                          refine lv_iinc (v := nI (i_106 + 1)) (lv' := [(5, .int (nI (i_106 + 1))), (4, .int 0), (0, .ref (b 0)), (1, .int 2), (2, .int 13), (3, .int 17)]) hx hb dX12_key_110 hl (k := 5) rfl (nI_1 i_106) (by decide) rfl (fun ls hl => ?_)
                          refine lv_goto (tgt := 67) hx hb dX12_key_113 (by decide) ?_
                          exact ih106 _ _ (by omega) ⟨(i_106 + 1), 0, rfl, (by first | assumption | omega | rfl | (congr 1; omega)), lv_sub hl [2, 3, 4, 5, 1, 0] rfl⟩
                        · have c117 := (b_eq (rfl : Int32.toInt r115 = _) (rfl : Int32.toInt (bA tx sz1 ((fN u 13) + i_106)) = _)).mp c117
                          refine lv_iconst (v := 1) hx hb dX12_key_103 (by decide) ?_
                          refine lv_goto (tgt := 108) hx hb dX12_key_104 (by decide) ?_
                          refine lv_istore (lv' := [(4, .int 1), (0, .ref (b 0)), (1, .int 2), (2, .int 13), (3, .int 17), (5, .int (nI i_106))]) hx hb dX12_key_108 hl (by decide) rfl (fun ls hl => ?_)
                          refine lv_iinc (v := nI (i_106 + 1)) (lv' := [(5, .int (nI (i_106 + 1))), (4, .int 1), (0, .ref (b 0)), (1, .int 2), (2, .int 13), (3, .int 17)]) hx hb dX12_key_110 hl (k := 5) rfl (nI_1 i_106) (by decide) rfl (fun ls hl => ?_)
                          refine lv_goto (tgt := 67) hx hb dX12_key_113 (by decide) ?_
                          exact ih106 _ _ (by omega) ⟨(i_106 + 1), 1, rfl, (by first | assumption | omega | rfl | (congr 1; omega)), lv_sub hl [2, 3, 4, 5, 1, 0] rfl⟩
                · have c80 := mt (b_eq (rfl : Int32.toInt x1_39 = _) (show Int32.toInt 0 = 0 from rfl)).mpr c80
                  refine lv_iload_n hx hb dX12_key_121 rfl (lv_at hl 1 rfl) ?_
                  exact W.iret (v := 1) hx hb hr (fun t ht hW => ⟨1, rfl, trivial, ht⟩) (fun _ h => absurd h List.not_mem_nil) dX12_key_122
              · have c79 := mt (b_eq (rfl : Int32.toInt x1_39 = _) (show Int32.toInt 0 = 0 from rfl)).mpr c79
                refine va_ldcS hx hb hown hZ dX12_key_80 ?_
                refine lv_iload_n hx hb dX12_key_82 rfl (lv_at hl 2 rfl) ?_
                refine lv_iload hx hb dX12_key_83 (lv_at hl 5 rfl) ?_
                refine lv_iadd hx hb dX12_key_85 ?_
                refine W.eq (g2 := F0 m 86 ls [.int (nI (8 + i_39)), .ref (adK 3)]) (congrArg (fun z : Int32 => F0 m 86 ls (.int z :: [.ref (adK 3)])) (nI_add 8 i_39)) ?_
                refine vp_callSi (va_Run.run (va_runV (As := [.int (nI (8 + i_39))]) (rest := []) ⟨hx, hb, hml, hown, noTs⟩ (s_J0_charAt l adK adV 3 (8 + i_39) (by decide) (by show _ < 18; omega)) ⟨cbE 1 (wd_498 hE) (wd_129 hE) (wd_1528 hE) rfl rfl (by decide +kernel) ⟨Nat.le_of_ble_eq_true rfl, Nat.le_of_ble_eq_true rfl⟩, (wd_496 hE), (wd_497 hE)⟩ ⟨PS.blind, vk_recv hX.1 (by decide) hS, ps_pre (av := [.ref (adK 3), .int (nI (8 + i_39))]) hX hS hE⟩ rfl rfl hl.1 rfl (lv_room (Nat.le_of_ble_eq_true rfl)) dX12_key_86 ⟨Nat.le_of_ble_eq_true rfl, Nat.le_of_ble_eq_true rfl⟩)) (fun r118 hr118 => ?_)
                refine lv_aload_n hx hb dX12_key_89 rfl (lv_at hl 0 rfl) ?_
                refine lv_aload_n hx hb dX12_key_90 rfl (lv_at hl 0 rfl) ?_
                refine r_get (v := .int (nI (fN u 13))) hx hb (ly_X12 hE) hown hK hP rfl 13 (by decide) (wd_1394 hE) (fun _ h9 => h9) (congrArg (fun z : Int32 => some (Value.int z)) hp0.1) dX12_key_91 ?_
                refine lv_iload hx hb dX12_key_94 (lv_at hl 5 rfl) ?_
                refine lv_iadd hx hb dX12_key_96 ?_
                refine W.eq (g2 := F0 m 97 ls [.int (nI ((fN u 13) + i_39)), .ref (b 0), .int r118]) (congrArg (fun z : Int32 => F0 m 97 ls (.int z :: [.ref (b 0), .int r118])) (nI_add (fN u 13) i_39)) ?_
                refine vp_callSi (va_Run.run (va_runV (As := [.int (nI ((fN u 13) + i_39))]) (rest := [.int r118]) ⟨hx, hb, hml, hown, noTs⟩ (r_X12_byteAt l dC dI s.heap.size cs b u tx hAc16 ((fN u 13) + i_39) sz1 hF11 (by first | assumption | omega | rfl | (congr 1; omega)) (by first | assumption | omega | rfl | (congr 1; omega))) ⟨cbE 1 (wd_1510 hE) (wd_126 hE) (wd_1507 hE) rfl rfl (by decide +kernel) ⟨Nat.le_of_ble_eq_true rfl, Nat.le_of_ble_eq_true rfl⟩, (wd_1509 hE), (wd_57 hE)⟩ ⟨PR.blind, r_recv hK hP rfl, (r_pre (av := [.ref (b 0), .int (nI ((fN u 13) + i_39))]) hK hP hJ hE)⟩ rfl rfl hl.1 rfl (lv_room (Nat.le_of_ble_eq_true rfl)) dX12_key_97 ⟨Nat.le_of_ble_eq_true rfl, Nat.le_of_ble_eq_true rfl⟩)) (fun r119 hr119 => ?_)
                subst hr119
                have htf119 := bA_f tx sz1 ((fN u 13) + i_39)
                refine lv_icmp_ne (tgt := 107) hx hb dX12_key_100 (by decide) (fun c120 => ?_) (fun c120 => ?_)
                · have c120 := mt (b_eq (rfl : Int32.toInt r118 = _) (rfl : Int32.toInt (bA tx sz1 ((fN u 13) + i_39)) = _)).mpr c120
                  refine lv_iconst (v := 0) hx hb dX12_key_107 (by decide) ?_
                  refine lv_istore (lv' := [(4, .int 0), (0, .ref (b 0)), (1, .int 1), (2, .int 8), (3, .int 12), (5, .int (nI i_39))]) hx hb dX12_key_108 hl (by decide) rfl (fun ls hl => ?_)
                  refine lv_iinc (v := nI (i_39 + 1)) (lv' := [(5, .int (nI (i_39 + 1))), (4, .int 0), (0, .ref (b 0)), (1, .int 1), (2, .int 8), (3, .int 12)]) hx hb dX12_key_110 hl (k := 5) rfl (nI_1 i_39) (by decide) rfl (fun ls hl => ?_)
                  refine lv_goto (tgt := 67) hx hb dX12_key_113 (by decide) ?_
                  exact ih39 _ _ (by omega) ⟨(i_39 + 1), 0, rfl, (by first | assumption | omega | rfl | (congr 1; omega)), lv_sub hl [2, 3, 4, 5, 1, 0] rfl⟩
                · have c120 := (b_eq (rfl : Int32.toInt r118 = _) (rfl : Int32.toInt (bA tx sz1 ((fN u 13) + i_39)) = _)).mp c120
                  refine lv_iconst (v := 1) hx hb dX12_key_103 (by decide) ?_
                  refine lv_goto (tgt := 108) hx hb dX12_key_104 (by decide) ?_
                  refine lv_istore (lv' := [(4, .int 1), (0, .ref (b 0)), (1, .int 1), (2, .int 8), (3, .int 12), (5, .int (nI i_39))]) hx hb dX12_key_108 hl (by decide) rfl (fun ls hl => ?_)
                  refine lv_iinc (v := nI (i_39 + 1)) (lv' := [(5, .int (nI (i_39 + 1))), (4, .int 1), (0, .ref (b 0)), (1, .int 1), (2, .int 8), (3, .int 12)]) hx hb dX12_key_110 hl (k := 5) rfl (nI_1 i_39) (by decide) rfl (fun ls hl => ?_)
                  refine lv_goto (tgt := 67) hx hb dX12_key_113 (by decide) ?_
                  exact ih39 _ _ (by omega) ⟨(i_39 + 1), 1, rfl, (by first | assumption | omega | rfl | (congr 1; omega)), lv_sub hl [2, 3, 4, 5, 1, 0] rfl⟩
          · have c38 := (b_eq (show Int32.toInt 4 = 4 from rfl) (nI_toInt (n := (fN u 14) - (fN u 13)) (by omega))).mp c38
            refine lv_iconst (v := 1) hx hb dX12_key_57 (by decide) ?_
            refine lv_goto (tgt := 62) hx hb dX12_key_58 (by decide) ?_
            refine lv_istore (lv' := [(4, .int 1), (3, .int 12), (2, .int 8), (1, .int 1), (0, .ref (b 0)), (5, .int (nI i_23))]) hx hb dX12_key_62 hl (by decide) rfl (fun ls hl => ?_)
            refine lv_iconst (v := 0) hx hb dX12_key_64 (by decide) ?_
            refine lv_istore (lv' := [(5, .int 0), (4, .int 1), (3, .int 12), (2, .int 8), (1, .int 1), (0, .ref (b 0))]) hx hb dX12_key_65 hl (by decide) rfl (fun ls hl => ?_)
            refine r_indP (I := fun n ls => ∃ (i_121 : Nat) (x1_121 : Int32), n = 12 - 8 - i_121 ∧ (i_121 ≤ 12 - 8) ∧ lv_has ls 6 [(0, .ref (b 0)), (1, .int 1), (2, .int 8), (3, .int 12), (4, .int x1_121), (5, .int (nI i_121))]) (fun n ls hI ih121 => ?_) _ _ ⟨0, 1, rfl, (by first | assumption | omega | rfl | (congr 1; omega)), lv_sub hl [5, 4, 3, 2, 1, 0] rfl⟩
            obtain ⟨i_121, x1_121, hmu121, hL121_0, hl⟩ := hI
            subst hmu121
            refine lv_iload hx hb dX12_key_67 (lv_at hl 5 rfl) ?_
            refine lv_iload_n hx hb dX12_key_69 rfl (lv_at hl 3 rfl) ?_
            refine lv_iload_n hx hb dX12_key_70 rfl (lv_at hl 2 rfl) ?_
            refine lv_isub hx hb dX12_key_71 ?_
            refine W.eq (g2 := F0 m 72 ls [.int 4, .int (nI i_121)]) rfl ?_
            refine lv_icmp_ge (tgt := 116) hx hb dX12_key_72 (by decide) (fun c122 => ?_) (fun c122 => ?_)
            · have c122 := (b_le (show Int32.toInt 4 = 4 from rfl) (nI_toInt (n := i_121) (by omega))).mp c122
              refine lv_iload hx hb dX12_key_116 (lv_at hl 4 rfl) ?_
              refine lv_if_eq (tgt := 123) hx hb dX12_key_118 (by decide) (fun c123 => ?_) (fun c123 => ?_)
              · have c123 := (b_eq (rfl : Int32.toInt x1_121 = _) (show Int32.toInt 0 = 0 from rfl)).mp c123
                refine lv_iinc (v := 2) (lv' := [(1, .int 2), (0, .ref (b 0)), (2, .int 8), (3, .int 12), (4, .int x1_121), (5, .int (nI i_121))]) hx hb dX12_key_123 hl (k := 1) rfl (by decide) (by decide) rfl (fun ls hl => ?_)
                refine lv_iload_n hx hb dX12_key_126 rfl (lv_at hl 3 rfl) ?_
                refine lv_iconst (v := 1) hx hb dX12_key_127 (by decide) ?_
                refine lv_iadd hx hb dX12_key_128 ?_
                refine W.eq (g2 := F0 m 129 ls [.int 13]) rfl ?_
                refine lv_istore_n (lv' := [(2, .int 13), (1, .int 2), (0, .ref (b 0)), (3, .int 12), (4, .int x1_121), (5, .int (nI i_121))]) hx hb dX12_key_129 rfl hl (by decide) rfl (fun ls hl => ?_)
                refine lv_goto (tgt := 14) hx hb dX12_key_130 (by decide) ?_
                refine lv_iload_n hx hb dX12_key_14 rfl (lv_at hl 0 rfl) ?_
                refine va_ldcS hx hb hown hZ dX12_key_15 ?_
                refine vp_callSi (va_Run.run (va_runV (As := []) (rest := [.int 13]) ⟨hx, hb, hml, hown, noTs⟩ (s_J0_length l adK adV 3 (by decide)) ⟨cbE 0 (wd_488 hE) (wd_129 hE) (wd_1527 hE) rfl rfl (by decide +kernel) ⟨Nat.le_of_ble_eq_true rfl, Nat.le_of_ble_eq_true rfl⟩, (wd_486 hE), (wd_487 hE)⟩ ⟨PS.blind, vk_recv hX.1 (by decide) hS, ps_pre (av := [.ref (adK 3)]) hX hS hE⟩ rfl rfl hl.1 rfl (lv_room (Nat.le_of_ble_eq_true rfl)) dX12_key_17 ⟨Nat.le_of_ble_eq_true rfl, Nat.le_of_ble_eq_true rfl⟩)) (fun r124 hr124 => ?_)
                have hr124 : r124 = 18 := hr124
                subst hr124
                refine lv_icmp_ge (tgt := 133) hx hb dX12_key_20 (by decide) (fun c125 => absurd c125 (by decide)) (fun c125 => ?_)
                refine lv_iload_n hx hb dX12_key_23 rfl (lv_at hl 0 rfl) ?_
                refine lv_istore_n (lv' := [(3, .int 13), (2, .int 13), (1, .int 2), (0, .ref (b 0)), (4, .int x1_121), (5, .int (nI i_121))]) hx hb dX12_key_24 rfl hl (by decide) rfl (fun ls hl => ?_)
                refine va_ldcS hx hb hown hZ dX12_key_25 ?_
                refine lv_iload_n hx hb dX12_key_27 rfl (lv_at hl 0 rfl) ?_
                refine vp_callSi (va_Run.run (va_runV (As := [.int (nI 13)]) (rest := []) ⟨hx, hb, hml, hown, noTs⟩ (s_J0_charAt l adK adV 3 13 (by decide) (by show _ < 18; omega)) ⟨cbE 1 (wd_498 hE) (wd_129 hE) (wd_1528 hE) rfl rfl (by decide +kernel) ⟨Nat.le_of_ble_eq_true rfl, Nat.le_of_ble_eq_true rfl⟩, (wd_496 hE), (wd_497 hE)⟩ ⟨PS.blind, vk_recv hX.1 (by decide) hS, ps_pre (av := [.ref (adK 3), .int (nI 13)]) hX hS hE⟩ rfl rfl hl.1 rfl (lv_room (Nat.le_of_ble_eq_true rfl)) dX12_key_28 ⟨Nat.le_of_ble_eq_true rfl, Nat.le_of_ble_eq_true rfl⟩)) (fun r126 hr126 => ?_)
                have hr126 : r126 = 119 := hr126.trans (by decide)
                subst hr126
                refine lv_bipush (v := 32) hx hb dX12_key_31 (by decide) ?_
                refine lv_icmp_eq (tgt := 42) hx hb dX12_key_33 (by decide) (fun c127 => absurd c127 (by decide)) (fun c127 => ?_)
                refine lv_iinc (v := 14) (lv' := [(3, .int 14), (2, .int 13), (1, .int 2), (0, .ref (b 0)), (4, .int x1_121), (5, .int (nI i_121))]) hx hb dX12_key_36 hl (k := 0) rfl (by decide) (by decide) rfl (fun ls hl => ?_)
                refine lv_goto (tgt := 25) hx hb dX12_key_39 (by decide) ?_
                refine va_ldcS hx hb hown hZ dX12_key_25 ?_
                refine lv_iload_n hx hb dX12_key_27 rfl (lv_at hl 0 rfl) ?_
                refine vp_callSi (va_Run.run (va_runV (As := [.int (nI 14)]) (rest := []) ⟨hx, hb, hml, hown, noTs⟩ (s_J0_charAt l adK adV 3 14 (by decide) (by show _ < 18; omega)) ⟨cbE 1 (wd_498 hE) (wd_129 hE) (wd_1528 hE) rfl rfl (by decide +kernel) ⟨Nat.le_of_ble_eq_true rfl, Nat.le_of_ble_eq_true rfl⟩, (wd_496 hE), (wd_497 hE)⟩ ⟨PS.blind, vk_recv hX.1 (by decide) hS, ps_pre (av := [.ref (adK 3), .int (nI 14)]) hX hS hE⟩ rfl rfl hl.1 rfl (lv_room (Nat.le_of_ble_eq_true rfl)) dX12_key_28 ⟨Nat.le_of_ble_eq_true rfl, Nat.le_of_ble_eq_true rfl⟩)) (fun r128 hr128 => ?_)
                have hr128 : r128 = 111 := hr128.trans (by decide)
                subst hr128
                refine lv_bipush (v := 32) hx hb dX12_key_31 (by decide) ?_
                refine lv_icmp_eq (tgt := 42) hx hb dX12_key_33 (by decide) (fun c129 => absurd c129 (by decide)) (fun c129 => ?_)
                refine lv_iinc (v := 15) (lv' := [(3, .int 15), (2, .int 13), (1, .int 2), (0, .ref (b 0)), (4, .int x1_121), (5, .int (nI i_121))]) hx hb dX12_key_36 hl (k := 0) rfl (by decide) (by decide) rfl (fun ls hl => ?_)
                refine lv_goto (tgt := 25) hx hb dX12_key_39 (by decide) ?_
                refine va_ldcS hx hb hown hZ dX12_key_25 ?_
                refine lv_iload_n hx hb dX12_key_27 rfl (lv_at hl 0 rfl) ?_
                refine vp_callSi (va_Run.run (va_runV (As := [.int (nI 15)]) (rest := []) ⟨hx, hb, hml, hown, noTs⟩ (s_J0_charAt l adK adV 3 15 (by decide) (by show _ < 18; omega)) ⟨cbE 1 (wd_498 hE) (wd_129 hE) (wd_1528 hE) rfl rfl (by decide +kernel) ⟨Nat.le_of_ble_eq_true rfl, Nat.le_of_ble_eq_true rfl⟩, (wd_496 hE), (wd_497 hE)⟩ ⟨PS.blind, vk_recv hX.1 (by decide) hS, ps_pre (av := [.ref (adK 3), .int (nI 15)]) hX hS hE⟩ rfl rfl hl.1 rfl (lv_room (Nat.le_of_ble_eq_true rfl)) dX12_key_28 ⟨Nat.le_of_ble_eq_true rfl, Nat.le_of_ble_eq_true rfl⟩)) (fun r130 hr130 => ?_)
                have hr130 : r130 = 114 := hr130.trans (by decide)
                subst hr130
                refine lv_bipush (v := 32) hx hb dX12_key_31 (by decide) ?_
                refine lv_icmp_eq (tgt := 42) hx hb dX12_key_33 (by decide) (fun c131 => absurd c131 (by decide)) (fun c131 => ?_)
                refine lv_iinc (v := 16) (lv' := [(3, .int 16), (2, .int 13), (1, .int 2), (0, .ref (b 0)), (4, .int x1_121), (5, .int (nI i_121))]) hx hb dX12_key_36 hl (k := 0) rfl (by decide) (by decide) rfl (fun ls hl => ?_)
                refine lv_goto (tgt := 25) hx hb dX12_key_39 (by decide) ?_
                refine va_ldcS hx hb hown hZ dX12_key_25 ?_
                refine lv_iload_n hx hb dX12_key_27 rfl (lv_at hl 0 rfl) ?_
                refine vp_callSi (va_Run.run (va_runV (As := [.int (nI 16)]) (rest := []) ⟨hx, hb, hml, hown, noTs⟩ (s_J0_charAt l adK adV 3 16 (by decide) (by show _ < 18; omega)) ⟨cbE 1 (wd_498 hE) (wd_129 hE) (wd_1528 hE) rfl rfl (by decide +kernel) ⟨Nat.le_of_ble_eq_true rfl, Nat.le_of_ble_eq_true rfl⟩, (wd_496 hE), (wd_497 hE)⟩ ⟨PS.blind, vk_recv hX.1 (by decide) hS, ps_pre (av := [.ref (adK 3), .int (nI 16)]) hX hS hE⟩ rfl rfl hl.1 rfl (lv_room (Nat.le_of_ble_eq_true rfl)) dX12_key_28 ⟨Nat.le_of_ble_eq_true rfl, Nat.le_of_ble_eq_true rfl⟩)) (fun r132 hr132 => ?_)
                have hr132 : r132 = 100 := hr132.trans (by decide)
                subst hr132
                refine lv_bipush (v := 32) hx hb dX12_key_31 (by decide) ?_
                refine lv_icmp_eq (tgt := 42) hx hb dX12_key_33 (by decide) (fun c133 => absurd c133 (by decide)) (fun c133 => ?_)
                refine lv_iinc (v := 17) (lv' := [(3, .int 17), (2, .int 13), (1, .int 2), (0, .ref (b 0)), (4, .int x1_121), (5, .int (nI i_121))]) hx hb dX12_key_36 hl (k := 0) rfl (by decide) (by decide) rfl (fun ls hl => ?_)
                refine lv_goto (tgt := 25) hx hb dX12_key_39 (by decide) ?_
                refine va_ldcS hx hb hown hZ dX12_key_25 ?_
                refine lv_iload_n hx hb dX12_key_27 rfl (lv_at hl 0 rfl) ?_
                refine vp_callSi (va_Run.run (va_runV (As := [.int (nI 17)]) (rest := []) ⟨hx, hb, hml, hown, noTs⟩ (s_J0_charAt l adK adV 3 17 (by decide) (by show _ < 18; omega)) ⟨cbE 1 (wd_498 hE) (wd_129 hE) (wd_1528 hE) rfl rfl (by decide +kernel) ⟨Nat.le_of_ble_eq_true rfl, Nat.le_of_ble_eq_true rfl⟩, (wd_496 hE), (wd_497 hE)⟩ ⟨PS.blind, vk_recv hX.1 (by decide) hS, ps_pre (av := [.ref (adK 3), .int (nI 17)]) hX hS hE⟩ rfl rfl hl.1 rfl (lv_room (Nat.le_of_ble_eq_true rfl)) dX12_key_28 ⟨Nat.le_of_ble_eq_true rfl, Nat.le_of_ble_eq_true rfl⟩)) (fun r134 hr134 => ?_)
                have hr134 : r134 = 32 := hr134.trans (by decide)
                subst hr134
                refine lv_bipush (v := 32) hx hb dX12_key_31 (by decide) ?_
                refine lv_icmp_eq (tgt := 42) hx hb dX12_key_33 (by decide) (fun c135 => ?_) (fun c135 => absurd c135 (by decide))
                refine lv_iload_n hx hb dX12_key_42 rfl (lv_at hl 0 rfl) ?_
                refine lv_iload_n hx hb dX12_key_43 rfl (lv_at hl 1 rfl) ?_
                refine lv_isub hx hb dX12_key_44 ?_
                refine W.eq (g2 := F0 m 45 ls [.int 4]) rfl ?_
                refine lv_aload_n hx hb dX12_key_45 rfl (lv_at hl 3 rfl) ?_
                refine r_get (v := .int (nI (fN u 14))) hx hb (ly_X12 hE) hown hK hP rfl 14 (by decide) (wd_1395 hE) (fun _ h9 => h9) (congrArg (fun z : Int32 => some (Value.int z)) hp0.2.1) dX12_key_46 ?_
                refine lv_aload_n hx hb dX12_key_49 rfl (lv_at hl 3 rfl) ?_
                refine r_get (v := .int (nI (fN u 13))) hx hb (ly_X12 hE) hown hK hP rfl 13 (by decide) (wd_1394 hE) (fun _ h9 => h9) (congrArg (fun z : Int32 => some (Value.int z)) hp0.1) dX12_key_50 ?_
                refine lv_isub hx hb dX12_key_53 ?_
                refine W.eq (g2 := F0 m 54 ls [.int (nI ((fN u 14) - (fN u 13))), .int 4]) (congrArg (fun z : Int32 => F0 m 54 ls (.int z :: [.int 4])) (pk_sub (a := fN u 14) (b := fN u 13) (by omega))) ?_
                refine lv_icmp_ne (tgt := 61) hx hb dX12_key_54 (by decide) (fun c136 => ?_) (fun c136 => ?_)
                · have c136 := mt (b_eq (show Int32.toInt 4 = 4 from rfl) (nI_toInt (n := (fN u 14) - (fN u 13)) (by omega))).mpr c136
                  refine lv_iconst (v := 0) hx hb dX12_key_61 (by decide) ?_
                  refine lv_istore (lv' := [(4, .int 0), (3, .int 17), (2, .int 13), (1, .int 2), (0, .ref (b 0)), (5, .int (nI i_121))]) hx hb dX12_key_62 hl (by decide) rfl (fun ls hl => ?_)
                  refine lv_iconst (v := 0) hx hb dX12_key_64 (by decide) ?_
                  refine lv_istore (lv' := [(5, .int 0), (4, .int 0), (3, .int 17), (2, .int 13), (1, .int 2), (0, .ref (b 0))]) hx hb dX12_key_65 hl (by decide) rfl (fun ls hl => ?_)
                  refine r_indP (I := fun n ls => ∃ (i_137 : Nat) (x1_137 : Int32), n = 17 - 13 - i_137 ∧ (i_137 ≤ 17 - 13) ∧ lv_has ls 6 [(0, .ref (b 0)), (1, .int 2), (2, .int 13), (3, .int 17), (4, .int x1_137), (5, .int (nI i_137))]) (fun n ls hI ih137 => ?_) _ _ ⟨0, 0, rfl, (by first | assumption | omega | rfl | (congr 1; omega)), lv_sub hl [5, 4, 3, 2, 1, 0] rfl⟩
                  obtain ⟨i_137, x1_137, hmu137, hL137_0, hl⟩ := hI
                  subst hmu137
                  refine lv_iload hx hb dX12_key_67 (lv_at hl 5 rfl) ?_
                  refine lv_iload_n hx hb dX12_key_69 rfl (lv_at hl 3 rfl) ?_
                  refine lv_iload_n hx hb dX12_key_70 rfl (lv_at hl 2 rfl) ?_
                  refine lv_isub hx hb dX12_key_71 ?_
                  refine W.eq (g2 := F0 m 72 ls [.int 4, .int (nI i_137)]) rfl ?_
                  refine lv_icmp_ge (tgt := 116) hx hb dX12_key_72 (by decide) (fun c138 => ?_) (fun c138 => ?_)
                  · have c138 := (b_le (show Int32.toInt 4 = 4 from rfl) (nI_toInt (n := i_137) (by omega))).mp c138
                    refine lv_iload hx hb dX12_key_116 (lv_at hl 4 rfl) ?_
                    refine lv_if_eq (tgt := 123) hx hb dX12_key_118 (by decide) (fun c139 => ?_) (fun c139 => ?_)
                    · have c139 := (b_eq (rfl : Int32.toInt x1_137 = _) (show Int32.toInt 0 = 0 from rfl)).mp c139
                      refine lv_iinc (v := 3) (lv' := [(1, .int 3), (0, .ref (b 0)), (2, .int 13), (3, .int 17), (4, .int x1_137), (5, .int (nI i_137))]) hx hb dX12_key_123 hl (k := 1) rfl (by decide) (by decide) rfl (fun ls hl => ?_)
                      refine lv_iload_n hx hb dX12_key_126 rfl (lv_at hl 3 rfl) ?_
                      refine lv_iconst (v := 1) hx hb dX12_key_127 (by decide) ?_
                      refine lv_iadd hx hb dX12_key_128 ?_
                      refine W.eq (g2 := F0 m 129 ls [.int 18]) rfl ?_
                      refine lv_istore_n (lv' := [(2, .int 18), (1, .int 3), (0, .ref (b 0)), (3, .int 17), (4, .int x1_137), (5, .int (nI i_137))]) hx hb dX12_key_129 rfl hl (by decide) rfl (fun ls hl => ?_)
                      refine lv_goto (tgt := 14) hx hb dX12_key_130 (by decide) ?_
                      refine lv_iload_n hx hb dX12_key_14 rfl (lv_at hl 0 rfl) ?_
                      refine va_ldcS hx hb hown hZ dX12_key_15 ?_
                      refine vp_callSi (va_Run.run (va_runV (As := []) (rest := [.int 18]) ⟨hx, hb, hml, hown, noTs⟩ (s_J0_length l adK adV 3 (by decide)) ⟨cbE 0 (wd_488 hE) (wd_129 hE) (wd_1527 hE) rfl rfl (by decide +kernel) ⟨Nat.le_of_ble_eq_true rfl, Nat.le_of_ble_eq_true rfl⟩, (wd_486 hE), (wd_487 hE)⟩ ⟨PS.blind, vk_recv hX.1 (by decide) hS, ps_pre (av := [.ref (adK 3)]) hX hS hE⟩ rfl rfl hl.1 rfl (lv_room (Nat.le_of_ble_eq_true rfl)) dX12_key_17 ⟨Nat.le_of_ble_eq_true rfl, Nat.le_of_ble_eq_true rfl⟩)) (fun r140 hr140 => ?_)
                      have hr140 : r140 = 18 := hr140
                      subst hr140
                      refine lv_icmp_ge (tgt := 133) hx hb dX12_key_20 (by decide) (fun c141 => ?_) (fun c141 => absurd c141 (by decide))
                      refine lv_iconst (v := -1) hx hb dX12_key_133 (by decide) ?_
                      exact W.iret (v := -1) hx hb hr (fun t ht hW => ⟨-1, rfl, trivial, ht⟩) (fun _ h => absurd h List.not_mem_nil) dX12_key_134
                    · have c139 := mt (b_eq (rfl : Int32.toInt x1_137 = _) (show Int32.toInt 0 = 0 from rfl)).mpr c139
                      refine lv_iload_n hx hb dX12_key_121 rfl (lv_at hl 1 rfl) ?_
                      exact W.iret (v := 2) hx hb hr (fun t ht hW => ⟨2, rfl, trivial, ht⟩) (fun _ h => absurd h List.not_mem_nil) dX12_key_122
                  · have c138 := mt (b_le (show Int32.toInt 4 = 4 from rfl) (nI_toInt (n := i_137) (by omega))).mpr c138
                    refine lv_iload hx hb dX12_key_75 (lv_at hl 4 rfl) ?_
                    refine lv_if_eq (tgt := 116) hx hb dX12_key_77 (by decide) (fun c142 => ?_) (fun c142 => ?_)
                    · have c142 := (b_eq (rfl : Int32.toInt x1_137 = _) (show Int32.toInt 0 = 0 from rfl)).mp c142
                      refine lv_iload hx hb dX12_key_116 (lv_at hl 4 rfl) ?_
                      refine lv_if_eq (tgt := 123) hx hb dX12_key_118 (by decide) (fun c143 => ?_) (fun c143 => ?_)
                      · have c143 := (b_eq (rfl : Int32.toInt x1_137 = _) (show Int32.toInt 0 = 0 from rfl)).mp c143
                        refine lv_iinc (v := 3) (lv' := [(1, .int 3), (0, .ref (b 0)), (2, .int 13), (3, .int 17), (4, .int x1_137), (5, .int (nI i_137))]) hx hb dX12_key_123 hl (k := 1) rfl (by decide) (by decide) rfl (fun ls hl => ?_)
                        refine lv_iload_n hx hb dX12_key_126 rfl (lv_at hl 3 rfl) ?_
                        refine lv_iconst (v := 1) hx hb dX12_key_127 (by decide) ?_
                        refine lv_iadd hx hb dX12_key_128 ?_
                        refine W.eq (g2 := F0 m 129 ls [.int 18]) rfl ?_
                        refine lv_istore_n (lv' := [(2, .int 18), (1, .int 3), (0, .ref (b 0)), (3, .int 17), (4, .int x1_137), (5, .int (nI i_137))]) hx hb dX12_key_129 rfl hl (by decide) rfl (fun ls hl => ?_)
                        refine lv_goto (tgt := 14) hx hb dX12_key_130 (by decide) ?_
                        refine lv_iload_n hx hb dX12_key_14 rfl (lv_at hl 0 rfl) ?_
                        refine va_ldcS hx hb hown hZ dX12_key_15 ?_
                        refine vp_callSi (va_Run.run (va_runV (As := []) (rest := [.int 18]) ⟨hx, hb, hml, hown, noTs⟩ (s_J0_length l adK adV 3 (by decide)) ⟨cbE 0 (wd_488 hE) (wd_129 hE) (wd_1527 hE) rfl rfl (by decide +kernel) ⟨Nat.le_of_ble_eq_true rfl, Nat.le_of_ble_eq_true rfl⟩, (wd_486 hE), (wd_487 hE)⟩ ⟨PS.blind, vk_recv hX.1 (by decide) hS, ps_pre (av := [.ref (adK 3)]) hX hS hE⟩ rfl rfl hl.1 rfl (lv_room (Nat.le_of_ble_eq_true rfl)) dX12_key_17 ⟨Nat.le_of_ble_eq_true rfl, Nat.le_of_ble_eq_true rfl⟩)) (fun r144 hr144 => ?_)
                        have hr144 : r144 = 18 := hr144
                        subst hr144
                        refine lv_icmp_ge (tgt := 133) hx hb dX12_key_20 (by decide) (fun c145 => ?_) (fun c145 => absurd c145 (by decide))
                        refine lv_iconst (v := -1) hx hb dX12_key_133 (by decide) ?_
                        exact W.iret (v := -1) hx hb hr (fun t ht hW => ⟨-1, rfl, trivial, ht⟩) (fun _ h => absurd h List.not_mem_nil) dX12_key_134
                      · have c143 := mt (b_eq (rfl : Int32.toInt x1_137 = _) (show Int32.toInt 0 = 0 from rfl)).mpr c143
                        refine lv_iload_n hx hb dX12_key_121 rfl (lv_at hl 1 rfl) ?_
                        exact W.iret (v := 2) hx hb hr (fun t ht hW => ⟨2, rfl, trivial, ht⟩) (fun _ h => absurd h List.not_mem_nil) dX12_key_122
                    · have c142 := mt (b_eq (rfl : Int32.toInt x1_137 = _) (show Int32.toInt 0 = 0 from rfl)).mpr c142
                      refine va_ldcS hx hb hown hZ dX12_key_80 ?_
                      refine lv_iload_n hx hb dX12_key_82 rfl (lv_at hl 2 rfl) ?_
                      refine lv_iload hx hb dX12_key_83 (lv_at hl 5 rfl) ?_
                      refine lv_iadd hx hb dX12_key_85 ?_
                      refine W.eq (g2 := F0 m 86 ls [.int (nI (13 + i_137)), .ref (adK 3)]) (congrArg (fun z : Int32 => F0 m 86 ls (.int z :: [.ref (adK 3)])) (nI_add 13 i_137)) ?_
                      refine vp_callSi (va_Run.run (va_runV (As := [.int (nI (13 + i_137))]) (rest := []) ⟨hx, hb, hml, hown, noTs⟩ (s_J0_charAt l adK adV 3 (13 + i_137) (by decide) (by show _ < 18; omega)) ⟨cbE 1 (wd_498 hE) (wd_129 hE) (wd_1528 hE) rfl rfl (by decide +kernel) ⟨Nat.le_of_ble_eq_true rfl, Nat.le_of_ble_eq_true rfl⟩, (wd_496 hE), (wd_497 hE)⟩ ⟨PS.blind, vk_recv hX.1 (by decide) hS, ps_pre (av := [.ref (adK 3), .int (nI (13 + i_137))]) hX hS hE⟩ rfl rfl hl.1 rfl (lv_room (Nat.le_of_ble_eq_true rfl)) dX12_key_86 ⟨Nat.le_of_ble_eq_true rfl, Nat.le_of_ble_eq_true rfl⟩)) (fun r146 hr146 => ?_)
                      refine lv_aload_n hx hb dX12_key_89 rfl (lv_at hl 0 rfl) ?_
                      refine lv_aload_n hx hb dX12_key_90 rfl (lv_at hl 0 rfl) ?_
                      refine r_get (v := .int (nI (fN u 13))) hx hb (ly_X12 hE) hown hK hP rfl 13 (by decide) (wd_1394 hE) (fun _ h9 => h9) (congrArg (fun z : Int32 => some (Value.int z)) hp0.1) dX12_key_91 ?_
                      refine lv_iload hx hb dX12_key_94 (lv_at hl 5 rfl) ?_
                      refine lv_iadd hx hb dX12_key_96 ?_
                      refine W.eq (g2 := F0 m 97 ls [.int (nI ((fN u 13) + i_137)), .ref (b 0), .int r146]) (congrArg (fun z : Int32 => F0 m 97 ls (.int z :: [.ref (b 0), .int r146])) (nI_add (fN u 13) i_137)) ?_
                      refine vp_callSi (va_Run.run (va_runV (As := [.int (nI ((fN u 13) + i_137))]) (rest := [.int r146]) ⟨hx, hb, hml, hown, noTs⟩ (r_X12_byteAt l dC dI s.heap.size cs b u tx hAc16 ((fN u 13) + i_137) sz1 hF11 (by first | assumption | omega | rfl | (congr 1; omega)) (by first | assumption | omega | rfl | (congr 1; omega))) ⟨cbE 1 (wd_1510 hE) (wd_126 hE) (wd_1507 hE) rfl rfl (by decide +kernel) ⟨Nat.le_of_ble_eq_true rfl, Nat.le_of_ble_eq_true rfl⟩, (wd_1509 hE), (wd_57 hE)⟩ ⟨PR.blind, r_recv hK hP rfl, (r_pre (av := [.ref (b 0), .int (nI ((fN u 13) + i_137))]) hK hP hJ hE)⟩ rfl rfl hl.1 rfl (lv_room (Nat.le_of_ble_eq_true rfl)) dX12_key_97 ⟨Nat.le_of_ble_eq_true rfl, Nat.le_of_ble_eq_true rfl⟩)) (fun r147 hr147 => ?_)
                      subst hr147
                      have htf147 := bA_f tx sz1 ((fN u 13) + i_137)
                      refine lv_icmp_ne (tgt := 107) hx hb dX12_key_100 (by decide) (fun c148 => ?_) (fun c148 => ?_)
                      · have c148 := mt (b_eq (rfl : Int32.toInt r146 = _) (rfl : Int32.toInt (bA tx sz1 ((fN u 13) + i_137)) = _)).mpr c148
                        refine lv_iconst (v := 0) hx hb dX12_key_107 (by decide) ?_
                        refine lv_istore (lv' := [(4, .int 0), (0, .ref (b 0)), (1, .int 2), (2, .int 13), (3, .int 17), (5, .int (nI i_137))]) hx hb dX12_key_108 hl (by decide) rfl (fun ls hl => ?_)
                        refine lv_iinc (v := nI (i_137 + 1)) (lv' := [(5, .int (nI (i_137 + 1))), (4, .int 0), (0, .ref (b 0)), (1, .int 2), (2, .int 13), (3, .int 17)]) hx hb dX12_key_110 hl (k := 5) rfl (nI_1 i_137) (by decide) rfl (fun ls hl => ?_)
                        refine lv_goto (tgt := 67) hx hb dX12_key_113 (by decide) ?_
                        exact ih137 _ _ (by omega) ⟨(i_137 + 1), 0, rfl, (by first | assumption | omega | rfl | (congr 1; omega)), lv_sub hl [2, 3, 4, 5, 1, 0] rfl⟩
                      · have c148 := (b_eq (rfl : Int32.toInt r146 = _) (rfl : Int32.toInt (bA tx sz1 ((fN u 13) + i_137)) = _)).mp c148
                        refine lv_iconst (v := 1) hx hb dX12_key_103 (by decide) ?_
                        refine lv_goto (tgt := 108) hx hb dX12_key_104 (by decide) ?_
                        refine lv_istore (lv' := [(4, .int 1), (0, .ref (b 0)), (1, .int 2), (2, .int 13), (3, .int 17), (5, .int (nI i_137))]) hx hb dX12_key_108 hl (by decide) rfl (fun ls hl => ?_)
                        refine lv_iinc (v := nI (i_137 + 1)) (lv' := [(5, .int (nI (i_137 + 1))), (4, .int 1), (0, .ref (b 0)), (1, .int 2), (2, .int 13), (3, .int 17)]) hx hb dX12_key_110 hl (k := 5) rfl (nI_1 i_137) (by decide) rfl (fun ls hl => ?_)
                        refine lv_goto (tgt := 67) hx hb dX12_key_113 (by decide) ?_
                        exact ih137 _ _ (by omega) ⟨(i_137 + 1), 1, rfl, (by first | assumption | omega | rfl | (congr 1; omega)), lv_sub hl [2, 3, 4, 5, 1, 0] rfl⟩
                · have c136 := (b_eq (show Int32.toInt 4 = 4 from rfl) (nI_toInt (n := (fN u 14) - (fN u 13)) (by omega))).mp c136
                  refine lv_iconst (v := 1) hx hb dX12_key_57 (by decide) ?_
                  refine lv_goto (tgt := 62) hx hb dX12_key_58 (by decide) ?_
                  refine lv_istore (lv' := [(4, .int 1), (3, .int 17), (2, .int 13), (1, .int 2), (0, .ref (b 0)), (5, .int (nI i_121))]) hx hb dX12_key_62 hl (by decide) rfl (fun ls hl => ?_)
                  refine lv_iconst (v := 0) hx hb dX12_key_64 (by decide) ?_
                  refine lv_istore (lv' := [(5, .int 0), (4, .int 1), (3, .int 17), (2, .int 13), (1, .int 2), (0, .ref (b 0))]) hx hb dX12_key_65 hl (by decide) rfl (fun ls hl => ?_)
                  refine r_indP (I := fun n ls => ∃ (i_149 : Nat) (x1_149 : Int32), n = 17 - 13 - i_149 ∧ (i_149 ≤ 17 - 13) ∧ lv_has ls 6 [(0, .ref (b 0)), (1, .int 2), (2, .int 13), (3, .int 17), (4, .int x1_149), (5, .int (nI i_149))]) (fun n ls hI ih149 => ?_) _ _ ⟨0, 1, rfl, (by first | assumption | omega | rfl | (congr 1; omega)), lv_sub hl [5, 4, 3, 2, 1, 0] rfl⟩
                  obtain ⟨i_149, x1_149, hmu149, hL149_0, hl⟩ := hI
                  subst hmu149
                  refine lv_iload hx hb dX12_key_67 (lv_at hl 5 rfl) ?_
                  refine lv_iload_n hx hb dX12_key_69 rfl (lv_at hl 3 rfl) ?_
                  refine lv_iload_n hx hb dX12_key_70 rfl (lv_at hl 2 rfl) ?_
                  refine lv_isub hx hb dX12_key_71 ?_
                  refine W.eq (g2 := F0 m 72 ls [.int 4, .int (nI i_149)]) rfl ?_
                  refine lv_icmp_ge (tgt := 116) hx hb dX12_key_72 (by decide) (fun c150 => ?_) (fun c150 => ?_)
                  · have c150 := (b_le (show Int32.toInt 4 = 4 from rfl) (nI_toInt (n := i_149) (by omega))).mp c150
                    refine lv_iload hx hb dX12_key_116 (lv_at hl 4 rfl) ?_
                    refine lv_if_eq (tgt := 123) hx hb dX12_key_118 (by decide) (fun c151 => ?_) (fun c151 => ?_)
                    · have c151 := (b_eq (rfl : Int32.toInt x1_149 = _) (show Int32.toInt 0 = 0 from rfl)).mp c151
                      refine lv_iinc (v := 3) (lv' := [(1, .int 3), (0, .ref (b 0)), (2, .int 13), (3, .int 17), (4, .int x1_149), (5, .int (nI i_149))]) hx hb dX12_key_123 hl (k := 1) rfl (by decide) (by decide) rfl (fun ls hl => ?_)
                      refine lv_iload_n hx hb dX12_key_126 rfl (lv_at hl 3 rfl) ?_
                      refine lv_iconst (v := 1) hx hb dX12_key_127 (by decide) ?_
                      refine lv_iadd hx hb dX12_key_128 ?_
                      refine W.eq (g2 := F0 m 129 ls [.int 18]) rfl ?_
                      refine lv_istore_n (lv' := [(2, .int 18), (1, .int 3), (0, .ref (b 0)), (3, .int 17), (4, .int x1_149), (5, .int (nI i_149))]) hx hb dX12_key_129 rfl hl (by decide) rfl (fun ls hl => ?_)
                      refine lv_goto (tgt := 14) hx hb dX12_key_130 (by decide) ?_
                      refine lv_iload_n hx hb dX12_key_14 rfl (lv_at hl 0 rfl) ?_
                      refine va_ldcS hx hb hown hZ dX12_key_15 ?_
                      refine vp_callSi (va_Run.run (va_runV (As := []) (rest := [.int 18]) ⟨hx, hb, hml, hown, noTs⟩ (s_J0_length l adK adV 3 (by decide)) ⟨cbE 0 (wd_488 hE) (wd_129 hE) (wd_1527 hE) rfl rfl (by decide +kernel) ⟨Nat.le_of_ble_eq_true rfl, Nat.le_of_ble_eq_true rfl⟩, (wd_486 hE), (wd_487 hE)⟩ ⟨PS.blind, vk_recv hX.1 (by decide) hS, ps_pre (av := [.ref (adK 3)]) hX hS hE⟩ rfl rfl hl.1 rfl (lv_room (Nat.le_of_ble_eq_true rfl)) dX12_key_17 ⟨Nat.le_of_ble_eq_true rfl, Nat.le_of_ble_eq_true rfl⟩)) (fun r152 hr152 => ?_)
                      have hr152 : r152 = 18 := hr152
                      subst hr152
                      refine lv_icmp_ge (tgt := 133) hx hb dX12_key_20 (by decide) (fun c153 => ?_) (fun c153 => absurd c153 (by decide))
                      refine lv_iconst (v := -1) hx hb dX12_key_133 (by decide) ?_
                      exact W.iret (v := -1) hx hb hr (fun t ht hW => ⟨-1, rfl, trivial, ht⟩) (fun _ h => absurd h List.not_mem_nil) dX12_key_134
                    · have c151 := mt (b_eq (rfl : Int32.toInt x1_149 = _) (show Int32.toInt 0 = 0 from rfl)).mpr c151
                      refine lv_iload_n hx hb dX12_key_121 rfl (lv_at hl 1 rfl) ?_
                      exact W.iret (v := 2) hx hb hr (fun t ht hW => ⟨2, rfl, trivial, ht⟩) (fun _ h => absurd h List.not_mem_nil) dX12_key_122
                  · have c150 := mt (b_le (show Int32.toInt 4 = 4 from rfl) (nI_toInt (n := i_149) (by omega))).mpr c150
                    refine lv_iload hx hb dX12_key_75 (lv_at hl 4 rfl) ?_
                    refine lv_if_eq (tgt := 116) hx hb dX12_key_77 (by decide) (fun c154 => ?_) (fun c154 => ?_)
                    · have c154 := (b_eq (rfl : Int32.toInt x1_149 = _) (show Int32.toInt 0 = 0 from rfl)).mp c154
                      refine lv_iload hx hb dX12_key_116 (lv_at hl 4 rfl) ?_
                      refine lv_if_eq (tgt := 123) hx hb dX12_key_118 (by decide) (fun c155 => ?_) (fun c155 => ?_)
                      · have c155 := (b_eq (rfl : Int32.toInt x1_149 = _) (show Int32.toInt 0 = 0 from rfl)).mp c155
                        refine lv_iinc (v := 3) (lv' := [(1, .int 3), (0, .ref (b 0)), (2, .int 13), (3, .int 17), (4, .int x1_149), (5, .int (nI i_149))]) hx hb dX12_key_123 hl (k := 1) rfl (by decide) (by decide) rfl (fun ls hl => ?_)
                        refine lv_iload_n hx hb dX12_key_126 rfl (lv_at hl 3 rfl) ?_
                        refine lv_iconst (v := 1) hx hb dX12_key_127 (by decide) ?_
                        refine lv_iadd hx hb dX12_key_128 ?_
                        refine W.eq (g2 := F0 m 129 ls [.int 18]) rfl ?_
                        refine lv_istore_n (lv' := [(2, .int 18), (1, .int 3), (0, .ref (b 0)), (3, .int 17), (4, .int x1_149), (5, .int (nI i_149))]) hx hb dX12_key_129 rfl hl (by decide) rfl (fun ls hl => ?_)
                        refine lv_goto (tgt := 14) hx hb dX12_key_130 (by decide) ?_
                        refine lv_iload_n hx hb dX12_key_14 rfl (lv_at hl 0 rfl) ?_
                        refine va_ldcS hx hb hown hZ dX12_key_15 ?_
                        refine vp_callSi (va_Run.run (va_runV (As := []) (rest := [.int 18]) ⟨hx, hb, hml, hown, noTs⟩ (s_J0_length l adK adV 3 (by decide)) ⟨cbE 0 (wd_488 hE) (wd_129 hE) (wd_1527 hE) rfl rfl (by decide +kernel) ⟨Nat.le_of_ble_eq_true rfl, Nat.le_of_ble_eq_true rfl⟩, (wd_486 hE), (wd_487 hE)⟩ ⟨PS.blind, vk_recv hX.1 (by decide) hS, ps_pre (av := [.ref (adK 3)]) hX hS hE⟩ rfl rfl hl.1 rfl (lv_room (Nat.le_of_ble_eq_true rfl)) dX12_key_17 ⟨Nat.le_of_ble_eq_true rfl, Nat.le_of_ble_eq_true rfl⟩)) (fun r156 hr156 => ?_)
                        have hr156 : r156 = 18 := hr156
                        subst hr156
                        refine lv_icmp_ge (tgt := 133) hx hb dX12_key_20 (by decide) (fun c157 => ?_) (fun c157 => absurd c157 (by decide))
                        refine lv_iconst (v := -1) hx hb dX12_key_133 (by decide) ?_
                        exact W.iret (v := -1) hx hb hr (fun t ht hW => ⟨-1, rfl, trivial, ht⟩) (fun _ h => absurd h List.not_mem_nil) dX12_key_134
                      · have c155 := mt (b_eq (rfl : Int32.toInt x1_149 = _) (show Int32.toInt 0 = 0 from rfl)).mpr c155
                        refine lv_iload_n hx hb dX12_key_121 rfl (lv_at hl 1 rfl) ?_
                        exact W.iret (v := 2) hx hb hr (fun t ht hW => ⟨2, rfl, trivial, ht⟩) (fun _ h => absurd h List.not_mem_nil) dX12_key_122
                    · have c154 := mt (b_eq (rfl : Int32.toInt x1_149 = _) (show Int32.toInt 0 = 0 from rfl)).mpr c154
                      refine va_ldcS hx hb hown hZ dX12_key_80 ?_
                      refine lv_iload_n hx hb dX12_key_82 rfl (lv_at hl 2 rfl) ?_
                      refine lv_iload hx hb dX12_key_83 (lv_at hl 5 rfl) ?_
                      refine lv_iadd hx hb dX12_key_85 ?_
                      refine W.eq (g2 := F0 m 86 ls [.int (nI (13 + i_149)), .ref (adK 3)]) (congrArg (fun z : Int32 => F0 m 86 ls (.int z :: [.ref (adK 3)])) (nI_add 13 i_149)) ?_
                      refine vp_callSi (va_Run.run (va_runV (As := [.int (nI (13 + i_149))]) (rest := []) ⟨hx, hb, hml, hown, noTs⟩ (s_J0_charAt l adK adV 3 (13 + i_149) (by decide) (by show _ < 18; omega)) ⟨cbE 1 (wd_498 hE) (wd_129 hE) (wd_1528 hE) rfl rfl (by decide +kernel) ⟨Nat.le_of_ble_eq_true rfl, Nat.le_of_ble_eq_true rfl⟩, (wd_496 hE), (wd_497 hE)⟩ ⟨PS.blind, vk_recv hX.1 (by decide) hS, ps_pre (av := [.ref (adK 3), .int (nI (13 + i_149))]) hX hS hE⟩ rfl rfl hl.1 rfl (lv_room (Nat.le_of_ble_eq_true rfl)) dX12_key_86 ⟨Nat.le_of_ble_eq_true rfl, Nat.le_of_ble_eq_true rfl⟩)) (fun r158 hr158 => ?_)
                      refine lv_aload_n hx hb dX12_key_89 rfl (lv_at hl 0 rfl) ?_
                      refine lv_aload_n hx hb dX12_key_90 rfl (lv_at hl 0 rfl) ?_
                      refine r_get (v := .int (nI (fN u 13))) hx hb (ly_X12 hE) hown hK hP rfl 13 (by decide) (wd_1394 hE) (fun _ h9 => h9) (congrArg (fun z : Int32 => some (Value.int z)) hp0.1) dX12_key_91 ?_
                      refine lv_iload hx hb dX12_key_94 (lv_at hl 5 rfl) ?_
                      refine lv_iadd hx hb dX12_key_96 ?_
                      refine W.eq (g2 := F0 m 97 ls [.int (nI ((fN u 13) + i_149)), .ref (b 0), .int r158]) (congrArg (fun z : Int32 => F0 m 97 ls (.int z :: [.ref (b 0), .int r158])) (nI_add (fN u 13) i_149)) ?_
                      refine vp_callSi (va_Run.run (va_runV (As := [.int (nI ((fN u 13) + i_149))]) (rest := [.int r158]) ⟨hx, hb, hml, hown, noTs⟩ (r_X12_byteAt l dC dI s.heap.size cs b u tx hAc16 ((fN u 13) + i_149) sz1 hF11 (by first | assumption | omega | rfl | (congr 1; omega)) (by first | assumption | omega | rfl | (congr 1; omega))) ⟨cbE 1 (wd_1510 hE) (wd_126 hE) (wd_1507 hE) rfl rfl (by decide +kernel) ⟨Nat.le_of_ble_eq_true rfl, Nat.le_of_ble_eq_true rfl⟩, (wd_1509 hE), (wd_57 hE)⟩ ⟨PR.blind, r_recv hK hP rfl, (r_pre (av := [.ref (b 0), .int (nI ((fN u 13) + i_149))]) hK hP hJ hE)⟩ rfl rfl hl.1 rfl (lv_room (Nat.le_of_ble_eq_true rfl)) dX12_key_97 ⟨Nat.le_of_ble_eq_true rfl, Nat.le_of_ble_eq_true rfl⟩)) (fun r159 hr159 => ?_)
                      subst hr159
                      have htf159 := bA_f tx sz1 ((fN u 13) + i_149)
                      refine lv_icmp_ne (tgt := 107) hx hb dX12_key_100 (by decide) (fun c160 => ?_) (fun c160 => ?_)
                      · have c160 := mt (b_eq (rfl : Int32.toInt r158 = _) (rfl : Int32.toInt (bA tx sz1 ((fN u 13) + i_149)) = _)).mpr c160
                        refine lv_iconst (v := 0) hx hb dX12_key_107 (by decide) ?_
                        refine lv_istore (lv' := [(4, .int 0), (0, .ref (b 0)), (1, .int 2), (2, .int 13), (3, .int 17), (5, .int (nI i_149))]) hx hb dX12_key_108 hl (by decide) rfl (fun ls hl => ?_)
                        refine lv_iinc (v := nI (i_149 + 1)) (lv' := [(5, .int (nI (i_149 + 1))), (4, .int 0), (0, .ref (b 0)), (1, .int 2), (2, .int 13), (3, .int 17)]) hx hb dX12_key_110 hl (k := 5) rfl (nI_1 i_149) (by decide) rfl (fun ls hl => ?_)
                        refine lv_goto (tgt := 67) hx hb dX12_key_113 (by decide) ?_
                        exact ih149 _ _ (by omega) ⟨(i_149 + 1), 0, rfl, (by first | assumption | omega | rfl | (congr 1; omega)), lv_sub hl [2, 3, 4, 5, 1, 0] rfl⟩
                      · have c160 := (b_eq (rfl : Int32.toInt r158 = _) (rfl : Int32.toInt (bA tx sz1 ((fN u 13) + i_149)) = _)).mp c160
                        refine lv_iconst (v := 1) hx hb dX12_key_103 (by decide) ?_
                        refine lv_goto (tgt := 108) hx hb dX12_key_104 (by decide) ?_
                        refine lv_istore (lv' := [(4, .int 1), (0, .ref (b 0)), (1, .int 2), (2, .int 13), (3, .int 17), (5, .int (nI i_149))]) hx hb dX12_key_108 hl (by decide) rfl (fun ls hl => ?_)
                        refine lv_iinc (v := nI (i_149 + 1)) (lv' := [(5, .int (nI (i_149 + 1))), (4, .int 1), (0, .ref (b 0)), (1, .int 2), (2, .int 13), (3, .int 17)]) hx hb dX12_key_110 hl (k := 5) rfl (nI_1 i_149) (by decide) rfl (fun ls hl => ?_)
                        refine lv_goto (tgt := 67) hx hb dX12_key_113 (by decide) ?_
                        exact ih149 _ _ (by omega) ⟨(i_149 + 1), 1, rfl, (by first | assumption | omega | rfl | (congr 1; omega)), lv_sub hl [2, 3, 4, 5, 1, 0] rfl⟩
              · have c123 := mt (b_eq (rfl : Int32.toInt x1_121 = _) (show Int32.toInt 0 = 0 from rfl)).mpr c123
                refine lv_iload_n hx hb dX12_key_121 rfl (lv_at hl 1 rfl) ?_
                exact W.iret (v := 1) hx hb hr (fun t ht hW => ⟨1, rfl, trivial, ht⟩) (fun _ h => absurd h List.not_mem_nil) dX12_key_122
            · have c122 := mt (b_le (show Int32.toInt 4 = 4 from rfl) (nI_toInt (n := i_121) (by omega))).mpr c122
              refine lv_iload hx hb dX12_key_75 (lv_at hl 4 rfl) ?_
              refine lv_if_eq (tgt := 116) hx hb dX12_key_77 (by decide) (fun c161 => ?_) (fun c161 => ?_)
              · have c161 := (b_eq (rfl : Int32.toInt x1_121 = _) (show Int32.toInt 0 = 0 from rfl)).mp c161
                refine lv_iload hx hb dX12_key_116 (lv_at hl 4 rfl) ?_
                refine lv_if_eq (tgt := 123) hx hb dX12_key_118 (by decide) (fun c162 => ?_) (fun c162 => ?_)
                · have c162 := (b_eq (rfl : Int32.toInt x1_121 = _) (show Int32.toInt 0 = 0 from rfl)).mp c162
                  refine lv_iinc (v := 2) (lv' := [(1, .int 2), (0, .ref (b 0)), (2, .int 8), (3, .int 12), (4, .int x1_121), (5, .int (nI i_121))]) hx hb dX12_key_123 hl (k := 1) rfl (by decide) (by decide) rfl (fun ls hl => ?_)
                  refine lv_iload_n hx hb dX12_key_126 rfl (lv_at hl 3 rfl) ?_
                  refine lv_iconst (v := 1) hx hb dX12_key_127 (by decide) ?_
                  refine lv_iadd hx hb dX12_key_128 ?_
                  refine W.eq (g2 := F0 m 129 ls [.int 13]) rfl ?_
                  refine lv_istore_n (lv' := [(2, .int 13), (1, .int 2), (0, .ref (b 0)), (3, .int 12), (4, .int x1_121), (5, .int (nI i_121))]) hx hb dX12_key_129 rfl hl (by decide) rfl (fun ls hl => ?_)
                  refine lv_goto (tgt := 14) hx hb dX12_key_130 (by decide) ?_
                  refine lv_iload_n hx hb dX12_key_14 rfl (lv_at hl 0 rfl) ?_
                  refine va_ldcS hx hb hown hZ dX12_key_15 ?_
                  refine vp_callSi (va_Run.run (va_runV (As := []) (rest := [.int 13]) ⟨hx, hb, hml, hown, noTs⟩ (s_J0_length l adK adV 3 (by decide)) ⟨cbE 0 (wd_488 hE) (wd_129 hE) (wd_1527 hE) rfl rfl (by decide +kernel) ⟨Nat.le_of_ble_eq_true rfl, Nat.le_of_ble_eq_true rfl⟩, (wd_486 hE), (wd_487 hE)⟩ ⟨PS.blind, vk_recv hX.1 (by decide) hS, ps_pre (av := [.ref (adK 3)]) hX hS hE⟩ rfl rfl hl.1 rfl (lv_room (Nat.le_of_ble_eq_true rfl)) dX12_key_17 ⟨Nat.le_of_ble_eq_true rfl, Nat.le_of_ble_eq_true rfl⟩)) (fun r163 hr163 => ?_)
                  have hr163 : r163 = 18 := hr163
                  subst hr163
                  refine lv_icmp_ge (tgt := 133) hx hb dX12_key_20 (by decide) (fun c164 => absurd c164 (by decide)) (fun c164 => ?_)
                  refine lv_iload_n hx hb dX12_key_23 rfl (lv_at hl 0 rfl) ?_
                  refine lv_istore_n (lv' := [(3, .int 13), (2, .int 13), (1, .int 2), (0, .ref (b 0)), (4, .int x1_121), (5, .int (nI i_121))]) hx hb dX12_key_24 rfl hl (by decide) rfl (fun ls hl => ?_)
                  refine va_ldcS hx hb hown hZ dX12_key_25 ?_
                  refine lv_iload_n hx hb dX12_key_27 rfl (lv_at hl 0 rfl) ?_
                  refine vp_callSi (va_Run.run (va_runV (As := [.int (nI 13)]) (rest := []) ⟨hx, hb, hml, hown, noTs⟩ (s_J0_charAt l adK adV 3 13 (by decide) (by show _ < 18; omega)) ⟨cbE 1 (wd_498 hE) (wd_129 hE) (wd_1528 hE) rfl rfl (by decide +kernel) ⟨Nat.le_of_ble_eq_true rfl, Nat.le_of_ble_eq_true rfl⟩, (wd_496 hE), (wd_497 hE)⟩ ⟨PS.blind, vk_recv hX.1 (by decide) hS, ps_pre (av := [.ref (adK 3), .int (nI 13)]) hX hS hE⟩ rfl rfl hl.1 rfl (lv_room (Nat.le_of_ble_eq_true rfl)) dX12_key_28 ⟨Nat.le_of_ble_eq_true rfl, Nat.le_of_ble_eq_true rfl⟩)) (fun r165 hr165 => ?_)
                  have hr165 : r165 = 119 := hr165.trans (by decide)
                  subst hr165
                  refine lv_bipush (v := 32) hx hb dX12_key_31 (by decide) ?_
                  refine lv_icmp_eq (tgt := 42) hx hb dX12_key_33 (by decide) (fun c166 => absurd c166 (by decide)) (fun c166 => ?_)
                  refine lv_iinc (v := 14) (lv' := [(3, .int 14), (2, .int 13), (1, .int 2), (0, .ref (b 0)), (4, .int x1_121), (5, .int (nI i_121))]) hx hb dX12_key_36 hl (k := 0) rfl (by decide) (by decide) rfl (fun ls hl => ?_)
                  refine lv_goto (tgt := 25) hx hb dX12_key_39 (by decide) ?_
                  refine va_ldcS hx hb hown hZ dX12_key_25 ?_
                  refine lv_iload_n hx hb dX12_key_27 rfl (lv_at hl 0 rfl) ?_
                  refine vp_callSi (va_Run.run (va_runV (As := [.int (nI 14)]) (rest := []) ⟨hx, hb, hml, hown, noTs⟩ (s_J0_charAt l adK adV 3 14 (by decide) (by show _ < 18; omega)) ⟨cbE 1 (wd_498 hE) (wd_129 hE) (wd_1528 hE) rfl rfl (by decide +kernel) ⟨Nat.le_of_ble_eq_true rfl, Nat.le_of_ble_eq_true rfl⟩, (wd_496 hE), (wd_497 hE)⟩ ⟨PS.blind, vk_recv hX.1 (by decide) hS, ps_pre (av := [.ref (adK 3), .int (nI 14)]) hX hS hE⟩ rfl rfl hl.1 rfl (lv_room (Nat.le_of_ble_eq_true rfl)) dX12_key_28 ⟨Nat.le_of_ble_eq_true rfl, Nat.le_of_ble_eq_true rfl⟩)) (fun r167 hr167 => ?_)
                  have hr167 : r167 = 111 := hr167.trans (by decide)
                  subst hr167
                  refine lv_bipush (v := 32) hx hb dX12_key_31 (by decide) ?_
                  refine lv_icmp_eq (tgt := 42) hx hb dX12_key_33 (by decide) (fun c168 => absurd c168 (by decide)) (fun c168 => ?_)
                  refine lv_iinc (v := 15) (lv' := [(3, .int 15), (2, .int 13), (1, .int 2), (0, .ref (b 0)), (4, .int x1_121), (5, .int (nI i_121))]) hx hb dX12_key_36 hl (k := 0) rfl (by decide) (by decide) rfl (fun ls hl => ?_)
                  refine lv_goto (tgt := 25) hx hb dX12_key_39 (by decide) ?_
                  refine va_ldcS hx hb hown hZ dX12_key_25 ?_
                  refine lv_iload_n hx hb dX12_key_27 rfl (lv_at hl 0 rfl) ?_
                  refine vp_callSi (va_Run.run (va_runV (As := [.int (nI 15)]) (rest := []) ⟨hx, hb, hml, hown, noTs⟩ (s_J0_charAt l adK adV 3 15 (by decide) (by show _ < 18; omega)) ⟨cbE 1 (wd_498 hE) (wd_129 hE) (wd_1528 hE) rfl rfl (by decide +kernel) ⟨Nat.le_of_ble_eq_true rfl, Nat.le_of_ble_eq_true rfl⟩, (wd_496 hE), (wd_497 hE)⟩ ⟨PS.blind, vk_recv hX.1 (by decide) hS, ps_pre (av := [.ref (adK 3), .int (nI 15)]) hX hS hE⟩ rfl rfl hl.1 rfl (lv_room (Nat.le_of_ble_eq_true rfl)) dX12_key_28 ⟨Nat.le_of_ble_eq_true rfl, Nat.le_of_ble_eq_true rfl⟩)) (fun r169 hr169 => ?_)
                  have hr169 : r169 = 114 := hr169.trans (by decide)
                  subst hr169
                  refine lv_bipush (v := 32) hx hb dX12_key_31 (by decide) ?_
                  refine lv_icmp_eq (tgt := 42) hx hb dX12_key_33 (by decide) (fun c170 => absurd c170 (by decide)) (fun c170 => ?_)
                  refine lv_iinc (v := 16) (lv' := [(3, .int 16), (2, .int 13), (1, .int 2), (0, .ref (b 0)), (4, .int x1_121), (5, .int (nI i_121))]) hx hb dX12_key_36 hl (k := 0) rfl (by decide) (by decide) rfl (fun ls hl => ?_)
                  refine lv_goto (tgt := 25) hx hb dX12_key_39 (by decide) ?_
                  refine va_ldcS hx hb hown hZ dX12_key_25 ?_
                  refine lv_iload_n hx hb dX12_key_27 rfl (lv_at hl 0 rfl) ?_
                  refine vp_callSi (va_Run.run (va_runV (As := [.int (nI 16)]) (rest := []) ⟨hx, hb, hml, hown, noTs⟩ (s_J0_charAt l adK adV 3 16 (by decide) (by show _ < 18; omega)) ⟨cbE 1 (wd_498 hE) (wd_129 hE) (wd_1528 hE) rfl rfl (by decide +kernel) ⟨Nat.le_of_ble_eq_true rfl, Nat.le_of_ble_eq_true rfl⟩, (wd_496 hE), (wd_497 hE)⟩ ⟨PS.blind, vk_recv hX.1 (by decide) hS, ps_pre (av := [.ref (adK 3), .int (nI 16)]) hX hS hE⟩ rfl rfl hl.1 rfl (lv_room (Nat.le_of_ble_eq_true rfl)) dX12_key_28 ⟨Nat.le_of_ble_eq_true rfl, Nat.le_of_ble_eq_true rfl⟩)) (fun r171 hr171 => ?_)
                  have hr171 : r171 = 100 := hr171.trans (by decide)
                  subst hr171
                  refine lv_bipush (v := 32) hx hb dX12_key_31 (by decide) ?_
                  refine lv_icmp_eq (tgt := 42) hx hb dX12_key_33 (by decide) (fun c172 => absurd c172 (by decide)) (fun c172 => ?_)
                  refine lv_iinc (v := 17) (lv' := [(3, .int 17), (2, .int 13), (1, .int 2), (0, .ref (b 0)), (4, .int x1_121), (5, .int (nI i_121))]) hx hb dX12_key_36 hl (k := 0) rfl (by decide) (by decide) rfl (fun ls hl => ?_)
                  refine lv_goto (tgt := 25) hx hb dX12_key_39 (by decide) ?_
                  refine va_ldcS hx hb hown hZ dX12_key_25 ?_
                  refine lv_iload_n hx hb dX12_key_27 rfl (lv_at hl 0 rfl) ?_
                  refine vp_callSi (va_Run.run (va_runV (As := [.int (nI 17)]) (rest := []) ⟨hx, hb, hml, hown, noTs⟩ (s_J0_charAt l adK adV 3 17 (by decide) (by show _ < 18; omega)) ⟨cbE 1 (wd_498 hE) (wd_129 hE) (wd_1528 hE) rfl rfl (by decide +kernel) ⟨Nat.le_of_ble_eq_true rfl, Nat.le_of_ble_eq_true rfl⟩, (wd_496 hE), (wd_497 hE)⟩ ⟨PS.blind, vk_recv hX.1 (by decide) hS, ps_pre (av := [.ref (adK 3), .int (nI 17)]) hX hS hE⟩ rfl rfl hl.1 rfl (lv_room (Nat.le_of_ble_eq_true rfl)) dX12_key_28 ⟨Nat.le_of_ble_eq_true rfl, Nat.le_of_ble_eq_true rfl⟩)) (fun r173 hr173 => ?_)
                  have hr173 : r173 = 32 := hr173.trans (by decide)
                  subst hr173
                  refine lv_bipush (v := 32) hx hb dX12_key_31 (by decide) ?_
                  refine lv_icmp_eq (tgt := 42) hx hb dX12_key_33 (by decide) (fun c174 => ?_) (fun c174 => absurd c174 (by decide))
                  refine lv_iload_n hx hb dX12_key_42 rfl (lv_at hl 0 rfl) ?_
                  refine lv_iload_n hx hb dX12_key_43 rfl (lv_at hl 1 rfl) ?_
                  refine lv_isub hx hb dX12_key_44 ?_
                  refine W.eq (g2 := F0 m 45 ls [.int 4]) rfl ?_
                  refine lv_aload_n hx hb dX12_key_45 rfl (lv_at hl 3 rfl) ?_
                  refine r_get (v := .int (nI (fN u 14))) hx hb (ly_X12 hE) hown hK hP rfl 14 (by decide) (wd_1395 hE) (fun _ h9 => h9) (congrArg (fun z : Int32 => some (Value.int z)) hp0.2.1) dX12_key_46 ?_
                  refine lv_aload_n hx hb dX12_key_49 rfl (lv_at hl 3 rfl) ?_
                  refine r_get (v := .int (nI (fN u 13))) hx hb (ly_X12 hE) hown hK hP rfl 13 (by decide) (wd_1394 hE) (fun _ h9 => h9) (congrArg (fun z : Int32 => some (Value.int z)) hp0.1) dX12_key_50 ?_
                  refine lv_isub hx hb dX12_key_53 ?_
                  refine W.eq (g2 := F0 m 54 ls [.int (nI ((fN u 14) - (fN u 13))), .int 4]) (congrArg (fun z : Int32 => F0 m 54 ls (.int z :: [.int 4])) (pk_sub (a := fN u 14) (b := fN u 13) (by omega))) ?_
                  refine lv_icmp_ne (tgt := 61) hx hb dX12_key_54 (by decide) (fun c175 => ?_) (fun c175 => ?_)
                  · have c175 := mt (b_eq (show Int32.toInt 4 = 4 from rfl) (nI_toInt (n := (fN u 14) - (fN u 13)) (by omega))).mpr c175
                    refine lv_iconst (v := 0) hx hb dX12_key_61 (by decide) ?_
                    refine lv_istore (lv' := [(4, .int 0), (3, .int 17), (2, .int 13), (1, .int 2), (0, .ref (b 0)), (5, .int (nI i_121))]) hx hb dX12_key_62 hl (by decide) rfl (fun ls hl => ?_)
                    refine lv_iconst (v := 0) hx hb dX12_key_64 (by decide) ?_
                    refine lv_istore (lv' := [(5, .int 0), (4, .int 0), (3, .int 17), (2, .int 13), (1, .int 2), (0, .ref (b 0))]) hx hb dX12_key_65 hl (by decide) rfl (fun ls hl => ?_)
                    refine r_indP (I := fun n ls => ∃ (i_176 : Nat) (x1_176 : Int32), n = 17 - 13 - i_176 ∧ (i_176 ≤ 17 - 13) ∧ lv_has ls 6 [(0, .ref (b 0)), (1, .int 2), (2, .int 13), (3, .int 17), (4, .int x1_176), (5, .int (nI i_176))]) (fun n ls hI ih176 => ?_) _ _ ⟨0, 0, rfl, (by first | assumption | omega | rfl | (congr 1; omega)), lv_sub hl [5, 4, 3, 2, 1, 0] rfl⟩
                    obtain ⟨i_176, x1_176, hmu176, hL176_0, hl⟩ := hI
                    subst hmu176
                    refine lv_iload hx hb dX12_key_67 (lv_at hl 5 rfl) ?_
                    refine lv_iload_n hx hb dX12_key_69 rfl (lv_at hl 3 rfl) ?_
                    refine lv_iload_n hx hb dX12_key_70 rfl (lv_at hl 2 rfl) ?_
                    refine lv_isub hx hb dX12_key_71 ?_
                    refine W.eq (g2 := F0 m 72 ls [.int 4, .int (nI i_176)]) rfl ?_
                    refine lv_icmp_ge (tgt := 116) hx hb dX12_key_72 (by decide) (fun c177 => ?_) (fun c177 => ?_)
                    · have c177 := (b_le (show Int32.toInt 4 = 4 from rfl) (nI_toInt (n := i_176) (by omega))).mp c177
                      refine lv_iload hx hb dX12_key_116 (lv_at hl 4 rfl) ?_
                      refine lv_if_eq (tgt := 123) hx hb dX12_key_118 (by decide) (fun c178 => ?_) (fun c178 => ?_)
                      · have c178 := (b_eq (rfl : Int32.toInt x1_176 = _) (show Int32.toInt 0 = 0 from rfl)).mp c178
                        refine lv_iinc (v := 3) (lv' := [(1, .int 3), (0, .ref (b 0)), (2, .int 13), (3, .int 17), (4, .int x1_176), (5, .int (nI i_176))]) hx hb dX12_key_123 hl (k := 1) rfl (by decide) (by decide) rfl (fun ls hl => ?_)
                        refine lv_iload_n hx hb dX12_key_126 rfl (lv_at hl 3 rfl) ?_
                        refine lv_iconst (v := 1) hx hb dX12_key_127 (by decide) ?_
                        refine lv_iadd hx hb dX12_key_128 ?_
                        refine W.eq (g2 := F0 m 129 ls [.int 18]) rfl ?_
                        refine lv_istore_n (lv' := [(2, .int 18), (1, .int 3), (0, .ref (b 0)), (3, .int 17), (4, .int x1_176), (5, .int (nI i_176))]) hx hb dX12_key_129 rfl hl (by decide) rfl (fun ls hl => ?_)
                        refine lv_goto (tgt := 14) hx hb dX12_key_130 (by decide) ?_
                        refine lv_iload_n hx hb dX12_key_14 rfl (lv_at hl 0 rfl) ?_
                        refine va_ldcS hx hb hown hZ dX12_key_15 ?_
                        refine vp_callSi (va_Run.run (va_runV (As := []) (rest := [.int 18]) ⟨hx, hb, hml, hown, noTs⟩ (s_J0_length l adK adV 3 (by decide)) ⟨cbE 0 (wd_488 hE) (wd_129 hE) (wd_1527 hE) rfl rfl (by decide +kernel) ⟨Nat.le_of_ble_eq_true rfl, Nat.le_of_ble_eq_true rfl⟩, (wd_486 hE), (wd_487 hE)⟩ ⟨PS.blind, vk_recv hX.1 (by decide) hS, ps_pre (av := [.ref (adK 3)]) hX hS hE⟩ rfl rfl hl.1 rfl (lv_room (Nat.le_of_ble_eq_true rfl)) dX12_key_17 ⟨Nat.le_of_ble_eq_true rfl, Nat.le_of_ble_eq_true rfl⟩)) (fun r179 hr179 => ?_)
                        have hr179 : r179 = 18 := hr179
                        subst hr179
                        refine lv_icmp_ge (tgt := 133) hx hb dX12_key_20 (by decide) (fun c180 => ?_) (fun c180 => absurd c180 (by decide))
                        refine lv_iconst (v := -1) hx hb dX12_key_133 (by decide) ?_
                        exact W.iret (v := -1) hx hb hr (fun t ht hW => ⟨-1, rfl, trivial, ht⟩) (fun _ h => absurd h List.not_mem_nil) dX12_key_134
                      · have c178 := mt (b_eq (rfl : Int32.toInt x1_176 = _) (show Int32.toInt 0 = 0 from rfl)).mpr c178
                        refine lv_iload_n hx hb dX12_key_121 rfl (lv_at hl 1 rfl) ?_
                        exact W.iret (v := 2) hx hb hr (fun t ht hW => ⟨2, rfl, trivial, ht⟩) (fun _ h => absurd h List.not_mem_nil) dX12_key_122
                    · have c177 := mt (b_le (show Int32.toInt 4 = 4 from rfl) (nI_toInt (n := i_176) (by omega))).mpr c177
                      refine lv_iload hx hb dX12_key_75 (lv_at hl 4 rfl) ?_
                      refine lv_if_eq (tgt := 116) hx hb dX12_key_77 (by decide) (fun c181 => ?_) (fun c181 => ?_)
                      · have c181 := (b_eq (rfl : Int32.toInt x1_176 = _) (show Int32.toInt 0 = 0 from rfl)).mp c181
                        refine lv_iload hx hb dX12_key_116 (lv_at hl 4 rfl) ?_
                        refine lv_if_eq (tgt := 123) hx hb dX12_key_118 (by decide) (fun c182 => ?_) (fun c182 => ?_)
                        · have c182 := (b_eq (rfl : Int32.toInt x1_176 = _) (show Int32.toInt 0 = 0 from rfl)).mp c182
                          refine lv_iinc (v := 3) (lv' := [(1, .int 3), (0, .ref (b 0)), (2, .int 13), (3, .int 17), (4, .int x1_176), (5, .int (nI i_176))]) hx hb dX12_key_123 hl (k := 1) rfl (by decide) (by decide) rfl (fun ls hl => ?_)
                          refine lv_iload_n hx hb dX12_key_126 rfl (lv_at hl 3 rfl) ?_
                          refine lv_iconst (v := 1) hx hb dX12_key_127 (by decide) ?_
                          refine lv_iadd hx hb dX12_key_128 ?_
                          refine W.eq (g2 := F0 m 129 ls [.int 18]) rfl ?_
                          refine lv_istore_n (lv' := [(2, .int 18), (1, .int 3), (0, .ref (b 0)), (3, .int 17), (4, .int x1_176), (5, .int (nI i_176))]) hx hb dX12_key_129 rfl hl (by decide) rfl (fun ls hl => ?_)
                          refine lv_goto (tgt := 14) hx hb dX12_key_130 (by decide) ?_
                          refine lv_iload_n hx hb dX12_key_14 rfl (lv_at hl 0 rfl) ?_
                          refine va_ldcS hx hb hown hZ dX12_key_15 ?_
                          refine vp_callSi (va_Run.run (va_runV (As := []) (rest := [.int 18]) ⟨hx, hb, hml, hown, noTs⟩ (s_J0_length l adK adV 3 (by decide)) ⟨cbE 0 (wd_488 hE) (wd_129 hE) (wd_1527 hE) rfl rfl (by decide +kernel) ⟨Nat.le_of_ble_eq_true rfl, Nat.le_of_ble_eq_true rfl⟩, (wd_486 hE), (wd_487 hE)⟩ ⟨PS.blind, vk_recv hX.1 (by decide) hS, ps_pre (av := [.ref (adK 3)]) hX hS hE⟩ rfl rfl hl.1 rfl (lv_room (Nat.le_of_ble_eq_true rfl)) dX12_key_17 ⟨Nat.le_of_ble_eq_true rfl, Nat.le_of_ble_eq_true rfl⟩)) (fun r183 hr183 => ?_)
                          have hr183 : r183 = 18 := hr183
                          subst hr183
                          refine lv_icmp_ge (tgt := 133) hx hb dX12_key_20 (by decide) (fun c184 => ?_) (fun c184 => absurd c184 (by decide))
                          refine lv_iconst (v := -1) hx hb dX12_key_133 (by decide) ?_
                          exact W.iret (v := -1) hx hb hr (fun t ht hW => ⟨-1, rfl, trivial, ht⟩) (fun _ h => absurd h List.not_mem_nil) dX12_key_134
                        · have c182 := mt (b_eq (rfl : Int32.toInt x1_176 = _) (show Int32.toInt 0 = 0 from rfl)).mpr c182
                          refine lv_iload_n hx hb dX12_key_121 rfl (lv_at hl 1 rfl) ?_
                          exact W.iret (v := 2) hx hb hr (fun t ht hW => ⟨2, rfl, trivial, ht⟩) (fun _ h => absurd h List.not_mem_nil) dX12_key_122
                      · have c181 := mt (b_eq (rfl : Int32.toInt x1_176 = _) (show Int32.toInt 0 = 0 from rfl)).mpr c181
                        refine va_ldcS hx hb hown hZ dX12_key_80 ?_
                        refine lv_iload_n hx hb dX12_key_82 rfl (lv_at hl 2 rfl) ?_
                        refine lv_iload hx hb dX12_key_83 (lv_at hl 5 rfl) ?_
                        refine lv_iadd hx hb dX12_key_85 ?_
                        refine W.eq (g2 := F0 m 86 ls [.int (nI (13 + i_176)), .ref (adK 3)]) (congrArg (fun z : Int32 => F0 m 86 ls (.int z :: [.ref (adK 3)])) (nI_add 13 i_176)) ?_
                        refine vp_callSi (va_Run.run (va_runV (As := [.int (nI (13 + i_176))]) (rest := []) ⟨hx, hb, hml, hown, noTs⟩ (s_J0_charAt l adK adV 3 (13 + i_176) (by decide) (by show _ < 18; omega)) ⟨cbE 1 (wd_498 hE) (wd_129 hE) (wd_1528 hE) rfl rfl (by decide +kernel) ⟨Nat.le_of_ble_eq_true rfl, Nat.le_of_ble_eq_true rfl⟩, (wd_496 hE), (wd_497 hE)⟩ ⟨PS.blind, vk_recv hX.1 (by decide) hS, ps_pre (av := [.ref (adK 3), .int (nI (13 + i_176))]) hX hS hE⟩ rfl rfl hl.1 rfl (lv_room (Nat.le_of_ble_eq_true rfl)) dX12_key_86 ⟨Nat.le_of_ble_eq_true rfl, Nat.le_of_ble_eq_true rfl⟩)) (fun r185 hr185 => ?_)
                        refine lv_aload_n hx hb dX12_key_89 rfl (lv_at hl 0 rfl) ?_
                        refine lv_aload_n hx hb dX12_key_90 rfl (lv_at hl 0 rfl) ?_
                        refine r_get (v := .int (nI (fN u 13))) hx hb (ly_X12 hE) hown hK hP rfl 13 (by decide) (wd_1394 hE) (fun _ h9 => h9) (congrArg (fun z : Int32 => some (Value.int z)) hp0.1) dX12_key_91 ?_
                        refine lv_iload hx hb dX12_key_94 (lv_at hl 5 rfl) ?_
                        refine lv_iadd hx hb dX12_key_96 ?_
                        refine W.eq (g2 := F0 m 97 ls [.int (nI ((fN u 13) + i_176)), .ref (b 0), .int r185]) (congrArg (fun z : Int32 => F0 m 97 ls (.int z :: [.ref (b 0), .int r185])) (nI_add (fN u 13) i_176)) ?_
                        refine vp_callSi (va_Run.run (va_runV (As := [.int (nI ((fN u 13) + i_176))]) (rest := [.int r185]) ⟨hx, hb, hml, hown, noTs⟩ (r_X12_byteAt l dC dI s.heap.size cs b u tx hAc16 ((fN u 13) + i_176) sz1 hF11 (by first | assumption | omega | rfl | (congr 1; omega)) (by first | assumption | omega | rfl | (congr 1; omega))) ⟨cbE 1 (wd_1510 hE) (wd_126 hE) (wd_1507 hE) rfl rfl (by decide +kernel) ⟨Nat.le_of_ble_eq_true rfl, Nat.le_of_ble_eq_true rfl⟩, (wd_1509 hE), (wd_57 hE)⟩ ⟨PR.blind, r_recv hK hP rfl, (r_pre (av := [.ref (b 0), .int (nI ((fN u 13) + i_176))]) hK hP hJ hE)⟩ rfl rfl hl.1 rfl (lv_room (Nat.le_of_ble_eq_true rfl)) dX12_key_97 ⟨Nat.le_of_ble_eq_true rfl, Nat.le_of_ble_eq_true rfl⟩)) (fun r186 hr186 => ?_)
                        subst hr186
                        have htf186 := bA_f tx sz1 ((fN u 13) + i_176)
                        refine lv_icmp_ne (tgt := 107) hx hb dX12_key_100 (by decide) (fun c187 => ?_) (fun c187 => ?_)
                        · have c187 := mt (b_eq (rfl : Int32.toInt r185 = _) (rfl : Int32.toInt (bA tx sz1 ((fN u 13) + i_176)) = _)).mpr c187
                          refine lv_iconst (v := 0) hx hb dX12_key_107 (by decide) ?_
                          refine lv_istore (lv' := [(4, .int 0), (0, .ref (b 0)), (1, .int 2), (2, .int 13), (3, .int 17), (5, .int (nI i_176))]) hx hb dX12_key_108 hl (by decide) rfl (fun ls hl => ?_)
                          refine lv_iinc (v := nI (i_176 + 1)) (lv' := [(5, .int (nI (i_176 + 1))), (4, .int 0), (0, .ref (b 0)), (1, .int 2), (2, .int 13), (3, .int 17)]) hx hb dX12_key_110 hl (k := 5) rfl (nI_1 i_176) (by decide) rfl (fun ls hl => ?_)
                          refine lv_goto (tgt := 67) hx hb dX12_key_113 (by decide) ?_
                          exact ih176 _ _ (by omega) ⟨(i_176 + 1), 0, rfl, (by first | assumption | omega | rfl | (congr 1; omega)), lv_sub hl [2, 3, 4, 5, 1, 0] rfl⟩
                        · have c187 := (b_eq (rfl : Int32.toInt r185 = _) (rfl : Int32.toInt (bA tx sz1 ((fN u 13) + i_176)) = _)).mp c187
                          refine lv_iconst (v := 1) hx hb dX12_key_103 (by decide) ?_
                          refine lv_goto (tgt := 108) hx hb dX12_key_104 (by decide) ?_
                          refine lv_istore (lv' := [(4, .int 1), (0, .ref (b 0)), (1, .int 2), (2, .int 13), (3, .int 17), (5, .int (nI i_176))]) hx hb dX12_key_108 hl (by decide) rfl (fun ls hl => ?_)
                          refine lv_iinc (v := nI (i_176 + 1)) (lv' := [(5, .int (nI (i_176 + 1))), (4, .int 1), (0, .ref (b 0)), (1, .int 2), (2, .int 13), (3, .int 17)]) hx hb dX12_key_110 hl (k := 5) rfl (nI_1 i_176) (by decide) rfl (fun ls hl => ?_)
                          refine lv_goto (tgt := 67) hx hb dX12_key_113 (by decide) ?_
                          exact ih176 _ _ (by omega) ⟨(i_176 + 1), 1, rfl, (by first | assumption | omega | rfl | (congr 1; omega)), lv_sub hl [2, 3, 4, 5, 1, 0] rfl⟩
                  · have c175 := (b_eq (show Int32.toInt 4 = 4 from rfl) (nI_toInt (n := (fN u 14) - (fN u 13)) (by omega))).mp c175
                    refine lv_iconst (v := 1) hx hb dX12_key_57 (by decide) ?_
                    refine lv_goto (tgt := 62) hx hb dX12_key_58 (by decide) ?_
                    refine lv_istore (lv' := [(4, .int 1), (3, .int 17), (2, .int 13), (1, .int 2), (0, .ref (b 0)), (5, .int (nI i_121))]) hx hb dX12_key_62 hl (by decide) rfl (fun ls hl => ?_)
                    refine lv_iconst (v := 0) hx hb dX12_key_64 (by decide) ?_
                    refine lv_istore (lv' := [(5, .int 0), (4, .int 1), (3, .int 17), (2, .int 13), (1, .int 2), (0, .ref (b 0))]) hx hb dX12_key_65 hl (by decide) rfl (fun ls hl => ?_)
                    refine r_indP (I := fun n ls => ∃ (i_188 : Nat) (x1_188 : Int32), n = 17 - 13 - i_188 ∧ (i_188 ≤ 17 - 13) ∧ lv_has ls 6 [(0, .ref (b 0)), (1, .int 2), (2, .int 13), (3, .int 17), (4, .int x1_188), (5, .int (nI i_188))]) (fun n ls hI ih188 => ?_) _ _ ⟨0, 1, rfl, (by first | assumption | omega | rfl | (congr 1; omega)), lv_sub hl [5, 4, 3, 2, 1, 0] rfl⟩
                    obtain ⟨i_188, x1_188, hmu188, hL188_0, hl⟩ := hI
                    subst hmu188
                    refine lv_iload hx hb dX12_key_67 (lv_at hl 5 rfl) ?_
                    refine lv_iload_n hx hb dX12_key_69 rfl (lv_at hl 3 rfl) ?_
                    refine lv_iload_n hx hb dX12_key_70 rfl (lv_at hl 2 rfl) ?_
                    refine lv_isub hx hb dX12_key_71 ?_
                    refine W.eq (g2 := F0 m 72 ls [.int 4, .int (nI i_188)]) rfl ?_
                    refine lv_icmp_ge (tgt := 116) hx hb dX12_key_72 (by decide) (fun c189 => ?_) (fun c189 => ?_)
                    · have c189 := (b_le (show Int32.toInt 4 = 4 from rfl) (nI_toInt (n := i_188) (by omega))).mp c189
                      refine lv_iload hx hb dX12_key_116 (lv_at hl 4 rfl) ?_
                      refine lv_if_eq (tgt := 123) hx hb dX12_key_118 (by decide) (fun c190 => ?_) (fun c190 => ?_)
                      · have c190 := (b_eq (rfl : Int32.toInt x1_188 = _) (show Int32.toInt 0 = 0 from rfl)).mp c190
                        refine lv_iinc (v := 3) (lv' := [(1, .int 3), (0, .ref (b 0)), (2, .int 13), (3, .int 17), (4, .int x1_188), (5, .int (nI i_188))]) hx hb dX12_key_123 hl (k := 1) rfl (by decide) (by decide) rfl (fun ls hl => ?_)
                        refine lv_iload_n hx hb dX12_key_126 rfl (lv_at hl 3 rfl) ?_
                        refine lv_iconst (v := 1) hx hb dX12_key_127 (by decide) ?_
                        refine lv_iadd hx hb dX12_key_128 ?_
                        refine W.eq (g2 := F0 m 129 ls [.int 18]) rfl ?_
                        refine lv_istore_n (lv' := [(2, .int 18), (1, .int 3), (0, .ref (b 0)), (3, .int 17), (4, .int x1_188), (5, .int (nI i_188))]) hx hb dX12_key_129 rfl hl (by decide) rfl (fun ls hl => ?_)
                        refine lv_goto (tgt := 14) hx hb dX12_key_130 (by decide) ?_
                        refine lv_iload_n hx hb dX12_key_14 rfl (lv_at hl 0 rfl) ?_
                        refine va_ldcS hx hb hown hZ dX12_key_15 ?_
                        refine vp_callSi (va_Run.run (va_runV (As := []) (rest := [.int 18]) ⟨hx, hb, hml, hown, noTs⟩ (s_J0_length l adK adV 3 (by decide)) ⟨cbE 0 (wd_488 hE) (wd_129 hE) (wd_1527 hE) rfl rfl (by decide +kernel) ⟨Nat.le_of_ble_eq_true rfl, Nat.le_of_ble_eq_true rfl⟩, (wd_486 hE), (wd_487 hE)⟩ ⟨PS.blind, vk_recv hX.1 (by decide) hS, ps_pre (av := [.ref (adK 3)]) hX hS hE⟩ rfl rfl hl.1 rfl (lv_room (Nat.le_of_ble_eq_true rfl)) dX12_key_17 ⟨Nat.le_of_ble_eq_true rfl, Nat.le_of_ble_eq_true rfl⟩)) (fun r191 hr191 => ?_)
                        have hr191 : r191 = 18 := hr191
                        subst hr191
                        refine lv_icmp_ge (tgt := 133) hx hb dX12_key_20 (by decide) (fun c192 => ?_) (fun c192 => absurd c192 (by decide))
                        refine lv_iconst (v := -1) hx hb dX12_key_133 (by decide) ?_
                        exact W.iret (v := -1) hx hb hr (fun t ht hW => ⟨-1, rfl, trivial, ht⟩) (fun _ h => absurd h List.not_mem_nil) dX12_key_134
                      · have c190 := mt (b_eq (rfl : Int32.toInt x1_188 = _) (show Int32.toInt 0 = 0 from rfl)).mpr c190
                        refine lv_iload_n hx hb dX12_key_121 rfl (lv_at hl 1 rfl) ?_
                        exact W.iret (v := 2) hx hb hr (fun t ht hW => ⟨2, rfl, trivial, ht⟩) (fun _ h => absurd h List.not_mem_nil) dX12_key_122
                    · have c189 := mt (b_le (show Int32.toInt 4 = 4 from rfl) (nI_toInt (n := i_188) (by omega))).mpr c189
                      refine lv_iload hx hb dX12_key_75 (lv_at hl 4 rfl) ?_
                      refine lv_if_eq (tgt := 116) hx hb dX12_key_77 (by decide) (fun c193 => ?_) (fun c193 => ?_)
                      · have c193 := (b_eq (rfl : Int32.toInt x1_188 = _) (show Int32.toInt 0 = 0 from rfl)).mp c193
                        refine lv_iload hx hb dX12_key_116 (lv_at hl 4 rfl) ?_
                        refine lv_if_eq (tgt := 123) hx hb dX12_key_118 (by decide) (fun c194 => ?_) (fun c194 => ?_)
                        · have c194 := (b_eq (rfl : Int32.toInt x1_188 = _) (show Int32.toInt 0 = 0 from rfl)).mp c194
                          refine lv_iinc (v := 3) (lv' := [(1, .int 3), (0, .ref (b 0)), (2, .int 13), (3, .int 17), (4, .int x1_188), (5, .int (nI i_188))]) hx hb dX12_key_123 hl (k := 1) rfl (by decide) (by decide) rfl (fun ls hl => ?_)
                          refine lv_iload_n hx hb dX12_key_126 rfl (lv_at hl 3 rfl) ?_
                          refine lv_iconst (v := 1) hx hb dX12_key_127 (by decide) ?_
                          refine lv_iadd hx hb dX12_key_128 ?_
                          refine W.eq (g2 := F0 m 129 ls [.int 18]) rfl ?_
                          refine lv_istore_n (lv' := [(2, .int 18), (1, .int 3), (0, .ref (b 0)), (3, .int 17), (4, .int x1_188), (5, .int (nI i_188))]) hx hb dX12_key_129 rfl hl (by decide) rfl (fun ls hl => ?_)
                          refine lv_goto (tgt := 14) hx hb dX12_key_130 (by decide) ?_
                          refine lv_iload_n hx hb dX12_key_14 rfl (lv_at hl 0 rfl) ?_
                          refine va_ldcS hx hb hown hZ dX12_key_15 ?_
                          refine vp_callSi (va_Run.run (va_runV (As := []) (rest := [.int 18]) ⟨hx, hb, hml, hown, noTs⟩ (s_J0_length l adK adV 3 (by decide)) ⟨cbE 0 (wd_488 hE) (wd_129 hE) (wd_1527 hE) rfl rfl (by decide +kernel) ⟨Nat.le_of_ble_eq_true rfl, Nat.le_of_ble_eq_true rfl⟩, (wd_486 hE), (wd_487 hE)⟩ ⟨PS.blind, vk_recv hX.1 (by decide) hS, ps_pre (av := [.ref (adK 3)]) hX hS hE⟩ rfl rfl hl.1 rfl (lv_room (Nat.le_of_ble_eq_true rfl)) dX12_key_17 ⟨Nat.le_of_ble_eq_true rfl, Nat.le_of_ble_eq_true rfl⟩)) (fun r195 hr195 => ?_)
                          have hr195 : r195 = 18 := hr195
                          subst hr195
                          refine lv_icmp_ge (tgt := 133) hx hb dX12_key_20 (by decide) (fun c196 => ?_) (fun c196 => absurd c196 (by decide))
                          refine lv_iconst (v := -1) hx hb dX12_key_133 (by decide) ?_
                          exact W.iret (v := -1) hx hb hr (fun t ht hW => ⟨-1, rfl, trivial, ht⟩) (fun _ h => absurd h List.not_mem_nil) dX12_key_134
                        · have c194 := mt (b_eq (rfl : Int32.toInt x1_188 = _) (show Int32.toInt 0 = 0 from rfl)).mpr c194
                          refine lv_iload_n hx hb dX12_key_121 rfl (lv_at hl 1 rfl) ?_
                          exact W.iret (v := 2) hx hb hr (fun t ht hW => ⟨2, rfl, trivial, ht⟩) (fun _ h => absurd h List.not_mem_nil) dX12_key_122
                      · have c193 := mt (b_eq (rfl : Int32.toInt x1_188 = _) (show Int32.toInt 0 = 0 from rfl)).mpr c193
                        refine va_ldcS hx hb hown hZ dX12_key_80 ?_
                        refine lv_iload_n hx hb dX12_key_82 rfl (lv_at hl 2 rfl) ?_
                        refine lv_iload hx hb dX12_key_83 (lv_at hl 5 rfl) ?_
                        refine lv_iadd hx hb dX12_key_85 ?_
                        refine W.eq (g2 := F0 m 86 ls [.int (nI (13 + i_188)), .ref (adK 3)]) (congrArg (fun z : Int32 => F0 m 86 ls (.int z :: [.ref (adK 3)])) (nI_add 13 i_188)) ?_
                        refine vp_callSi (va_Run.run (va_runV (As := [.int (nI (13 + i_188))]) (rest := []) ⟨hx, hb, hml, hown, noTs⟩ (s_J0_charAt l adK adV 3 (13 + i_188) (by decide) (by show _ < 18; omega)) ⟨cbE 1 (wd_498 hE) (wd_129 hE) (wd_1528 hE) rfl rfl (by decide +kernel) ⟨Nat.le_of_ble_eq_true rfl, Nat.le_of_ble_eq_true rfl⟩, (wd_496 hE), (wd_497 hE)⟩ ⟨PS.blind, vk_recv hX.1 (by decide) hS, ps_pre (av := [.ref (adK 3), .int (nI (13 + i_188))]) hX hS hE⟩ rfl rfl hl.1 rfl (lv_room (Nat.le_of_ble_eq_true rfl)) dX12_key_86 ⟨Nat.le_of_ble_eq_true rfl, Nat.le_of_ble_eq_true rfl⟩)) (fun r197 hr197 => ?_)
                        refine lv_aload_n hx hb dX12_key_89 rfl (lv_at hl 0 rfl) ?_
                        refine lv_aload_n hx hb dX12_key_90 rfl (lv_at hl 0 rfl) ?_
                        refine r_get (v := .int (nI (fN u 13))) hx hb (ly_X12 hE) hown hK hP rfl 13 (by decide) (wd_1394 hE) (fun _ h9 => h9) (congrArg (fun z : Int32 => some (Value.int z)) hp0.1) dX12_key_91 ?_
                        refine lv_iload hx hb dX12_key_94 (lv_at hl 5 rfl) ?_
                        refine lv_iadd hx hb dX12_key_96 ?_
                        refine W.eq (g2 := F0 m 97 ls [.int (nI ((fN u 13) + i_188)), .ref (b 0), .int r197]) (congrArg (fun z : Int32 => F0 m 97 ls (.int z :: [.ref (b 0), .int r197])) (nI_add (fN u 13) i_188)) ?_
                        refine vp_callSi (va_Run.run (va_runV (As := [.int (nI ((fN u 13) + i_188))]) (rest := [.int r197]) ⟨hx, hb, hml, hown, noTs⟩ (r_X12_byteAt l dC dI s.heap.size cs b u tx hAc16 ((fN u 13) + i_188) sz1 hF11 (by first | assumption | omega | rfl | (congr 1; omega)) (by first | assumption | omega | rfl | (congr 1; omega))) ⟨cbE 1 (wd_1510 hE) (wd_126 hE) (wd_1507 hE) rfl rfl (by decide +kernel) ⟨Nat.le_of_ble_eq_true rfl, Nat.le_of_ble_eq_true rfl⟩, (wd_1509 hE), (wd_57 hE)⟩ ⟨PR.blind, r_recv hK hP rfl, (r_pre (av := [.ref (b 0), .int (nI ((fN u 13) + i_188))]) hK hP hJ hE)⟩ rfl rfl hl.1 rfl (lv_room (Nat.le_of_ble_eq_true rfl)) dX12_key_97 ⟨Nat.le_of_ble_eq_true rfl, Nat.le_of_ble_eq_true rfl⟩)) (fun r198 hr198 => ?_)
                        subst hr198
                        have htf198 := bA_f tx sz1 ((fN u 13) + i_188)
                        refine lv_icmp_ne (tgt := 107) hx hb dX12_key_100 (by decide) (fun c199 => ?_) (fun c199 => ?_)
                        · have c199 := mt (b_eq (rfl : Int32.toInt r197 = _) (rfl : Int32.toInt (bA tx sz1 ((fN u 13) + i_188)) = _)).mpr c199
                          refine lv_iconst (v := 0) hx hb dX12_key_107 (by decide) ?_
                          refine lv_istore (lv' := [(4, .int 0), (0, .ref (b 0)), (1, .int 2), (2, .int 13), (3, .int 17), (5, .int (nI i_188))]) hx hb dX12_key_108 hl (by decide) rfl (fun ls hl => ?_)
                          refine lv_iinc (v := nI (i_188 + 1)) (lv' := [(5, .int (nI (i_188 + 1))), (4, .int 0), (0, .ref (b 0)), (1, .int 2), (2, .int 13), (3, .int 17)]) hx hb dX12_key_110 hl (k := 5) rfl (nI_1 i_188) (by decide) rfl (fun ls hl => ?_)
                          refine lv_goto (tgt := 67) hx hb dX12_key_113 (by decide) ?_
                          exact ih188 _ _ (by omega) ⟨(i_188 + 1), 0, rfl, (by first | assumption | omega | rfl | (congr 1; omega)), lv_sub hl [2, 3, 4, 5, 1, 0] rfl⟩
                        · have c199 := (b_eq (rfl : Int32.toInt r197 = _) (rfl : Int32.toInt (bA tx sz1 ((fN u 13) + i_188)) = _)).mp c199
                          refine lv_iconst (v := 1) hx hb dX12_key_103 (by decide) ?_
                          refine lv_goto (tgt := 108) hx hb dX12_key_104 (by decide) ?_
                          refine lv_istore (lv' := [(4, .int 1), (0, .ref (b 0)), (1, .int 2), (2, .int 13), (3, .int 17), (5, .int (nI i_188))]) hx hb dX12_key_108 hl (by decide) rfl (fun ls hl => ?_)
                          refine lv_iinc (v := nI (i_188 + 1)) (lv' := [(5, .int (nI (i_188 + 1))), (4, .int 1), (0, .ref (b 0)), (1, .int 2), (2, .int 13), (3, .int 17)]) hx hb dX12_key_110 hl (k := 5) rfl (nI_1 i_188) (by decide) rfl (fun ls hl => ?_)
                          refine lv_goto (tgt := 67) hx hb dX12_key_113 (by decide) ?_
                          exact ih188 _ _ (by omega) ⟨(i_188 + 1), 1, rfl, (by first | assumption | omega | rfl | (congr 1; omega)), lv_sub hl [2, 3, 4, 5, 1, 0] rfl⟩
                · have c162 := mt (b_eq (rfl : Int32.toInt x1_121 = _) (show Int32.toInt 0 = 0 from rfl)).mpr c162
                  refine lv_iload_n hx hb dX12_key_121 rfl (lv_at hl 1 rfl) ?_
                  exact W.iret (v := 1) hx hb hr (fun t ht hW => ⟨1, rfl, trivial, ht⟩) (fun _ h => absurd h List.not_mem_nil) dX12_key_122
              · have c161 := mt (b_eq (rfl : Int32.toInt x1_121 = _) (show Int32.toInt 0 = 0 from rfl)).mpr c161
                refine va_ldcS hx hb hown hZ dX12_key_80 ?_
                refine lv_iload_n hx hb dX12_key_82 rfl (lv_at hl 2 rfl) ?_
                refine lv_iload hx hb dX12_key_83 (lv_at hl 5 rfl) ?_
                refine lv_iadd hx hb dX12_key_85 ?_
                refine W.eq (g2 := F0 m 86 ls [.int (nI (8 + i_121)), .ref (adK 3)]) (congrArg (fun z : Int32 => F0 m 86 ls (.int z :: [.ref (adK 3)])) (nI_add 8 i_121)) ?_
                refine vp_callSi (va_Run.run (va_runV (As := [.int (nI (8 + i_121))]) (rest := []) ⟨hx, hb, hml, hown, noTs⟩ (s_J0_charAt l adK adV 3 (8 + i_121) (by decide) (by show _ < 18; omega)) ⟨cbE 1 (wd_498 hE) (wd_129 hE) (wd_1528 hE) rfl rfl (by decide +kernel) ⟨Nat.le_of_ble_eq_true rfl, Nat.le_of_ble_eq_true rfl⟩, (wd_496 hE), (wd_497 hE)⟩ ⟨PS.blind, vk_recv hX.1 (by decide) hS, ps_pre (av := [.ref (adK 3), .int (nI (8 + i_121))]) hX hS hE⟩ rfl rfl hl.1 rfl (lv_room (Nat.le_of_ble_eq_true rfl)) dX12_key_86 ⟨Nat.le_of_ble_eq_true rfl, Nat.le_of_ble_eq_true rfl⟩)) (fun r200 hr200 => ?_)
                refine lv_aload_n hx hb dX12_key_89 rfl (lv_at hl 0 rfl) ?_
                refine lv_aload_n hx hb dX12_key_90 rfl (lv_at hl 0 rfl) ?_
                refine r_get (v := .int (nI (fN u 13))) hx hb (ly_X12 hE) hown hK hP rfl 13 (by decide) (wd_1394 hE) (fun _ h9 => h9) (congrArg (fun z : Int32 => some (Value.int z)) hp0.1) dX12_key_91 ?_
                refine lv_iload hx hb dX12_key_94 (lv_at hl 5 rfl) ?_
                refine lv_iadd hx hb dX12_key_96 ?_
                refine W.eq (g2 := F0 m 97 ls [.int (nI ((fN u 13) + i_121)), .ref (b 0), .int r200]) (congrArg (fun z : Int32 => F0 m 97 ls (.int z :: [.ref (b 0), .int r200])) (nI_add (fN u 13) i_121)) ?_
                refine vp_callSi (va_Run.run (va_runV (As := [.int (nI ((fN u 13) + i_121))]) (rest := [.int r200]) ⟨hx, hb, hml, hown, noTs⟩ (r_X12_byteAt l dC dI s.heap.size cs b u tx hAc16 ((fN u 13) + i_121) sz1 hF11 (by first | assumption | omega | rfl | (congr 1; omega)) (by first | assumption | omega | rfl | (congr 1; omega))) ⟨cbE 1 (wd_1510 hE) (wd_126 hE) (wd_1507 hE) rfl rfl (by decide +kernel) ⟨Nat.le_of_ble_eq_true rfl, Nat.le_of_ble_eq_true rfl⟩, (wd_1509 hE), (wd_57 hE)⟩ ⟨PR.blind, r_recv hK hP rfl, (r_pre (av := [.ref (b 0), .int (nI ((fN u 13) + i_121))]) hK hP hJ hE)⟩ rfl rfl hl.1 rfl (lv_room (Nat.le_of_ble_eq_true rfl)) dX12_key_97 ⟨Nat.le_of_ble_eq_true rfl, Nat.le_of_ble_eq_true rfl⟩)) (fun r201 hr201 => ?_)
                subst hr201
                have htf201 := bA_f tx sz1 ((fN u 13) + i_121)
                refine lv_icmp_ne (tgt := 107) hx hb dX12_key_100 (by decide) (fun c202 => ?_) (fun c202 => ?_)
                · have c202 := mt (b_eq (rfl : Int32.toInt r200 = _) (rfl : Int32.toInt (bA tx sz1 ((fN u 13) + i_121)) = _)).mpr c202
                  refine lv_iconst (v := 0) hx hb dX12_key_107 (by decide) ?_
                  refine lv_istore (lv' := [(4, .int 0), (0, .ref (b 0)), (1, .int 1), (2, .int 8), (3, .int 12), (5, .int (nI i_121))]) hx hb dX12_key_108 hl (by decide) rfl (fun ls hl => ?_)
                  refine lv_iinc (v := nI (i_121 + 1)) (lv' := [(5, .int (nI (i_121 + 1))), (4, .int 0), (0, .ref (b 0)), (1, .int 1), (2, .int 8), (3, .int 12)]) hx hb dX12_key_110 hl (k := 5) rfl (nI_1 i_121) (by decide) rfl (fun ls hl => ?_)
                  refine lv_goto (tgt := 67) hx hb dX12_key_113 (by decide) ?_
                  exact ih121 _ _ (by omega) ⟨(i_121 + 1), 0, rfl, (by first | assumption | omega | rfl | (congr 1; omega)), lv_sub hl [2, 3, 4, 5, 1, 0] rfl⟩
                · have c202 := (b_eq (rfl : Int32.toInt r200 = _) (rfl : Int32.toInt (bA tx sz1 ((fN u 13) + i_121)) = _)).mp c202
                  refine lv_iconst (v := 1) hx hb dX12_key_103 (by decide) ?_
                  refine lv_goto (tgt := 108) hx hb dX12_key_104 (by decide) ?_
                  refine lv_istore (lv' := [(4, .int 1), (0, .ref (b 0)), (1, .int 1), (2, .int 8), (3, .int 12), (5, .int (nI i_121))]) hx hb dX12_key_108 hl (by decide) rfl (fun ls hl => ?_)
                  refine lv_iinc (v := nI (i_121 + 1)) (lv' := [(5, .int (nI (i_121 + 1))), (4, .int 1), (0, .ref (b 0)), (1, .int 1), (2, .int 8), (3, .int 12)]) hx hb dX12_key_110 hl (k := 5) rfl (nI_1 i_121) (by decide) rfl (fun ls hl => ?_)
                  refine lv_goto (tgt := 67) hx hb dX12_key_113 (by decide) ?_
                  exact ih121 _ _ (by omega) ⟨(i_121 + 1), 1, rfl, (by first | assumption | omega | rfl | (congr 1; omega)), lv_sub hl [2, 3, 4, 5, 1, 0] rfl⟩
        · have c25 := mt (b_eq (rfl : Int32.toInt x1_23 = _) (show Int32.toInt 0 = 0 from rfl)).mpr c25
          refine lv_iload_n hx hb dX12_key_121 rfl (lv_at hl 1 rfl) ?_
          exact W.iret (v := 0) hx hb hr (fun t ht hW => ⟨0, rfl, trivial, ht⟩) (fun _ h => absurd h List.not_mem_nil) dX12_key_122
      · have c24 := mt (b_le (show Int32.toInt 6 = 6 from rfl) (nI_toInt (n := i_23) (by omega))).mpr c24
        refine lv_iload hx hb dX12_key_75 (lv_at hl 4 rfl) ?_
        refine lv_if_eq (tgt := 116) hx hb dX12_key_77 (by decide) (fun c203 => ?_) (fun c203 => ?_)
        · have c203 := (b_eq (rfl : Int32.toInt x1_23 = _) (show Int32.toInt 0 = 0 from rfl)).mp c203
          refine lv_iload hx hb dX12_key_116 (lv_at hl 4 rfl) ?_
          refine lv_if_eq (tgt := 123) hx hb dX12_key_118 (by decide) (fun c204 => ?_) (fun c204 => ?_)
          · have c204 := (b_eq (rfl : Int32.toInt x1_23 = _) (show Int32.toInt 0 = 0 from rfl)).mp c204
            refine lv_iinc (v := 1) (lv' := [(1, .int 1), (0, .ref (b 0)), (2, .int 1), (3, .int 7), (4, .int x1_23), (5, .int (nI i_23))]) hx hb dX12_key_123 hl (k := 1) rfl (by decide) (by decide) rfl (fun ls hl => ?_)
            refine lv_iload_n hx hb dX12_key_126 rfl (lv_at hl 3 rfl) ?_
            refine lv_iconst (v := 1) hx hb dX12_key_127 (by decide) ?_
            refine lv_iadd hx hb dX12_key_128 ?_
            refine W.eq (g2 := F0 m 129 ls [.int 8]) rfl ?_
            refine lv_istore_n (lv' := [(2, .int 8), (1, .int 1), (0, .ref (b 0)), (3, .int 7), (4, .int x1_23), (5, .int (nI i_23))]) hx hb dX12_key_129 rfl hl (by decide) rfl (fun ls hl => ?_)
            refine lv_goto (tgt := 14) hx hb dX12_key_130 (by decide) ?_
            refine lv_iload_n hx hb dX12_key_14 rfl (lv_at hl 0 rfl) ?_
            refine va_ldcS hx hb hown hZ dX12_key_15 ?_
            refine vp_callSi (va_Run.run (va_runV (As := []) (rest := [.int 8]) ⟨hx, hb, hml, hown, noTs⟩ (s_J0_length l adK adV 3 (by decide)) ⟨cbE 0 (wd_488 hE) (wd_129 hE) (wd_1527 hE) rfl rfl (by decide +kernel) ⟨Nat.le_of_ble_eq_true rfl, Nat.le_of_ble_eq_true rfl⟩, (wd_486 hE), (wd_487 hE)⟩ ⟨PS.blind, vk_recv hX.1 (by decide) hS, ps_pre (av := [.ref (adK 3)]) hX hS hE⟩ rfl rfl hl.1 rfl (lv_room (Nat.le_of_ble_eq_true rfl)) dX12_key_17 ⟨Nat.le_of_ble_eq_true rfl, Nat.le_of_ble_eq_true rfl⟩)) (fun r205 hr205 => ?_)
            have hr205 : r205 = 18 := hr205
            subst hr205
            refine lv_icmp_ge (tgt := 133) hx hb dX12_key_20 (by decide) (fun c206 => absurd c206 (by decide)) (fun c206 => ?_)
            refine lv_iload_n hx hb dX12_key_23 rfl (lv_at hl 0 rfl) ?_
            refine lv_istore_n (lv' := [(3, .int 8), (2, .int 8), (1, .int 1), (0, .ref (b 0)), (4, .int x1_23), (5, .int (nI i_23))]) hx hb dX12_key_24 rfl hl (by decide) rfl (fun ls hl => ?_)
            refine va_ldcS hx hb hown hZ dX12_key_25 ?_
            refine lv_iload_n hx hb dX12_key_27 rfl (lv_at hl 0 rfl) ?_
            refine vp_callSi (va_Run.run (va_runV (As := [.int (nI 8)]) (rest := []) ⟨hx, hb, hml, hown, noTs⟩ (s_J0_charAt l adK adV 3 8 (by decide) (by show _ < 18; omega)) ⟨cbE 1 (wd_498 hE) (wd_129 hE) (wd_1528 hE) rfl rfl (by decide +kernel) ⟨Nat.le_of_ble_eq_true rfl, Nat.le_of_ble_eq_true rfl⟩, (wd_496 hE), (wd_497 hE)⟩ ⟨PS.blind, vk_recv hX.1 (by decide) hS, ps_pre (av := [.ref (adK 3), .int (nI 8)]) hX hS hE⟩ rfl rfl hl.1 rfl (lv_room (Nat.le_of_ble_eq_true rfl)) dX12_key_28 ⟨Nat.le_of_ble_eq_true rfl, Nat.le_of_ble_eq_true rfl⟩)) (fun r207 hr207 => ?_)
            have hr207 : r207 = 101 := hr207.trans (by decide)
            subst hr207
            refine lv_bipush (v := 32) hx hb dX12_key_31 (by decide) ?_
            refine lv_icmp_eq (tgt := 42) hx hb dX12_key_33 (by decide) (fun c208 => absurd c208 (by decide)) (fun c208 => ?_)
            refine lv_iinc (v := 9) (lv' := [(3, .int 9), (2, .int 8), (1, .int 1), (0, .ref (b 0)), (4, .int x1_23), (5, .int (nI i_23))]) hx hb dX12_key_36 hl (k := 0) rfl (by decide) (by decide) rfl (fun ls hl => ?_)
            refine lv_goto (tgt := 25) hx hb dX12_key_39 (by decide) ?_
            refine va_ldcS hx hb hown hZ dX12_key_25 ?_
            refine lv_iload_n hx hb dX12_key_27 rfl (lv_at hl 0 rfl) ?_
            refine vp_callSi (va_Run.run (va_runV (As := [.int (nI 9)]) (rest := []) ⟨hx, hb, hml, hown, noTs⟩ (s_J0_charAt l adK adV 3 9 (by decide) (by show _ < 18; omega)) ⟨cbE 1 (wd_498 hE) (wd_129 hE) (wd_1528 hE) rfl rfl (by decide +kernel) ⟨Nat.le_of_ble_eq_true rfl, Nat.le_of_ble_eq_true rfl⟩, (wd_496 hE), (wd_497 hE)⟩ ⟨PS.blind, vk_recv hX.1 (by decide) hS, ps_pre (av := [.ref (adK 3), .int (nI 9)]) hX hS hE⟩ rfl rfl hl.1 rfl (lv_room (Nat.le_of_ble_eq_true rfl)) dX12_key_28 ⟨Nat.le_of_ble_eq_true rfl, Nat.le_of_ble_eq_true rfl⟩)) (fun r209 hr209 => ?_)
            have hr209 : r209 = 100 := hr209.trans (by decide)
            subst hr209
            refine lv_bipush (v := 32) hx hb dX12_key_31 (by decide) ?_
            refine lv_icmp_eq (tgt := 42) hx hb dX12_key_33 (by decide) (fun c210 => absurd c210 (by decide)) (fun c210 => ?_)
            refine lv_iinc (v := 10) (lv' := [(3, .int 10), (2, .int 8), (1, .int 1), (0, .ref (b 0)), (4, .int x1_23), (5, .int (nI i_23))]) hx hb dX12_key_36 hl (k := 0) rfl (by decide) (by decide) rfl (fun ls hl => ?_)
            refine lv_goto (tgt := 25) hx hb dX12_key_39 (by decide) ?_
            refine va_ldcS hx hb hown hZ dX12_key_25 ?_
            refine lv_iload_n hx hb dX12_key_27 rfl (lv_at hl 0 rfl) ?_
            refine vp_callSi (va_Run.run (va_runV (As := [.int (nI 10)]) (rest := []) ⟨hx, hb, hml, hown, noTs⟩ (s_J0_charAt l adK adV 3 10 (by decide) (by show _ < 18; omega)) ⟨cbE 1 (wd_498 hE) (wd_129 hE) (wd_1528 hE) rfl rfl (by decide +kernel) ⟨Nat.le_of_ble_eq_true rfl, Nat.le_of_ble_eq_true rfl⟩, (wd_496 hE), (wd_497 hE)⟩ ⟨PS.blind, vk_recv hX.1 (by decide) hS, ps_pre (av := [.ref (adK 3), .int (nI 10)]) hX hS hE⟩ rfl rfl hl.1 rfl (lv_room (Nat.le_of_ble_eq_true rfl)) dX12_key_28 ⟨Nat.le_of_ble_eq_true rfl, Nat.le_of_ble_eq_true rfl⟩)) (fun r211 hr211 => ?_)
            have hr211 : r211 = 103 := hr211.trans (by decide)
            subst hr211
            refine lv_bipush (v := 32) hx hb dX12_key_31 (by decide) ?_
            refine lv_icmp_eq (tgt := 42) hx hb dX12_key_33 (by decide) (fun c212 => absurd c212 (by decide)) (fun c212 => ?_)
            refine lv_iinc (v := 11) (lv' := [(3, .int 11), (2, .int 8), (1, .int 1), (0, .ref (b 0)), (4, .int x1_23), (5, .int (nI i_23))]) hx hb dX12_key_36 hl (k := 0) rfl (by decide) (by decide) rfl (fun ls hl => ?_)
            refine lv_goto (tgt := 25) hx hb dX12_key_39 (by decide) ?_
            refine va_ldcS hx hb hown hZ dX12_key_25 ?_
            refine lv_iload_n hx hb dX12_key_27 rfl (lv_at hl 0 rfl) ?_
            refine vp_callSi (va_Run.run (va_runV (As := [.int (nI 11)]) (rest := []) ⟨hx, hb, hml, hown, noTs⟩ (s_J0_charAt l adK adV 3 11 (by decide) (by show _ < 18; omega)) ⟨cbE 1 (wd_498 hE) (wd_129 hE) (wd_1528 hE) rfl rfl (by decide +kernel) ⟨Nat.le_of_ble_eq_true rfl, Nat.le_of_ble_eq_true rfl⟩, (wd_496 hE), (wd_497 hE)⟩ ⟨PS.blind, vk_recv hX.1 (by decide) hS, ps_pre (av := [.ref (adK 3), .int (nI 11)]) hX hS hE⟩ rfl rfl hl.1 rfl (lv_room (Nat.le_of_ble_eq_true rfl)) dX12_key_28 ⟨Nat.le_of_ble_eq_true rfl, Nat.le_of_ble_eq_true rfl⟩)) (fun r213 hr213 => ?_)
            have hr213 : r213 = 101 := hr213.trans (by decide)
            subst hr213
            refine lv_bipush (v := 32) hx hb dX12_key_31 (by decide) ?_
            refine lv_icmp_eq (tgt := 42) hx hb dX12_key_33 (by decide) (fun c214 => absurd c214 (by decide)) (fun c214 => ?_)
            refine lv_iinc (v := 12) (lv' := [(3, .int 12), (2, .int 8), (1, .int 1), (0, .ref (b 0)), (4, .int x1_23), (5, .int (nI i_23))]) hx hb dX12_key_36 hl (k := 0) rfl (by decide) (by decide) rfl (fun ls hl => ?_)
            refine lv_goto (tgt := 25) hx hb dX12_key_39 (by decide) ?_
            refine va_ldcS hx hb hown hZ dX12_key_25 ?_
            refine lv_iload_n hx hb dX12_key_27 rfl (lv_at hl 0 rfl) ?_
            refine vp_callSi (va_Run.run (va_runV (As := [.int (nI 12)]) (rest := []) ⟨hx, hb, hml, hown, noTs⟩ (s_J0_charAt l adK adV 3 12 (by decide) (by show _ < 18; omega)) ⟨cbE 1 (wd_498 hE) (wd_129 hE) (wd_1528 hE) rfl rfl (by decide +kernel) ⟨Nat.le_of_ble_eq_true rfl, Nat.le_of_ble_eq_true rfl⟩, (wd_496 hE), (wd_497 hE)⟩ ⟨PS.blind, vk_recv hX.1 (by decide) hS, ps_pre (av := [.ref (adK 3), .int (nI 12)]) hX hS hE⟩ rfl rfl hl.1 rfl (lv_room (Nat.le_of_ble_eq_true rfl)) dX12_key_28 ⟨Nat.le_of_ble_eq_true rfl, Nat.le_of_ble_eq_true rfl⟩)) (fun r215 hr215 => ?_)
            have hr215 : r215 = 32 := hr215.trans (by decide)
            subst hr215
            refine lv_bipush (v := 32) hx hb dX12_key_31 (by decide) ?_
            refine lv_icmp_eq (tgt := 42) hx hb dX12_key_33 (by decide) (fun c216 => ?_) (fun c216 => absurd c216 (by decide))
            refine lv_iload_n hx hb dX12_key_42 rfl (lv_at hl 0 rfl) ?_
            refine lv_iload_n hx hb dX12_key_43 rfl (lv_at hl 1 rfl) ?_
            refine lv_isub hx hb dX12_key_44 ?_
            refine W.eq (g2 := F0 m 45 ls [.int 4]) rfl ?_
            refine lv_aload_n hx hb dX12_key_45 rfl (lv_at hl 3 rfl) ?_
            refine r_get (v := .int (nI (fN u 14))) hx hb (ly_X12 hE) hown hK hP rfl 14 (by decide) (wd_1395 hE) (fun _ h9 => h9) (congrArg (fun z : Int32 => some (Value.int z)) hp0.2.1) dX12_key_46 ?_
            refine lv_aload_n hx hb dX12_key_49 rfl (lv_at hl 3 rfl) ?_
            refine r_get (v := .int (nI (fN u 13))) hx hb (ly_X12 hE) hown hK hP rfl 13 (by decide) (wd_1394 hE) (fun _ h9 => h9) (congrArg (fun z : Int32 => some (Value.int z)) hp0.1) dX12_key_50 ?_
            refine lv_isub hx hb dX12_key_53 ?_
            refine W.eq (g2 := F0 m 54 ls [.int (nI ((fN u 14) - (fN u 13))), .int 4]) (congrArg (fun z : Int32 => F0 m 54 ls (.int z :: [.int 4])) (pk_sub (a := fN u 14) (b := fN u 13) (by omega))) ?_
            refine lv_icmp_ne (tgt := 61) hx hb dX12_key_54 (by decide) (fun c217 => ?_) (fun c217 => ?_)
            · have c217 := mt (b_eq (show Int32.toInt 4 = 4 from rfl) (nI_toInt (n := (fN u 14) - (fN u 13)) (by omega))).mpr c217
              refine lv_iconst (v := 0) hx hb dX12_key_61 (by decide) ?_
              refine lv_istore (lv' := [(4, .int 0), (3, .int 12), (2, .int 8), (1, .int 1), (0, .ref (b 0)), (5, .int (nI i_23))]) hx hb dX12_key_62 hl (by decide) rfl (fun ls hl => ?_)
              refine lv_iconst (v := 0) hx hb dX12_key_64 (by decide) ?_
              refine lv_istore (lv' := [(5, .int 0), (4, .int 0), (3, .int 12), (2, .int 8), (1, .int 1), (0, .ref (b 0))]) hx hb dX12_key_65 hl (by decide) rfl (fun ls hl => ?_)
              refine r_indP (I := fun n ls => ∃ (i_218 : Nat) (x1_218 : Int32), n = 12 - 8 - i_218 ∧ (i_218 ≤ 12 - 8) ∧ lv_has ls 6 [(0, .ref (b 0)), (1, .int 1), (2, .int 8), (3, .int 12), (4, .int x1_218), (5, .int (nI i_218))]) (fun n ls hI ih218 => ?_) _ _ ⟨0, 0, rfl, (by first | assumption | omega | rfl | (congr 1; omega)), lv_sub hl [5, 4, 3, 2, 1, 0] rfl⟩
              obtain ⟨i_218, x1_218, hmu218, hL218_0, hl⟩ := hI
              subst hmu218
              refine lv_iload hx hb dX12_key_67 (lv_at hl 5 rfl) ?_
              refine lv_iload_n hx hb dX12_key_69 rfl (lv_at hl 3 rfl) ?_
              refine lv_iload_n hx hb dX12_key_70 rfl (lv_at hl 2 rfl) ?_
              refine lv_isub hx hb dX12_key_71 ?_
              refine W.eq (g2 := F0 m 72 ls [.int 4, .int (nI i_218)]) rfl ?_
              refine lv_icmp_ge (tgt := 116) hx hb dX12_key_72 (by decide) (fun c219 => ?_) (fun c219 => ?_)
              · have c219 := (b_le (show Int32.toInt 4 = 4 from rfl) (nI_toInt (n := i_218) (by omega))).mp c219
                refine lv_iload hx hb dX12_key_116 (lv_at hl 4 rfl) ?_
                refine lv_if_eq (tgt := 123) hx hb dX12_key_118 (by decide) (fun c220 => ?_) (fun c220 => ?_)
                · have c220 := (b_eq (rfl : Int32.toInt x1_218 = _) (show Int32.toInt 0 = 0 from rfl)).mp c220
                  refine lv_iinc (v := 2) (lv' := [(1, .int 2), (0, .ref (b 0)), (2, .int 8), (3, .int 12), (4, .int x1_218), (5, .int (nI i_218))]) hx hb dX12_key_123 hl (k := 1) rfl (by decide) (by decide) rfl (fun ls hl => ?_)
                  refine lv_iload_n hx hb dX12_key_126 rfl (lv_at hl 3 rfl) ?_
                  refine lv_iconst (v := 1) hx hb dX12_key_127 (by decide) ?_
                  refine lv_iadd hx hb dX12_key_128 ?_
                  refine W.eq (g2 := F0 m 129 ls [.int 13]) rfl ?_
                  refine lv_istore_n (lv' := [(2, .int 13), (1, .int 2), (0, .ref (b 0)), (3, .int 12), (4, .int x1_218), (5, .int (nI i_218))]) hx hb dX12_key_129 rfl hl (by decide) rfl (fun ls hl => ?_)
                  refine lv_goto (tgt := 14) hx hb dX12_key_130 (by decide) ?_
                  refine lv_iload_n hx hb dX12_key_14 rfl (lv_at hl 0 rfl) ?_
                  refine va_ldcS hx hb hown hZ dX12_key_15 ?_
                  refine vp_callSi (va_Run.run (va_runV (As := []) (rest := [.int 13]) ⟨hx, hb, hml, hown, noTs⟩ (s_J0_length l adK adV 3 (by decide)) ⟨cbE 0 (wd_488 hE) (wd_129 hE) (wd_1527 hE) rfl rfl (by decide +kernel) ⟨Nat.le_of_ble_eq_true rfl, Nat.le_of_ble_eq_true rfl⟩, (wd_486 hE), (wd_487 hE)⟩ ⟨PS.blind, vk_recv hX.1 (by decide) hS, ps_pre (av := [.ref (adK 3)]) hX hS hE⟩ rfl rfl hl.1 rfl (lv_room (Nat.le_of_ble_eq_true rfl)) dX12_key_17 ⟨Nat.le_of_ble_eq_true rfl, Nat.le_of_ble_eq_true rfl⟩)) (fun r221 hr221 => ?_)
                  have hr221 : r221 = 18 := hr221
                  subst hr221
                  refine lv_icmp_ge (tgt := 133) hx hb dX12_key_20 (by decide) (fun c222 => absurd c222 (by decide)) (fun c222 => ?_)
                  refine lv_iload_n hx hb dX12_key_23 rfl (lv_at hl 0 rfl) ?_
                  refine lv_istore_n (lv' := [(3, .int 13), (2, .int 13), (1, .int 2), (0, .ref (b 0)), (4, .int x1_218), (5, .int (nI i_218))]) hx hb dX12_key_24 rfl hl (by decide) rfl (fun ls hl => ?_)
                  refine va_ldcS hx hb hown hZ dX12_key_25 ?_
                  refine lv_iload_n hx hb dX12_key_27 rfl (lv_at hl 0 rfl) ?_
                  refine vp_callSi (va_Run.run (va_runV (As := [.int (nI 13)]) (rest := []) ⟨hx, hb, hml, hown, noTs⟩ (s_J0_charAt l adK adV 3 13 (by decide) (by show _ < 18; omega)) ⟨cbE 1 (wd_498 hE) (wd_129 hE) (wd_1528 hE) rfl rfl (by decide +kernel) ⟨Nat.le_of_ble_eq_true rfl, Nat.le_of_ble_eq_true rfl⟩, (wd_496 hE), (wd_497 hE)⟩ ⟨PS.blind, vk_recv hX.1 (by decide) hS, ps_pre (av := [.ref (adK 3), .int (nI 13)]) hX hS hE⟩ rfl rfl hl.1 rfl (lv_room (Nat.le_of_ble_eq_true rfl)) dX12_key_28 ⟨Nat.le_of_ble_eq_true rfl, Nat.le_of_ble_eq_true rfl⟩)) (fun r223 hr223 => ?_)
                  have hr223 : r223 = 119 := hr223.trans (by decide)
                  subst hr223
                  refine lv_bipush (v := 32) hx hb dX12_key_31 (by decide) ?_
                  refine lv_icmp_eq (tgt := 42) hx hb dX12_key_33 (by decide) (fun c224 => absurd c224 (by decide)) (fun c224 => ?_)
                  refine lv_iinc (v := 14) (lv' := [(3, .int 14), (2, .int 13), (1, .int 2), (0, .ref (b 0)), (4, .int x1_218), (5, .int (nI i_218))]) hx hb dX12_key_36 hl (k := 0) rfl (by decide) (by decide) rfl (fun ls hl => ?_)
                  refine lv_goto (tgt := 25) hx hb dX12_key_39 (by decide) ?_
                  refine va_ldcS hx hb hown hZ dX12_key_25 ?_
                  refine lv_iload_n hx hb dX12_key_27 rfl (lv_at hl 0 rfl) ?_
                  refine vp_callSi (va_Run.run (va_runV (As := [.int (nI 14)]) (rest := []) ⟨hx, hb, hml, hown, noTs⟩ (s_J0_charAt l adK adV 3 14 (by decide) (by show _ < 18; omega)) ⟨cbE 1 (wd_498 hE) (wd_129 hE) (wd_1528 hE) rfl rfl (by decide +kernel) ⟨Nat.le_of_ble_eq_true rfl, Nat.le_of_ble_eq_true rfl⟩, (wd_496 hE), (wd_497 hE)⟩ ⟨PS.blind, vk_recv hX.1 (by decide) hS, ps_pre (av := [.ref (adK 3), .int (nI 14)]) hX hS hE⟩ rfl rfl hl.1 rfl (lv_room (Nat.le_of_ble_eq_true rfl)) dX12_key_28 ⟨Nat.le_of_ble_eq_true rfl, Nat.le_of_ble_eq_true rfl⟩)) (fun r225 hr225 => ?_)
                  have hr225 : r225 = 111 := hr225.trans (by decide)
                  subst hr225
                  refine lv_bipush (v := 32) hx hb dX12_key_31 (by decide) ?_
                  refine lv_icmp_eq (tgt := 42) hx hb dX12_key_33 (by decide) (fun c226 => absurd c226 (by decide)) (fun c226 => ?_)
                  refine lv_iinc (v := 15) (lv' := [(3, .int 15), (2, .int 13), (1, .int 2), (0, .ref (b 0)), (4, .int x1_218), (5, .int (nI i_218))]) hx hb dX12_key_36 hl (k := 0) rfl (by decide) (by decide) rfl (fun ls hl => ?_)
                  refine lv_goto (tgt := 25) hx hb dX12_key_39 (by decide) ?_
                  refine va_ldcS hx hb hown hZ dX12_key_25 ?_
                  refine lv_iload_n hx hb dX12_key_27 rfl (lv_at hl 0 rfl) ?_
                  refine vp_callSi (va_Run.run (va_runV (As := [.int (nI 15)]) (rest := []) ⟨hx, hb, hml, hown, noTs⟩ (s_J0_charAt l adK adV 3 15 (by decide) (by show _ < 18; omega)) ⟨cbE 1 (wd_498 hE) (wd_129 hE) (wd_1528 hE) rfl rfl (by decide +kernel) ⟨Nat.le_of_ble_eq_true rfl, Nat.le_of_ble_eq_true rfl⟩, (wd_496 hE), (wd_497 hE)⟩ ⟨PS.blind, vk_recv hX.1 (by decide) hS, ps_pre (av := [.ref (adK 3), .int (nI 15)]) hX hS hE⟩ rfl rfl hl.1 rfl (lv_room (Nat.le_of_ble_eq_true rfl)) dX12_key_28 ⟨Nat.le_of_ble_eq_true rfl, Nat.le_of_ble_eq_true rfl⟩)) (fun r227 hr227 => ?_)
                  have hr227 : r227 = 114 := hr227.trans (by decide)
                  subst hr227
                  refine lv_bipush (v := 32) hx hb dX12_key_31 (by decide) ?_
                  refine lv_icmp_eq (tgt := 42) hx hb dX12_key_33 (by decide) (fun c228 => absurd c228 (by decide)) (fun c228 => ?_)
                  refine lv_iinc (v := 16) (lv' := [(3, .int 16), (2, .int 13), (1, .int 2), (0, .ref (b 0)), (4, .int x1_218), (5, .int (nI i_218))]) hx hb dX12_key_36 hl (k := 0) rfl (by decide) (by decide) rfl (fun ls hl => ?_)
                  refine lv_goto (tgt := 25) hx hb dX12_key_39 (by decide) ?_
                  refine va_ldcS hx hb hown hZ dX12_key_25 ?_
                  refine lv_iload_n hx hb dX12_key_27 rfl (lv_at hl 0 rfl) ?_
                  refine vp_callSi (va_Run.run (va_runV (As := [.int (nI 16)]) (rest := []) ⟨hx, hb, hml, hown, noTs⟩ (s_J0_charAt l adK adV 3 16 (by decide) (by show _ < 18; omega)) ⟨cbE 1 (wd_498 hE) (wd_129 hE) (wd_1528 hE) rfl rfl (by decide +kernel) ⟨Nat.le_of_ble_eq_true rfl, Nat.le_of_ble_eq_true rfl⟩, (wd_496 hE), (wd_497 hE)⟩ ⟨PS.blind, vk_recv hX.1 (by decide) hS, ps_pre (av := [.ref (adK 3), .int (nI 16)]) hX hS hE⟩ rfl rfl hl.1 rfl (lv_room (Nat.le_of_ble_eq_true rfl)) dX12_key_28 ⟨Nat.le_of_ble_eq_true rfl, Nat.le_of_ble_eq_true rfl⟩)) (fun r229 hr229 => ?_)
                  have hr229 : r229 = 100 := hr229.trans (by decide)
                  subst hr229
                  refine lv_bipush (v := 32) hx hb dX12_key_31 (by decide) ?_
                  refine lv_icmp_eq (tgt := 42) hx hb dX12_key_33 (by decide) (fun c230 => absurd c230 (by decide)) (fun c230 => ?_)
                  refine lv_iinc (v := 17) (lv' := [(3, .int 17), (2, .int 13), (1, .int 2), (0, .ref (b 0)), (4, .int x1_218), (5, .int (nI i_218))]) hx hb dX12_key_36 hl (k := 0) rfl (by decide) (by decide) rfl (fun ls hl => ?_)
                  refine lv_goto (tgt := 25) hx hb dX12_key_39 (by decide) ?_
                  refine va_ldcS hx hb hown hZ dX12_key_25 ?_
                  refine lv_iload_n hx hb dX12_key_27 rfl (lv_at hl 0 rfl) ?_
                  refine vp_callSi (va_Run.run (va_runV (As := [.int (nI 17)]) (rest := []) ⟨hx, hb, hml, hown, noTs⟩ (s_J0_charAt l adK adV 3 17 (by decide) (by show _ < 18; omega)) ⟨cbE 1 (wd_498 hE) (wd_129 hE) (wd_1528 hE) rfl rfl (by decide +kernel) ⟨Nat.le_of_ble_eq_true rfl, Nat.le_of_ble_eq_true rfl⟩, (wd_496 hE), (wd_497 hE)⟩ ⟨PS.blind, vk_recv hX.1 (by decide) hS, ps_pre (av := [.ref (adK 3), .int (nI 17)]) hX hS hE⟩ rfl rfl hl.1 rfl (lv_room (Nat.le_of_ble_eq_true rfl)) dX12_key_28 ⟨Nat.le_of_ble_eq_true rfl, Nat.le_of_ble_eq_true rfl⟩)) (fun r231 hr231 => ?_)
                  have hr231 : r231 = 32 := hr231.trans (by decide)
                  subst hr231
                  refine lv_bipush (v := 32) hx hb dX12_key_31 (by decide) ?_
                  refine lv_icmp_eq (tgt := 42) hx hb dX12_key_33 (by decide) (fun c232 => ?_) (fun c232 => absurd c232 (by decide))
                  refine lv_iload_n hx hb dX12_key_42 rfl (lv_at hl 0 rfl) ?_
                  refine lv_iload_n hx hb dX12_key_43 rfl (lv_at hl 1 rfl) ?_
                  refine lv_isub hx hb dX12_key_44 ?_
                  refine W.eq (g2 := F0 m 45 ls [.int 4]) rfl ?_
                  refine lv_aload_n hx hb dX12_key_45 rfl (lv_at hl 3 rfl) ?_
                  refine r_get (v := .int (nI (fN u 14))) hx hb (ly_X12 hE) hown hK hP rfl 14 (by decide) (wd_1395 hE) (fun _ h9 => h9) (congrArg (fun z : Int32 => some (Value.int z)) hp0.2.1) dX12_key_46 ?_
                  refine lv_aload_n hx hb dX12_key_49 rfl (lv_at hl 3 rfl) ?_
                  refine r_get (v := .int (nI (fN u 13))) hx hb (ly_X12 hE) hown hK hP rfl 13 (by decide) (wd_1394 hE) (fun _ h9 => h9) (congrArg (fun z : Int32 => some (Value.int z)) hp0.1) dX12_key_50 ?_
                  refine lv_isub hx hb dX12_key_53 ?_
                  refine W.eq (g2 := F0 m 54 ls [.int (nI ((fN u 14) - (fN u 13))), .int 4]) (congrArg (fun z : Int32 => F0 m 54 ls (.int z :: [.int 4])) (pk_sub (a := fN u 14) (b := fN u 13) (by omega))) ?_
                  refine lv_icmp_ne (tgt := 61) hx hb dX12_key_54 (by decide) (fun c233 => ?_) (fun c233 => ?_)
                  · have c233 := mt (b_eq (show Int32.toInt 4 = 4 from rfl) (nI_toInt (n := (fN u 14) - (fN u 13)) (by omega))).mpr c233
                    refine lv_iconst (v := 0) hx hb dX12_key_61 (by decide) ?_
                    refine lv_istore (lv' := [(4, .int 0), (3, .int 17), (2, .int 13), (1, .int 2), (0, .ref (b 0)), (5, .int (nI i_218))]) hx hb dX12_key_62 hl (by decide) rfl (fun ls hl => ?_)
                    refine lv_iconst (v := 0) hx hb dX12_key_64 (by decide) ?_
                    refine lv_istore (lv' := [(5, .int 0), (4, .int 0), (3, .int 17), (2, .int 13), (1, .int 2), (0, .ref (b 0))]) hx hb dX12_key_65 hl (by decide) rfl (fun ls hl => ?_)
                    refine r_indP (I := fun n ls => ∃ (i_234 : Nat) (x1_234 : Int32), n = 17 - 13 - i_234 ∧ (i_234 ≤ 17 - 13) ∧ lv_has ls 6 [(0, .ref (b 0)), (1, .int 2), (2, .int 13), (3, .int 17), (4, .int x1_234), (5, .int (nI i_234))]) (fun n ls hI ih234 => ?_) _ _ ⟨0, 0, rfl, (by first | assumption | omega | rfl | (congr 1; omega)), lv_sub hl [5, 4, 3, 2, 1, 0] rfl⟩
                    obtain ⟨i_234, x1_234, hmu234, hL234_0, hl⟩ := hI
                    subst hmu234
                    refine lv_iload hx hb dX12_key_67 (lv_at hl 5 rfl) ?_
                    refine lv_iload_n hx hb dX12_key_69 rfl (lv_at hl 3 rfl) ?_
                    refine lv_iload_n hx hb dX12_key_70 rfl (lv_at hl 2 rfl) ?_
                    refine lv_isub hx hb dX12_key_71 ?_
                    refine W.eq (g2 := F0 m 72 ls [.int 4, .int (nI i_234)]) rfl ?_
                    refine lv_icmp_ge (tgt := 116) hx hb dX12_key_72 (by decide) (fun c235 => ?_) (fun c235 => ?_)
                    · have c235 := (b_le (show Int32.toInt 4 = 4 from rfl) (nI_toInt (n := i_234) (by omega))).mp c235
                      refine lv_iload hx hb dX12_key_116 (lv_at hl 4 rfl) ?_
                      refine lv_if_eq (tgt := 123) hx hb dX12_key_118 (by decide) (fun c236 => ?_) (fun c236 => ?_)
                      · have c236 := (b_eq (rfl : Int32.toInt x1_234 = _) (show Int32.toInt 0 = 0 from rfl)).mp c236
                        refine lv_iinc (v := 3) (lv' := [(1, .int 3), (0, .ref (b 0)), (2, .int 13), (3, .int 17), (4, .int x1_234), (5, .int (nI i_234))]) hx hb dX12_key_123 hl (k := 1) rfl (by decide) (by decide) rfl (fun ls hl => ?_)
                        refine lv_iload_n hx hb dX12_key_126 rfl (lv_at hl 3 rfl) ?_
                        refine lv_iconst (v := 1) hx hb dX12_key_127 (by decide) ?_
                        refine lv_iadd hx hb dX12_key_128 ?_
                        refine W.eq (g2 := F0 m 129 ls [.int 18]) rfl ?_
                        refine lv_istore_n (lv' := [(2, .int 18), (1, .int 3), (0, .ref (b 0)), (3, .int 17), (4, .int x1_234), (5, .int (nI i_234))]) hx hb dX12_key_129 rfl hl (by decide) rfl (fun ls hl => ?_)
                        refine lv_goto (tgt := 14) hx hb dX12_key_130 (by decide) ?_
                        refine lv_iload_n hx hb dX12_key_14 rfl (lv_at hl 0 rfl) ?_
                        refine va_ldcS hx hb hown hZ dX12_key_15 ?_
                        refine vp_callSi (va_Run.run (va_runV (As := []) (rest := [.int 18]) ⟨hx, hb, hml, hown, noTs⟩ (s_J0_length l adK adV 3 (by decide)) ⟨cbE 0 (wd_488 hE) (wd_129 hE) (wd_1527 hE) rfl rfl (by decide +kernel) ⟨Nat.le_of_ble_eq_true rfl, Nat.le_of_ble_eq_true rfl⟩, (wd_486 hE), (wd_487 hE)⟩ ⟨PS.blind, vk_recv hX.1 (by decide) hS, ps_pre (av := [.ref (adK 3)]) hX hS hE⟩ rfl rfl hl.1 rfl (lv_room (Nat.le_of_ble_eq_true rfl)) dX12_key_17 ⟨Nat.le_of_ble_eq_true rfl, Nat.le_of_ble_eq_true rfl⟩)) (fun r237 hr237 => ?_)
                        have hr237 : r237 = 18 := hr237
                        subst hr237
                        refine lv_icmp_ge (tgt := 133) hx hb dX12_key_20 (by decide) (fun c238 => ?_) (fun c238 => absurd c238 (by decide))
                        refine lv_iconst (v := -1) hx hb dX12_key_133 (by decide) ?_
                        exact W.iret (v := -1) hx hb hr (fun t ht hW => ⟨-1, rfl, trivial, ht⟩) (fun _ h => absurd h List.not_mem_nil) dX12_key_134
                      · have c236 := mt (b_eq (rfl : Int32.toInt x1_234 = _) (show Int32.toInt 0 = 0 from rfl)).mpr c236
                        refine lv_iload_n hx hb dX12_key_121 rfl (lv_at hl 1 rfl) ?_
                        exact W.iret (v := 2) hx hb hr (fun t ht hW => ⟨2, rfl, trivial, ht⟩) (fun _ h => absurd h List.not_mem_nil) dX12_key_122
                    · have c235 := mt (b_le (show Int32.toInt 4 = 4 from rfl) (nI_toInt (n := i_234) (by omega))).mpr c235
                      refine lv_iload hx hb dX12_key_75 (lv_at hl 4 rfl) ?_
                      refine lv_if_eq (tgt := 116) hx hb dX12_key_77 (by decide) (fun c239 => ?_) (fun c239 => ?_)
                      · have c239 := (b_eq (rfl : Int32.toInt x1_234 = _) (show Int32.toInt 0 = 0 from rfl)).mp c239
                        refine lv_iload hx hb dX12_key_116 (lv_at hl 4 rfl) ?_
                        refine lv_if_eq (tgt := 123) hx hb dX12_key_118 (by decide) (fun c240 => ?_) (fun c240 => ?_)
                        · have c240 := (b_eq (rfl : Int32.toInt x1_234 = _) (show Int32.toInt 0 = 0 from rfl)).mp c240
                          refine lv_iinc (v := 3) (lv' := [(1, .int 3), (0, .ref (b 0)), (2, .int 13), (3, .int 17), (4, .int x1_234), (5, .int (nI i_234))]) hx hb dX12_key_123 hl (k := 1) rfl (by decide) (by decide) rfl (fun ls hl => ?_)
                          refine lv_iload_n hx hb dX12_key_126 rfl (lv_at hl 3 rfl) ?_
                          refine lv_iconst (v := 1) hx hb dX12_key_127 (by decide) ?_
                          refine lv_iadd hx hb dX12_key_128 ?_
                          refine W.eq (g2 := F0 m 129 ls [.int 18]) rfl ?_
                          refine lv_istore_n (lv' := [(2, .int 18), (1, .int 3), (0, .ref (b 0)), (3, .int 17), (4, .int x1_234), (5, .int (nI i_234))]) hx hb dX12_key_129 rfl hl (by decide) rfl (fun ls hl => ?_)
                          refine lv_goto (tgt := 14) hx hb dX12_key_130 (by decide) ?_
                          refine lv_iload_n hx hb dX12_key_14 rfl (lv_at hl 0 rfl) ?_
                          refine va_ldcS hx hb hown hZ dX12_key_15 ?_
                          refine vp_callSi (va_Run.run (va_runV (As := []) (rest := [.int 18]) ⟨hx, hb, hml, hown, noTs⟩ (s_J0_length l adK adV 3 (by decide)) ⟨cbE 0 (wd_488 hE) (wd_129 hE) (wd_1527 hE) rfl rfl (by decide +kernel) ⟨Nat.le_of_ble_eq_true rfl, Nat.le_of_ble_eq_true rfl⟩, (wd_486 hE), (wd_487 hE)⟩ ⟨PS.blind, vk_recv hX.1 (by decide) hS, ps_pre (av := [.ref (adK 3)]) hX hS hE⟩ rfl rfl hl.1 rfl (lv_room (Nat.le_of_ble_eq_true rfl)) dX12_key_17 ⟨Nat.le_of_ble_eq_true rfl, Nat.le_of_ble_eq_true rfl⟩)) (fun r241 hr241 => ?_)
                          have hr241 : r241 = 18 := hr241
                          subst hr241
                          refine lv_icmp_ge (tgt := 133) hx hb dX12_key_20 (by decide) (fun c242 => ?_) (fun c242 => absurd c242 (by decide))
                          refine lv_iconst (v := -1) hx hb dX12_key_133 (by decide) ?_
                          exact W.iret (v := -1) hx hb hr (fun t ht hW => ⟨-1, rfl, trivial, ht⟩) (fun _ h => absurd h List.not_mem_nil) dX12_key_134
                        · have c240 := mt (b_eq (rfl : Int32.toInt x1_234 = _) (show Int32.toInt 0 = 0 from rfl)).mpr c240
                          refine lv_iload_n hx hb dX12_key_121 rfl (lv_at hl 1 rfl) ?_
                          exact W.iret (v := 2) hx hb hr (fun t ht hW => ⟨2, rfl, trivial, ht⟩) (fun _ h => absurd h List.not_mem_nil) dX12_key_122
                      · have c239 := mt (b_eq (rfl : Int32.toInt x1_234 = _) (show Int32.toInt 0 = 0 from rfl)).mpr c239
                        refine va_ldcS hx hb hown hZ dX12_key_80 ?_
                        refine lv_iload_n hx hb dX12_key_82 rfl (lv_at hl 2 rfl) ?_
                        refine lv_iload hx hb dX12_key_83 (lv_at hl 5 rfl) ?_
                        refine lv_iadd hx hb dX12_key_85 ?_
                        refine W.eq (g2 := F0 m 86 ls [.int (nI (13 + i_234)), .ref (adK 3)]) (congrArg (fun z : Int32 => F0 m 86 ls (.int z :: [.ref (adK 3)])) (nI_add 13 i_234)) ?_
                        refine vp_callSi (va_Run.run (va_runV (As := [.int (nI (13 + i_234))]) (rest := []) ⟨hx, hb, hml, hown, noTs⟩ (s_J0_charAt l adK adV 3 (13 + i_234) (by decide) (by show _ < 18; omega)) ⟨cbE 1 (wd_498 hE) (wd_129 hE) (wd_1528 hE) rfl rfl (by decide +kernel) ⟨Nat.le_of_ble_eq_true rfl, Nat.le_of_ble_eq_true rfl⟩, (wd_496 hE), (wd_497 hE)⟩ ⟨PS.blind, vk_recv hX.1 (by decide) hS, ps_pre (av := [.ref (adK 3), .int (nI (13 + i_234))]) hX hS hE⟩ rfl rfl hl.1 rfl (lv_room (Nat.le_of_ble_eq_true rfl)) dX12_key_86 ⟨Nat.le_of_ble_eq_true rfl, Nat.le_of_ble_eq_true rfl⟩)) (fun r243 hr243 => ?_)
                        refine lv_aload_n hx hb dX12_key_89 rfl (lv_at hl 0 rfl) ?_
                        refine lv_aload_n hx hb dX12_key_90 rfl (lv_at hl 0 rfl) ?_
                        refine r_get (v := .int (nI (fN u 13))) hx hb (ly_X12 hE) hown hK hP rfl 13 (by decide) (wd_1394 hE) (fun _ h9 => h9) (congrArg (fun z : Int32 => some (Value.int z)) hp0.1) dX12_key_91 ?_
                        refine lv_iload hx hb dX12_key_94 (lv_at hl 5 rfl) ?_
                        refine lv_iadd hx hb dX12_key_96 ?_
                        refine W.eq (g2 := F0 m 97 ls [.int (nI ((fN u 13) + i_234)), .ref (b 0), .int r243]) (congrArg (fun z : Int32 => F0 m 97 ls (.int z :: [.ref (b 0), .int r243])) (nI_add (fN u 13) i_234)) ?_
                        refine vp_callSi (va_Run.run (va_runV (As := [.int (nI ((fN u 13) + i_234))]) (rest := [.int r243]) ⟨hx, hb, hml, hown, noTs⟩ (r_X12_byteAt l dC dI s.heap.size cs b u tx hAc16 ((fN u 13) + i_234) sz1 hF11 (by first | assumption | omega | rfl | (congr 1; omega)) (by first | assumption | omega | rfl | (congr 1; omega))) ⟨cbE 1 (wd_1510 hE) (wd_126 hE) (wd_1507 hE) rfl rfl (by decide +kernel) ⟨Nat.le_of_ble_eq_true rfl, Nat.le_of_ble_eq_true rfl⟩, (wd_1509 hE), (wd_57 hE)⟩ ⟨PR.blind, r_recv hK hP rfl, (r_pre (av := [.ref (b 0), .int (nI ((fN u 13) + i_234))]) hK hP hJ hE)⟩ rfl rfl hl.1 rfl (lv_room (Nat.le_of_ble_eq_true rfl)) dX12_key_97 ⟨Nat.le_of_ble_eq_true rfl, Nat.le_of_ble_eq_true rfl⟩)) (fun r244 hr244 => ?_)
                        subst hr244
                        have htf244 := bA_f tx sz1 ((fN u 13) + i_234)
                        refine lv_icmp_ne (tgt := 107) hx hb dX12_key_100 (by decide) (fun c245 => ?_) (fun c245 => ?_)
                        · have c245 := mt (b_eq (rfl : Int32.toInt r243 = _) (rfl : Int32.toInt (bA tx sz1 ((fN u 13) + i_234)) = _)).mpr c245
                          refine lv_iconst (v := 0) hx hb dX12_key_107 (by decide) ?_
                          refine lv_istore (lv' := [(4, .int 0), (0, .ref (b 0)), (1, .int 2), (2, .int 13), (3, .int 17), (5, .int (nI i_234))]) hx hb dX12_key_108 hl (by decide) rfl (fun ls hl => ?_)
                          refine lv_iinc (v := nI (i_234 + 1)) (lv' := [(5, .int (nI (i_234 + 1))), (4, .int 0), (0, .ref (b 0)), (1, .int 2), (2, .int 13), (3, .int 17)]) hx hb dX12_key_110 hl (k := 5) rfl (nI_1 i_234) (by decide) rfl (fun ls hl => ?_)
                          refine lv_goto (tgt := 67) hx hb dX12_key_113 (by decide) ?_
                          exact ih234 _ _ (by omega) ⟨(i_234 + 1), 0, rfl, (by first | assumption | omega | rfl | (congr 1; omega)), lv_sub hl [2, 3, 4, 5, 1, 0] rfl⟩
                        · have c245 := (b_eq (rfl : Int32.toInt r243 = _) (rfl : Int32.toInt (bA tx sz1 ((fN u 13) + i_234)) = _)).mp c245
                          refine lv_iconst (v := 1) hx hb dX12_key_103 (by decide) ?_
                          refine lv_goto (tgt := 108) hx hb dX12_key_104 (by decide) ?_
                          refine lv_istore (lv' := [(4, .int 1), (0, .ref (b 0)), (1, .int 2), (2, .int 13), (3, .int 17), (5, .int (nI i_234))]) hx hb dX12_key_108 hl (by decide) rfl (fun ls hl => ?_)
                          refine lv_iinc (v := nI (i_234 + 1)) (lv' := [(5, .int (nI (i_234 + 1))), (4, .int 1), (0, .ref (b 0)), (1, .int 2), (2, .int 13), (3, .int 17)]) hx hb dX12_key_110 hl (k := 5) rfl (nI_1 i_234) (by decide) rfl (fun ls hl => ?_)
                          refine lv_goto (tgt := 67) hx hb dX12_key_113 (by decide) ?_
                          exact ih234 _ _ (by omega) ⟨(i_234 + 1), 1, rfl, (by first | assumption | omega | rfl | (congr 1; omega)), lv_sub hl [2, 3, 4, 5, 1, 0] rfl⟩
                  · have c233 := (b_eq (show Int32.toInt 4 = 4 from rfl) (nI_toInt (n := (fN u 14) - (fN u 13)) (by omega))).mp c233
                    refine lv_iconst (v := 1) hx hb dX12_key_57 (by decide) ?_
                    refine lv_goto (tgt := 62) hx hb dX12_key_58 (by decide) ?_
                    refine lv_istore (lv' := [(4, .int 1), (3, .int 17), (2, .int 13), (1, .int 2), (0, .ref (b 0)), (5, .int (nI i_218))]) hx hb dX12_key_62 hl (by decide) rfl (fun ls hl => ?_)
                    refine lv_iconst (v := 0) hx hb dX12_key_64 (by decide) ?_
                    refine lv_istore (lv' := [(5, .int 0), (4, .int 1), (3, .int 17), (2, .int 13), (1, .int 2), (0, .ref (b 0))]) hx hb dX12_key_65 hl (by decide) rfl (fun ls hl => ?_)
                    refine r_indP (I := fun n ls => ∃ (i_246 : Nat) (x1_246 : Int32), n = 17 - 13 - i_246 ∧ (i_246 ≤ 17 - 13) ∧ lv_has ls 6 [(0, .ref (b 0)), (1, .int 2), (2, .int 13), (3, .int 17), (4, .int x1_246), (5, .int (nI i_246))]) (fun n ls hI ih246 => ?_) _ _ ⟨0, 1, rfl, (by first | assumption | omega | rfl | (congr 1; omega)), lv_sub hl [5, 4, 3, 2, 1, 0] rfl⟩
                    obtain ⟨i_246, x1_246, hmu246, hL246_0, hl⟩ := hI
                    subst hmu246
                    refine lv_iload hx hb dX12_key_67 (lv_at hl 5 rfl) ?_
                    refine lv_iload_n hx hb dX12_key_69 rfl (lv_at hl 3 rfl) ?_
                    refine lv_iload_n hx hb dX12_key_70 rfl (lv_at hl 2 rfl) ?_
                    refine lv_isub hx hb dX12_key_71 ?_
                    refine W.eq (g2 := F0 m 72 ls [.int 4, .int (nI i_246)]) rfl ?_
                    refine lv_icmp_ge (tgt := 116) hx hb dX12_key_72 (by decide) (fun c247 => ?_) (fun c247 => ?_)
                    · have c247 := (b_le (show Int32.toInt 4 = 4 from rfl) (nI_toInt (n := i_246) (by omega))).mp c247
                      refine lv_iload hx hb dX12_key_116 (lv_at hl 4 rfl) ?_
                      refine lv_if_eq (tgt := 123) hx hb dX12_key_118 (by decide) (fun c248 => ?_) (fun c248 => ?_)
                      · have c248 := (b_eq (rfl : Int32.toInt x1_246 = _) (show Int32.toInt 0 = 0 from rfl)).mp c248
                        refine lv_iinc (v := 3) (lv' := [(1, .int 3), (0, .ref (b 0)), (2, .int 13), (3, .int 17), (4, .int x1_246), (5, .int (nI i_246))]) hx hb dX12_key_123 hl (k := 1) rfl (by decide) (by decide) rfl (fun ls hl => ?_)
                        refine lv_iload_n hx hb dX12_key_126 rfl (lv_at hl 3 rfl) ?_
                        refine lv_iconst (v := 1) hx hb dX12_key_127 (by decide) ?_
                        refine lv_iadd hx hb dX12_key_128 ?_
                        refine W.eq (g2 := F0 m 129 ls [.int 18]) rfl ?_
                        refine lv_istore_n (lv' := [(2, .int 18), (1, .int 3), (0, .ref (b 0)), (3, .int 17), (4, .int x1_246), (5, .int (nI i_246))]) hx hb dX12_key_129 rfl hl (by decide) rfl (fun ls hl => ?_)
                        refine lv_goto (tgt := 14) hx hb dX12_key_130 (by decide) ?_
                        refine lv_iload_n hx hb dX12_key_14 rfl (lv_at hl 0 rfl) ?_
                        refine va_ldcS hx hb hown hZ dX12_key_15 ?_
                        refine vp_callSi (va_Run.run (va_runV (As := []) (rest := [.int 18]) ⟨hx, hb, hml, hown, noTs⟩ (s_J0_length l adK adV 3 (by decide)) ⟨cbE 0 (wd_488 hE) (wd_129 hE) (wd_1527 hE) rfl rfl (by decide +kernel) ⟨Nat.le_of_ble_eq_true rfl, Nat.le_of_ble_eq_true rfl⟩, (wd_486 hE), (wd_487 hE)⟩ ⟨PS.blind, vk_recv hX.1 (by decide) hS, ps_pre (av := [.ref (adK 3)]) hX hS hE⟩ rfl rfl hl.1 rfl (lv_room (Nat.le_of_ble_eq_true rfl)) dX12_key_17 ⟨Nat.le_of_ble_eq_true rfl, Nat.le_of_ble_eq_true rfl⟩)) (fun r249 hr249 => ?_)
                        have hr249 : r249 = 18 := hr249
                        subst hr249
                        refine lv_icmp_ge (tgt := 133) hx hb dX12_key_20 (by decide) (fun c250 => ?_) (fun c250 => absurd c250 (by decide))
                        refine lv_iconst (v := -1) hx hb dX12_key_133 (by decide) ?_
                        exact W.iret (v := -1) hx hb hr (fun t ht hW => ⟨-1, rfl, trivial, ht⟩) (fun _ h => absurd h List.not_mem_nil) dX12_key_134
                      · have c248 := mt (b_eq (rfl : Int32.toInt x1_246 = _) (show Int32.toInt 0 = 0 from rfl)).mpr c248
                        refine lv_iload_n hx hb dX12_key_121 rfl (lv_at hl 1 rfl) ?_
                        exact W.iret (v := 2) hx hb hr (fun t ht hW => ⟨2, rfl, trivial, ht⟩) (fun _ h => absurd h List.not_mem_nil) dX12_key_122
                    · have c247 := mt (b_le (show Int32.toInt 4 = 4 from rfl) (nI_toInt (n := i_246) (by omega))).mpr c247
                      refine lv_iload hx hb dX12_key_75 (lv_at hl 4 rfl) ?_
                      refine lv_if_eq (tgt := 116) hx hb dX12_key_77 (by decide) (fun c251 => ?_) (fun c251 => ?_)
                      · have c251 := (b_eq (rfl : Int32.toInt x1_246 = _) (show Int32.toInt 0 = 0 from rfl)).mp c251
                        refine lv_iload hx hb dX12_key_116 (lv_at hl 4 rfl) ?_
                        refine lv_if_eq (tgt := 123) hx hb dX12_key_118 (by decide) (fun c252 => ?_) (fun c252 => ?_)
                        · have c252 := (b_eq (rfl : Int32.toInt x1_246 = _) (show Int32.toInt 0 = 0 from rfl)).mp c252
                          refine lv_iinc (v := 3) (lv' := [(1, .int 3), (0, .ref (b 0)), (2, .int 13), (3, .int 17), (4, .int x1_246), (5, .int (nI i_246))]) hx hb dX12_key_123 hl (k := 1) rfl (by decide) (by decide) rfl (fun ls hl => ?_)
                          refine lv_iload_n hx hb dX12_key_126 rfl (lv_at hl 3 rfl) ?_
                          refine lv_iconst (v := 1) hx hb dX12_key_127 (by decide) ?_
                          refine lv_iadd hx hb dX12_key_128 ?_
                          refine W.eq (g2 := F0 m 129 ls [.int 18]) rfl ?_
                          refine lv_istore_n (lv' := [(2, .int 18), (1, .int 3), (0, .ref (b 0)), (3, .int 17), (4, .int x1_246), (5, .int (nI i_246))]) hx hb dX12_key_129 rfl hl (by decide) rfl (fun ls hl => ?_)
                          refine lv_goto (tgt := 14) hx hb dX12_key_130 (by decide) ?_
                          refine lv_iload_n hx hb dX12_key_14 rfl (lv_at hl 0 rfl) ?_
                          refine va_ldcS hx hb hown hZ dX12_key_15 ?_
                          refine vp_callSi (va_Run.run (va_runV (As := []) (rest := [.int 18]) ⟨hx, hb, hml, hown, noTs⟩ (s_J0_length l adK adV 3 (by decide)) ⟨cbE 0 (wd_488 hE) (wd_129 hE) (wd_1527 hE) rfl rfl (by decide +kernel) ⟨Nat.le_of_ble_eq_true rfl, Nat.le_of_ble_eq_true rfl⟩, (wd_486 hE), (wd_487 hE)⟩ ⟨PS.blind, vk_recv hX.1 (by decide) hS, ps_pre (av := [.ref (adK 3)]) hX hS hE⟩ rfl rfl hl.1 rfl (lv_room (Nat.le_of_ble_eq_true rfl)) dX12_key_17 ⟨Nat.le_of_ble_eq_true rfl, Nat.le_of_ble_eq_true rfl⟩)) (fun r253 hr253 => ?_)
                          have hr253 : r253 = 18 := hr253
                          subst hr253
                          refine lv_icmp_ge (tgt := 133) hx hb dX12_key_20 (by decide) (fun c254 => ?_) (fun c254 => absurd c254 (by decide))
                          refine lv_iconst (v := -1) hx hb dX12_key_133 (by decide) ?_
                          exact W.iret (v := -1) hx hb hr (fun t ht hW => ⟨-1, rfl, trivial, ht⟩) (fun _ h => absurd h List.not_mem_nil) dX12_key_134
                        · have c252 := mt (b_eq (rfl : Int32.toInt x1_246 = _) (show Int32.toInt 0 = 0 from rfl)).mpr c252
                          refine lv_iload_n hx hb dX12_key_121 rfl (lv_at hl 1 rfl) ?_
                          exact W.iret (v := 2) hx hb hr (fun t ht hW => ⟨2, rfl, trivial, ht⟩) (fun _ h => absurd h List.not_mem_nil) dX12_key_122
                      · have c251 := mt (b_eq (rfl : Int32.toInt x1_246 = _) (show Int32.toInt 0 = 0 from rfl)).mpr c251
                        refine va_ldcS hx hb hown hZ dX12_key_80 ?_
                        refine lv_iload_n hx hb dX12_key_82 rfl (lv_at hl 2 rfl) ?_
                        refine lv_iload hx hb dX12_key_83 (lv_at hl 5 rfl) ?_
                        refine lv_iadd hx hb dX12_key_85 ?_
                        refine W.eq (g2 := F0 m 86 ls [.int (nI (13 + i_246)), .ref (adK 3)]) (congrArg (fun z : Int32 => F0 m 86 ls (.int z :: [.ref (adK 3)])) (nI_add 13 i_246)) ?_
                        refine vp_callSi (va_Run.run (va_runV (As := [.int (nI (13 + i_246))]) (rest := []) ⟨hx, hb, hml, hown, noTs⟩ (s_J0_charAt l adK adV 3 (13 + i_246) (by decide) (by show _ < 18; omega)) ⟨cbE 1 (wd_498 hE) (wd_129 hE) (wd_1528 hE) rfl rfl (by decide +kernel) ⟨Nat.le_of_ble_eq_true rfl, Nat.le_of_ble_eq_true rfl⟩, (wd_496 hE), (wd_497 hE)⟩ ⟨PS.blind, vk_recv hX.1 (by decide) hS, ps_pre (av := [.ref (adK 3), .int (nI (13 + i_246))]) hX hS hE⟩ rfl rfl hl.1 rfl (lv_room (Nat.le_of_ble_eq_true rfl)) dX12_key_86 ⟨Nat.le_of_ble_eq_true rfl, Nat.le_of_ble_eq_true rfl⟩)) (fun r255 hr255 => ?_)
                        refine lv_aload_n hx hb dX12_key_89 rfl (lv_at hl 0 rfl) ?_
                        refine lv_aload_n hx hb dX12_key_90 rfl (lv_at hl 0 rfl) ?_
                        refine r_get (v := .int (nI (fN u 13))) hx hb (ly_X12 hE) hown hK hP rfl 13 (by decide) (wd_1394 hE) (fun _ h9 => h9) (congrArg (fun z : Int32 => some (Value.int z)) hp0.1) dX12_key_91 ?_
                        refine lv_iload hx hb dX12_key_94 (lv_at hl 5 rfl) ?_
                        refine lv_iadd hx hb dX12_key_96 ?_
                        refine W.eq (g2 := F0 m 97 ls [.int (nI ((fN u 13) + i_246)), .ref (b 0), .int r255]) (congrArg (fun z : Int32 => F0 m 97 ls (.int z :: [.ref (b 0), .int r255])) (nI_add (fN u 13) i_246)) ?_
                        refine vp_callSi (va_Run.run (va_runV (As := [.int (nI ((fN u 13) + i_246))]) (rest := [.int r255]) ⟨hx, hb, hml, hown, noTs⟩ (r_X12_byteAt l dC dI s.heap.size cs b u tx hAc16 ((fN u 13) + i_246) sz1 hF11 (by first | assumption | omega | rfl | (congr 1; omega)) (by first | assumption | omega | rfl | (congr 1; omega))) ⟨cbE 1 (wd_1510 hE) (wd_126 hE) (wd_1507 hE) rfl rfl (by decide +kernel) ⟨Nat.le_of_ble_eq_true rfl, Nat.le_of_ble_eq_true rfl⟩, (wd_1509 hE), (wd_57 hE)⟩ ⟨PR.blind, r_recv hK hP rfl, (r_pre (av := [.ref (b 0), .int (nI ((fN u 13) + i_246))]) hK hP hJ hE)⟩ rfl rfl hl.1 rfl (lv_room (Nat.le_of_ble_eq_true rfl)) dX12_key_97 ⟨Nat.le_of_ble_eq_true rfl, Nat.le_of_ble_eq_true rfl⟩)) (fun r256 hr256 => ?_)
                        subst hr256
                        have htf256 := bA_f tx sz1 ((fN u 13) + i_246)
                        refine lv_icmp_ne (tgt := 107) hx hb dX12_key_100 (by decide) (fun c257 => ?_) (fun c257 => ?_)
                        · have c257 := mt (b_eq (rfl : Int32.toInt r255 = _) (rfl : Int32.toInt (bA tx sz1 ((fN u 13) + i_246)) = _)).mpr c257
                          refine lv_iconst (v := 0) hx hb dX12_key_107 (by decide) ?_
                          refine lv_istore (lv' := [(4, .int 0), (0, .ref (b 0)), (1, .int 2), (2, .int 13), (3, .int 17), (5, .int (nI i_246))]) hx hb dX12_key_108 hl (by decide) rfl (fun ls hl => ?_)
                          refine lv_iinc (v := nI (i_246 + 1)) (lv' := [(5, .int (nI (i_246 + 1))), (4, .int 0), (0, .ref (b 0)), (1, .int 2), (2, .int 13), (3, .int 17)]) hx hb dX12_key_110 hl (k := 5) rfl (nI_1 i_246) (by decide) rfl (fun ls hl => ?_)
                          refine lv_goto (tgt := 67) hx hb dX12_key_113 (by decide) ?_
                          exact ih246 _ _ (by omega) ⟨(i_246 + 1), 0, rfl, (by first | assumption | omega | rfl | (congr 1; omega)), lv_sub hl [2, 3, 4, 5, 1, 0] rfl⟩
                        · have c257 := (b_eq (rfl : Int32.toInt r255 = _) (rfl : Int32.toInt (bA tx sz1 ((fN u 13) + i_246)) = _)).mp c257
                          refine lv_iconst (v := 1) hx hb dX12_key_103 (by decide) ?_
                          refine lv_goto (tgt := 108) hx hb dX12_key_104 (by decide) ?_
                          refine lv_istore (lv' := [(4, .int 1), (0, .ref (b 0)), (1, .int 2), (2, .int 13), (3, .int 17), (5, .int (nI i_246))]) hx hb dX12_key_108 hl (by decide) rfl (fun ls hl => ?_)
                          refine lv_iinc (v := nI (i_246 + 1)) (lv' := [(5, .int (nI (i_246 + 1))), (4, .int 1), (0, .ref (b 0)), (1, .int 2), (2, .int 13), (3, .int 17)]) hx hb dX12_key_110 hl (k := 5) rfl (nI_1 i_246) (by decide) rfl (fun ls hl => ?_)
                          refine lv_goto (tgt := 67) hx hb dX12_key_113 (by decide) ?_
                          exact ih246 _ _ (by omega) ⟨(i_246 + 1), 1, rfl, (by first | assumption | omega | rfl | (congr 1; omega)), lv_sub hl [2, 3, 4, 5, 1, 0] rfl⟩
                · have c220 := mt (b_eq (rfl : Int32.toInt x1_218 = _) (show Int32.toInt 0 = 0 from rfl)).mpr c220
                  refine lv_iload_n hx hb dX12_key_121 rfl (lv_at hl 1 rfl) ?_
                  exact W.iret (v := 1) hx hb hr (fun t ht hW => ⟨1, rfl, trivial, ht⟩) (fun _ h => absurd h List.not_mem_nil) dX12_key_122
              · have c219 := mt (b_le (show Int32.toInt 4 = 4 from rfl) (nI_toInt (n := i_218) (by omega))).mpr c219
                refine lv_iload hx hb dX12_key_75 (lv_at hl 4 rfl) ?_
                refine lv_if_eq (tgt := 116) hx hb dX12_key_77 (by decide) (fun c258 => ?_) (fun c258 => ?_)
                · have c258 := (b_eq (rfl : Int32.toInt x1_218 = _) (show Int32.toInt 0 = 0 from rfl)).mp c258
                  refine lv_iload hx hb dX12_key_116 (lv_at hl 4 rfl) ?_
                  refine lv_if_eq (tgt := 123) hx hb dX12_key_118 (by decide) (fun c259 => ?_) (fun c259 => ?_)
                  · have c259 := (b_eq (rfl : Int32.toInt x1_218 = _) (show Int32.toInt 0 = 0 from rfl)).mp c259
                    refine lv_iinc (v := 2) (lv' := [(1, .int 2), (0, .ref (b 0)), (2, .int 8), (3, .int 12), (4, .int x1_218), (5, .int (nI i_218))]) hx hb dX12_key_123 hl (k := 1) rfl (by decide) (by decide) rfl (fun ls hl => ?_)
                    refine lv_iload_n hx hb dX12_key_126 rfl (lv_at hl 3 rfl) ?_
                    refine lv_iconst (v := 1) hx hb dX12_key_127 (by decide) ?_
                    refine lv_iadd hx hb dX12_key_128 ?_
                    refine W.eq (g2 := F0 m 129 ls [.int 13]) rfl ?_
                    refine lv_istore_n (lv' := [(2, .int 13), (1, .int 2), (0, .ref (b 0)), (3, .int 12), (4, .int x1_218), (5, .int (nI i_218))]) hx hb dX12_key_129 rfl hl (by decide) rfl (fun ls hl => ?_)
                    refine lv_goto (tgt := 14) hx hb dX12_key_130 (by decide) ?_
                    refine lv_iload_n hx hb dX12_key_14 rfl (lv_at hl 0 rfl) ?_
                    refine va_ldcS hx hb hown hZ dX12_key_15 ?_
                    refine vp_callSi (va_Run.run (va_runV (As := []) (rest := [.int 13]) ⟨hx, hb, hml, hown, noTs⟩ (s_J0_length l adK adV 3 (by decide)) ⟨cbE 0 (wd_488 hE) (wd_129 hE) (wd_1527 hE) rfl rfl (by decide +kernel) ⟨Nat.le_of_ble_eq_true rfl, Nat.le_of_ble_eq_true rfl⟩, (wd_486 hE), (wd_487 hE)⟩ ⟨PS.blind, vk_recv hX.1 (by decide) hS, ps_pre (av := [.ref (adK 3)]) hX hS hE⟩ rfl rfl hl.1 rfl (lv_room (Nat.le_of_ble_eq_true rfl)) dX12_key_17 ⟨Nat.le_of_ble_eq_true rfl, Nat.le_of_ble_eq_true rfl⟩)) (fun r260 hr260 => ?_)
                    have hr260 : r260 = 18 := hr260
                    subst hr260
                    refine lv_icmp_ge (tgt := 133) hx hb dX12_key_20 (by decide) (fun c261 => absurd c261 (by decide)) (fun c261 => ?_)
                    refine lv_iload_n hx hb dX12_key_23 rfl (lv_at hl 0 rfl) ?_
                    refine lv_istore_n (lv' := [(3, .int 13), (2, .int 13), (1, .int 2), (0, .ref (b 0)), (4, .int x1_218), (5, .int (nI i_218))]) hx hb dX12_key_24 rfl hl (by decide) rfl (fun ls hl => ?_)
                    refine va_ldcS hx hb hown hZ dX12_key_25 ?_
                    refine lv_iload_n hx hb dX12_key_27 rfl (lv_at hl 0 rfl) ?_
                    refine vp_callSi (va_Run.run (va_runV (As := [.int (nI 13)]) (rest := []) ⟨hx, hb, hml, hown, noTs⟩ (s_J0_charAt l adK adV 3 13 (by decide) (by show _ < 18; omega)) ⟨cbE 1 (wd_498 hE) (wd_129 hE) (wd_1528 hE) rfl rfl (by decide +kernel) ⟨Nat.le_of_ble_eq_true rfl, Nat.le_of_ble_eq_true rfl⟩, (wd_496 hE), (wd_497 hE)⟩ ⟨PS.blind, vk_recv hX.1 (by decide) hS, ps_pre (av := [.ref (adK 3), .int (nI 13)]) hX hS hE⟩ rfl rfl hl.1 rfl (lv_room (Nat.le_of_ble_eq_true rfl)) dX12_key_28 ⟨Nat.le_of_ble_eq_true rfl, Nat.le_of_ble_eq_true rfl⟩)) (fun r262 hr262 => ?_)
                    have hr262 : r262 = 119 := hr262.trans (by decide)
                    subst hr262
                    refine lv_bipush (v := 32) hx hb dX12_key_31 (by decide) ?_
                    refine lv_icmp_eq (tgt := 42) hx hb dX12_key_33 (by decide) (fun c263 => absurd c263 (by decide)) (fun c263 => ?_)
                    refine lv_iinc (v := 14) (lv' := [(3, .int 14), (2, .int 13), (1, .int 2), (0, .ref (b 0)), (4, .int x1_218), (5, .int (nI i_218))]) hx hb dX12_key_36 hl (k := 0) rfl (by decide) (by decide) rfl (fun ls hl => ?_)
                    refine lv_goto (tgt := 25) hx hb dX12_key_39 (by decide) ?_
                    refine va_ldcS hx hb hown hZ dX12_key_25 ?_
                    refine lv_iload_n hx hb dX12_key_27 rfl (lv_at hl 0 rfl) ?_
                    refine vp_callSi (va_Run.run (va_runV (As := [.int (nI 14)]) (rest := []) ⟨hx, hb, hml, hown, noTs⟩ (s_J0_charAt l adK adV 3 14 (by decide) (by show _ < 18; omega)) ⟨cbE 1 (wd_498 hE) (wd_129 hE) (wd_1528 hE) rfl rfl (by decide +kernel) ⟨Nat.le_of_ble_eq_true rfl, Nat.le_of_ble_eq_true rfl⟩, (wd_496 hE), (wd_497 hE)⟩ ⟨PS.blind, vk_recv hX.1 (by decide) hS, ps_pre (av := [.ref (adK 3), .int (nI 14)]) hX hS hE⟩ rfl rfl hl.1 rfl (lv_room (Nat.le_of_ble_eq_true rfl)) dX12_key_28 ⟨Nat.le_of_ble_eq_true rfl, Nat.le_of_ble_eq_true rfl⟩)) (fun r264 hr264 => ?_)
                    have hr264 : r264 = 111 := hr264.trans (by decide)
                    subst hr264
                    refine lv_bipush (v := 32) hx hb dX12_key_31 (by decide) ?_
                    refine lv_icmp_eq (tgt := 42) hx hb dX12_key_33 (by decide) (fun c265 => absurd c265 (by decide)) (fun c265 => ?_)
                    refine lv_iinc (v := 15) (lv' := [(3, .int 15), (2, .int 13), (1, .int 2), (0, .ref (b 0)), (4, .int x1_218), (5, .int (nI i_218))]) hx hb dX12_key_36 hl (k := 0) rfl (by decide) (by decide) rfl (fun ls hl => ?_)
                    refine lv_goto (tgt := 25) hx hb dX12_key_39 (by decide) ?_
                    refine va_ldcS hx hb hown hZ dX12_key_25 ?_
                    refine lv_iload_n hx hb dX12_key_27 rfl (lv_at hl 0 rfl) ?_
                    refine vp_callSi (va_Run.run (va_runV (As := [.int (nI 15)]) (rest := []) ⟨hx, hb, hml, hown, noTs⟩ (s_J0_charAt l adK adV 3 15 (by decide) (by show _ < 18; omega)) ⟨cbE 1 (wd_498 hE) (wd_129 hE) (wd_1528 hE) rfl rfl (by decide +kernel) ⟨Nat.le_of_ble_eq_true rfl, Nat.le_of_ble_eq_true rfl⟩, (wd_496 hE), (wd_497 hE)⟩ ⟨PS.blind, vk_recv hX.1 (by decide) hS, ps_pre (av := [.ref (adK 3), .int (nI 15)]) hX hS hE⟩ rfl rfl hl.1 rfl (lv_room (Nat.le_of_ble_eq_true rfl)) dX12_key_28 ⟨Nat.le_of_ble_eq_true rfl, Nat.le_of_ble_eq_true rfl⟩)) (fun r266 hr266 => ?_)
                    have hr266 : r266 = 114 := hr266.trans (by decide)
                    subst hr266
                    refine lv_bipush (v := 32) hx hb dX12_key_31 (by decide) ?_
                    refine lv_icmp_eq (tgt := 42) hx hb dX12_key_33 (by decide) (fun c267 => absurd c267 (by decide)) (fun c267 => ?_)
                    refine lv_iinc (v := 16) (lv' := [(3, .int 16), (2, .int 13), (1, .int 2), (0, .ref (b 0)), (4, .int x1_218), (5, .int (nI i_218))]) hx hb dX12_key_36 hl (k := 0) rfl (by decide) (by decide) rfl (fun ls hl => ?_)
                    refine lv_goto (tgt := 25) hx hb dX12_key_39 (by decide) ?_
                    refine va_ldcS hx hb hown hZ dX12_key_25 ?_
                    refine lv_iload_n hx hb dX12_key_27 rfl (lv_at hl 0 rfl) ?_
                    refine vp_callSi (va_Run.run (va_runV (As := [.int (nI 16)]) (rest := []) ⟨hx, hb, hml, hown, noTs⟩ (s_J0_charAt l adK adV 3 16 (by decide) (by show _ < 18; omega)) ⟨cbE 1 (wd_498 hE) (wd_129 hE) (wd_1528 hE) rfl rfl (by decide +kernel) ⟨Nat.le_of_ble_eq_true rfl, Nat.le_of_ble_eq_true rfl⟩, (wd_496 hE), (wd_497 hE)⟩ ⟨PS.blind, vk_recv hX.1 (by decide) hS, ps_pre (av := [.ref (adK 3), .int (nI 16)]) hX hS hE⟩ rfl rfl hl.1 rfl (lv_room (Nat.le_of_ble_eq_true rfl)) dX12_key_28 ⟨Nat.le_of_ble_eq_true rfl, Nat.le_of_ble_eq_true rfl⟩)) (fun r268 hr268 => ?_)
                    have hr268 : r268 = 100 := hr268.trans (by decide)
                    subst hr268
                    refine lv_bipush (v := 32) hx hb dX12_key_31 (by decide) ?_
                    refine lv_icmp_eq (tgt := 42) hx hb dX12_key_33 (by decide) (fun c269 => absurd c269 (by decide)) (fun c269 => ?_)
                    refine lv_iinc (v := 17) (lv' := [(3, .int 17), (2, .int 13), (1, .int 2), (0, .ref (b 0)), (4, .int x1_218), (5, .int (nI i_218))]) hx hb dX12_key_36 hl (k := 0) rfl (by decide) (by decide) rfl (fun ls hl => ?_)
                    refine lv_goto (tgt := 25) hx hb dX12_key_39 (by decide) ?_
                    refine va_ldcS hx hb hown hZ dX12_key_25 ?_
                    refine lv_iload_n hx hb dX12_key_27 rfl (lv_at hl 0 rfl) ?_
                    refine vp_callSi (va_Run.run (va_runV (As := [.int (nI 17)]) (rest := []) ⟨hx, hb, hml, hown, noTs⟩ (s_J0_charAt l adK adV 3 17 (by decide) (by show _ < 18; omega)) ⟨cbE 1 (wd_498 hE) (wd_129 hE) (wd_1528 hE) rfl rfl (by decide +kernel) ⟨Nat.le_of_ble_eq_true rfl, Nat.le_of_ble_eq_true rfl⟩, (wd_496 hE), (wd_497 hE)⟩ ⟨PS.blind, vk_recv hX.1 (by decide) hS, ps_pre (av := [.ref (adK 3), .int (nI 17)]) hX hS hE⟩ rfl rfl hl.1 rfl (lv_room (Nat.le_of_ble_eq_true rfl)) dX12_key_28 ⟨Nat.le_of_ble_eq_true rfl, Nat.le_of_ble_eq_true rfl⟩)) (fun r270 hr270 => ?_)
                    have hr270 : r270 = 32 := hr270.trans (by decide)
                    subst hr270
                    refine lv_bipush (v := 32) hx hb dX12_key_31 (by decide) ?_
                    refine lv_icmp_eq (tgt := 42) hx hb dX12_key_33 (by decide) (fun c271 => ?_) (fun c271 => absurd c271 (by decide))
                    refine lv_iload_n hx hb dX12_key_42 rfl (lv_at hl 0 rfl) ?_
                    refine lv_iload_n hx hb dX12_key_43 rfl (lv_at hl 1 rfl) ?_
                    refine lv_isub hx hb dX12_key_44 ?_
                    refine W.eq (g2 := F0 m 45 ls [.int 4]) rfl ?_
                    refine lv_aload_n hx hb dX12_key_45 rfl (lv_at hl 3 rfl) ?_
                    refine r_get (v := .int (nI (fN u 14))) hx hb (ly_X12 hE) hown hK hP rfl 14 (by decide) (wd_1395 hE) (fun _ h9 => h9) (congrArg (fun z : Int32 => some (Value.int z)) hp0.2.1) dX12_key_46 ?_
                    refine lv_aload_n hx hb dX12_key_49 rfl (lv_at hl 3 rfl) ?_
                    refine r_get (v := .int (nI (fN u 13))) hx hb (ly_X12 hE) hown hK hP rfl 13 (by decide) (wd_1394 hE) (fun _ h9 => h9) (congrArg (fun z : Int32 => some (Value.int z)) hp0.1) dX12_key_50 ?_
                    refine lv_isub hx hb dX12_key_53 ?_
                    refine W.eq (g2 := F0 m 54 ls [.int (nI ((fN u 14) - (fN u 13))), .int 4]) (congrArg (fun z : Int32 => F0 m 54 ls (.int z :: [.int 4])) (pk_sub (a := fN u 14) (b := fN u 13) (by omega))) ?_
                    refine lv_icmp_ne (tgt := 61) hx hb dX12_key_54 (by decide) (fun c272 => ?_) (fun c272 => ?_)
                    · have c272 := mt (b_eq (show Int32.toInt 4 = 4 from rfl) (nI_toInt (n := (fN u 14) - (fN u 13)) (by omega))).mpr c272
                      refine lv_iconst (v := 0) hx hb dX12_key_61 (by decide) ?_
                      refine lv_istore (lv' := [(4, .int 0), (3, .int 17), (2, .int 13), (1, .int 2), (0, .ref (b 0)), (5, .int (nI i_218))]) hx hb dX12_key_62 hl (by decide) rfl (fun ls hl => ?_)
                      refine lv_iconst (v := 0) hx hb dX12_key_64 (by decide) ?_
                      refine lv_istore (lv' := [(5, .int 0), (4, .int 0), (3, .int 17), (2, .int 13), (1, .int 2), (0, .ref (b 0))]) hx hb dX12_key_65 hl (by decide) rfl (fun ls hl => ?_)
                      refine r_indP (I := fun n ls => ∃ (i_273 : Nat) (x1_273 : Int32), n = 17 - 13 - i_273 ∧ (i_273 ≤ 17 - 13) ∧ lv_has ls 6 [(0, .ref (b 0)), (1, .int 2), (2, .int 13), (3, .int 17), (4, .int x1_273), (5, .int (nI i_273))]) (fun n ls hI ih273 => ?_) _ _ ⟨0, 0, rfl, (by first | assumption | omega | rfl | (congr 1; omega)), lv_sub hl [5, 4, 3, 2, 1, 0] rfl⟩
                      obtain ⟨i_273, x1_273, hmu273, hL273_0, hl⟩ := hI
                      subst hmu273
                      refine lv_iload hx hb dX12_key_67 (lv_at hl 5 rfl) ?_
                      refine lv_iload_n hx hb dX12_key_69 rfl (lv_at hl 3 rfl) ?_
                      refine lv_iload_n hx hb dX12_key_70 rfl (lv_at hl 2 rfl) ?_
                      refine lv_isub hx hb dX12_key_71 ?_
                      refine W.eq (g2 := F0 m 72 ls [.int 4, .int (nI i_273)]) rfl ?_
                      refine lv_icmp_ge (tgt := 116) hx hb dX12_key_72 (by decide) (fun c274 => ?_) (fun c274 => ?_)
                      · have c274 := (b_le (show Int32.toInt 4 = 4 from rfl) (nI_toInt (n := i_273) (by omega))).mp c274
                        refine lv_iload hx hb dX12_key_116 (lv_at hl 4 rfl) ?_
                        refine lv_if_eq (tgt := 123) hx hb dX12_key_118 (by decide) (fun c275 => ?_) (fun c275 => ?_)
                        · have c275 := (b_eq (rfl : Int32.toInt x1_273 = _) (show Int32.toInt 0 = 0 from rfl)).mp c275
                          refine lv_iinc (v := 3) (lv' := [(1, .int 3), (0, .ref (b 0)), (2, .int 13), (3, .int 17), (4, .int x1_273), (5, .int (nI i_273))]) hx hb dX12_key_123 hl (k := 1) rfl (by decide) (by decide) rfl (fun ls hl => ?_)
                          refine lv_iload_n hx hb dX12_key_126 rfl (lv_at hl 3 rfl) ?_
                          refine lv_iconst (v := 1) hx hb dX12_key_127 (by decide) ?_
                          refine lv_iadd hx hb dX12_key_128 ?_
                          refine W.eq (g2 := F0 m 129 ls [.int 18]) rfl ?_
                          refine lv_istore_n (lv' := [(2, .int 18), (1, .int 3), (0, .ref (b 0)), (3, .int 17), (4, .int x1_273), (5, .int (nI i_273))]) hx hb dX12_key_129 rfl hl (by decide) rfl (fun ls hl => ?_)
                          refine lv_goto (tgt := 14) hx hb dX12_key_130 (by decide) ?_
                          refine lv_iload_n hx hb dX12_key_14 rfl (lv_at hl 0 rfl) ?_
                          refine va_ldcS hx hb hown hZ dX12_key_15 ?_
                          refine vp_callSi (va_Run.run (va_runV (As := []) (rest := [.int 18]) ⟨hx, hb, hml, hown, noTs⟩ (s_J0_length l adK adV 3 (by decide)) ⟨cbE 0 (wd_488 hE) (wd_129 hE) (wd_1527 hE) rfl rfl (by decide +kernel) ⟨Nat.le_of_ble_eq_true rfl, Nat.le_of_ble_eq_true rfl⟩, (wd_486 hE), (wd_487 hE)⟩ ⟨PS.blind, vk_recv hX.1 (by decide) hS, ps_pre (av := [.ref (adK 3)]) hX hS hE⟩ rfl rfl hl.1 rfl (lv_room (Nat.le_of_ble_eq_true rfl)) dX12_key_17 ⟨Nat.le_of_ble_eq_true rfl, Nat.le_of_ble_eq_true rfl⟩)) (fun r276 hr276 => ?_)
                          have hr276 : r276 = 18 := hr276
                          subst hr276
                          refine lv_icmp_ge (tgt := 133) hx hb dX12_key_20 (by decide) (fun c277 => ?_) (fun c277 => absurd c277 (by decide))
                          refine lv_iconst (v := -1) hx hb dX12_key_133 (by decide) ?_
                          exact W.iret (v := -1) hx hb hr (fun t ht hW => ⟨-1, rfl, trivial, ht⟩) (fun _ h => absurd h List.not_mem_nil) dX12_key_134
                        · have c275 := mt (b_eq (rfl : Int32.toInt x1_273 = _) (show Int32.toInt 0 = 0 from rfl)).mpr c275
                          refine lv_iload_n hx hb dX12_key_121 rfl (lv_at hl 1 rfl) ?_
                          exact W.iret (v := 2) hx hb hr (fun t ht hW => ⟨2, rfl, trivial, ht⟩) (fun _ h => absurd h List.not_mem_nil) dX12_key_122
                      · have c274 := mt (b_le (show Int32.toInt 4 = 4 from rfl) (nI_toInt (n := i_273) (by omega))).mpr c274
                        refine lv_iload hx hb dX12_key_75 (lv_at hl 4 rfl) ?_
                        refine lv_if_eq (tgt := 116) hx hb dX12_key_77 (by decide) (fun c278 => ?_) (fun c278 => ?_)
                        · have c278 := (b_eq (rfl : Int32.toInt x1_273 = _) (show Int32.toInt 0 = 0 from rfl)).mp c278
                          refine lv_iload hx hb dX12_key_116 (lv_at hl 4 rfl) ?_
                          refine lv_if_eq (tgt := 123) hx hb dX12_key_118 (by decide) (fun c279 => ?_) (fun c279 => ?_)
                          · have c279 := (b_eq (rfl : Int32.toInt x1_273 = _) (show Int32.toInt 0 = 0 from rfl)).mp c279
                            refine lv_iinc (v := 3) (lv' := [(1, .int 3), (0, .ref (b 0)), (2, .int 13), (3, .int 17), (4, .int x1_273), (5, .int (nI i_273))]) hx hb dX12_key_123 hl (k := 1) rfl (by decide) (by decide) rfl (fun ls hl => ?_)
                            refine lv_iload_n hx hb dX12_key_126 rfl (lv_at hl 3 rfl) ?_
                            refine lv_iconst (v := 1) hx hb dX12_key_127 (by decide) ?_
                            refine lv_iadd hx hb dX12_key_128 ?_
                            refine W.eq (g2 := F0 m 129 ls [.int 18]) rfl ?_
                            refine lv_istore_n (lv' := [(2, .int 18), (1, .int 3), (0, .ref (b 0)), (3, .int 17), (4, .int x1_273), (5, .int (nI i_273))]) hx hb dX12_key_129 rfl hl (by decide) rfl (fun ls hl => ?_)
                            refine lv_goto (tgt := 14) hx hb dX12_key_130 (by decide) ?_
                            refine lv_iload_n hx hb dX12_key_14 rfl (lv_at hl 0 rfl) ?_
                            refine va_ldcS hx hb hown hZ dX12_key_15 ?_
                            refine vp_callSi (va_Run.run (va_runV (As := []) (rest := [.int 18]) ⟨hx, hb, hml, hown, noTs⟩ (s_J0_length l adK adV 3 (by decide)) ⟨cbE 0 (wd_488 hE) (wd_129 hE) (wd_1527 hE) rfl rfl (by decide +kernel) ⟨Nat.le_of_ble_eq_true rfl, Nat.le_of_ble_eq_true rfl⟩, (wd_486 hE), (wd_487 hE)⟩ ⟨PS.blind, vk_recv hX.1 (by decide) hS, ps_pre (av := [.ref (adK 3)]) hX hS hE⟩ rfl rfl hl.1 rfl (lv_room (Nat.le_of_ble_eq_true rfl)) dX12_key_17 ⟨Nat.le_of_ble_eq_true rfl, Nat.le_of_ble_eq_true rfl⟩)) (fun r280 hr280 => ?_)
                            have hr280 : r280 = 18 := hr280
                            subst hr280
                            refine lv_icmp_ge (tgt := 133) hx hb dX12_key_20 (by decide) (fun c281 => ?_) (fun c281 => absurd c281 (by decide))
                            refine lv_iconst (v := -1) hx hb dX12_key_133 (by decide) ?_
                            exact W.iret (v := -1) hx hb hr (fun t ht hW => ⟨-1, rfl, trivial, ht⟩) (fun _ h => absurd h List.not_mem_nil) dX12_key_134
                          · have c279 := mt (b_eq (rfl : Int32.toInt x1_273 = _) (show Int32.toInt 0 = 0 from rfl)).mpr c279
                            refine lv_iload_n hx hb dX12_key_121 rfl (lv_at hl 1 rfl) ?_
                            exact W.iret (v := 2) hx hb hr (fun t ht hW => ⟨2, rfl, trivial, ht⟩) (fun _ h => absurd h List.not_mem_nil) dX12_key_122
                        · have c278 := mt (b_eq (rfl : Int32.toInt x1_273 = _) (show Int32.toInt 0 = 0 from rfl)).mpr c278
                          refine va_ldcS hx hb hown hZ dX12_key_80 ?_
                          refine lv_iload_n hx hb dX12_key_82 rfl (lv_at hl 2 rfl) ?_
                          refine lv_iload hx hb dX12_key_83 (lv_at hl 5 rfl) ?_
                          refine lv_iadd hx hb dX12_key_85 ?_
                          refine W.eq (g2 := F0 m 86 ls [.int (nI (13 + i_273)), .ref (adK 3)]) (congrArg (fun z : Int32 => F0 m 86 ls (.int z :: [.ref (adK 3)])) (nI_add 13 i_273)) ?_
                          refine vp_callSi (va_Run.run (va_runV (As := [.int (nI (13 + i_273))]) (rest := []) ⟨hx, hb, hml, hown, noTs⟩ (s_J0_charAt l adK adV 3 (13 + i_273) (by decide) (by show _ < 18; omega)) ⟨cbE 1 (wd_498 hE) (wd_129 hE) (wd_1528 hE) rfl rfl (by decide +kernel) ⟨Nat.le_of_ble_eq_true rfl, Nat.le_of_ble_eq_true rfl⟩, (wd_496 hE), (wd_497 hE)⟩ ⟨PS.blind, vk_recv hX.1 (by decide) hS, ps_pre (av := [.ref (adK 3), .int (nI (13 + i_273))]) hX hS hE⟩ rfl rfl hl.1 rfl (lv_room (Nat.le_of_ble_eq_true rfl)) dX12_key_86 ⟨Nat.le_of_ble_eq_true rfl, Nat.le_of_ble_eq_true rfl⟩)) (fun r282 hr282 => ?_)
                          refine lv_aload_n hx hb dX12_key_89 rfl (lv_at hl 0 rfl) ?_
                          refine lv_aload_n hx hb dX12_key_90 rfl (lv_at hl 0 rfl) ?_
                          refine r_get (v := .int (nI (fN u 13))) hx hb (ly_X12 hE) hown hK hP rfl 13 (by decide) (wd_1394 hE) (fun _ h9 => h9) (congrArg (fun z : Int32 => some (Value.int z)) hp0.1) dX12_key_91 ?_
                          refine lv_iload hx hb dX12_key_94 (lv_at hl 5 rfl) ?_
                          refine lv_iadd hx hb dX12_key_96 ?_
                          refine W.eq (g2 := F0 m 97 ls [.int (nI ((fN u 13) + i_273)), .ref (b 0), .int r282]) (congrArg (fun z : Int32 => F0 m 97 ls (.int z :: [.ref (b 0), .int r282])) (nI_add (fN u 13) i_273)) ?_
                          refine vp_callSi (va_Run.run (va_runV (As := [.int (nI ((fN u 13) + i_273))]) (rest := [.int r282]) ⟨hx, hb, hml, hown, noTs⟩ (r_X12_byteAt l dC dI s.heap.size cs b u tx hAc16 ((fN u 13) + i_273) sz1 hF11 (by first | assumption | omega | rfl | (congr 1; omega)) (by first | assumption | omega | rfl | (congr 1; omega))) ⟨cbE 1 (wd_1510 hE) (wd_126 hE) (wd_1507 hE) rfl rfl (by decide +kernel) ⟨Nat.le_of_ble_eq_true rfl, Nat.le_of_ble_eq_true rfl⟩, (wd_1509 hE), (wd_57 hE)⟩ ⟨PR.blind, r_recv hK hP rfl, (r_pre (av := [.ref (b 0), .int (nI ((fN u 13) + i_273))]) hK hP hJ hE)⟩ rfl rfl hl.1 rfl (lv_room (Nat.le_of_ble_eq_true rfl)) dX12_key_97 ⟨Nat.le_of_ble_eq_true rfl, Nat.le_of_ble_eq_true rfl⟩)) (fun r283 hr283 => ?_)
                          subst hr283
                          have htf283 := bA_f tx sz1 ((fN u 13) + i_273)
                          refine lv_icmp_ne (tgt := 107) hx hb dX12_key_100 (by decide) (fun c284 => ?_) (fun c284 => ?_)
                          · have c284 := mt (b_eq (rfl : Int32.toInt r282 = _) (rfl : Int32.toInt (bA tx sz1 ((fN u 13) + i_273)) = _)).mpr c284
                            refine lv_iconst (v := 0) hx hb dX12_key_107 (by decide) ?_
                            refine lv_istore (lv' := [(4, .int 0), (0, .ref (b 0)), (1, .int 2), (2, .int 13), (3, .int 17), (5, .int (nI i_273))]) hx hb dX12_key_108 hl (by decide) rfl (fun ls hl => ?_)
                            refine lv_iinc (v := nI (i_273 + 1)) (lv' := [(5, .int (nI (i_273 + 1))), (4, .int 0), (0, .ref (b 0)), (1, .int 2), (2, .int 13), (3, .int 17)]) hx hb dX12_key_110 hl (k := 5) rfl (nI_1 i_273) (by decide) rfl (fun ls hl => ?_)
                            refine lv_goto (tgt := 67) hx hb dX12_key_113 (by decide) ?_
                            exact ih273 _ _ (by omega) ⟨(i_273 + 1), 0, rfl, (by first | assumption | omega | rfl | (congr 1; omega)), lv_sub hl [2, 3, 4, 5, 1, 0] rfl⟩
                          · have c284 := (b_eq (rfl : Int32.toInt r282 = _) (rfl : Int32.toInt (bA tx sz1 ((fN u 13) + i_273)) = _)).mp c284
                            refine lv_iconst (v := 1) hx hb dX12_key_103 (by decide) ?_
                            refine lv_goto (tgt := 108) hx hb dX12_key_104 (by decide) ?_
                            refine lv_istore (lv' := [(4, .int 1), (0, .ref (b 0)), (1, .int 2), (2, .int 13), (3, .int 17), (5, .int (nI i_273))]) hx hb dX12_key_108 hl (by decide) rfl (fun ls hl => ?_)
                            refine lv_iinc (v := nI (i_273 + 1)) (lv' := [(5, .int (nI (i_273 + 1))), (4, .int 1), (0, .ref (b 0)), (1, .int 2), (2, .int 13), (3, .int 17)]) hx hb dX12_key_110 hl (k := 5) rfl (nI_1 i_273) (by decide) rfl (fun ls hl => ?_)
                            refine lv_goto (tgt := 67) hx hb dX12_key_113 (by decide) ?_
                            exact ih273 _ _ (by omega) ⟨(i_273 + 1), 1, rfl, (by first | assumption | omega | rfl | (congr 1; omega)), lv_sub hl [2, 3, 4, 5, 1, 0] rfl⟩
                    · have c272 := (b_eq (show Int32.toInt 4 = 4 from rfl) (nI_toInt (n := (fN u 14) - (fN u 13)) (by omega))).mp c272
                      refine lv_iconst (v := 1) hx hb dX12_key_57 (by decide) ?_
                      refine lv_goto (tgt := 62) hx hb dX12_key_58 (by decide) ?_
                      refine lv_istore (lv' := [(4, .int 1), (3, .int 17), (2, .int 13), (1, .int 2), (0, .ref (b 0)), (5, .int (nI i_218))]) hx hb dX12_key_62 hl (by decide) rfl (fun ls hl => ?_)
                      refine lv_iconst (v := 0) hx hb dX12_key_64 (by decide) ?_
                      refine lv_istore (lv' := [(5, .int 0), (4, .int 1), (3, .int 17), (2, .int 13), (1, .int 2), (0, .ref (b 0))]) hx hb dX12_key_65 hl (by decide) rfl (fun ls hl => ?_)
                      refine r_indP (I := fun n ls => ∃ (i_285 : Nat) (x1_285 : Int32), n = 17 - 13 - i_285 ∧ (i_285 ≤ 17 - 13) ∧ lv_has ls 6 [(0, .ref (b 0)), (1, .int 2), (2, .int 13), (3, .int 17), (4, .int x1_285), (5, .int (nI i_285))]) (fun n ls hI ih285 => ?_) _ _ ⟨0, 1, rfl, (by first | assumption | omega | rfl | (congr 1; omega)), lv_sub hl [5, 4, 3, 2, 1, 0] rfl⟩
                      obtain ⟨i_285, x1_285, hmu285, hL285_0, hl⟩ := hI
                      subst hmu285
                      refine lv_iload hx hb dX12_key_67 (lv_at hl 5 rfl) ?_
                      refine lv_iload_n hx hb dX12_key_69 rfl (lv_at hl 3 rfl) ?_
                      refine lv_iload_n hx hb dX12_key_70 rfl (lv_at hl 2 rfl) ?_
                      refine lv_isub hx hb dX12_key_71 ?_
                      refine W.eq (g2 := F0 m 72 ls [.int 4, .int (nI i_285)]) rfl ?_
                      refine lv_icmp_ge (tgt := 116) hx hb dX12_key_72 (by decide) (fun c286 => ?_) (fun c286 => ?_)
                      · have c286 := (b_le (show Int32.toInt 4 = 4 from rfl) (nI_toInt (n := i_285) (by omega))).mp c286
                        refine lv_iload hx hb dX12_key_116 (lv_at hl 4 rfl) ?_
                        refine lv_if_eq (tgt := 123) hx hb dX12_key_118 (by decide) (fun c287 => ?_) (fun c287 => ?_)
                        · have c287 := (b_eq (rfl : Int32.toInt x1_285 = _) (show Int32.toInt 0 = 0 from rfl)).mp c287
                          refine lv_iinc (v := 3) (lv' := [(1, .int 3), (0, .ref (b 0)), (2, .int 13), (3, .int 17), (4, .int x1_285), (5, .int (nI i_285))]) hx hb dX12_key_123 hl (k := 1) rfl (by decide) (by decide) rfl (fun ls hl => ?_)
                          refine lv_iload_n hx hb dX12_key_126 rfl (lv_at hl 3 rfl) ?_
                          refine lv_iconst (v := 1) hx hb dX12_key_127 (by decide) ?_
                          refine lv_iadd hx hb dX12_key_128 ?_
                          refine W.eq (g2 := F0 m 129 ls [.int 18]) rfl ?_
                          refine lv_istore_n (lv' := [(2, .int 18), (1, .int 3), (0, .ref (b 0)), (3, .int 17), (4, .int x1_285), (5, .int (nI i_285))]) hx hb dX12_key_129 rfl hl (by decide) rfl (fun ls hl => ?_)
                          refine lv_goto (tgt := 14) hx hb dX12_key_130 (by decide) ?_
                          refine lv_iload_n hx hb dX12_key_14 rfl (lv_at hl 0 rfl) ?_
                          refine va_ldcS hx hb hown hZ dX12_key_15 ?_
                          refine vp_callSi (va_Run.run (va_runV (As := []) (rest := [.int 18]) ⟨hx, hb, hml, hown, noTs⟩ (s_J0_length l adK adV 3 (by decide)) ⟨cbE 0 (wd_488 hE) (wd_129 hE) (wd_1527 hE) rfl rfl (by decide +kernel) ⟨Nat.le_of_ble_eq_true rfl, Nat.le_of_ble_eq_true rfl⟩, (wd_486 hE), (wd_487 hE)⟩ ⟨PS.blind, vk_recv hX.1 (by decide) hS, ps_pre (av := [.ref (adK 3)]) hX hS hE⟩ rfl rfl hl.1 rfl (lv_room (Nat.le_of_ble_eq_true rfl)) dX12_key_17 ⟨Nat.le_of_ble_eq_true rfl, Nat.le_of_ble_eq_true rfl⟩)) (fun r288 hr288 => ?_)
                          have hr288 : r288 = 18 := hr288
                          subst hr288
                          refine lv_icmp_ge (tgt := 133) hx hb dX12_key_20 (by decide) (fun c289 => ?_) (fun c289 => absurd c289 (by decide))
                          refine lv_iconst (v := -1) hx hb dX12_key_133 (by decide) ?_
                          exact W.iret (v := -1) hx hb hr (fun t ht hW => ⟨-1, rfl, trivial, ht⟩) (fun _ h => absurd h List.not_mem_nil) dX12_key_134
                        · have c287 := mt (b_eq (rfl : Int32.toInt x1_285 = _) (show Int32.toInt 0 = 0 from rfl)).mpr c287
                          refine lv_iload_n hx hb dX12_key_121 rfl (lv_at hl 1 rfl) ?_
                          exact W.iret (v := 2) hx hb hr (fun t ht hW => ⟨2, rfl, trivial, ht⟩) (fun _ h => absurd h List.not_mem_nil) dX12_key_122
                      · have c286 := mt (b_le (show Int32.toInt 4 = 4 from rfl) (nI_toInt (n := i_285) (by omega))).mpr c286
                        refine lv_iload hx hb dX12_key_75 (lv_at hl 4 rfl) ?_
                        refine lv_if_eq (tgt := 116) hx hb dX12_key_77 (by decide) (fun c290 => ?_) (fun c290 => ?_)
                        · have c290 := (b_eq (rfl : Int32.toInt x1_285 = _) (show Int32.toInt 0 = 0 from rfl)).mp c290
                          refine lv_iload hx hb dX12_key_116 (lv_at hl 4 rfl) ?_
                          refine lv_if_eq (tgt := 123) hx hb dX12_key_118 (by decide) (fun c291 => ?_) (fun c291 => ?_)
                          · have c291 := (b_eq (rfl : Int32.toInt x1_285 = _) (show Int32.toInt 0 = 0 from rfl)).mp c291
                            refine lv_iinc (v := 3) (lv' := [(1, .int 3), (0, .ref (b 0)), (2, .int 13), (3, .int 17), (4, .int x1_285), (5, .int (nI i_285))]) hx hb dX12_key_123 hl (k := 1) rfl (by decide) (by decide) rfl (fun ls hl => ?_)
                            refine lv_iload_n hx hb dX12_key_126 rfl (lv_at hl 3 rfl) ?_
                            refine lv_iconst (v := 1) hx hb dX12_key_127 (by decide) ?_
                            refine lv_iadd hx hb dX12_key_128 ?_
                            refine W.eq (g2 := F0 m 129 ls [.int 18]) rfl ?_
                            refine lv_istore_n (lv' := [(2, .int 18), (1, .int 3), (0, .ref (b 0)), (3, .int 17), (4, .int x1_285), (5, .int (nI i_285))]) hx hb dX12_key_129 rfl hl (by decide) rfl (fun ls hl => ?_)
                            refine lv_goto (tgt := 14) hx hb dX12_key_130 (by decide) ?_
                            refine lv_iload_n hx hb dX12_key_14 rfl (lv_at hl 0 rfl) ?_
                            refine va_ldcS hx hb hown hZ dX12_key_15 ?_
                            refine vp_callSi (va_Run.run (va_runV (As := []) (rest := [.int 18]) ⟨hx, hb, hml, hown, noTs⟩ (s_J0_length l adK adV 3 (by decide)) ⟨cbE 0 (wd_488 hE) (wd_129 hE) (wd_1527 hE) rfl rfl (by decide +kernel) ⟨Nat.le_of_ble_eq_true rfl, Nat.le_of_ble_eq_true rfl⟩, (wd_486 hE), (wd_487 hE)⟩ ⟨PS.blind, vk_recv hX.1 (by decide) hS, ps_pre (av := [.ref (adK 3)]) hX hS hE⟩ rfl rfl hl.1 rfl (lv_room (Nat.le_of_ble_eq_true rfl)) dX12_key_17 ⟨Nat.le_of_ble_eq_true rfl, Nat.le_of_ble_eq_true rfl⟩)) (fun r292 hr292 => ?_)
                            have hr292 : r292 = 18 := hr292
                            subst hr292
                            refine lv_icmp_ge (tgt := 133) hx hb dX12_key_20 (by decide) (fun c293 => ?_) (fun c293 => absurd c293 (by decide))
                            refine lv_iconst (v := -1) hx hb dX12_key_133 (by decide) ?_
                            exact W.iret (v := -1) hx hb hr (fun t ht hW => ⟨-1, rfl, trivial, ht⟩) (fun _ h => absurd h List.not_mem_nil) dX12_key_134
                          · have c291 := mt (b_eq (rfl : Int32.toInt x1_285 = _) (show Int32.toInt 0 = 0 from rfl)).mpr c291
                            refine lv_iload_n hx hb dX12_key_121 rfl (lv_at hl 1 rfl) ?_
                            exact W.iret (v := 2) hx hb hr (fun t ht hW => ⟨2, rfl, trivial, ht⟩) (fun _ h => absurd h List.not_mem_nil) dX12_key_122
                        · have c290 := mt (b_eq (rfl : Int32.toInt x1_285 = _) (show Int32.toInt 0 = 0 from rfl)).mpr c290
                          refine va_ldcS hx hb hown hZ dX12_key_80 ?_
                          refine lv_iload_n hx hb dX12_key_82 rfl (lv_at hl 2 rfl) ?_
                          refine lv_iload hx hb dX12_key_83 (lv_at hl 5 rfl) ?_
                          refine lv_iadd hx hb dX12_key_85 ?_
                          refine W.eq (g2 := F0 m 86 ls [.int (nI (13 + i_285)), .ref (adK 3)]) (congrArg (fun z : Int32 => F0 m 86 ls (.int z :: [.ref (adK 3)])) (nI_add 13 i_285)) ?_
                          refine vp_callSi (va_Run.run (va_runV (As := [.int (nI (13 + i_285))]) (rest := []) ⟨hx, hb, hml, hown, noTs⟩ (s_J0_charAt l adK adV 3 (13 + i_285) (by decide) (by show _ < 18; omega)) ⟨cbE 1 (wd_498 hE) (wd_129 hE) (wd_1528 hE) rfl rfl (by decide +kernel) ⟨Nat.le_of_ble_eq_true rfl, Nat.le_of_ble_eq_true rfl⟩, (wd_496 hE), (wd_497 hE)⟩ ⟨PS.blind, vk_recv hX.1 (by decide) hS, ps_pre (av := [.ref (adK 3), .int (nI (13 + i_285))]) hX hS hE⟩ rfl rfl hl.1 rfl (lv_room (Nat.le_of_ble_eq_true rfl)) dX12_key_86 ⟨Nat.le_of_ble_eq_true rfl, Nat.le_of_ble_eq_true rfl⟩)) (fun r294 hr294 => ?_)
                          refine lv_aload_n hx hb dX12_key_89 rfl (lv_at hl 0 rfl) ?_
                          refine lv_aload_n hx hb dX12_key_90 rfl (lv_at hl 0 rfl) ?_
                          refine r_get (v := .int (nI (fN u 13))) hx hb (ly_X12 hE) hown hK hP rfl 13 (by decide) (wd_1394 hE) (fun _ h9 => h9) (congrArg (fun z : Int32 => some (Value.int z)) hp0.1) dX12_key_91 ?_
                          refine lv_iload hx hb dX12_key_94 (lv_at hl 5 rfl) ?_
                          refine lv_iadd hx hb dX12_key_96 ?_
                          refine W.eq (g2 := F0 m 97 ls [.int (nI ((fN u 13) + i_285)), .ref (b 0), .int r294]) (congrArg (fun z : Int32 => F0 m 97 ls (.int z :: [.ref (b 0), .int r294])) (nI_add (fN u 13) i_285)) ?_
                          refine vp_callSi (va_Run.run (va_runV (As := [.int (nI ((fN u 13) + i_285))]) (rest := [.int r294]) ⟨hx, hb, hml, hown, noTs⟩ (r_X12_byteAt l dC dI s.heap.size cs b u tx hAc16 ((fN u 13) + i_285) sz1 hF11 (by first | assumption | omega | rfl | (congr 1; omega)) (by first | assumption | omega | rfl | (congr 1; omega))) ⟨cbE 1 (wd_1510 hE) (wd_126 hE) (wd_1507 hE) rfl rfl (by decide +kernel) ⟨Nat.le_of_ble_eq_true rfl, Nat.le_of_ble_eq_true rfl⟩, (wd_1509 hE), (wd_57 hE)⟩ ⟨PR.blind, r_recv hK hP rfl, (r_pre (av := [.ref (b 0), .int (nI ((fN u 13) + i_285))]) hK hP hJ hE)⟩ rfl rfl hl.1 rfl (lv_room (Nat.le_of_ble_eq_true rfl)) dX12_key_97 ⟨Nat.le_of_ble_eq_true rfl, Nat.le_of_ble_eq_true rfl⟩)) (fun r295 hr295 => ?_)
                          subst hr295
                          have htf295 := bA_f tx sz1 ((fN u 13) + i_285)
                          refine lv_icmp_ne (tgt := 107) hx hb dX12_key_100 (by decide) (fun c296 => ?_) (fun c296 => ?_)
                          · have c296 := mt (b_eq (rfl : Int32.toInt r294 = _) (rfl : Int32.toInt (bA tx sz1 ((fN u 13) + i_285)) = _)).mpr c296
                            refine lv_iconst (v := 0) hx hb dX12_key_107 (by decide) ?_
                            refine lv_istore (lv' := [(4, .int 0), (0, .ref (b 0)), (1, .int 2), (2, .int 13), (3, .int 17), (5, .int (nI i_285))]) hx hb dX12_key_108 hl (by decide) rfl (fun ls hl => ?_)
                            refine lv_iinc (v := nI (i_285 + 1)) (lv' := [(5, .int (nI (i_285 + 1))), (4, .int 0), (0, .ref (b 0)), (1, .int 2), (2, .int 13), (3, .int 17)]) hx hb dX12_key_110 hl (k := 5) rfl (nI_1 i_285) (by decide) rfl (fun ls hl => ?_)
                            refine lv_goto (tgt := 67) hx hb dX12_key_113 (by decide) ?_
                            exact ih285 _ _ (by omega) ⟨(i_285 + 1), 0, rfl, (by first | assumption | omega | rfl | (congr 1; omega)), lv_sub hl [2, 3, 4, 5, 1, 0] rfl⟩
                          · have c296 := (b_eq (rfl : Int32.toInt r294 = _) (rfl : Int32.toInt (bA tx sz1 ((fN u 13) + i_285)) = _)).mp c296
                            refine lv_iconst (v := 1) hx hb dX12_key_103 (by decide) ?_
                            refine lv_goto (tgt := 108) hx hb dX12_key_104 (by decide) ?_
                            refine lv_istore (lv' := [(4, .int 1), (0, .ref (b 0)), (1, .int 2), (2, .int 13), (3, .int 17), (5, .int (nI i_285))]) hx hb dX12_key_108 hl (by decide) rfl (fun ls hl => ?_)
                            refine lv_iinc (v := nI (i_285 + 1)) (lv' := [(5, .int (nI (i_285 + 1))), (4, .int 1), (0, .ref (b 0)), (1, .int 2), (2, .int 13), (3, .int 17)]) hx hb dX12_key_110 hl (k := 5) rfl (nI_1 i_285) (by decide) rfl (fun ls hl => ?_)
                            refine lv_goto (tgt := 67) hx hb dX12_key_113 (by decide) ?_
                            exact ih285 _ _ (by omega) ⟨(i_285 + 1), 1, rfl, (by first | assumption | omega | rfl | (congr 1; omega)), lv_sub hl [2, 3, 4, 5, 1, 0] rfl⟩
                  · have c259 := mt (b_eq (rfl : Int32.toInt x1_218 = _) (show Int32.toInt 0 = 0 from rfl)).mpr c259
                    refine lv_iload_n hx hb dX12_key_121 rfl (lv_at hl 1 rfl) ?_
                    exact W.iret (v := 1) hx hb hr (fun t ht hW => ⟨1, rfl, trivial, ht⟩) (fun _ h => absurd h List.not_mem_nil) dX12_key_122
                · have c258 := mt (b_eq (rfl : Int32.toInt x1_218 = _) (show Int32.toInt 0 = 0 from rfl)).mpr c258
                  refine va_ldcS hx hb hown hZ dX12_key_80 ?_
                  refine lv_iload_n hx hb dX12_key_82 rfl (lv_at hl 2 rfl) ?_
                  refine lv_iload hx hb dX12_key_83 (lv_at hl 5 rfl) ?_
                  refine lv_iadd hx hb dX12_key_85 ?_
                  refine W.eq (g2 := F0 m 86 ls [.int (nI (8 + i_218)), .ref (adK 3)]) (congrArg (fun z : Int32 => F0 m 86 ls (.int z :: [.ref (adK 3)])) (nI_add 8 i_218)) ?_
                  refine vp_callSi (va_Run.run (va_runV (As := [.int (nI (8 + i_218))]) (rest := []) ⟨hx, hb, hml, hown, noTs⟩ (s_J0_charAt l adK adV 3 (8 + i_218) (by decide) (by show _ < 18; omega)) ⟨cbE 1 (wd_498 hE) (wd_129 hE) (wd_1528 hE) rfl rfl (by decide +kernel) ⟨Nat.le_of_ble_eq_true rfl, Nat.le_of_ble_eq_true rfl⟩, (wd_496 hE), (wd_497 hE)⟩ ⟨PS.blind, vk_recv hX.1 (by decide) hS, ps_pre (av := [.ref (adK 3), .int (nI (8 + i_218))]) hX hS hE⟩ rfl rfl hl.1 rfl (lv_room (Nat.le_of_ble_eq_true rfl)) dX12_key_86 ⟨Nat.le_of_ble_eq_true rfl, Nat.le_of_ble_eq_true rfl⟩)) (fun r297 hr297 => ?_)
                  refine lv_aload_n hx hb dX12_key_89 rfl (lv_at hl 0 rfl) ?_
                  refine lv_aload_n hx hb dX12_key_90 rfl (lv_at hl 0 rfl) ?_
                  refine r_get (v := .int (nI (fN u 13))) hx hb (ly_X12 hE) hown hK hP rfl 13 (by decide) (wd_1394 hE) (fun _ h9 => h9) (congrArg (fun z : Int32 => some (Value.int z)) hp0.1) dX12_key_91 ?_
                  refine lv_iload hx hb dX12_key_94 (lv_at hl 5 rfl) ?_
                  refine lv_iadd hx hb dX12_key_96 ?_
                  refine W.eq (g2 := F0 m 97 ls [.int (nI ((fN u 13) + i_218)), .ref (b 0), .int r297]) (congrArg (fun z : Int32 => F0 m 97 ls (.int z :: [.ref (b 0), .int r297])) (nI_add (fN u 13) i_218)) ?_
                  refine vp_callSi (va_Run.run (va_runV (As := [.int (nI ((fN u 13) + i_218))]) (rest := [.int r297]) ⟨hx, hb, hml, hown, noTs⟩ (r_X12_byteAt l dC dI s.heap.size cs b u tx hAc16 ((fN u 13) + i_218) sz1 hF11 (by first | assumption | omega | rfl | (congr 1; omega)) (by first | assumption | omega | rfl | (congr 1; omega))) ⟨cbE 1 (wd_1510 hE) (wd_126 hE) (wd_1507 hE) rfl rfl (by decide +kernel) ⟨Nat.le_of_ble_eq_true rfl, Nat.le_of_ble_eq_true rfl⟩, (wd_1509 hE), (wd_57 hE)⟩ ⟨PR.blind, r_recv hK hP rfl, (r_pre (av := [.ref (b 0), .int (nI ((fN u 13) + i_218))]) hK hP hJ hE)⟩ rfl rfl hl.1 rfl (lv_room (Nat.le_of_ble_eq_true rfl)) dX12_key_97 ⟨Nat.le_of_ble_eq_true rfl, Nat.le_of_ble_eq_true rfl⟩)) (fun r298 hr298 => ?_)
                  subst hr298
                  have htf298 := bA_f tx sz1 ((fN u 13) + i_218)
                  refine lv_icmp_ne (tgt := 107) hx hb dX12_key_100 (by decide) (fun c299 => ?_) (fun c299 => ?_)
                  · have c299 := mt (b_eq (rfl : Int32.toInt r297 = _) (rfl : Int32.toInt (bA tx sz1 ((fN u 13) + i_218)) = _)).mpr c299
                    refine lv_iconst (v := 0) hx hb dX12_key_107 (by decide) ?_
                    refine lv_istore (lv' := [(4, .int 0), (0, .ref (b 0)), (1, .int 1), (2, .int 8), (3, .int 12), (5, .int (nI i_218))]) hx hb dX12_key_108 hl (by decide) rfl (fun ls hl => ?_)
                    refine lv_iinc (v := nI (i_218 + 1)) (lv' := [(5, .int (nI (i_218 + 1))), (4, .int 0), (0, .ref (b 0)), (1, .int 1), (2, .int 8), (3, .int 12)]) hx hb dX12_key_110 hl (k := 5) rfl (nI_1 i_218) (by decide) rfl (fun ls hl => ?_)
                    refine lv_goto (tgt := 67) hx hb dX12_key_113 (by decide) ?_
                    exact ih218 _ _ (by omega) ⟨(i_218 + 1), 0, rfl, (by first | assumption | omega | rfl | (congr 1; omega)), lv_sub hl [2, 3, 4, 5, 1, 0] rfl⟩
                  · have c299 := (b_eq (rfl : Int32.toInt r297 = _) (rfl : Int32.toInt (bA tx sz1 ((fN u 13) + i_218)) = _)).mp c299
                    refine lv_iconst (v := 1) hx hb dX12_key_103 (by decide) ?_
                    refine lv_goto (tgt := 108) hx hb dX12_key_104 (by decide) ?_
                    refine lv_istore (lv' := [(4, .int 1), (0, .ref (b 0)), (1, .int 1), (2, .int 8), (3, .int 12), (5, .int (nI i_218))]) hx hb dX12_key_108 hl (by decide) rfl (fun ls hl => ?_)
                    refine lv_iinc (v := nI (i_218 + 1)) (lv' := [(5, .int (nI (i_218 + 1))), (4, .int 1), (0, .ref (b 0)), (1, .int 1), (2, .int 8), (3, .int 12)]) hx hb dX12_key_110 hl (k := 5) rfl (nI_1 i_218) (by decide) rfl (fun ls hl => ?_)
                    refine lv_goto (tgt := 67) hx hb dX12_key_113 (by decide) ?_
                    exact ih218 _ _ (by omega) ⟨(i_218 + 1), 1, rfl, (by first | assumption | omega | rfl | (congr 1; omega)), lv_sub hl [2, 3, 4, 5, 1, 0] rfl⟩
            · have c217 := (b_eq (show Int32.toInt 4 = 4 from rfl) (nI_toInt (n := (fN u 14) - (fN u 13)) (by omega))).mp c217
              refine lv_iconst (v := 1) hx hb dX12_key_57 (by decide) ?_
              refine lv_goto (tgt := 62) hx hb dX12_key_58 (by decide) ?_
              refine lv_istore (lv' := [(4, .int 1), (3, .int 12), (2, .int 8), (1, .int 1), (0, .ref (b 0)), (5, .int (nI i_23))]) hx hb dX12_key_62 hl (by decide) rfl (fun ls hl => ?_)
              refine lv_iconst (v := 0) hx hb dX12_key_64 (by decide) ?_
              refine lv_istore (lv' := [(5, .int 0), (4, .int 1), (3, .int 12), (2, .int 8), (1, .int 1), (0, .ref (b 0))]) hx hb dX12_key_65 hl (by decide) rfl (fun ls hl => ?_)
              refine r_indP (I := fun n ls => ∃ (i_300 : Nat) (x1_300 : Int32), n = 12 - 8 - i_300 ∧ (i_300 ≤ 12 - 8) ∧ lv_has ls 6 [(0, .ref (b 0)), (1, .int 1), (2, .int 8), (3, .int 12), (4, .int x1_300), (5, .int (nI i_300))]) (fun n ls hI ih300 => ?_) _ _ ⟨0, 1, rfl, (by first | assumption | omega | rfl | (congr 1; omega)), lv_sub hl [5, 4, 3, 2, 1, 0] rfl⟩
              obtain ⟨i_300, x1_300, hmu300, hL300_0, hl⟩ := hI
              subst hmu300
              refine lv_iload hx hb dX12_key_67 (lv_at hl 5 rfl) ?_
              refine lv_iload_n hx hb dX12_key_69 rfl (lv_at hl 3 rfl) ?_
              refine lv_iload_n hx hb dX12_key_70 rfl (lv_at hl 2 rfl) ?_
              refine lv_isub hx hb dX12_key_71 ?_
              refine W.eq (g2 := F0 m 72 ls [.int 4, .int (nI i_300)]) rfl ?_
              refine lv_icmp_ge (tgt := 116) hx hb dX12_key_72 (by decide) (fun c301 => ?_) (fun c301 => ?_)
              · have c301 := (b_le (show Int32.toInt 4 = 4 from rfl) (nI_toInt (n := i_300) (by omega))).mp c301
                refine lv_iload hx hb dX12_key_116 (lv_at hl 4 rfl) ?_
                refine lv_if_eq (tgt := 123) hx hb dX12_key_118 (by decide) (fun c302 => ?_) (fun c302 => ?_)
                · have c302 := (b_eq (rfl : Int32.toInt x1_300 = _) (show Int32.toInt 0 = 0 from rfl)).mp c302
                  refine lv_iinc (v := 2) (lv' := [(1, .int 2), (0, .ref (b 0)), (2, .int 8), (3, .int 12), (4, .int x1_300), (5, .int (nI i_300))]) hx hb dX12_key_123 hl (k := 1) rfl (by decide) (by decide) rfl (fun ls hl => ?_)
                  refine lv_iload_n hx hb dX12_key_126 rfl (lv_at hl 3 rfl) ?_
                  refine lv_iconst (v := 1) hx hb dX12_key_127 (by decide) ?_
                  refine lv_iadd hx hb dX12_key_128 ?_
                  refine W.eq (g2 := F0 m 129 ls [.int 13]) rfl ?_
                  refine lv_istore_n (lv' := [(2, .int 13), (1, .int 2), (0, .ref (b 0)), (3, .int 12), (4, .int x1_300), (5, .int (nI i_300))]) hx hb dX12_key_129 rfl hl (by decide) rfl (fun ls hl => ?_)
                  refine lv_goto (tgt := 14) hx hb dX12_key_130 (by decide) ?_
                  refine lv_iload_n hx hb dX12_key_14 rfl (lv_at hl 0 rfl) ?_
                  refine va_ldcS hx hb hown hZ dX12_key_15 ?_
                  refine vp_callSi (va_Run.run (va_runV (As := []) (rest := [.int 13]) ⟨hx, hb, hml, hown, noTs⟩ (s_J0_length l adK adV 3 (by decide)) ⟨cbE 0 (wd_488 hE) (wd_129 hE) (wd_1527 hE) rfl rfl (by decide +kernel) ⟨Nat.le_of_ble_eq_true rfl, Nat.le_of_ble_eq_true rfl⟩, (wd_486 hE), (wd_487 hE)⟩ ⟨PS.blind, vk_recv hX.1 (by decide) hS, ps_pre (av := [.ref (adK 3)]) hX hS hE⟩ rfl rfl hl.1 rfl (lv_room (Nat.le_of_ble_eq_true rfl)) dX12_key_17 ⟨Nat.le_of_ble_eq_true rfl, Nat.le_of_ble_eq_true rfl⟩)) (fun r303 hr303 => ?_)
                  have hr303 : r303 = 18 := hr303
                  subst hr303
                  refine lv_icmp_ge (tgt := 133) hx hb dX12_key_20 (by decide) (fun c304 => absurd c304 (by decide)) (fun c304 => ?_)
                  refine lv_iload_n hx hb dX12_key_23 rfl (lv_at hl 0 rfl) ?_
                  refine lv_istore_n (lv' := [(3, .int 13), (2, .int 13), (1, .int 2), (0, .ref (b 0)), (4, .int x1_300), (5, .int (nI i_300))]) hx hb dX12_key_24 rfl hl (by decide) rfl (fun ls hl => ?_)
                  refine va_ldcS hx hb hown hZ dX12_key_25 ?_
                  refine lv_iload_n hx hb dX12_key_27 rfl (lv_at hl 0 rfl) ?_
                  refine vp_callSi (va_Run.run (va_runV (As := [.int (nI 13)]) (rest := []) ⟨hx, hb, hml, hown, noTs⟩ (s_J0_charAt l adK adV 3 13 (by decide) (by show _ < 18; omega)) ⟨cbE 1 (wd_498 hE) (wd_129 hE) (wd_1528 hE) rfl rfl (by decide +kernel) ⟨Nat.le_of_ble_eq_true rfl, Nat.le_of_ble_eq_true rfl⟩, (wd_496 hE), (wd_497 hE)⟩ ⟨PS.blind, vk_recv hX.1 (by decide) hS, ps_pre (av := [.ref (adK 3), .int (nI 13)]) hX hS hE⟩ rfl rfl hl.1 rfl (lv_room (Nat.le_of_ble_eq_true rfl)) dX12_key_28 ⟨Nat.le_of_ble_eq_true rfl, Nat.le_of_ble_eq_true rfl⟩)) (fun r305 hr305 => ?_)
                  have hr305 : r305 = 119 := hr305.trans (by decide)
                  subst hr305
                  refine lv_bipush (v := 32) hx hb dX12_key_31 (by decide) ?_
                  refine lv_icmp_eq (tgt := 42) hx hb dX12_key_33 (by decide) (fun c306 => absurd c306 (by decide)) (fun c306 => ?_)
                  refine lv_iinc (v := 14) (lv' := [(3, .int 14), (2, .int 13), (1, .int 2), (0, .ref (b 0)), (4, .int x1_300), (5, .int (nI i_300))]) hx hb dX12_key_36 hl (k := 0) rfl (by decide) (by decide) rfl (fun ls hl => ?_)
                  refine lv_goto (tgt := 25) hx hb dX12_key_39 (by decide) ?_
                  refine va_ldcS hx hb hown hZ dX12_key_25 ?_
                  refine lv_iload_n hx hb dX12_key_27 rfl (lv_at hl 0 rfl) ?_
                  refine vp_callSi (va_Run.run (va_runV (As := [.int (nI 14)]) (rest := []) ⟨hx, hb, hml, hown, noTs⟩ (s_J0_charAt l adK adV 3 14 (by decide) (by show _ < 18; omega)) ⟨cbE 1 (wd_498 hE) (wd_129 hE) (wd_1528 hE) rfl rfl (by decide +kernel) ⟨Nat.le_of_ble_eq_true rfl, Nat.le_of_ble_eq_true rfl⟩, (wd_496 hE), (wd_497 hE)⟩ ⟨PS.blind, vk_recv hX.1 (by decide) hS, ps_pre (av := [.ref (adK 3), .int (nI 14)]) hX hS hE⟩ rfl rfl hl.1 rfl (lv_room (Nat.le_of_ble_eq_true rfl)) dX12_key_28 ⟨Nat.le_of_ble_eq_true rfl, Nat.le_of_ble_eq_true rfl⟩)) (fun r307 hr307 => ?_)
                  have hr307 : r307 = 111 := hr307.trans (by decide)
                  subst hr307
                  refine lv_bipush (v := 32) hx hb dX12_key_31 (by decide) ?_
                  refine lv_icmp_eq (tgt := 42) hx hb dX12_key_33 (by decide) (fun c308 => absurd c308 (by decide)) (fun c308 => ?_)
                  refine lv_iinc (v := 15) (lv' := [(3, .int 15), (2, .int 13), (1, .int 2), (0, .ref (b 0)), (4, .int x1_300), (5, .int (nI i_300))]) hx hb dX12_key_36 hl (k := 0) rfl (by decide) (by decide) rfl (fun ls hl => ?_)
                  refine lv_goto (tgt := 25) hx hb dX12_key_39 (by decide) ?_
                  refine va_ldcS hx hb hown hZ dX12_key_25 ?_
                  refine lv_iload_n hx hb dX12_key_27 rfl (lv_at hl 0 rfl) ?_
                  refine vp_callSi (va_Run.run (va_runV (As := [.int (nI 15)]) (rest := []) ⟨hx, hb, hml, hown, noTs⟩ (s_J0_charAt l adK adV 3 15 (by decide) (by show _ < 18; omega)) ⟨cbE 1 (wd_498 hE) (wd_129 hE) (wd_1528 hE) rfl rfl (by decide +kernel) ⟨Nat.le_of_ble_eq_true rfl, Nat.le_of_ble_eq_true rfl⟩, (wd_496 hE), (wd_497 hE)⟩ ⟨PS.blind, vk_recv hX.1 (by decide) hS, ps_pre (av := [.ref (adK 3), .int (nI 15)]) hX hS hE⟩ rfl rfl hl.1 rfl (lv_room (Nat.le_of_ble_eq_true rfl)) dX12_key_28 ⟨Nat.le_of_ble_eq_true rfl, Nat.le_of_ble_eq_true rfl⟩)) (fun r309 hr309 => ?_)
                  have hr309 : r309 = 114 := hr309.trans (by decide)
                  subst hr309
                  refine lv_bipush (v := 32) hx hb dX12_key_31 (by decide) ?_
                  refine lv_icmp_eq (tgt := 42) hx hb dX12_key_33 (by decide) (fun c310 => absurd c310 (by decide)) (fun c310 => ?_)
                  refine lv_iinc (v := 16) (lv' := [(3, .int 16), (2, .int 13), (1, .int 2), (0, .ref (b 0)), (4, .int x1_300), (5, .int (nI i_300))]) hx hb dX12_key_36 hl (k := 0) rfl (by decide) (by decide) rfl (fun ls hl => ?_)
                  refine lv_goto (tgt := 25) hx hb dX12_key_39 (by decide) ?_
                  refine va_ldcS hx hb hown hZ dX12_key_25 ?_
                  refine lv_iload_n hx hb dX12_key_27 rfl (lv_at hl 0 rfl) ?_
                  refine vp_callSi (va_Run.run (va_runV (As := [.int (nI 16)]) (rest := []) ⟨hx, hb, hml, hown, noTs⟩ (s_J0_charAt l adK adV 3 16 (by decide) (by show _ < 18; omega)) ⟨cbE 1 (wd_498 hE) (wd_129 hE) (wd_1528 hE) rfl rfl (by decide +kernel) ⟨Nat.le_of_ble_eq_true rfl, Nat.le_of_ble_eq_true rfl⟩, (wd_496 hE), (wd_497 hE)⟩ ⟨PS.blind, vk_recv hX.1 (by decide) hS, ps_pre (av := [.ref (adK 3), .int (nI 16)]) hX hS hE⟩ rfl rfl hl.1 rfl (lv_room (Nat.le_of_ble_eq_true rfl)) dX12_key_28 ⟨Nat.le_of_ble_eq_true rfl, Nat.le_of_ble_eq_true rfl⟩)) (fun r311 hr311 => ?_)
                  have hr311 : r311 = 100 := hr311.trans (by decide)
                  subst hr311
                  refine lv_bipush (v := 32) hx hb dX12_key_31 (by decide) ?_
                  refine lv_icmp_eq (tgt := 42) hx hb dX12_key_33 (by decide) (fun c312 => absurd c312 (by decide)) (fun c312 => ?_)
                  refine lv_iinc (v := 17) (lv' := [(3, .int 17), (2, .int 13), (1, .int 2), (0, .ref (b 0)), (4, .int x1_300), (5, .int (nI i_300))]) hx hb dX12_key_36 hl (k := 0) rfl (by decide) (by decide) rfl (fun ls hl => ?_)
                  refine lv_goto (tgt := 25) hx hb dX12_key_39 (by decide) ?_
                  refine va_ldcS hx hb hown hZ dX12_key_25 ?_
                  refine lv_iload_n hx hb dX12_key_27 rfl (lv_at hl 0 rfl) ?_
                  refine vp_callSi (va_Run.run (va_runV (As := [.int (nI 17)]) (rest := []) ⟨hx, hb, hml, hown, noTs⟩ (s_J0_charAt l adK adV 3 17 (by decide) (by show _ < 18; omega)) ⟨cbE 1 (wd_498 hE) (wd_129 hE) (wd_1528 hE) rfl rfl (by decide +kernel) ⟨Nat.le_of_ble_eq_true rfl, Nat.le_of_ble_eq_true rfl⟩, (wd_496 hE), (wd_497 hE)⟩ ⟨PS.blind, vk_recv hX.1 (by decide) hS, ps_pre (av := [.ref (adK 3), .int (nI 17)]) hX hS hE⟩ rfl rfl hl.1 rfl (lv_room (Nat.le_of_ble_eq_true rfl)) dX12_key_28 ⟨Nat.le_of_ble_eq_true rfl, Nat.le_of_ble_eq_true rfl⟩)) (fun r313 hr313 => ?_)
                  have hr313 : r313 = 32 := hr313.trans (by decide)
                  subst hr313
                  refine lv_bipush (v := 32) hx hb dX12_key_31 (by decide) ?_
                  refine lv_icmp_eq (tgt := 42) hx hb dX12_key_33 (by decide) (fun c314 => ?_) (fun c314 => absurd c314 (by decide))
                  refine lv_iload_n hx hb dX12_key_42 rfl (lv_at hl 0 rfl) ?_
                  refine lv_iload_n hx hb dX12_key_43 rfl (lv_at hl 1 rfl) ?_
                  refine lv_isub hx hb dX12_key_44 ?_
                  refine W.eq (g2 := F0 m 45 ls [.int 4]) rfl ?_
                  refine lv_aload_n hx hb dX12_key_45 rfl (lv_at hl 3 rfl) ?_
                  refine r_get (v := .int (nI (fN u 14))) hx hb (ly_X12 hE) hown hK hP rfl 14 (by decide) (wd_1395 hE) (fun _ h9 => h9) (congrArg (fun z : Int32 => some (Value.int z)) hp0.2.1) dX12_key_46 ?_
                  refine lv_aload_n hx hb dX12_key_49 rfl (lv_at hl 3 rfl) ?_
                  refine r_get (v := .int (nI (fN u 13))) hx hb (ly_X12 hE) hown hK hP rfl 13 (by decide) (wd_1394 hE) (fun _ h9 => h9) (congrArg (fun z : Int32 => some (Value.int z)) hp0.1) dX12_key_50 ?_
                  refine lv_isub hx hb dX12_key_53 ?_
                  refine W.eq (g2 := F0 m 54 ls [.int (nI ((fN u 14) - (fN u 13))), .int 4]) (congrArg (fun z : Int32 => F0 m 54 ls (.int z :: [.int 4])) (pk_sub (a := fN u 14) (b := fN u 13) (by omega))) ?_
                  refine lv_icmp_ne (tgt := 61) hx hb dX12_key_54 (by decide) (fun c315 => ?_) (fun c315 => ?_)
                  · have c315 := mt (b_eq (show Int32.toInt 4 = 4 from rfl) (nI_toInt (n := (fN u 14) - (fN u 13)) (by omega))).mpr c315
                    refine lv_iconst (v := 0) hx hb dX12_key_61 (by decide) ?_
                    refine lv_istore (lv' := [(4, .int 0), (3, .int 17), (2, .int 13), (1, .int 2), (0, .ref (b 0)), (5, .int (nI i_300))]) hx hb dX12_key_62 hl (by decide) rfl (fun ls hl => ?_)
                    refine lv_iconst (v := 0) hx hb dX12_key_64 (by decide) ?_
                    refine lv_istore (lv' := [(5, .int 0), (4, .int 0), (3, .int 17), (2, .int 13), (1, .int 2), (0, .ref (b 0))]) hx hb dX12_key_65 hl (by decide) rfl (fun ls hl => ?_)
                    refine r_indP (I := fun n ls => ∃ (i_316 : Nat) (x1_316 : Int32), n = 17 - 13 - i_316 ∧ (i_316 ≤ 17 - 13) ∧ lv_has ls 6 [(0, .ref (b 0)), (1, .int 2), (2, .int 13), (3, .int 17), (4, .int x1_316), (5, .int (nI i_316))]) (fun n ls hI ih316 => ?_) _ _ ⟨0, 0, rfl, (by first | assumption | omega | rfl | (congr 1; omega)), lv_sub hl [5, 4, 3, 2, 1, 0] rfl⟩
                    obtain ⟨i_316, x1_316, hmu316, hL316_0, hl⟩ := hI
                    subst hmu316
                    refine lv_iload hx hb dX12_key_67 (lv_at hl 5 rfl) ?_
                    refine lv_iload_n hx hb dX12_key_69 rfl (lv_at hl 3 rfl) ?_
                    refine lv_iload_n hx hb dX12_key_70 rfl (lv_at hl 2 rfl) ?_
                    refine lv_isub hx hb dX12_key_71 ?_
                    refine W.eq (g2 := F0 m 72 ls [.int 4, .int (nI i_316)]) rfl ?_
                    refine lv_icmp_ge (tgt := 116) hx hb dX12_key_72 (by decide) (fun c317 => ?_) (fun c317 => ?_)
                    · have c317 := (b_le (show Int32.toInt 4 = 4 from rfl) (nI_toInt (n := i_316) (by omega))).mp c317
                      refine lv_iload hx hb dX12_key_116 (lv_at hl 4 rfl) ?_
                      refine lv_if_eq (tgt := 123) hx hb dX12_key_118 (by decide) (fun c318 => ?_) (fun c318 => ?_)
                      · have c318 := (b_eq (rfl : Int32.toInt x1_316 = _) (show Int32.toInt 0 = 0 from rfl)).mp c318
                        refine lv_iinc (v := 3) (lv' := [(1, .int 3), (0, .ref (b 0)), (2, .int 13), (3, .int 17), (4, .int x1_316), (5, .int (nI i_316))]) hx hb dX12_key_123 hl (k := 1) rfl (by decide) (by decide) rfl (fun ls hl => ?_)
                        refine lv_iload_n hx hb dX12_key_126 rfl (lv_at hl 3 rfl) ?_
                        refine lv_iconst (v := 1) hx hb dX12_key_127 (by decide) ?_
                        refine lv_iadd hx hb dX12_key_128 ?_
                        refine W.eq (g2 := F0 m 129 ls [.int 18]) rfl ?_
                        refine lv_istore_n (lv' := [(2, .int 18), (1, .int 3), (0, .ref (b 0)), (3, .int 17), (4, .int x1_316), (5, .int (nI i_316))]) hx hb dX12_key_129 rfl hl (by decide) rfl (fun ls hl => ?_)
                        refine lv_goto (tgt := 14) hx hb dX12_key_130 (by decide) ?_
                        refine lv_iload_n hx hb dX12_key_14 rfl (lv_at hl 0 rfl) ?_
                        refine va_ldcS hx hb hown hZ dX12_key_15 ?_
                        refine vp_callSi (va_Run.run (va_runV (As := []) (rest := [.int 18]) ⟨hx, hb, hml, hown, noTs⟩ (s_J0_length l adK adV 3 (by decide)) ⟨cbE 0 (wd_488 hE) (wd_129 hE) (wd_1527 hE) rfl rfl (by decide +kernel) ⟨Nat.le_of_ble_eq_true rfl, Nat.le_of_ble_eq_true rfl⟩, (wd_486 hE), (wd_487 hE)⟩ ⟨PS.blind, vk_recv hX.1 (by decide) hS, ps_pre (av := [.ref (adK 3)]) hX hS hE⟩ rfl rfl hl.1 rfl (lv_room (Nat.le_of_ble_eq_true rfl)) dX12_key_17 ⟨Nat.le_of_ble_eq_true rfl, Nat.le_of_ble_eq_true rfl⟩)) (fun r319 hr319 => ?_)
                        have hr319 : r319 = 18 := hr319
                        subst hr319
                        refine lv_icmp_ge (tgt := 133) hx hb dX12_key_20 (by decide) (fun c320 => ?_) (fun c320 => absurd c320 (by decide))
                        refine lv_iconst (v := -1) hx hb dX12_key_133 (by decide) ?_
                        exact W.iret (v := -1) hx hb hr (fun t ht hW => ⟨-1, rfl, trivial, ht⟩) (fun _ h => absurd h List.not_mem_nil) dX12_key_134
                      · have c318 := mt (b_eq (rfl : Int32.toInt x1_316 = _) (show Int32.toInt 0 = 0 from rfl)).mpr c318
                        refine lv_iload_n hx hb dX12_key_121 rfl (lv_at hl 1 rfl) ?_
                        exact W.iret (v := 2) hx hb hr (fun t ht hW => ⟨2, rfl, trivial, ht⟩) (fun _ h => absurd h List.not_mem_nil) dX12_key_122
                    · have c317 := mt (b_le (show Int32.toInt 4 = 4 from rfl) (nI_toInt (n := i_316) (by omega))).mpr c317
                      refine lv_iload hx hb dX12_key_75 (lv_at hl 4 rfl) ?_
                      refine lv_if_eq (tgt := 116) hx hb dX12_key_77 (by decide) (fun c321 => ?_) (fun c321 => ?_)
                      · have c321 := (b_eq (rfl : Int32.toInt x1_316 = _) (show Int32.toInt 0 = 0 from rfl)).mp c321
                        refine lv_iload hx hb dX12_key_116 (lv_at hl 4 rfl) ?_
                        refine lv_if_eq (tgt := 123) hx hb dX12_key_118 (by decide) (fun c322 => ?_) (fun c322 => ?_)
                        · have c322 := (b_eq (rfl : Int32.toInt x1_316 = _) (show Int32.toInt 0 = 0 from rfl)).mp c322
                          refine lv_iinc (v := 3) (lv' := [(1, .int 3), (0, .ref (b 0)), (2, .int 13), (3, .int 17), (4, .int x1_316), (5, .int (nI i_316))]) hx hb dX12_key_123 hl (k := 1) rfl (by decide) (by decide) rfl (fun ls hl => ?_)
                          refine lv_iload_n hx hb dX12_key_126 rfl (lv_at hl 3 rfl) ?_
                          refine lv_iconst (v := 1) hx hb dX12_key_127 (by decide) ?_
                          refine lv_iadd hx hb dX12_key_128 ?_
                          refine W.eq (g2 := F0 m 129 ls [.int 18]) rfl ?_
                          refine lv_istore_n (lv' := [(2, .int 18), (1, .int 3), (0, .ref (b 0)), (3, .int 17), (4, .int x1_316), (5, .int (nI i_316))]) hx hb dX12_key_129 rfl hl (by decide) rfl (fun ls hl => ?_)
                          refine lv_goto (tgt := 14) hx hb dX12_key_130 (by decide) ?_
                          refine lv_iload_n hx hb dX12_key_14 rfl (lv_at hl 0 rfl) ?_
                          refine va_ldcS hx hb hown hZ dX12_key_15 ?_
                          refine vp_callSi (va_Run.run (va_runV (As := []) (rest := [.int 18]) ⟨hx, hb, hml, hown, noTs⟩ (s_J0_length l adK adV 3 (by decide)) ⟨cbE 0 (wd_488 hE) (wd_129 hE) (wd_1527 hE) rfl rfl (by decide +kernel) ⟨Nat.le_of_ble_eq_true rfl, Nat.le_of_ble_eq_true rfl⟩, (wd_486 hE), (wd_487 hE)⟩ ⟨PS.blind, vk_recv hX.1 (by decide) hS, ps_pre (av := [.ref (adK 3)]) hX hS hE⟩ rfl rfl hl.1 rfl (lv_room (Nat.le_of_ble_eq_true rfl)) dX12_key_17 ⟨Nat.le_of_ble_eq_true rfl, Nat.le_of_ble_eq_true rfl⟩)) (fun r323 hr323 => ?_)
                          have hr323 : r323 = 18 := hr323
                          subst hr323
                          refine lv_icmp_ge (tgt := 133) hx hb dX12_key_20 (by decide) (fun c324 => ?_) (fun c324 => absurd c324 (by decide))
                          refine lv_iconst (v := -1) hx hb dX12_key_133 (by decide) ?_
                          exact W.iret (v := -1) hx hb hr (fun t ht hW => ⟨-1, rfl, trivial, ht⟩) (fun _ h => absurd h List.not_mem_nil) dX12_key_134
                        · have c322 := mt (b_eq (rfl : Int32.toInt x1_316 = _) (show Int32.toInt 0 = 0 from rfl)).mpr c322
                          refine lv_iload_n hx hb dX12_key_121 rfl (lv_at hl 1 rfl) ?_
                          exact W.iret (v := 2) hx hb hr (fun t ht hW => ⟨2, rfl, trivial, ht⟩) (fun _ h => absurd h List.not_mem_nil) dX12_key_122
                      · have c321 := mt (b_eq (rfl : Int32.toInt x1_316 = _) (show Int32.toInt 0 = 0 from rfl)).mpr c321
                        refine va_ldcS hx hb hown hZ dX12_key_80 ?_
                        refine lv_iload_n hx hb dX12_key_82 rfl (lv_at hl 2 rfl) ?_
                        refine lv_iload hx hb dX12_key_83 (lv_at hl 5 rfl) ?_
                        refine lv_iadd hx hb dX12_key_85 ?_
                        refine W.eq (g2 := F0 m 86 ls [.int (nI (13 + i_316)), .ref (adK 3)]) (congrArg (fun z : Int32 => F0 m 86 ls (.int z :: [.ref (adK 3)])) (nI_add 13 i_316)) ?_
                        refine vp_callSi (va_Run.run (va_runV (As := [.int (nI (13 + i_316))]) (rest := []) ⟨hx, hb, hml, hown, noTs⟩ (s_J0_charAt l adK adV 3 (13 + i_316) (by decide) (by show _ < 18; omega)) ⟨cbE 1 (wd_498 hE) (wd_129 hE) (wd_1528 hE) rfl rfl (by decide +kernel) ⟨Nat.le_of_ble_eq_true rfl, Nat.le_of_ble_eq_true rfl⟩, (wd_496 hE), (wd_497 hE)⟩ ⟨PS.blind, vk_recv hX.1 (by decide) hS, ps_pre (av := [.ref (adK 3), .int (nI (13 + i_316))]) hX hS hE⟩ rfl rfl hl.1 rfl (lv_room (Nat.le_of_ble_eq_true rfl)) dX12_key_86 ⟨Nat.le_of_ble_eq_true rfl, Nat.le_of_ble_eq_true rfl⟩)) (fun r325 hr325 => ?_)
                        refine lv_aload_n hx hb dX12_key_89 rfl (lv_at hl 0 rfl) ?_
                        refine lv_aload_n hx hb dX12_key_90 rfl (lv_at hl 0 rfl) ?_
                        refine r_get (v := .int (nI (fN u 13))) hx hb (ly_X12 hE) hown hK hP rfl 13 (by decide) (wd_1394 hE) (fun _ h9 => h9) (congrArg (fun z : Int32 => some (Value.int z)) hp0.1) dX12_key_91 ?_
                        refine lv_iload hx hb dX12_key_94 (lv_at hl 5 rfl) ?_
                        refine lv_iadd hx hb dX12_key_96 ?_
                        refine W.eq (g2 := F0 m 97 ls [.int (nI ((fN u 13) + i_316)), .ref (b 0), .int r325]) (congrArg (fun z : Int32 => F0 m 97 ls (.int z :: [.ref (b 0), .int r325])) (nI_add (fN u 13) i_316)) ?_
                        refine vp_callSi (va_Run.run (va_runV (As := [.int (nI ((fN u 13) + i_316))]) (rest := [.int r325]) ⟨hx, hb, hml, hown, noTs⟩ (r_X12_byteAt l dC dI s.heap.size cs b u tx hAc16 ((fN u 13) + i_316) sz1 hF11 (by first | assumption | omega | rfl | (congr 1; omega)) (by first | assumption | omega | rfl | (congr 1; omega))) ⟨cbE 1 (wd_1510 hE) (wd_126 hE) (wd_1507 hE) rfl rfl (by decide +kernel) ⟨Nat.le_of_ble_eq_true rfl, Nat.le_of_ble_eq_true rfl⟩, (wd_1509 hE), (wd_57 hE)⟩ ⟨PR.blind, r_recv hK hP rfl, (r_pre (av := [.ref (b 0), .int (nI ((fN u 13) + i_316))]) hK hP hJ hE)⟩ rfl rfl hl.1 rfl (lv_room (Nat.le_of_ble_eq_true rfl)) dX12_key_97 ⟨Nat.le_of_ble_eq_true rfl, Nat.le_of_ble_eq_true rfl⟩)) (fun r326 hr326 => ?_)
                        subst hr326
                        have htf326 := bA_f tx sz1 ((fN u 13) + i_316)
                        refine lv_icmp_ne (tgt := 107) hx hb dX12_key_100 (by decide) (fun c327 => ?_) (fun c327 => ?_)
                        · have c327 := mt (b_eq (rfl : Int32.toInt r325 = _) (rfl : Int32.toInt (bA tx sz1 ((fN u 13) + i_316)) = _)).mpr c327
                          refine lv_iconst (v := 0) hx hb dX12_key_107 (by decide) ?_
                          refine lv_istore (lv' := [(4, .int 0), (0, .ref (b 0)), (1, .int 2), (2, .int 13), (3, .int 17), (5, .int (nI i_316))]) hx hb dX12_key_108 hl (by decide) rfl (fun ls hl => ?_)
                          refine lv_iinc (v := nI (i_316 + 1)) (lv' := [(5, .int (nI (i_316 + 1))), (4, .int 0), (0, .ref (b 0)), (1, .int 2), (2, .int 13), (3, .int 17)]) hx hb dX12_key_110 hl (k := 5) rfl (nI_1 i_316) (by decide) rfl (fun ls hl => ?_)
                          refine lv_goto (tgt := 67) hx hb dX12_key_113 (by decide) ?_
                          exact ih316 _ _ (by omega) ⟨(i_316 + 1), 0, rfl, (by first | assumption | omega | rfl | (congr 1; omega)), lv_sub hl [2, 3, 4, 5, 1, 0] rfl⟩
                        · have c327 := (b_eq (rfl : Int32.toInt r325 = _) (rfl : Int32.toInt (bA tx sz1 ((fN u 13) + i_316)) = _)).mp c327
                          refine lv_iconst (v := 1) hx hb dX12_key_103 (by decide) ?_
                          refine lv_goto (tgt := 108) hx hb dX12_key_104 (by decide) ?_
                          refine lv_istore (lv' := [(4, .int 1), (0, .ref (b 0)), (1, .int 2), (2, .int 13), (3, .int 17), (5, .int (nI i_316))]) hx hb dX12_key_108 hl (by decide) rfl (fun ls hl => ?_)
                          refine lv_iinc (v := nI (i_316 + 1)) (lv' := [(5, .int (nI (i_316 + 1))), (4, .int 1), (0, .ref (b 0)), (1, .int 2), (2, .int 13), (3, .int 17)]) hx hb dX12_key_110 hl (k := 5) rfl (nI_1 i_316) (by decide) rfl (fun ls hl => ?_)
                          refine lv_goto (tgt := 67) hx hb dX12_key_113 (by decide) ?_
                          exact ih316 _ _ (by omega) ⟨(i_316 + 1), 1, rfl, (by first | assumption | omega | rfl | (congr 1; omega)), lv_sub hl [2, 3, 4, 5, 1, 0] rfl⟩
                  · have c315 := (b_eq (show Int32.toInt 4 = 4 from rfl) (nI_toInt (n := (fN u 14) - (fN u 13)) (by omega))).mp c315
                    refine lv_iconst (v := 1) hx hb dX12_key_57 (by decide) ?_
                    refine lv_goto (tgt := 62) hx hb dX12_key_58 (by decide) ?_
                    refine lv_istore (lv' := [(4, .int 1), (3, .int 17), (2, .int 13), (1, .int 2), (0, .ref (b 0)), (5, .int (nI i_300))]) hx hb dX12_key_62 hl (by decide) rfl (fun ls hl => ?_)
                    refine lv_iconst (v := 0) hx hb dX12_key_64 (by decide) ?_
                    refine lv_istore (lv' := [(5, .int 0), (4, .int 1), (3, .int 17), (2, .int 13), (1, .int 2), (0, .ref (b 0))]) hx hb dX12_key_65 hl (by decide) rfl (fun ls hl => ?_)
                    refine r_indP (I := fun n ls => ∃ (i_328 : Nat) (x1_328 : Int32), n = 17 - 13 - i_328 ∧ (i_328 ≤ 17 - 13) ∧ lv_has ls 6 [(0, .ref (b 0)), (1, .int 2), (2, .int 13), (3, .int 17), (4, .int x1_328), (5, .int (nI i_328))]) (fun n ls hI ih328 => ?_) _ _ ⟨0, 1, rfl, (by first | assumption | omega | rfl | (congr 1; omega)), lv_sub hl [5, 4, 3, 2, 1, 0] rfl⟩
                    obtain ⟨i_328, x1_328, hmu328, hL328_0, hl⟩ := hI
                    subst hmu328
                    refine lv_iload hx hb dX12_key_67 (lv_at hl 5 rfl) ?_
                    refine lv_iload_n hx hb dX12_key_69 rfl (lv_at hl 3 rfl) ?_
                    refine lv_iload_n hx hb dX12_key_70 rfl (lv_at hl 2 rfl) ?_
                    refine lv_isub hx hb dX12_key_71 ?_
                    refine W.eq (g2 := F0 m 72 ls [.int 4, .int (nI i_328)]) rfl ?_
                    refine lv_icmp_ge (tgt := 116) hx hb dX12_key_72 (by decide) (fun c329 => ?_) (fun c329 => ?_)
                    · have c329 := (b_le (show Int32.toInt 4 = 4 from rfl) (nI_toInt (n := i_328) (by omega))).mp c329
                      refine lv_iload hx hb dX12_key_116 (lv_at hl 4 rfl) ?_
                      refine lv_if_eq (tgt := 123) hx hb dX12_key_118 (by decide) (fun c330 => ?_) (fun c330 => ?_)
                      · have c330 := (b_eq (rfl : Int32.toInt x1_328 = _) (show Int32.toInt 0 = 0 from rfl)).mp c330
                        refine lv_iinc (v := 3) (lv' := [(1, .int 3), (0, .ref (b 0)), (2, .int 13), (3, .int 17), (4, .int x1_328), (5, .int (nI i_328))]) hx hb dX12_key_123 hl (k := 1) rfl (by decide) (by decide) rfl (fun ls hl => ?_)
                        refine lv_iload_n hx hb dX12_key_126 rfl (lv_at hl 3 rfl) ?_
                        refine lv_iconst (v := 1) hx hb dX12_key_127 (by decide) ?_
                        refine lv_iadd hx hb dX12_key_128 ?_
                        refine W.eq (g2 := F0 m 129 ls [.int 18]) rfl ?_
                        refine lv_istore_n (lv' := [(2, .int 18), (1, .int 3), (0, .ref (b 0)), (3, .int 17), (4, .int x1_328), (5, .int (nI i_328))]) hx hb dX12_key_129 rfl hl (by decide) rfl (fun ls hl => ?_)
                        refine lv_goto (tgt := 14) hx hb dX12_key_130 (by decide) ?_
                        refine lv_iload_n hx hb dX12_key_14 rfl (lv_at hl 0 rfl) ?_
                        refine va_ldcS hx hb hown hZ dX12_key_15 ?_
                        refine vp_callSi (va_Run.run (va_runV (As := []) (rest := [.int 18]) ⟨hx, hb, hml, hown, noTs⟩ (s_J0_length l adK adV 3 (by decide)) ⟨cbE 0 (wd_488 hE) (wd_129 hE) (wd_1527 hE) rfl rfl (by decide +kernel) ⟨Nat.le_of_ble_eq_true rfl, Nat.le_of_ble_eq_true rfl⟩, (wd_486 hE), (wd_487 hE)⟩ ⟨PS.blind, vk_recv hX.1 (by decide) hS, ps_pre (av := [.ref (adK 3)]) hX hS hE⟩ rfl rfl hl.1 rfl (lv_room (Nat.le_of_ble_eq_true rfl)) dX12_key_17 ⟨Nat.le_of_ble_eq_true rfl, Nat.le_of_ble_eq_true rfl⟩)) (fun r331 hr331 => ?_)
                        have hr331 : r331 = 18 := hr331
                        subst hr331
                        refine lv_icmp_ge (tgt := 133) hx hb dX12_key_20 (by decide) (fun c332 => ?_) (fun c332 => absurd c332 (by decide))
                        refine lv_iconst (v := -1) hx hb dX12_key_133 (by decide) ?_
                        exact W.iret (v := -1) hx hb hr (fun t ht hW => ⟨-1, rfl, trivial, ht⟩) (fun _ h => absurd h List.not_mem_nil) dX12_key_134
                      · have c330 := mt (b_eq (rfl : Int32.toInt x1_328 = _) (show Int32.toInt 0 = 0 from rfl)).mpr c330
                        refine lv_iload_n hx hb dX12_key_121 rfl (lv_at hl 1 rfl) ?_
                        exact W.iret (v := 2) hx hb hr (fun t ht hW => ⟨2, rfl, trivial, ht⟩) (fun _ h => absurd h List.not_mem_nil) dX12_key_122
                    · have c329 := mt (b_le (show Int32.toInt 4 = 4 from rfl) (nI_toInt (n := i_328) (by omega))).mpr c329
                      refine lv_iload hx hb dX12_key_75 (lv_at hl 4 rfl) ?_
                      refine lv_if_eq (tgt := 116) hx hb dX12_key_77 (by decide) (fun c333 => ?_) (fun c333 => ?_)
                      · have c333 := (b_eq (rfl : Int32.toInt x1_328 = _) (show Int32.toInt 0 = 0 from rfl)).mp c333
                        refine lv_iload hx hb dX12_key_116 (lv_at hl 4 rfl) ?_
                        refine lv_if_eq (tgt := 123) hx hb dX12_key_118 (by decide) (fun c334 => ?_) (fun c334 => ?_)
                        · have c334 := (b_eq (rfl : Int32.toInt x1_328 = _) (show Int32.toInt 0 = 0 from rfl)).mp c334
                          refine lv_iinc (v := 3) (lv' := [(1, .int 3), (0, .ref (b 0)), (2, .int 13), (3, .int 17), (4, .int x1_328), (5, .int (nI i_328))]) hx hb dX12_key_123 hl (k := 1) rfl (by decide) (by decide) rfl (fun ls hl => ?_)
                          refine lv_iload_n hx hb dX12_key_126 rfl (lv_at hl 3 rfl) ?_
                          refine lv_iconst (v := 1) hx hb dX12_key_127 (by decide) ?_
                          refine lv_iadd hx hb dX12_key_128 ?_
                          refine W.eq (g2 := F0 m 129 ls [.int 18]) rfl ?_
                          refine lv_istore_n (lv' := [(2, .int 18), (1, .int 3), (0, .ref (b 0)), (3, .int 17), (4, .int x1_328), (5, .int (nI i_328))]) hx hb dX12_key_129 rfl hl (by decide) rfl (fun ls hl => ?_)
                          refine lv_goto (tgt := 14) hx hb dX12_key_130 (by decide) ?_
                          refine lv_iload_n hx hb dX12_key_14 rfl (lv_at hl 0 rfl) ?_
                          refine va_ldcS hx hb hown hZ dX12_key_15 ?_
                          refine vp_callSi (va_Run.run (va_runV (As := []) (rest := [.int 18]) ⟨hx, hb, hml, hown, noTs⟩ (s_J0_length l adK adV 3 (by decide)) ⟨cbE 0 (wd_488 hE) (wd_129 hE) (wd_1527 hE) rfl rfl (by decide +kernel) ⟨Nat.le_of_ble_eq_true rfl, Nat.le_of_ble_eq_true rfl⟩, (wd_486 hE), (wd_487 hE)⟩ ⟨PS.blind, vk_recv hX.1 (by decide) hS, ps_pre (av := [.ref (adK 3)]) hX hS hE⟩ rfl rfl hl.1 rfl (lv_room (Nat.le_of_ble_eq_true rfl)) dX12_key_17 ⟨Nat.le_of_ble_eq_true rfl, Nat.le_of_ble_eq_true rfl⟩)) (fun r335 hr335 => ?_)
                          have hr335 : r335 = 18 := hr335
                          subst hr335
                          refine lv_icmp_ge (tgt := 133) hx hb dX12_key_20 (by decide) (fun c336 => ?_) (fun c336 => absurd c336 (by decide))
                          refine lv_iconst (v := -1) hx hb dX12_key_133 (by decide) ?_
                          exact W.iret (v := -1) hx hb hr (fun t ht hW => ⟨-1, rfl, trivial, ht⟩) (fun _ h => absurd h List.not_mem_nil) dX12_key_134
                        · have c334 := mt (b_eq (rfl : Int32.toInt x1_328 = _) (show Int32.toInt 0 = 0 from rfl)).mpr c334
                          refine lv_iload_n hx hb dX12_key_121 rfl (lv_at hl 1 rfl) ?_
                          exact W.iret (v := 2) hx hb hr (fun t ht hW => ⟨2, rfl, trivial, ht⟩) (fun _ h => absurd h List.not_mem_nil) dX12_key_122
                      · have c333 := mt (b_eq (rfl : Int32.toInt x1_328 = _) (show Int32.toInt 0 = 0 from rfl)).mpr c333
                        refine va_ldcS hx hb hown hZ dX12_key_80 ?_
                        refine lv_iload_n hx hb dX12_key_82 rfl (lv_at hl 2 rfl) ?_
                        refine lv_iload hx hb dX12_key_83 (lv_at hl 5 rfl) ?_
                        refine lv_iadd hx hb dX12_key_85 ?_
                        refine W.eq (g2 := F0 m 86 ls [.int (nI (13 + i_328)), .ref (adK 3)]) (congrArg (fun z : Int32 => F0 m 86 ls (.int z :: [.ref (adK 3)])) (nI_add 13 i_328)) ?_
                        refine vp_callSi (va_Run.run (va_runV (As := [.int (nI (13 + i_328))]) (rest := []) ⟨hx, hb, hml, hown, noTs⟩ (s_J0_charAt l adK adV 3 (13 + i_328) (by decide) (by show _ < 18; omega)) ⟨cbE 1 (wd_498 hE) (wd_129 hE) (wd_1528 hE) rfl rfl (by decide +kernel) ⟨Nat.le_of_ble_eq_true rfl, Nat.le_of_ble_eq_true rfl⟩, (wd_496 hE), (wd_497 hE)⟩ ⟨PS.blind, vk_recv hX.1 (by decide) hS, ps_pre (av := [.ref (adK 3), .int (nI (13 + i_328))]) hX hS hE⟩ rfl rfl hl.1 rfl (lv_room (Nat.le_of_ble_eq_true rfl)) dX12_key_86 ⟨Nat.le_of_ble_eq_true rfl, Nat.le_of_ble_eq_true rfl⟩)) (fun r337 hr337 => ?_)
                        refine lv_aload_n hx hb dX12_key_89 rfl (lv_at hl 0 rfl) ?_
                        refine lv_aload_n hx hb dX12_key_90 rfl (lv_at hl 0 rfl) ?_
                        refine r_get (v := .int (nI (fN u 13))) hx hb (ly_X12 hE) hown hK hP rfl 13 (by decide) (wd_1394 hE) (fun _ h9 => h9) (congrArg (fun z : Int32 => some (Value.int z)) hp0.1) dX12_key_91 ?_
                        refine lv_iload hx hb dX12_key_94 (lv_at hl 5 rfl) ?_
                        refine lv_iadd hx hb dX12_key_96 ?_
                        refine W.eq (g2 := F0 m 97 ls [.int (nI ((fN u 13) + i_328)), .ref (b 0), .int r337]) (congrArg (fun z : Int32 => F0 m 97 ls (.int z :: [.ref (b 0), .int r337])) (nI_add (fN u 13) i_328)) ?_
                        refine vp_callSi (va_Run.run (va_runV (As := [.int (nI ((fN u 13) + i_328))]) (rest := [.int r337]) ⟨hx, hb, hml, hown, noTs⟩ (r_X12_byteAt l dC dI s.heap.size cs b u tx hAc16 ((fN u 13) + i_328) sz1 hF11 (by first | assumption | omega | rfl | (congr 1; omega)) (by first | assumption | omega | rfl | (congr 1; omega))) ⟨cbE 1 (wd_1510 hE) (wd_126 hE) (wd_1507 hE) rfl rfl (by decide +kernel) ⟨Nat.le_of_ble_eq_true rfl, Nat.le_of_ble_eq_true rfl⟩, (wd_1509 hE), (wd_57 hE)⟩ ⟨PR.blind, r_recv hK hP rfl, (r_pre (av := [.ref (b 0), .int (nI ((fN u 13) + i_328))]) hK hP hJ hE)⟩ rfl rfl hl.1 rfl (lv_room (Nat.le_of_ble_eq_true rfl)) dX12_key_97 ⟨Nat.le_of_ble_eq_true rfl, Nat.le_of_ble_eq_true rfl⟩)) (fun r338 hr338 => ?_)
                        subst hr338
                        have htf338 := bA_f tx sz1 ((fN u 13) + i_328)
                        refine lv_icmp_ne (tgt := 107) hx hb dX12_key_100 (by decide) (fun c339 => ?_) (fun c339 => ?_)
                        · have c339 := mt (b_eq (rfl : Int32.toInt r337 = _) (rfl : Int32.toInt (bA tx sz1 ((fN u 13) + i_328)) = _)).mpr c339
                          refine lv_iconst (v := 0) hx hb dX12_key_107 (by decide) ?_
                          refine lv_istore (lv' := [(4, .int 0), (0, .ref (b 0)), (1, .int 2), (2, .int 13), (3, .int 17), (5, .int (nI i_328))]) hx hb dX12_key_108 hl (by decide) rfl (fun ls hl => ?_)
                          refine lv_iinc (v := nI (i_328 + 1)) (lv' := [(5, .int (nI (i_328 + 1))), (4, .int 0), (0, .ref (b 0)), (1, .int 2), (2, .int 13), (3, .int 17)]) hx hb dX12_key_110 hl (k := 5) rfl (nI_1 i_328) (by decide) rfl (fun ls hl => ?_)
                          refine lv_goto (tgt := 67) hx hb dX12_key_113 (by decide) ?_
                          exact ih328 _ _ (by omega) ⟨(i_328 + 1), 0, rfl, (by first | assumption | omega | rfl | (congr 1; omega)), lv_sub hl [2, 3, 4, 5, 1, 0] rfl⟩
                        · have c339 := (b_eq (rfl : Int32.toInt r337 = _) (rfl : Int32.toInt (bA tx sz1 ((fN u 13) + i_328)) = _)).mp c339
                          refine lv_iconst (v := 1) hx hb dX12_key_103 (by decide) ?_
                          refine lv_goto (tgt := 108) hx hb dX12_key_104 (by decide) ?_
                          refine lv_istore (lv' := [(4, .int 1), (0, .ref (b 0)), (1, .int 2), (2, .int 13), (3, .int 17), (5, .int (nI i_328))]) hx hb dX12_key_108 hl (by decide) rfl (fun ls hl => ?_)
                          refine lv_iinc (v := nI (i_328 + 1)) (lv' := [(5, .int (nI (i_328 + 1))), (4, .int 1), (0, .ref (b 0)), (1, .int 2), (2, .int 13), (3, .int 17)]) hx hb dX12_key_110 hl (k := 5) rfl (nI_1 i_328) (by decide) rfl (fun ls hl => ?_)
                          refine lv_goto (tgt := 67) hx hb dX12_key_113 (by decide) ?_
                          exact ih328 _ _ (by omega) ⟨(i_328 + 1), 1, rfl, (by first | assumption | omega | rfl | (congr 1; omega)), lv_sub hl [2, 3, 4, 5, 1, 0] rfl⟩
                · have c302 := mt (b_eq (rfl : Int32.toInt x1_300 = _) (show Int32.toInt 0 = 0 from rfl)).mpr c302
                  refine lv_iload_n hx hb dX12_key_121 rfl (lv_at hl 1 rfl) ?_
                  exact W.iret (v := 1) hx hb hr (fun t ht hW => ⟨1, rfl, trivial, ht⟩) (fun _ h => absurd h List.not_mem_nil) dX12_key_122
              · have c301 := mt (b_le (show Int32.toInt 4 = 4 from rfl) (nI_toInt (n := i_300) (by omega))).mpr c301
                refine lv_iload hx hb dX12_key_75 (lv_at hl 4 rfl) ?_
                refine lv_if_eq (tgt := 116) hx hb dX12_key_77 (by decide) (fun c340 => ?_) (fun c340 => ?_)
                · have c340 := (b_eq (rfl : Int32.toInt x1_300 = _) (show Int32.toInt 0 = 0 from rfl)).mp c340
                  refine lv_iload hx hb dX12_key_116 (lv_at hl 4 rfl) ?_
                  refine lv_if_eq (tgt := 123) hx hb dX12_key_118 (by decide) (fun c341 => ?_) (fun c341 => ?_)
                  · have c341 := (b_eq (rfl : Int32.toInt x1_300 = _) (show Int32.toInt 0 = 0 from rfl)).mp c341
                    refine lv_iinc (v := 2) (lv' := [(1, .int 2), (0, .ref (b 0)), (2, .int 8), (3, .int 12), (4, .int x1_300), (5, .int (nI i_300))]) hx hb dX12_key_123 hl (k := 1) rfl (by decide) (by decide) rfl (fun ls hl => ?_)
                    refine lv_iload_n hx hb dX12_key_126 rfl (lv_at hl 3 rfl) ?_
                    refine lv_iconst (v := 1) hx hb dX12_key_127 (by decide) ?_
                    refine lv_iadd hx hb dX12_key_128 ?_
                    refine W.eq (g2 := F0 m 129 ls [.int 13]) rfl ?_
                    refine lv_istore_n (lv' := [(2, .int 13), (1, .int 2), (0, .ref (b 0)), (3, .int 12), (4, .int x1_300), (5, .int (nI i_300))]) hx hb dX12_key_129 rfl hl (by decide) rfl (fun ls hl => ?_)
                    refine lv_goto (tgt := 14) hx hb dX12_key_130 (by decide) ?_
                    refine lv_iload_n hx hb dX12_key_14 rfl (lv_at hl 0 rfl) ?_
                    refine va_ldcS hx hb hown hZ dX12_key_15 ?_
                    refine vp_callSi (va_Run.run (va_runV (As := []) (rest := [.int 13]) ⟨hx, hb, hml, hown, noTs⟩ (s_J0_length l adK adV 3 (by decide)) ⟨cbE 0 (wd_488 hE) (wd_129 hE) (wd_1527 hE) rfl rfl (by decide +kernel) ⟨Nat.le_of_ble_eq_true rfl, Nat.le_of_ble_eq_true rfl⟩, (wd_486 hE), (wd_487 hE)⟩ ⟨PS.blind, vk_recv hX.1 (by decide) hS, ps_pre (av := [.ref (adK 3)]) hX hS hE⟩ rfl rfl hl.1 rfl (lv_room (Nat.le_of_ble_eq_true rfl)) dX12_key_17 ⟨Nat.le_of_ble_eq_true rfl, Nat.le_of_ble_eq_true rfl⟩)) (fun r342 hr342 => ?_)
                    have hr342 : r342 = 18 := hr342
                    subst hr342
                    refine lv_icmp_ge (tgt := 133) hx hb dX12_key_20 (by decide) (fun c343 => absurd c343 (by decide)) (fun c343 => ?_)
                    refine lv_iload_n hx hb dX12_key_23 rfl (lv_at hl 0 rfl) ?_
                    refine lv_istore_n (lv' := [(3, .int 13), (2, .int 13), (1, .int 2), (0, .ref (b 0)), (4, .int x1_300), (5, .int (nI i_300))]) hx hb dX12_key_24 rfl hl (by decide) rfl (fun ls hl => ?_)
                    refine va_ldcS hx hb hown hZ dX12_key_25 ?_
                    refine lv_iload_n hx hb dX12_key_27 rfl (lv_at hl 0 rfl) ?_
                    refine vp_callSi (va_Run.run (va_runV (As := [.int (nI 13)]) (rest := []) ⟨hx, hb, hml, hown, noTs⟩ (s_J0_charAt l adK adV 3 13 (by decide) (by show _ < 18; omega)) ⟨cbE 1 (wd_498 hE) (wd_129 hE) (wd_1528 hE) rfl rfl (by decide +kernel) ⟨Nat.le_of_ble_eq_true rfl, Nat.le_of_ble_eq_true rfl⟩, (wd_496 hE), (wd_497 hE)⟩ ⟨PS.blind, vk_recv hX.1 (by decide) hS, ps_pre (av := [.ref (adK 3), .int (nI 13)]) hX hS hE⟩ rfl rfl hl.1 rfl (lv_room (Nat.le_of_ble_eq_true rfl)) dX12_key_28 ⟨Nat.le_of_ble_eq_true rfl, Nat.le_of_ble_eq_true rfl⟩)) (fun r344 hr344 => ?_)
                    have hr344 : r344 = 119 := hr344.trans (by decide)
                    subst hr344
                    refine lv_bipush (v := 32) hx hb dX12_key_31 (by decide) ?_
                    refine lv_icmp_eq (tgt := 42) hx hb dX12_key_33 (by decide) (fun c345 => absurd c345 (by decide)) (fun c345 => ?_)
                    refine lv_iinc (v := 14) (lv' := [(3, .int 14), (2, .int 13), (1, .int 2), (0, .ref (b 0)), (4, .int x1_300), (5, .int (nI i_300))]) hx hb dX12_key_36 hl (k := 0) rfl (by decide) (by decide) rfl (fun ls hl => ?_)
                    refine lv_goto (tgt := 25) hx hb dX12_key_39 (by decide) ?_
                    refine va_ldcS hx hb hown hZ dX12_key_25 ?_
                    refine lv_iload_n hx hb dX12_key_27 rfl (lv_at hl 0 rfl) ?_
                    refine vp_callSi (va_Run.run (va_runV (As := [.int (nI 14)]) (rest := []) ⟨hx, hb, hml, hown, noTs⟩ (s_J0_charAt l adK adV 3 14 (by decide) (by show _ < 18; omega)) ⟨cbE 1 (wd_498 hE) (wd_129 hE) (wd_1528 hE) rfl rfl (by decide +kernel) ⟨Nat.le_of_ble_eq_true rfl, Nat.le_of_ble_eq_true rfl⟩, (wd_496 hE), (wd_497 hE)⟩ ⟨PS.blind, vk_recv hX.1 (by decide) hS, ps_pre (av := [.ref (adK 3), .int (nI 14)]) hX hS hE⟩ rfl rfl hl.1 rfl (lv_room (Nat.le_of_ble_eq_true rfl)) dX12_key_28 ⟨Nat.le_of_ble_eq_true rfl, Nat.le_of_ble_eq_true rfl⟩)) (fun r346 hr346 => ?_)
                    have hr346 : r346 = 111 := hr346.trans (by decide)
                    subst hr346
                    refine lv_bipush (v := 32) hx hb dX12_key_31 (by decide) ?_
                    refine lv_icmp_eq (tgt := 42) hx hb dX12_key_33 (by decide) (fun c347 => absurd c347 (by decide)) (fun c347 => ?_)
                    refine lv_iinc (v := 15) (lv' := [(3, .int 15), (2, .int 13), (1, .int 2), (0, .ref (b 0)), (4, .int x1_300), (5, .int (nI i_300))]) hx hb dX12_key_36 hl (k := 0) rfl (by decide) (by decide) rfl (fun ls hl => ?_)
                    refine lv_goto (tgt := 25) hx hb dX12_key_39 (by decide) ?_
                    refine va_ldcS hx hb hown hZ dX12_key_25 ?_
                    refine lv_iload_n hx hb dX12_key_27 rfl (lv_at hl 0 rfl) ?_
                    refine vp_callSi (va_Run.run (va_runV (As := [.int (nI 15)]) (rest := []) ⟨hx, hb, hml, hown, noTs⟩ (s_J0_charAt l adK adV 3 15 (by decide) (by show _ < 18; omega)) ⟨cbE 1 (wd_498 hE) (wd_129 hE) (wd_1528 hE) rfl rfl (by decide +kernel) ⟨Nat.le_of_ble_eq_true rfl, Nat.le_of_ble_eq_true rfl⟩, (wd_496 hE), (wd_497 hE)⟩ ⟨PS.blind, vk_recv hX.1 (by decide) hS, ps_pre (av := [.ref (adK 3), .int (nI 15)]) hX hS hE⟩ rfl rfl hl.1 rfl (lv_room (Nat.le_of_ble_eq_true rfl)) dX12_key_28 ⟨Nat.le_of_ble_eq_true rfl, Nat.le_of_ble_eq_true rfl⟩)) (fun r348 hr348 => ?_)
                    have hr348 : r348 = 114 := hr348.trans (by decide)
                    subst hr348
                    refine lv_bipush (v := 32) hx hb dX12_key_31 (by decide) ?_
                    refine lv_icmp_eq (tgt := 42) hx hb dX12_key_33 (by decide) (fun c349 => absurd c349 (by decide)) (fun c349 => ?_)
                    refine lv_iinc (v := 16) (lv' := [(3, .int 16), (2, .int 13), (1, .int 2), (0, .ref (b 0)), (4, .int x1_300), (5, .int (nI i_300))]) hx hb dX12_key_36 hl (k := 0) rfl (by decide) (by decide) rfl (fun ls hl => ?_)
                    refine lv_goto (tgt := 25) hx hb dX12_key_39 (by decide) ?_
                    refine va_ldcS hx hb hown hZ dX12_key_25 ?_
                    refine lv_iload_n hx hb dX12_key_27 rfl (lv_at hl 0 rfl) ?_
                    refine vp_callSi (va_Run.run (va_runV (As := [.int (nI 16)]) (rest := []) ⟨hx, hb, hml, hown, noTs⟩ (s_J0_charAt l adK adV 3 16 (by decide) (by show _ < 18; omega)) ⟨cbE 1 (wd_498 hE) (wd_129 hE) (wd_1528 hE) rfl rfl (by decide +kernel) ⟨Nat.le_of_ble_eq_true rfl, Nat.le_of_ble_eq_true rfl⟩, (wd_496 hE), (wd_497 hE)⟩ ⟨PS.blind, vk_recv hX.1 (by decide) hS, ps_pre (av := [.ref (adK 3), .int (nI 16)]) hX hS hE⟩ rfl rfl hl.1 rfl (lv_room (Nat.le_of_ble_eq_true rfl)) dX12_key_28 ⟨Nat.le_of_ble_eq_true rfl, Nat.le_of_ble_eq_true rfl⟩)) (fun r350 hr350 => ?_)
                    have hr350 : r350 = 100 := hr350.trans (by decide)
                    subst hr350
                    refine lv_bipush (v := 32) hx hb dX12_key_31 (by decide) ?_
                    refine lv_icmp_eq (tgt := 42) hx hb dX12_key_33 (by decide) (fun c351 => absurd c351 (by decide)) (fun c351 => ?_)
                    refine lv_iinc (v := 17) (lv' := [(3, .int 17), (2, .int 13), (1, .int 2), (0, .ref (b 0)), (4, .int x1_300), (5, .int (nI i_300))]) hx hb dX12_key_36 hl (k := 0) rfl (by decide) (by decide) rfl (fun ls hl => ?_)
                    refine lv_goto (tgt := 25) hx hb dX12_key_39 (by decide) ?_
                    refine va_ldcS hx hb hown hZ dX12_key_25 ?_
                    refine lv_iload_n hx hb dX12_key_27 rfl (lv_at hl 0 rfl) ?_
                    refine vp_callSi (va_Run.run (va_runV (As := [.int (nI 17)]) (rest := []) ⟨hx, hb, hml, hown, noTs⟩ (s_J0_charAt l adK adV 3 17 (by decide) (by show _ < 18; omega)) ⟨cbE 1 (wd_498 hE) (wd_129 hE) (wd_1528 hE) rfl rfl (by decide +kernel) ⟨Nat.le_of_ble_eq_true rfl, Nat.le_of_ble_eq_true rfl⟩, (wd_496 hE), (wd_497 hE)⟩ ⟨PS.blind, vk_recv hX.1 (by decide) hS, ps_pre (av := [.ref (adK 3), .int (nI 17)]) hX hS hE⟩ rfl rfl hl.1 rfl (lv_room (Nat.le_of_ble_eq_true rfl)) dX12_key_28 ⟨Nat.le_of_ble_eq_true rfl, Nat.le_of_ble_eq_true rfl⟩)) (fun r352 hr352 => ?_)
                    have hr352 : r352 = 32 := hr352.trans (by decide)
                    subst hr352
                    refine lv_bipush (v := 32) hx hb dX12_key_31 (by decide) ?_
                    refine lv_icmp_eq (tgt := 42) hx hb dX12_key_33 (by decide) (fun c353 => ?_) (fun c353 => absurd c353 (by decide))
                    refine lv_iload_n hx hb dX12_key_42 rfl (lv_at hl 0 rfl) ?_
                    refine lv_iload_n hx hb dX12_key_43 rfl (lv_at hl 1 rfl) ?_
                    refine lv_isub hx hb dX12_key_44 ?_
                    refine W.eq (g2 := F0 m 45 ls [.int 4]) rfl ?_
                    refine lv_aload_n hx hb dX12_key_45 rfl (lv_at hl 3 rfl) ?_
                    refine r_get (v := .int (nI (fN u 14))) hx hb (ly_X12 hE) hown hK hP rfl 14 (by decide) (wd_1395 hE) (fun _ h9 => h9) (congrArg (fun z : Int32 => some (Value.int z)) hp0.2.1) dX12_key_46 ?_
                    refine lv_aload_n hx hb dX12_key_49 rfl (lv_at hl 3 rfl) ?_
                    refine r_get (v := .int (nI (fN u 13))) hx hb (ly_X12 hE) hown hK hP rfl 13 (by decide) (wd_1394 hE) (fun _ h9 => h9) (congrArg (fun z : Int32 => some (Value.int z)) hp0.1) dX12_key_50 ?_
                    refine lv_isub hx hb dX12_key_53 ?_
                    refine W.eq (g2 := F0 m 54 ls [.int (nI ((fN u 14) - (fN u 13))), .int 4]) (congrArg (fun z : Int32 => F0 m 54 ls (.int z :: [.int 4])) (pk_sub (a := fN u 14) (b := fN u 13) (by omega))) ?_
                    refine lv_icmp_ne (tgt := 61) hx hb dX12_key_54 (by decide) (fun c354 => ?_) (fun c354 => ?_)
                    · have c354 := mt (b_eq (show Int32.toInt 4 = 4 from rfl) (nI_toInt (n := (fN u 14) - (fN u 13)) (by omega))).mpr c354
                      refine lv_iconst (v := 0) hx hb dX12_key_61 (by decide) ?_
                      refine lv_istore (lv' := [(4, .int 0), (3, .int 17), (2, .int 13), (1, .int 2), (0, .ref (b 0)), (5, .int (nI i_300))]) hx hb dX12_key_62 hl (by decide) rfl (fun ls hl => ?_)
                      refine lv_iconst (v := 0) hx hb dX12_key_64 (by decide) ?_
                      refine lv_istore (lv' := [(5, .int 0), (4, .int 0), (3, .int 17), (2, .int 13), (1, .int 2), (0, .ref (b 0))]) hx hb dX12_key_65 hl (by decide) rfl (fun ls hl => ?_)
                      refine r_indP (I := fun n ls => ∃ (i_355 : Nat) (x1_355 : Int32), n = 17 - 13 - i_355 ∧ (i_355 ≤ 17 - 13) ∧ lv_has ls 6 [(0, .ref (b 0)), (1, .int 2), (2, .int 13), (3, .int 17), (4, .int x1_355), (5, .int (nI i_355))]) (fun n ls hI ih355 => ?_) _ _ ⟨0, 0, rfl, (by first | assumption | omega | rfl | (congr 1; omega)), lv_sub hl [5, 4, 3, 2, 1, 0] rfl⟩
                      obtain ⟨i_355, x1_355, hmu355, hL355_0, hl⟩ := hI
                      subst hmu355
                      refine lv_iload hx hb dX12_key_67 (lv_at hl 5 rfl) ?_
                      refine lv_iload_n hx hb dX12_key_69 rfl (lv_at hl 3 rfl) ?_
                      refine lv_iload_n hx hb dX12_key_70 rfl (lv_at hl 2 rfl) ?_
                      refine lv_isub hx hb dX12_key_71 ?_
                      refine W.eq (g2 := F0 m 72 ls [.int 4, .int (nI i_355)]) rfl ?_
                      refine lv_icmp_ge (tgt := 116) hx hb dX12_key_72 (by decide) (fun c356 => ?_) (fun c356 => ?_)
                      · have c356 := (b_le (show Int32.toInt 4 = 4 from rfl) (nI_toInt (n := i_355) (by omega))).mp c356
                        refine lv_iload hx hb dX12_key_116 (lv_at hl 4 rfl) ?_
                        refine lv_if_eq (tgt := 123) hx hb dX12_key_118 (by decide) (fun c357 => ?_) (fun c357 => ?_)
                        · have c357 := (b_eq (rfl : Int32.toInt x1_355 = _) (show Int32.toInt 0 = 0 from rfl)).mp c357
                          refine lv_iinc (v := 3) (lv' := [(1, .int 3), (0, .ref (b 0)), (2, .int 13), (3, .int 17), (4, .int x1_355), (5, .int (nI i_355))]) hx hb dX12_key_123 hl (k := 1) rfl (by decide) (by decide) rfl (fun ls hl => ?_)
                          refine lv_iload_n hx hb dX12_key_126 rfl (lv_at hl 3 rfl) ?_
                          refine lv_iconst (v := 1) hx hb dX12_key_127 (by decide) ?_
                          refine lv_iadd hx hb dX12_key_128 ?_
                          refine W.eq (g2 := F0 m 129 ls [.int 18]) rfl ?_
                          refine lv_istore_n (lv' := [(2, .int 18), (1, .int 3), (0, .ref (b 0)), (3, .int 17), (4, .int x1_355), (5, .int (nI i_355))]) hx hb dX12_key_129 rfl hl (by decide) rfl (fun ls hl => ?_)
                          refine lv_goto (tgt := 14) hx hb dX12_key_130 (by decide) ?_
                          refine lv_iload_n hx hb dX12_key_14 rfl (lv_at hl 0 rfl) ?_
                          refine va_ldcS hx hb hown hZ dX12_key_15 ?_
                          refine vp_callSi (va_Run.run (va_runV (As := []) (rest := [.int 18]) ⟨hx, hb, hml, hown, noTs⟩ (s_J0_length l adK adV 3 (by decide)) ⟨cbE 0 (wd_488 hE) (wd_129 hE) (wd_1527 hE) rfl rfl (by decide +kernel) ⟨Nat.le_of_ble_eq_true rfl, Nat.le_of_ble_eq_true rfl⟩, (wd_486 hE), (wd_487 hE)⟩ ⟨PS.blind, vk_recv hX.1 (by decide) hS, ps_pre (av := [.ref (adK 3)]) hX hS hE⟩ rfl rfl hl.1 rfl (lv_room (Nat.le_of_ble_eq_true rfl)) dX12_key_17 ⟨Nat.le_of_ble_eq_true rfl, Nat.le_of_ble_eq_true rfl⟩)) (fun r358 hr358 => ?_)
                          have hr358 : r358 = 18 := hr358
                          subst hr358
                          refine lv_icmp_ge (tgt := 133) hx hb dX12_key_20 (by decide) (fun c359 => ?_) (fun c359 => absurd c359 (by decide))
                          refine lv_iconst (v := -1) hx hb dX12_key_133 (by decide) ?_
                          exact W.iret (v := -1) hx hb hr (fun t ht hW => ⟨-1, rfl, trivial, ht⟩) (fun _ h => absurd h List.not_mem_nil) dX12_key_134
                        · have c357 := mt (b_eq (rfl : Int32.toInt x1_355 = _) (show Int32.toInt 0 = 0 from rfl)).mpr c357
                          refine lv_iload_n hx hb dX12_key_121 rfl (lv_at hl 1 rfl) ?_
                          exact W.iret (v := 2) hx hb hr (fun t ht hW => ⟨2, rfl, trivial, ht⟩) (fun _ h => absurd h List.not_mem_nil) dX12_key_122
                      · have c356 := mt (b_le (show Int32.toInt 4 = 4 from rfl) (nI_toInt (n := i_355) (by omega))).mpr c356
                        refine lv_iload hx hb dX12_key_75 (lv_at hl 4 rfl) ?_
                        refine lv_if_eq (tgt := 116) hx hb dX12_key_77 (by decide) (fun c360 => ?_) (fun c360 => ?_)
                        · have c360 := (b_eq (rfl : Int32.toInt x1_355 = _) (show Int32.toInt 0 = 0 from rfl)).mp c360
                          refine lv_iload hx hb dX12_key_116 (lv_at hl 4 rfl) ?_
                          refine lv_if_eq (tgt := 123) hx hb dX12_key_118 (by decide) (fun c361 => ?_) (fun c361 => ?_)
                          · have c361 := (b_eq (rfl : Int32.toInt x1_355 = _) (show Int32.toInt 0 = 0 from rfl)).mp c361
                            refine lv_iinc (v := 3) (lv' := [(1, .int 3), (0, .ref (b 0)), (2, .int 13), (3, .int 17), (4, .int x1_355), (5, .int (nI i_355))]) hx hb dX12_key_123 hl (k := 1) rfl (by decide) (by decide) rfl (fun ls hl => ?_)
                            refine lv_iload_n hx hb dX12_key_126 rfl (lv_at hl 3 rfl) ?_
                            refine lv_iconst (v := 1) hx hb dX12_key_127 (by decide) ?_
                            refine lv_iadd hx hb dX12_key_128 ?_
                            refine W.eq (g2 := F0 m 129 ls [.int 18]) rfl ?_
                            refine lv_istore_n (lv' := [(2, .int 18), (1, .int 3), (0, .ref (b 0)), (3, .int 17), (4, .int x1_355), (5, .int (nI i_355))]) hx hb dX12_key_129 rfl hl (by decide) rfl (fun ls hl => ?_)
                            refine lv_goto (tgt := 14) hx hb dX12_key_130 (by decide) ?_
                            refine lv_iload_n hx hb dX12_key_14 rfl (lv_at hl 0 rfl) ?_
                            refine va_ldcS hx hb hown hZ dX12_key_15 ?_
                            refine vp_callSi (va_Run.run (va_runV (As := []) (rest := [.int 18]) ⟨hx, hb, hml, hown, noTs⟩ (s_J0_length l adK adV 3 (by decide)) ⟨cbE 0 (wd_488 hE) (wd_129 hE) (wd_1527 hE) rfl rfl (by decide +kernel) ⟨Nat.le_of_ble_eq_true rfl, Nat.le_of_ble_eq_true rfl⟩, (wd_486 hE), (wd_487 hE)⟩ ⟨PS.blind, vk_recv hX.1 (by decide) hS, ps_pre (av := [.ref (adK 3)]) hX hS hE⟩ rfl rfl hl.1 rfl (lv_room (Nat.le_of_ble_eq_true rfl)) dX12_key_17 ⟨Nat.le_of_ble_eq_true rfl, Nat.le_of_ble_eq_true rfl⟩)) (fun r362 hr362 => ?_)
                            have hr362 : r362 = 18 := hr362
                            subst hr362
                            refine lv_icmp_ge (tgt := 133) hx hb dX12_key_20 (by decide) (fun c363 => ?_) (fun c363 => absurd c363 (by decide))
                            refine lv_iconst (v := -1) hx hb dX12_key_133 (by decide) ?_
                            exact W.iret (v := -1) hx hb hr (fun t ht hW => ⟨-1, rfl, trivial, ht⟩) (fun _ h => absurd h List.not_mem_nil) dX12_key_134
                          · have c361 := mt (b_eq (rfl : Int32.toInt x1_355 = _) (show Int32.toInt 0 = 0 from rfl)).mpr c361
                            refine lv_iload_n hx hb dX12_key_121 rfl (lv_at hl 1 rfl) ?_
                            exact W.iret (v := 2) hx hb hr (fun t ht hW => ⟨2, rfl, trivial, ht⟩) (fun _ h => absurd h List.not_mem_nil) dX12_key_122
                        · have c360 := mt (b_eq (rfl : Int32.toInt x1_355 = _) (show Int32.toInt 0 = 0 from rfl)).mpr c360
                          refine va_ldcS hx hb hown hZ dX12_key_80 ?_
                          refine lv_iload_n hx hb dX12_key_82 rfl (lv_at hl 2 rfl) ?_
                          refine lv_iload hx hb dX12_key_83 (lv_at hl 5 rfl) ?_
                          refine lv_iadd hx hb dX12_key_85 ?_
                          refine W.eq (g2 := F0 m 86 ls [.int (nI (13 + i_355)), .ref (adK 3)]) (congrArg (fun z : Int32 => F0 m 86 ls (.int z :: [.ref (adK 3)])) (nI_add 13 i_355)) ?_
                          refine vp_callSi (va_Run.run (va_runV (As := [.int (nI (13 + i_355))]) (rest := []) ⟨hx, hb, hml, hown, noTs⟩ (s_J0_charAt l adK adV 3 (13 + i_355) (by decide) (by show _ < 18; omega)) ⟨cbE 1 (wd_498 hE) (wd_129 hE) (wd_1528 hE) rfl rfl (by decide +kernel) ⟨Nat.le_of_ble_eq_true rfl, Nat.le_of_ble_eq_true rfl⟩, (wd_496 hE), (wd_497 hE)⟩ ⟨PS.blind, vk_recv hX.1 (by decide) hS, ps_pre (av := [.ref (adK 3), .int (nI (13 + i_355))]) hX hS hE⟩ rfl rfl hl.1 rfl (lv_room (Nat.le_of_ble_eq_true rfl)) dX12_key_86 ⟨Nat.le_of_ble_eq_true rfl, Nat.le_of_ble_eq_true rfl⟩)) (fun r364 hr364 => ?_)
                          refine lv_aload_n hx hb dX12_key_89 rfl (lv_at hl 0 rfl) ?_
                          refine lv_aload_n hx hb dX12_key_90 rfl (lv_at hl 0 rfl) ?_
                          refine r_get (v := .int (nI (fN u 13))) hx hb (ly_X12 hE) hown hK hP rfl 13 (by decide) (wd_1394 hE) (fun _ h9 => h9) (congrArg (fun z : Int32 => some (Value.int z)) hp0.1) dX12_key_91 ?_
                          refine lv_iload hx hb dX12_key_94 (lv_at hl 5 rfl) ?_
                          refine lv_iadd hx hb dX12_key_96 ?_
                          refine W.eq (g2 := F0 m 97 ls [.int (nI ((fN u 13) + i_355)), .ref (b 0), .int r364]) (congrArg (fun z : Int32 => F0 m 97 ls (.int z :: [.ref (b 0), .int r364])) (nI_add (fN u 13) i_355)) ?_
                          refine vp_callSi (va_Run.run (va_runV (As := [.int (nI ((fN u 13) + i_355))]) (rest := [.int r364]) ⟨hx, hb, hml, hown, noTs⟩ (r_X12_byteAt l dC dI s.heap.size cs b u tx hAc16 ((fN u 13) + i_355) sz1 hF11 (by first | assumption | omega | rfl | (congr 1; omega)) (by first | assumption | omega | rfl | (congr 1; omega))) ⟨cbE 1 (wd_1510 hE) (wd_126 hE) (wd_1507 hE) rfl rfl (by decide +kernel) ⟨Nat.le_of_ble_eq_true rfl, Nat.le_of_ble_eq_true rfl⟩, (wd_1509 hE), (wd_57 hE)⟩ ⟨PR.blind, r_recv hK hP rfl, (r_pre (av := [.ref (b 0), .int (nI ((fN u 13) + i_355))]) hK hP hJ hE)⟩ rfl rfl hl.1 rfl (lv_room (Nat.le_of_ble_eq_true rfl)) dX12_key_97 ⟨Nat.le_of_ble_eq_true rfl, Nat.le_of_ble_eq_true rfl⟩)) (fun r365 hr365 => ?_)
                          subst hr365
                          have htf365 := bA_f tx sz1 ((fN u 13) + i_355)
                          refine lv_icmp_ne (tgt := 107) hx hb dX12_key_100 (by decide) (fun c366 => ?_) (fun c366 => ?_)
                          · have c366 := mt (b_eq (rfl : Int32.toInt r364 = _) (rfl : Int32.toInt (bA tx sz1 ((fN u 13) + i_355)) = _)).mpr c366
                            refine lv_iconst (v := 0) hx hb dX12_key_107 (by decide) ?_
                            refine lv_istore (lv' := [(4, .int 0), (0, .ref (b 0)), (1, .int 2), (2, .int 13), (3, .int 17), (5, .int (nI i_355))]) hx hb dX12_key_108 hl (by decide) rfl (fun ls hl => ?_)
                            refine lv_iinc (v := nI (i_355 + 1)) (lv' := [(5, .int (nI (i_355 + 1))), (4, .int 0), (0, .ref (b 0)), (1, .int 2), (2, .int 13), (3, .int 17)]) hx hb dX12_key_110 hl (k := 5) rfl (nI_1 i_355) (by decide) rfl (fun ls hl => ?_)
                            refine lv_goto (tgt := 67) hx hb dX12_key_113 (by decide) ?_
                            exact ih355 _ _ (by omega) ⟨(i_355 + 1), 0, rfl, (by first | assumption | omega | rfl | (congr 1; omega)), lv_sub hl [2, 3, 4, 5, 1, 0] rfl⟩
                          · have c366 := (b_eq (rfl : Int32.toInt r364 = _) (rfl : Int32.toInt (bA tx sz1 ((fN u 13) + i_355)) = _)).mp c366
                            refine lv_iconst (v := 1) hx hb dX12_key_103 (by decide) ?_
                            refine lv_goto (tgt := 108) hx hb dX12_key_104 (by decide) ?_
                            refine lv_istore (lv' := [(4, .int 1), (0, .ref (b 0)), (1, .int 2), (2, .int 13), (3, .int 17), (5, .int (nI i_355))]) hx hb dX12_key_108 hl (by decide) rfl (fun ls hl => ?_)
                            refine lv_iinc (v := nI (i_355 + 1)) (lv' := [(5, .int (nI (i_355 + 1))), (4, .int 1), (0, .ref (b 0)), (1, .int 2), (2, .int 13), (3, .int 17)]) hx hb dX12_key_110 hl (k := 5) rfl (nI_1 i_355) (by decide) rfl (fun ls hl => ?_)
                            refine lv_goto (tgt := 67) hx hb dX12_key_113 (by decide) ?_
                            exact ih355 _ _ (by omega) ⟨(i_355 + 1), 1, rfl, (by first | assumption | omega | rfl | (congr 1; omega)), lv_sub hl [2, 3, 4, 5, 1, 0] rfl⟩
                    · have c354 := (b_eq (show Int32.toInt 4 = 4 from rfl) (nI_toInt (n := (fN u 14) - (fN u 13)) (by omega))).mp c354
                      refine lv_iconst (v := 1) hx hb dX12_key_57 (by decide) ?_
                      refine lv_goto (tgt := 62) hx hb dX12_key_58 (by decide) ?_
                      refine lv_istore (lv' := [(4, .int 1), (3, .int 17), (2, .int 13), (1, .int 2), (0, .ref (b 0)), (5, .int (nI i_300))]) hx hb dX12_key_62 hl (by decide) rfl (fun ls hl => ?_)
                      refine lv_iconst (v := 0) hx hb dX12_key_64 (by decide) ?_
                      refine lv_istore (lv' := [(5, .int 0), (4, .int 1), (3, .int 17), (2, .int 13), (1, .int 2), (0, .ref (b 0))]) hx hb dX12_key_65 hl (by decide) rfl (fun ls hl => ?_)
                      refine r_indP (I := fun n ls => ∃ (i_367 : Nat) (x1_367 : Int32), n = 17 - 13 - i_367 ∧ (i_367 ≤ 17 - 13) ∧ lv_has ls 6 [(0, .ref (b 0)), (1, .int 2), (2, .int 13), (3, .int 17), (4, .int x1_367), (5, .int (nI i_367))]) (fun n ls hI ih367 => ?_) _ _ ⟨0, 1, rfl, (by first | assumption | omega | rfl | (congr 1; omega)), lv_sub hl [5, 4, 3, 2, 1, 0] rfl⟩
                      obtain ⟨i_367, x1_367, hmu367, hL367_0, hl⟩ := hI
                      subst hmu367
                      refine lv_iload hx hb dX12_key_67 (lv_at hl 5 rfl) ?_
                      refine lv_iload_n hx hb dX12_key_69 rfl (lv_at hl 3 rfl) ?_
                      refine lv_iload_n hx hb dX12_key_70 rfl (lv_at hl 2 rfl) ?_
                      refine lv_isub hx hb dX12_key_71 ?_
                      refine W.eq (g2 := F0 m 72 ls [.int 4, .int (nI i_367)]) rfl ?_
                      refine lv_icmp_ge (tgt := 116) hx hb dX12_key_72 (by decide) (fun c368 => ?_) (fun c368 => ?_)
                      · have c368 := (b_le (show Int32.toInt 4 = 4 from rfl) (nI_toInt (n := i_367) (by omega))).mp c368
                        refine lv_iload hx hb dX12_key_116 (lv_at hl 4 rfl) ?_
                        refine lv_if_eq (tgt := 123) hx hb dX12_key_118 (by decide) (fun c369 => ?_) (fun c369 => ?_)
                        · have c369 := (b_eq (rfl : Int32.toInt x1_367 = _) (show Int32.toInt 0 = 0 from rfl)).mp c369
                          refine lv_iinc (v := 3) (lv' := [(1, .int 3), (0, .ref (b 0)), (2, .int 13), (3, .int 17), (4, .int x1_367), (5, .int (nI i_367))]) hx hb dX12_key_123 hl (k := 1) rfl (by decide) (by decide) rfl (fun ls hl => ?_)
                          refine lv_iload_n hx hb dX12_key_126 rfl (lv_at hl 3 rfl) ?_
                          refine lv_iconst (v := 1) hx hb dX12_key_127 (by decide) ?_
                          refine lv_iadd hx hb dX12_key_128 ?_
                          refine W.eq (g2 := F0 m 129 ls [.int 18]) rfl ?_
                          refine lv_istore_n (lv' := [(2, .int 18), (1, .int 3), (0, .ref (b 0)), (3, .int 17), (4, .int x1_367), (5, .int (nI i_367))]) hx hb dX12_key_129 rfl hl (by decide) rfl (fun ls hl => ?_)
                          refine lv_goto (tgt := 14) hx hb dX12_key_130 (by decide) ?_
                          refine lv_iload_n hx hb dX12_key_14 rfl (lv_at hl 0 rfl) ?_
                          refine va_ldcS hx hb hown hZ dX12_key_15 ?_
                          refine vp_callSi (va_Run.run (va_runV (As := []) (rest := [.int 18]) ⟨hx, hb, hml, hown, noTs⟩ (s_J0_length l adK adV 3 (by decide)) ⟨cbE 0 (wd_488 hE) (wd_129 hE) (wd_1527 hE) rfl rfl (by decide +kernel) ⟨Nat.le_of_ble_eq_true rfl, Nat.le_of_ble_eq_true rfl⟩, (wd_486 hE), (wd_487 hE)⟩ ⟨PS.blind, vk_recv hX.1 (by decide) hS, ps_pre (av := [.ref (adK 3)]) hX hS hE⟩ rfl rfl hl.1 rfl (lv_room (Nat.le_of_ble_eq_true rfl)) dX12_key_17 ⟨Nat.le_of_ble_eq_true rfl, Nat.le_of_ble_eq_true rfl⟩)) (fun r370 hr370 => ?_)
                          have hr370 : r370 = 18 := hr370
                          subst hr370
                          refine lv_icmp_ge (tgt := 133) hx hb dX12_key_20 (by decide) (fun c371 => ?_) (fun c371 => absurd c371 (by decide))
                          refine lv_iconst (v := -1) hx hb dX12_key_133 (by decide) ?_
                          exact W.iret (v := -1) hx hb hr (fun t ht hW => ⟨-1, rfl, trivial, ht⟩) (fun _ h => absurd h List.not_mem_nil) dX12_key_134
                        · have c369 := mt (b_eq (rfl : Int32.toInt x1_367 = _) (show Int32.toInt 0 = 0 from rfl)).mpr c369
                          refine lv_iload_n hx hb dX12_key_121 rfl (lv_at hl 1 rfl) ?_
                          exact W.iret (v := 2) hx hb hr (fun t ht hW => ⟨2, rfl, trivial, ht⟩) (fun _ h => absurd h List.not_mem_nil) dX12_key_122
                      · have c368 := mt (b_le (show Int32.toInt 4 = 4 from rfl) (nI_toInt (n := i_367) (by omega))).mpr c368
                        refine lv_iload hx hb dX12_key_75 (lv_at hl 4 rfl) ?_
                        refine lv_if_eq (tgt := 116) hx hb dX12_key_77 (by decide) (fun c372 => ?_) (fun c372 => ?_)
                        · have c372 := (b_eq (rfl : Int32.toInt x1_367 = _) (show Int32.toInt 0 = 0 from rfl)).mp c372
                          refine lv_iload hx hb dX12_key_116 (lv_at hl 4 rfl) ?_
                          refine lv_if_eq (tgt := 123) hx hb dX12_key_118 (by decide) (fun c373 => ?_) (fun c373 => ?_)
                          · have c373 := (b_eq (rfl : Int32.toInt x1_367 = _) (show Int32.toInt 0 = 0 from rfl)).mp c373
                            refine lv_iinc (v := 3) (lv' := [(1, .int 3), (0, .ref (b 0)), (2, .int 13), (3, .int 17), (4, .int x1_367), (5, .int (nI i_367))]) hx hb dX12_key_123 hl (k := 1) rfl (by decide) (by decide) rfl (fun ls hl => ?_)
                            refine lv_iload_n hx hb dX12_key_126 rfl (lv_at hl 3 rfl) ?_
                            refine lv_iconst (v := 1) hx hb dX12_key_127 (by decide) ?_
                            refine lv_iadd hx hb dX12_key_128 ?_
                            refine W.eq (g2 := F0 m 129 ls [.int 18]) rfl ?_
                            refine lv_istore_n (lv' := [(2, .int 18), (1, .int 3), (0, .ref (b 0)), (3, .int 17), (4, .int x1_367), (5, .int (nI i_367))]) hx hb dX12_key_129 rfl hl (by decide) rfl (fun ls hl => ?_)
                            refine lv_goto (tgt := 14) hx hb dX12_key_130 (by decide) ?_
                            refine lv_iload_n hx hb dX12_key_14 rfl (lv_at hl 0 rfl) ?_
                            refine va_ldcS hx hb hown hZ dX12_key_15 ?_
                            refine vp_callSi (va_Run.run (va_runV (As := []) (rest := [.int 18]) ⟨hx, hb, hml, hown, noTs⟩ (s_J0_length l adK adV 3 (by decide)) ⟨cbE 0 (wd_488 hE) (wd_129 hE) (wd_1527 hE) rfl rfl (by decide +kernel) ⟨Nat.le_of_ble_eq_true rfl, Nat.le_of_ble_eq_true rfl⟩, (wd_486 hE), (wd_487 hE)⟩ ⟨PS.blind, vk_recv hX.1 (by decide) hS, ps_pre (av := [.ref (adK 3)]) hX hS hE⟩ rfl rfl hl.1 rfl (lv_room (Nat.le_of_ble_eq_true rfl)) dX12_key_17 ⟨Nat.le_of_ble_eq_true rfl, Nat.le_of_ble_eq_true rfl⟩)) (fun r374 hr374 => ?_)
                            have hr374 : r374 = 18 := hr374
                            subst hr374
                            refine lv_icmp_ge (tgt := 133) hx hb dX12_key_20 (by decide) (fun c375 => ?_) (fun c375 => absurd c375 (by decide))
                            refine lv_iconst (v := -1) hx hb dX12_key_133 (by decide) ?_
                            exact W.iret (v := -1) hx hb hr (fun t ht hW => ⟨-1, rfl, trivial, ht⟩) (fun _ h => absurd h List.not_mem_nil) dX12_key_134
                          · have c373 := mt (b_eq (rfl : Int32.toInt x1_367 = _) (show Int32.toInt 0 = 0 from rfl)).mpr c373
                            refine lv_iload_n hx hb dX12_key_121 rfl (lv_at hl 1 rfl) ?_
                            exact W.iret (v := 2) hx hb hr (fun t ht hW => ⟨2, rfl, trivial, ht⟩) (fun _ h => absurd h List.not_mem_nil) dX12_key_122
                        · have c372 := mt (b_eq (rfl : Int32.toInt x1_367 = _) (show Int32.toInt 0 = 0 from rfl)).mpr c372
                          refine va_ldcS hx hb hown hZ dX12_key_80 ?_
                          refine lv_iload_n hx hb dX12_key_82 rfl (lv_at hl 2 rfl) ?_
                          refine lv_iload hx hb dX12_key_83 (lv_at hl 5 rfl) ?_
                          refine lv_iadd hx hb dX12_key_85 ?_
                          refine W.eq (g2 := F0 m 86 ls [.int (nI (13 + i_367)), .ref (adK 3)]) (congrArg (fun z : Int32 => F0 m 86 ls (.int z :: [.ref (adK 3)])) (nI_add 13 i_367)) ?_
                          refine vp_callSi (va_Run.run (va_runV (As := [.int (nI (13 + i_367))]) (rest := []) ⟨hx, hb, hml, hown, noTs⟩ (s_J0_charAt l adK adV 3 (13 + i_367) (by decide) (by show _ < 18; omega)) ⟨cbE 1 (wd_498 hE) (wd_129 hE) (wd_1528 hE) rfl rfl (by decide +kernel) ⟨Nat.le_of_ble_eq_true rfl, Nat.le_of_ble_eq_true rfl⟩, (wd_496 hE), (wd_497 hE)⟩ ⟨PS.blind, vk_recv hX.1 (by decide) hS, ps_pre (av := [.ref (adK 3), .int (nI (13 + i_367))]) hX hS hE⟩ rfl rfl hl.1 rfl (lv_room (Nat.le_of_ble_eq_true rfl)) dX12_key_86 ⟨Nat.le_of_ble_eq_true rfl, Nat.le_of_ble_eq_true rfl⟩)) (fun r376 hr376 => ?_)
                          refine lv_aload_n hx hb dX12_key_89 rfl (lv_at hl 0 rfl) ?_
                          refine lv_aload_n hx hb dX12_key_90 rfl (lv_at hl 0 rfl) ?_
                          refine r_get (v := .int (nI (fN u 13))) hx hb (ly_X12 hE) hown hK hP rfl 13 (by decide) (wd_1394 hE) (fun _ h9 => h9) (congrArg (fun z : Int32 => some (Value.int z)) hp0.1) dX12_key_91 ?_
                          refine lv_iload hx hb dX12_key_94 (lv_at hl 5 rfl) ?_
                          refine lv_iadd hx hb dX12_key_96 ?_
                          refine W.eq (g2 := F0 m 97 ls [.int (nI ((fN u 13) + i_367)), .ref (b 0), .int r376]) (congrArg (fun z : Int32 => F0 m 97 ls (.int z :: [.ref (b 0), .int r376])) (nI_add (fN u 13) i_367)) ?_
                          refine vp_callSi (va_Run.run (va_runV (As := [.int (nI ((fN u 13) + i_367))]) (rest := [.int r376]) ⟨hx, hb, hml, hown, noTs⟩ (r_X12_byteAt l dC dI s.heap.size cs b u tx hAc16 ((fN u 13) + i_367) sz1 hF11 (by first | assumption | omega | rfl | (congr 1; omega)) (by first | assumption | omega | rfl | (congr 1; omega))) ⟨cbE 1 (wd_1510 hE) (wd_126 hE) (wd_1507 hE) rfl rfl (by decide +kernel) ⟨Nat.le_of_ble_eq_true rfl, Nat.le_of_ble_eq_true rfl⟩, (wd_1509 hE), (wd_57 hE)⟩ ⟨PR.blind, r_recv hK hP rfl, (r_pre (av := [.ref (b 0), .int (nI ((fN u 13) + i_367))]) hK hP hJ hE)⟩ rfl rfl hl.1 rfl (lv_room (Nat.le_of_ble_eq_true rfl)) dX12_key_97 ⟨Nat.le_of_ble_eq_true rfl, Nat.le_of_ble_eq_true rfl⟩)) (fun r377 hr377 => ?_)
                          subst hr377
                          have htf377 := bA_f tx sz1 ((fN u 13) + i_367)
                          refine lv_icmp_ne (tgt := 107) hx hb dX12_key_100 (by decide) (fun c378 => ?_) (fun c378 => ?_)
                          · have c378 := mt (b_eq (rfl : Int32.toInt r376 = _) (rfl : Int32.toInt (bA tx sz1 ((fN u 13) + i_367)) = _)).mpr c378
                            refine lv_iconst (v := 0) hx hb dX12_key_107 (by decide) ?_
                            refine lv_istore (lv' := [(4, .int 0), (0, .ref (b 0)), (1, .int 2), (2, .int 13), (3, .int 17), (5, .int (nI i_367))]) hx hb dX12_key_108 hl (by decide) rfl (fun ls hl => ?_)
                            refine lv_iinc (v := nI (i_367 + 1)) (lv' := [(5, .int (nI (i_367 + 1))), (4, .int 0), (0, .ref (b 0)), (1, .int 2), (2, .int 13), (3, .int 17)]) hx hb dX12_key_110 hl (k := 5) rfl (nI_1 i_367) (by decide) rfl (fun ls hl => ?_)
                            refine lv_goto (tgt := 67) hx hb dX12_key_113 (by decide) ?_
                            exact ih367 _ _ (by omega) ⟨(i_367 + 1), 0, rfl, (by first | assumption | omega | rfl | (congr 1; omega)), lv_sub hl [2, 3, 4, 5, 1, 0] rfl⟩
                          · have c378 := (b_eq (rfl : Int32.toInt r376 = _) (rfl : Int32.toInt (bA tx sz1 ((fN u 13) + i_367)) = _)).mp c378
                            refine lv_iconst (v := 1) hx hb dX12_key_103 (by decide) ?_
                            refine lv_goto (tgt := 108) hx hb dX12_key_104 (by decide) ?_
                            refine lv_istore (lv' := [(4, .int 1), (0, .ref (b 0)), (1, .int 2), (2, .int 13), (3, .int 17), (5, .int (nI i_367))]) hx hb dX12_key_108 hl (by decide) rfl (fun ls hl => ?_)
                            refine lv_iinc (v := nI (i_367 + 1)) (lv' := [(5, .int (nI (i_367 + 1))), (4, .int 1), (0, .ref (b 0)), (1, .int 2), (2, .int 13), (3, .int 17)]) hx hb dX12_key_110 hl (k := 5) rfl (nI_1 i_367) (by decide) rfl (fun ls hl => ?_)
                            refine lv_goto (tgt := 67) hx hb dX12_key_113 (by decide) ?_
                            exact ih367 _ _ (by omega) ⟨(i_367 + 1), 1, rfl, (by first | assumption | omega | rfl | (congr 1; omega)), lv_sub hl [2, 3, 4, 5, 1, 0] rfl⟩
                  · have c341 := mt (b_eq (rfl : Int32.toInt x1_300 = _) (show Int32.toInt 0 = 0 from rfl)).mpr c341
                    refine lv_iload_n hx hb dX12_key_121 rfl (lv_at hl 1 rfl) ?_
                    exact W.iret (v := 1) hx hb hr (fun t ht hW => ⟨1, rfl, trivial, ht⟩) (fun _ h => absurd h List.not_mem_nil) dX12_key_122
                · have c340 := mt (b_eq (rfl : Int32.toInt x1_300 = _) (show Int32.toInt 0 = 0 from rfl)).mpr c340
                  refine va_ldcS hx hb hown hZ dX12_key_80 ?_
                  refine lv_iload_n hx hb dX12_key_82 rfl (lv_at hl 2 rfl) ?_
                  refine lv_iload hx hb dX12_key_83 (lv_at hl 5 rfl) ?_
                  refine lv_iadd hx hb dX12_key_85 ?_
                  refine W.eq (g2 := F0 m 86 ls [.int (nI (8 + i_300)), .ref (adK 3)]) (congrArg (fun z : Int32 => F0 m 86 ls (.int z :: [.ref (adK 3)])) (nI_add 8 i_300)) ?_
                  refine vp_callSi (va_Run.run (va_runV (As := [.int (nI (8 + i_300))]) (rest := []) ⟨hx, hb, hml, hown, noTs⟩ (s_J0_charAt l adK adV 3 (8 + i_300) (by decide) (by show _ < 18; omega)) ⟨cbE 1 (wd_498 hE) (wd_129 hE) (wd_1528 hE) rfl rfl (by decide +kernel) ⟨Nat.le_of_ble_eq_true rfl, Nat.le_of_ble_eq_true rfl⟩, (wd_496 hE), (wd_497 hE)⟩ ⟨PS.blind, vk_recv hX.1 (by decide) hS, ps_pre (av := [.ref (adK 3), .int (nI (8 + i_300))]) hX hS hE⟩ rfl rfl hl.1 rfl (lv_room (Nat.le_of_ble_eq_true rfl)) dX12_key_86 ⟨Nat.le_of_ble_eq_true rfl, Nat.le_of_ble_eq_true rfl⟩)) (fun r379 hr379 => ?_)
                  refine lv_aload_n hx hb dX12_key_89 rfl (lv_at hl 0 rfl) ?_
                  refine lv_aload_n hx hb dX12_key_90 rfl (lv_at hl 0 rfl) ?_
                  refine r_get (v := .int (nI (fN u 13))) hx hb (ly_X12 hE) hown hK hP rfl 13 (by decide) (wd_1394 hE) (fun _ h9 => h9) (congrArg (fun z : Int32 => some (Value.int z)) hp0.1) dX12_key_91 ?_
                  refine lv_iload hx hb dX12_key_94 (lv_at hl 5 rfl) ?_
                  refine lv_iadd hx hb dX12_key_96 ?_
                  refine W.eq (g2 := F0 m 97 ls [.int (nI ((fN u 13) + i_300)), .ref (b 0), .int r379]) (congrArg (fun z : Int32 => F0 m 97 ls (.int z :: [.ref (b 0), .int r379])) (nI_add (fN u 13) i_300)) ?_
                  refine vp_callSi (va_Run.run (va_runV (As := [.int (nI ((fN u 13) + i_300))]) (rest := [.int r379]) ⟨hx, hb, hml, hown, noTs⟩ (r_X12_byteAt l dC dI s.heap.size cs b u tx hAc16 ((fN u 13) + i_300) sz1 hF11 (by first | assumption | omega | rfl | (congr 1; omega)) (by first | assumption | omega | rfl | (congr 1; omega))) ⟨cbE 1 (wd_1510 hE) (wd_126 hE) (wd_1507 hE) rfl rfl (by decide +kernel) ⟨Nat.le_of_ble_eq_true rfl, Nat.le_of_ble_eq_true rfl⟩, (wd_1509 hE), (wd_57 hE)⟩ ⟨PR.blind, r_recv hK hP rfl, (r_pre (av := [.ref (b 0), .int (nI ((fN u 13) + i_300))]) hK hP hJ hE)⟩ rfl rfl hl.1 rfl (lv_room (Nat.le_of_ble_eq_true rfl)) dX12_key_97 ⟨Nat.le_of_ble_eq_true rfl, Nat.le_of_ble_eq_true rfl⟩)) (fun r380 hr380 => ?_)
                  subst hr380
                  have htf380 := bA_f tx sz1 ((fN u 13) + i_300)
                  refine lv_icmp_ne (tgt := 107) hx hb dX12_key_100 (by decide) (fun c381 => ?_) (fun c381 => ?_)
                  · have c381 := mt (b_eq (rfl : Int32.toInt r379 = _) (rfl : Int32.toInt (bA tx sz1 ((fN u 13) + i_300)) = _)).mpr c381
                    refine lv_iconst (v := 0) hx hb dX12_key_107 (by decide) ?_
                    refine lv_istore (lv' := [(4, .int 0), (0, .ref (b 0)), (1, .int 1), (2, .int 8), (3, .int 12), (5, .int (nI i_300))]) hx hb dX12_key_108 hl (by decide) rfl (fun ls hl => ?_)
                    refine lv_iinc (v := nI (i_300 + 1)) (lv' := [(5, .int (nI (i_300 + 1))), (4, .int 0), (0, .ref (b 0)), (1, .int 1), (2, .int 8), (3, .int 12)]) hx hb dX12_key_110 hl (k := 5) rfl (nI_1 i_300) (by decide) rfl (fun ls hl => ?_)
                    refine lv_goto (tgt := 67) hx hb dX12_key_113 (by decide) ?_
                    exact ih300 _ _ (by omega) ⟨(i_300 + 1), 0, rfl, (by first | assumption | omega | rfl | (congr 1; omega)), lv_sub hl [2, 3, 4, 5, 1, 0] rfl⟩
                  · have c381 := (b_eq (rfl : Int32.toInt r379 = _) (rfl : Int32.toInt (bA tx sz1 ((fN u 13) + i_300)) = _)).mp c381
                    refine lv_iconst (v := 1) hx hb dX12_key_103 (by decide) ?_
                    refine lv_goto (tgt := 108) hx hb dX12_key_104 (by decide) ?_
                    refine lv_istore (lv' := [(4, .int 1), (0, .ref (b 0)), (1, .int 1), (2, .int 8), (3, .int 12), (5, .int (nI i_300))]) hx hb dX12_key_108 hl (by decide) rfl (fun ls hl => ?_)
                    refine lv_iinc (v := nI (i_300 + 1)) (lv' := [(5, .int (nI (i_300 + 1))), (4, .int 1), (0, .ref (b 0)), (1, .int 1), (2, .int 8), (3, .int 12)]) hx hb dX12_key_110 hl (k := 5) rfl (nI_1 i_300) (by decide) rfl (fun ls hl => ?_)
                    refine lv_goto (tgt := 67) hx hb dX12_key_113 (by decide) ?_
                    exact ih300 _ _ (by omega) ⟨(i_300 + 1), 1, rfl, (by first | assumption | omega | rfl | (congr 1; omega)), lv_sub hl [2, 3, 4, 5, 1, 0] rfl⟩
          · have c204 := mt (b_eq (rfl : Int32.toInt x1_23 = _) (show Int32.toInt 0 = 0 from rfl)).mpr c204
            refine lv_iload_n hx hb dX12_key_121 rfl (lv_at hl 1 rfl) ?_
            exact W.iret (v := 0) hx hb hr (fun t ht hW => ⟨0, rfl, trivial, ht⟩) (fun _ h => absurd h List.not_mem_nil) dX12_key_122
        · have c203 := mt (b_eq (rfl : Int32.toInt x1_23 = _) (show Int32.toInt 0 = 0 from rfl)).mpr c203
          refine va_ldcS hx hb hown hZ dX12_key_80 ?_
          refine lv_iload_n hx hb dX12_key_82 rfl (lv_at hl 2 rfl) ?_
          refine lv_iload hx hb dX12_key_83 (lv_at hl 5 rfl) ?_
          refine lv_iadd hx hb dX12_key_85 ?_
          refine W.eq (g2 := F0 m 86 ls [.int (nI (1 + i_23)), .ref (adK 3)]) (congrArg (fun z : Int32 => F0 m 86 ls (.int z :: [.ref (adK 3)])) (nI_add 1 i_23)) ?_
          refine vp_callSi (va_Run.run (va_runV (As := [.int (nI (1 + i_23))]) (rest := []) ⟨hx, hb, hml, hown, noTs⟩ (s_J0_charAt l adK adV 3 (1 + i_23) (by decide) (by show _ < 18; omega)) ⟨cbE 1 (wd_498 hE) (wd_129 hE) (wd_1528 hE) rfl rfl (by decide +kernel) ⟨Nat.le_of_ble_eq_true rfl, Nat.le_of_ble_eq_true rfl⟩, (wd_496 hE), (wd_497 hE)⟩ ⟨PS.blind, vk_recv hX.1 (by decide) hS, ps_pre (av := [.ref (adK 3), .int (nI (1 + i_23))]) hX hS hE⟩ rfl rfl hl.1 rfl (lv_room (Nat.le_of_ble_eq_true rfl)) dX12_key_86 ⟨Nat.le_of_ble_eq_true rfl, Nat.le_of_ble_eq_true rfl⟩)) (fun r382 hr382 => ?_)
          refine lv_aload_n hx hb dX12_key_89 rfl (lv_at hl 0 rfl) ?_
          refine lv_aload_n hx hb dX12_key_90 rfl (lv_at hl 0 rfl) ?_
          refine r_get (v := .int (nI (fN u 13))) hx hb (ly_X12 hE) hown hK hP rfl 13 (by decide) (wd_1394 hE) (fun _ h9 => h9) (congrArg (fun z : Int32 => some (Value.int z)) hp0.1) dX12_key_91 ?_
          refine lv_iload hx hb dX12_key_94 (lv_at hl 5 rfl) ?_
          refine lv_iadd hx hb dX12_key_96 ?_
          refine W.eq (g2 := F0 m 97 ls [.int (nI ((fN u 13) + i_23)), .ref (b 0), .int r382]) (congrArg (fun z : Int32 => F0 m 97 ls (.int z :: [.ref (b 0), .int r382])) (nI_add (fN u 13) i_23)) ?_
          refine vp_callSi (va_Run.run (va_runV (As := [.int (nI ((fN u 13) + i_23))]) (rest := [.int r382]) ⟨hx, hb, hml, hown, noTs⟩ (r_X12_byteAt l dC dI s.heap.size cs b u tx hAc16 ((fN u 13) + i_23) sz1 hF11 (by first | assumption | omega | rfl | (congr 1; omega)) (by first | assumption | omega | rfl | (congr 1; omega))) ⟨cbE 1 (wd_1510 hE) (wd_126 hE) (wd_1507 hE) rfl rfl (by decide +kernel) ⟨Nat.le_of_ble_eq_true rfl, Nat.le_of_ble_eq_true rfl⟩, (wd_1509 hE), (wd_57 hE)⟩ ⟨PR.blind, r_recv hK hP rfl, (r_pre (av := [.ref (b 0), .int (nI ((fN u 13) + i_23))]) hK hP hJ hE)⟩ rfl rfl hl.1 rfl (lv_room (Nat.le_of_ble_eq_true rfl)) dX12_key_97 ⟨Nat.le_of_ble_eq_true rfl, Nat.le_of_ble_eq_true rfl⟩)) (fun r383 hr383 => ?_)
          subst hr383
          have htf383 := bA_f tx sz1 ((fN u 13) + i_23)
          refine lv_icmp_ne (tgt := 107) hx hb dX12_key_100 (by decide) (fun c384 => ?_) (fun c384 => ?_)
          · have c384 := mt (b_eq (rfl : Int32.toInt r382 = _) (rfl : Int32.toInt (bA tx sz1 ((fN u 13) + i_23)) = _)).mpr c384
            refine lv_iconst (v := 0) hx hb dX12_key_107 (by decide) ?_
            refine lv_istore (lv' := [(4, .int 0), (0, .ref (b 0)), (1, .int 0), (2, .int 1), (3, .int 7), (5, .int (nI i_23))]) hx hb dX12_key_108 hl (by decide) rfl (fun ls hl => ?_)
            refine lv_iinc (v := nI (i_23 + 1)) (lv' := [(5, .int (nI (i_23 + 1))), (4, .int 0), (0, .ref (b 0)), (1, .int 0), (2, .int 1), (3, .int 7)]) hx hb dX12_key_110 hl (k := 5) rfl (nI_1 i_23) (by decide) rfl (fun ls hl => ?_)
            refine lv_goto (tgt := 67) hx hb dX12_key_113 (by decide) ?_
            exact ih23 _ _ (by omega) ⟨(i_23 + 1), 0, rfl, (by first | assumption | omega | rfl | (congr 1; omega)), lv_sub hl [2, 3, 4, 5, 1, 0] rfl⟩
          · have c384 := (b_eq (rfl : Int32.toInt r382 = _) (rfl : Int32.toInt (bA tx sz1 ((fN u 13) + i_23)) = _)).mp c384
            refine lv_iconst (v := 1) hx hb dX12_key_103 (by decide) ?_
            refine lv_goto (tgt := 108) hx hb dX12_key_104 (by decide) ?_
            refine lv_istore (lv' := [(4, .int 1), (0, .ref (b 0)), (1, .int 0), (2, .int 1), (3, .int 7), (5, .int (nI i_23))]) hx hb dX12_key_108 hl (by decide) rfl (fun ls hl => ?_)
            refine lv_iinc (v := nI (i_23 + 1)) (lv' := [(5, .int (nI (i_23 + 1))), (4, .int 1), (0, .ref (b 0)), (1, .int 0), (2, .int 1), (3, .int 7)]) hx hb dX12_key_110 hl (k := 5) rfl (nI_1 i_23) (by decide) rfl (fun ls hl => ?_)
            refine lv_goto (tgt := 67) hx hb dX12_key_113 (by decide) ?_
            exact ih23 _ _ (by omega) ⟨(i_23 + 1), 1, rfl, (by first | assumption | omega | rfl | (congr 1; omega)), lv_sub hl [2, 3, 4, 5, 1, 0] rfl⟩
    · have c22 := (b_eq (show Int32.toInt 6 = 6 from rfl) (nI_toInt (n := (fN u 14) - (fN u 13)) (by omega))).mp c22
      refine lv_iconst (v := 1) hx hb dX12_key_57 (by decide) ?_
      refine lv_goto (tgt := 62) hx hb dX12_key_58 (by decide) ?_
      refine lv_istore (lv' := [(4, .int 1), (3, .int 7), (2, .int 1), (1, .int 0), (0, .ref (b 0))]) hx hb dX12_key_62 hl (by decide) rfl (fun ls hl => ?_)
      refine lv_iconst (v := 0) hx hb dX12_key_64 (by decide) ?_
      refine lv_istore (lv' := [(5, .int 0), (4, .int 1), (3, .int 7), (2, .int 1), (1, .int 0), (0, .ref (b 0))]) hx hb dX12_key_65 hl (by decide) rfl (fun ls hl => ?_)
      refine r_indP (I := fun n ls => ∃ (i_385 : Nat) (x1_385 : Int32), n = 7 - 1 - i_385 ∧ (i_385 ≤ 7 - 1) ∧ lv_has ls 6 [(0, .ref (b 0)), (1, .int 0), (2, .int 1), (3, .int 7), (4, .int x1_385), (5, .int (nI i_385))]) (fun n ls hI ih385 => ?_) _ _ ⟨0, 1, rfl, (by first | assumption | omega | rfl | (congr 1; omega)), lv_sub hl [5, 4, 3, 2, 1, 0] rfl⟩
      obtain ⟨i_385, x1_385, hmu385, hL385_0, hl⟩ := hI
      subst hmu385
      refine lv_iload hx hb dX12_key_67 (lv_at hl 5 rfl) ?_
      refine lv_iload_n hx hb dX12_key_69 rfl (lv_at hl 3 rfl) ?_
      refine lv_iload_n hx hb dX12_key_70 rfl (lv_at hl 2 rfl) ?_
      refine lv_isub hx hb dX12_key_71 ?_
      refine W.eq (g2 := F0 m 72 ls [.int 6, .int (nI i_385)]) rfl ?_
      refine lv_icmp_ge (tgt := 116) hx hb dX12_key_72 (by decide) (fun c386 => ?_) (fun c386 => ?_)
      · have c386 := (b_le (show Int32.toInt 6 = 6 from rfl) (nI_toInt (n := i_385) (by omega))).mp c386
        refine lv_iload hx hb dX12_key_116 (lv_at hl 4 rfl) ?_
        refine lv_if_eq (tgt := 123) hx hb dX12_key_118 (by decide) (fun c387 => ?_) (fun c387 => ?_)
        · have c387 := (b_eq (rfl : Int32.toInt x1_385 = _) (show Int32.toInt 0 = 0 from rfl)).mp c387
          refine lv_iinc (v := 1) (lv' := [(1, .int 1), (0, .ref (b 0)), (2, .int 1), (3, .int 7), (4, .int x1_385), (5, .int (nI i_385))]) hx hb dX12_key_123 hl (k := 1) rfl (by decide) (by decide) rfl (fun ls hl => ?_)
          refine lv_iload_n hx hb dX12_key_126 rfl (lv_at hl 3 rfl) ?_
          refine lv_iconst (v := 1) hx hb dX12_key_127 (by decide) ?_
          refine lv_iadd hx hb dX12_key_128 ?_
          refine W.eq (g2 := F0 m 129 ls [.int 8]) rfl ?_
          refine lv_istore_n (lv' := [(2, .int 8), (1, .int 1), (0, .ref (b 0)), (3, .int 7), (4, .int x1_385), (5, .int (nI i_385))]) hx hb dX12_key_129 rfl hl (by decide) rfl (fun ls hl => ?_)
          refine lv_goto (tgt := 14) hx hb dX12_key_130 (by decide) ?_
          refine lv_iload_n hx hb dX12_key_14 rfl (lv_at hl 0 rfl) ?_
          refine va_ldcS hx hb hown hZ dX12_key_15 ?_
          refine vp_callSi (va_Run.run (va_runV (As := []) (rest := [.int 8]) ⟨hx, hb, hml, hown, noTs⟩ (s_J0_length l adK adV 3 (by decide)) ⟨cbE 0 (wd_488 hE) (wd_129 hE) (wd_1527 hE) rfl rfl (by decide +kernel) ⟨Nat.le_of_ble_eq_true rfl, Nat.le_of_ble_eq_true rfl⟩, (wd_486 hE), (wd_487 hE)⟩ ⟨PS.blind, vk_recv hX.1 (by decide) hS, ps_pre (av := [.ref (adK 3)]) hX hS hE⟩ rfl rfl hl.1 rfl (lv_room (Nat.le_of_ble_eq_true rfl)) dX12_key_17 ⟨Nat.le_of_ble_eq_true rfl, Nat.le_of_ble_eq_true rfl⟩)) (fun r388 hr388 => ?_)
          have hr388 : r388 = 18 := hr388
          subst hr388
          refine lv_icmp_ge (tgt := 133) hx hb dX12_key_20 (by decide) (fun c389 => absurd c389 (by decide)) (fun c389 => ?_)
          refine lv_iload_n hx hb dX12_key_23 rfl (lv_at hl 0 rfl) ?_
          refine lv_istore_n (lv' := [(3, .int 8), (2, .int 8), (1, .int 1), (0, .ref (b 0)), (4, .int x1_385), (5, .int (nI i_385))]) hx hb dX12_key_24 rfl hl (by decide) rfl (fun ls hl => ?_)
          refine va_ldcS hx hb hown hZ dX12_key_25 ?_
          refine lv_iload_n hx hb dX12_key_27 rfl (lv_at hl 0 rfl) ?_
          refine vp_callSi (va_Run.run (va_runV (As := [.int (nI 8)]) (rest := []) ⟨hx, hb, hml, hown, noTs⟩ (s_J0_charAt l adK adV 3 8 (by decide) (by show _ < 18; omega)) ⟨cbE 1 (wd_498 hE) (wd_129 hE) (wd_1528 hE) rfl rfl (by decide +kernel) ⟨Nat.le_of_ble_eq_true rfl, Nat.le_of_ble_eq_true rfl⟩, (wd_496 hE), (wd_497 hE)⟩ ⟨PS.blind, vk_recv hX.1 (by decide) hS, ps_pre (av := [.ref (adK 3), .int (nI 8)]) hX hS hE⟩ rfl rfl hl.1 rfl (lv_room (Nat.le_of_ble_eq_true rfl)) dX12_key_28 ⟨Nat.le_of_ble_eq_true rfl, Nat.le_of_ble_eq_true rfl⟩)) (fun r390 hr390 => ?_)
          have hr390 : r390 = 101 := hr390.trans (by decide)
          subst hr390
          refine lv_bipush (v := 32) hx hb dX12_key_31 (by decide) ?_
          refine lv_icmp_eq (tgt := 42) hx hb dX12_key_33 (by decide) (fun c391 => absurd c391 (by decide)) (fun c391 => ?_)
          refine lv_iinc (v := 9) (lv' := [(3, .int 9), (2, .int 8), (1, .int 1), (0, .ref (b 0)), (4, .int x1_385), (5, .int (nI i_385))]) hx hb dX12_key_36 hl (k := 0) rfl (by decide) (by decide) rfl (fun ls hl => ?_)
          refine lv_goto (tgt := 25) hx hb dX12_key_39 (by decide) ?_
          refine va_ldcS hx hb hown hZ dX12_key_25 ?_
          refine lv_iload_n hx hb dX12_key_27 rfl (lv_at hl 0 rfl) ?_
          refine vp_callSi (va_Run.run (va_runV (As := [.int (nI 9)]) (rest := []) ⟨hx, hb, hml, hown, noTs⟩ (s_J0_charAt l adK adV 3 9 (by decide) (by show _ < 18; omega)) ⟨cbE 1 (wd_498 hE) (wd_129 hE) (wd_1528 hE) rfl rfl (by decide +kernel) ⟨Nat.le_of_ble_eq_true rfl, Nat.le_of_ble_eq_true rfl⟩, (wd_496 hE), (wd_497 hE)⟩ ⟨PS.blind, vk_recv hX.1 (by decide) hS, ps_pre (av := [.ref (adK 3), .int (nI 9)]) hX hS hE⟩ rfl rfl hl.1 rfl (lv_room (Nat.le_of_ble_eq_true rfl)) dX12_key_28 ⟨Nat.le_of_ble_eq_true rfl, Nat.le_of_ble_eq_true rfl⟩)) (fun r392 hr392 => ?_)
          have hr392 : r392 = 100 := hr392.trans (by decide)
          subst hr392
          refine lv_bipush (v := 32) hx hb dX12_key_31 (by decide) ?_
          refine lv_icmp_eq (tgt := 42) hx hb dX12_key_33 (by decide) (fun c393 => absurd c393 (by decide)) (fun c393 => ?_)
          refine lv_iinc (v := 10) (lv' := [(3, .int 10), (2, .int 8), (1, .int 1), (0, .ref (b 0)), (4, .int x1_385), (5, .int (nI i_385))]) hx hb dX12_key_36 hl (k := 0) rfl (by decide) (by decide) rfl (fun ls hl => ?_)
          refine lv_goto (tgt := 25) hx hb dX12_key_39 (by decide) ?_
          refine va_ldcS hx hb hown hZ dX12_key_25 ?_
          refine lv_iload_n hx hb dX12_key_27 rfl (lv_at hl 0 rfl) ?_
          refine vp_callSi (va_Run.run (va_runV (As := [.int (nI 10)]) (rest := []) ⟨hx, hb, hml, hown, noTs⟩ (s_J0_charAt l adK adV 3 10 (by decide) (by show _ < 18; omega)) ⟨cbE 1 (wd_498 hE) (wd_129 hE) (wd_1528 hE) rfl rfl (by decide +kernel) ⟨Nat.le_of_ble_eq_true rfl, Nat.le_of_ble_eq_true rfl⟩, (wd_496 hE), (wd_497 hE)⟩ ⟨PS.blind, vk_recv hX.1 (by decide) hS, ps_pre (av := [.ref (adK 3), .int (nI 10)]) hX hS hE⟩ rfl rfl hl.1 rfl (lv_room (Nat.le_of_ble_eq_true rfl)) dX12_key_28 ⟨Nat.le_of_ble_eq_true rfl, Nat.le_of_ble_eq_true rfl⟩)) (fun r394 hr394 => ?_)
          have hr394 : r394 = 103 := hr394.trans (by decide)
          subst hr394
          refine lv_bipush (v := 32) hx hb dX12_key_31 (by decide) ?_
          refine lv_icmp_eq (tgt := 42) hx hb dX12_key_33 (by decide) (fun c395 => absurd c395 (by decide)) (fun c395 => ?_)
          refine lv_iinc (v := 11) (lv' := [(3, .int 11), (2, .int 8), (1, .int 1), (0, .ref (b 0)), (4, .int x1_385), (5, .int (nI i_385))]) hx hb dX12_key_36 hl (k := 0) rfl (by decide) (by decide) rfl (fun ls hl => ?_)
          refine lv_goto (tgt := 25) hx hb dX12_key_39 (by decide) ?_
          refine va_ldcS hx hb hown hZ dX12_key_25 ?_
          refine lv_iload_n hx hb dX12_key_27 rfl (lv_at hl 0 rfl) ?_
          refine vp_callSi (va_Run.run (va_runV (As := [.int (nI 11)]) (rest := []) ⟨hx, hb, hml, hown, noTs⟩ (s_J0_charAt l adK adV 3 11 (by decide) (by show _ < 18; omega)) ⟨cbE 1 (wd_498 hE) (wd_129 hE) (wd_1528 hE) rfl rfl (by decide +kernel) ⟨Nat.le_of_ble_eq_true rfl, Nat.le_of_ble_eq_true rfl⟩, (wd_496 hE), (wd_497 hE)⟩ ⟨PS.blind, vk_recv hX.1 (by decide) hS, ps_pre (av := [.ref (adK 3), .int (nI 11)]) hX hS hE⟩ rfl rfl hl.1 rfl (lv_room (Nat.le_of_ble_eq_true rfl)) dX12_key_28 ⟨Nat.le_of_ble_eq_true rfl, Nat.le_of_ble_eq_true rfl⟩)) (fun r396 hr396 => ?_)
          have hr396 : r396 = 101 := hr396.trans (by decide)
          subst hr396
          refine lv_bipush (v := 32) hx hb dX12_key_31 (by decide) ?_
          refine lv_icmp_eq (tgt := 42) hx hb dX12_key_33 (by decide) (fun c397 => absurd c397 (by decide)) (fun c397 => ?_)
          refine lv_iinc (v := 12) (lv' := [(3, .int 12), (2, .int 8), (1, .int 1), (0, .ref (b 0)), (4, .int x1_385), (5, .int (nI i_385))]) hx hb dX12_key_36 hl (k := 0) rfl (by decide) (by decide) rfl (fun ls hl => ?_)
          refine lv_goto (tgt := 25) hx hb dX12_key_39 (by decide) ?_
          refine va_ldcS hx hb hown hZ dX12_key_25 ?_
          refine lv_iload_n hx hb dX12_key_27 rfl (lv_at hl 0 rfl) ?_
          refine vp_callSi (va_Run.run (va_runV (As := [.int (nI 12)]) (rest := []) ⟨hx, hb, hml, hown, noTs⟩ (s_J0_charAt l adK adV 3 12 (by decide) (by show _ < 18; omega)) ⟨cbE 1 (wd_498 hE) (wd_129 hE) (wd_1528 hE) rfl rfl (by decide +kernel) ⟨Nat.le_of_ble_eq_true rfl, Nat.le_of_ble_eq_true rfl⟩, (wd_496 hE), (wd_497 hE)⟩ ⟨PS.blind, vk_recv hX.1 (by decide) hS, ps_pre (av := [.ref (adK 3), .int (nI 12)]) hX hS hE⟩ rfl rfl hl.1 rfl (lv_room (Nat.le_of_ble_eq_true rfl)) dX12_key_28 ⟨Nat.le_of_ble_eq_true rfl, Nat.le_of_ble_eq_true rfl⟩)) (fun r398 hr398 => ?_)
          have hr398 : r398 = 32 := hr398.trans (by decide)
          subst hr398
          refine lv_bipush (v := 32) hx hb dX12_key_31 (by decide) ?_
          refine lv_icmp_eq (tgt := 42) hx hb dX12_key_33 (by decide) (fun c399 => ?_) (fun c399 => absurd c399 (by decide))
          refine lv_iload_n hx hb dX12_key_42 rfl (lv_at hl 0 rfl) ?_
          refine lv_iload_n hx hb dX12_key_43 rfl (lv_at hl 1 rfl) ?_
          refine lv_isub hx hb dX12_key_44 ?_
          refine W.eq (g2 := F0 m 45 ls [.int 4]) rfl ?_
          refine lv_aload_n hx hb dX12_key_45 rfl (lv_at hl 3 rfl) ?_
          refine r_get (v := .int (nI (fN u 14))) hx hb (ly_X12 hE) hown hK hP rfl 14 (by decide) (wd_1395 hE) (fun _ h9 => h9) (congrArg (fun z : Int32 => some (Value.int z)) hp0.2.1) dX12_key_46 ?_
          refine lv_aload_n hx hb dX12_key_49 rfl (lv_at hl 3 rfl) ?_
          refine r_get (v := .int (nI (fN u 13))) hx hb (ly_X12 hE) hown hK hP rfl 13 (by decide) (wd_1394 hE) (fun _ h9 => h9) (congrArg (fun z : Int32 => some (Value.int z)) hp0.1) dX12_key_50 ?_
          refine lv_isub hx hb dX12_key_53 ?_
          refine W.eq (g2 := F0 m 54 ls [.int (nI ((fN u 14) - (fN u 13))), .int 4]) (congrArg (fun z : Int32 => F0 m 54 ls (.int z :: [.int 4])) (pk_sub (a := fN u 14) (b := fN u 13) (by omega))) ?_
          refine lv_icmp_ne (tgt := 61) hx hb dX12_key_54 (by decide) (fun c400 => ?_) (fun c400 => ?_)
          · have c400 := mt (b_eq (show Int32.toInt 4 = 4 from rfl) (nI_toInt (n := (fN u 14) - (fN u 13)) (by omega))).mpr c400
            refine lv_iconst (v := 0) hx hb dX12_key_61 (by decide) ?_
            refine lv_istore (lv' := [(4, .int 0), (3, .int 12), (2, .int 8), (1, .int 1), (0, .ref (b 0)), (5, .int (nI i_385))]) hx hb dX12_key_62 hl (by decide) rfl (fun ls hl => ?_)
            refine lv_iconst (v := 0) hx hb dX12_key_64 (by decide) ?_
            refine lv_istore (lv' := [(5, .int 0), (4, .int 0), (3, .int 12), (2, .int 8), (1, .int 1), (0, .ref (b 0))]) hx hb dX12_key_65 hl (by decide) rfl (fun ls hl => ?_)
            refine r_indP (I := fun n ls => ∃ (i_401 : Nat) (x1_401 : Int32), n = 12 - 8 - i_401 ∧ (i_401 ≤ 12 - 8) ∧ lv_has ls 6 [(0, .ref (b 0)), (1, .int 1), (2, .int 8), (3, .int 12), (4, .int x1_401), (5, .int (nI i_401))]) (fun n ls hI ih401 => ?_) _ _ ⟨0, 0, rfl, (by first | assumption | omega | rfl | (congr 1; omega)), lv_sub hl [5, 4, 3, 2, 1, 0] rfl⟩
            obtain ⟨i_401, x1_401, hmu401, hL401_0, hl⟩ := hI
            subst hmu401
            refine lv_iload hx hb dX12_key_67 (lv_at hl 5 rfl) ?_
            refine lv_iload_n hx hb dX12_key_69 rfl (lv_at hl 3 rfl) ?_
            refine lv_iload_n hx hb dX12_key_70 rfl (lv_at hl 2 rfl) ?_
            refine lv_isub hx hb dX12_key_71 ?_
            refine W.eq (g2 := F0 m 72 ls [.int 4, .int (nI i_401)]) rfl ?_
            refine lv_icmp_ge (tgt := 116) hx hb dX12_key_72 (by decide) (fun c402 => ?_) (fun c402 => ?_)
            · have c402 := (b_le (show Int32.toInt 4 = 4 from rfl) (nI_toInt (n := i_401) (by omega))).mp c402
              refine lv_iload hx hb dX12_key_116 (lv_at hl 4 rfl) ?_
              refine lv_if_eq (tgt := 123) hx hb dX12_key_118 (by decide) (fun c403 => ?_) (fun c403 => ?_)
              · have c403 := (b_eq (rfl : Int32.toInt x1_401 = _) (show Int32.toInt 0 = 0 from rfl)).mp c403
                refine lv_iinc (v := 2) (lv' := [(1, .int 2), (0, .ref (b 0)), (2, .int 8), (3, .int 12), (4, .int x1_401), (5, .int (nI i_401))]) hx hb dX12_key_123 hl (k := 1) rfl (by decide) (by decide) rfl (fun ls hl => ?_)
                refine lv_iload_n hx hb dX12_key_126 rfl (lv_at hl 3 rfl) ?_
                refine lv_iconst (v := 1) hx hb dX12_key_127 (by decide) ?_
                refine lv_iadd hx hb dX12_key_128 ?_
                refine W.eq (g2 := F0 m 129 ls [.int 13]) rfl ?_
                refine lv_istore_n (lv' := [(2, .int 13), (1, .int 2), (0, .ref (b 0)), (3, .int 12), (4, .int x1_401), (5, .int (nI i_401))]) hx hb dX12_key_129 rfl hl (by decide) rfl (fun ls hl => ?_)
                refine lv_goto (tgt := 14) hx hb dX12_key_130 (by decide) ?_
                refine lv_iload_n hx hb dX12_key_14 rfl (lv_at hl 0 rfl) ?_
                refine va_ldcS hx hb hown hZ dX12_key_15 ?_
                refine vp_callSi (va_Run.run (va_runV (As := []) (rest := [.int 13]) ⟨hx, hb, hml, hown, noTs⟩ (s_J0_length l adK adV 3 (by decide)) ⟨cbE 0 (wd_488 hE) (wd_129 hE) (wd_1527 hE) rfl rfl (by decide +kernel) ⟨Nat.le_of_ble_eq_true rfl, Nat.le_of_ble_eq_true rfl⟩, (wd_486 hE), (wd_487 hE)⟩ ⟨PS.blind, vk_recv hX.1 (by decide) hS, ps_pre (av := [.ref (adK 3)]) hX hS hE⟩ rfl rfl hl.1 rfl (lv_room (Nat.le_of_ble_eq_true rfl)) dX12_key_17 ⟨Nat.le_of_ble_eq_true rfl, Nat.le_of_ble_eq_true rfl⟩)) (fun r404 hr404 => ?_)
                have hr404 : r404 = 18 := hr404
                subst hr404
                refine lv_icmp_ge (tgt := 133) hx hb dX12_key_20 (by decide) (fun c405 => absurd c405 (by decide)) (fun c405 => ?_)
                refine lv_iload_n hx hb dX12_key_23 rfl (lv_at hl 0 rfl) ?_
                refine lv_istore_n (lv' := [(3, .int 13), (2, .int 13), (1, .int 2), (0, .ref (b 0)), (4, .int x1_401), (5, .int (nI i_401))]) hx hb dX12_key_24 rfl hl (by decide) rfl (fun ls hl => ?_)
                refine va_ldcS hx hb hown hZ dX12_key_25 ?_
                refine lv_iload_n hx hb dX12_key_27 rfl (lv_at hl 0 rfl) ?_
                refine vp_callSi (va_Run.run (va_runV (As := [.int (nI 13)]) (rest := []) ⟨hx, hb, hml, hown, noTs⟩ (s_J0_charAt l adK adV 3 13 (by decide) (by show _ < 18; omega)) ⟨cbE 1 (wd_498 hE) (wd_129 hE) (wd_1528 hE) rfl rfl (by decide +kernel) ⟨Nat.le_of_ble_eq_true rfl, Nat.le_of_ble_eq_true rfl⟩, (wd_496 hE), (wd_497 hE)⟩ ⟨PS.blind, vk_recv hX.1 (by decide) hS, ps_pre (av := [.ref (adK 3), .int (nI 13)]) hX hS hE⟩ rfl rfl hl.1 rfl (lv_room (Nat.le_of_ble_eq_true rfl)) dX12_key_28 ⟨Nat.le_of_ble_eq_true rfl, Nat.le_of_ble_eq_true rfl⟩)) (fun r406 hr406 => ?_)
                have hr406 : r406 = 119 := hr406.trans (by decide)
                subst hr406
                refine lv_bipush (v := 32) hx hb dX12_key_31 (by decide) ?_
                refine lv_icmp_eq (tgt := 42) hx hb dX12_key_33 (by decide) (fun c407 => absurd c407 (by decide)) (fun c407 => ?_)
                refine lv_iinc (v := 14) (lv' := [(3, .int 14), (2, .int 13), (1, .int 2), (0, .ref (b 0)), (4, .int x1_401), (5, .int (nI i_401))]) hx hb dX12_key_36 hl (k := 0) rfl (by decide) (by decide) rfl (fun ls hl => ?_)
                refine lv_goto (tgt := 25) hx hb dX12_key_39 (by decide) ?_
                refine va_ldcS hx hb hown hZ dX12_key_25 ?_
                refine lv_iload_n hx hb dX12_key_27 rfl (lv_at hl 0 rfl) ?_
                refine vp_callSi (va_Run.run (va_runV (As := [.int (nI 14)]) (rest := []) ⟨hx, hb, hml, hown, noTs⟩ (s_J0_charAt l adK adV 3 14 (by decide) (by show _ < 18; omega)) ⟨cbE 1 (wd_498 hE) (wd_129 hE) (wd_1528 hE) rfl rfl (by decide +kernel) ⟨Nat.le_of_ble_eq_true rfl, Nat.le_of_ble_eq_true rfl⟩, (wd_496 hE), (wd_497 hE)⟩ ⟨PS.blind, vk_recv hX.1 (by decide) hS, ps_pre (av := [.ref (adK 3), .int (nI 14)]) hX hS hE⟩ rfl rfl hl.1 rfl (lv_room (Nat.le_of_ble_eq_true rfl)) dX12_key_28 ⟨Nat.le_of_ble_eq_true rfl, Nat.le_of_ble_eq_true rfl⟩)) (fun r408 hr408 => ?_)
                have hr408 : r408 = 111 := hr408.trans (by decide)
                subst hr408
                refine lv_bipush (v := 32) hx hb dX12_key_31 (by decide) ?_
                refine lv_icmp_eq (tgt := 42) hx hb dX12_key_33 (by decide) (fun c409 => absurd c409 (by decide)) (fun c409 => ?_)
                refine lv_iinc (v := 15) (lv' := [(3, .int 15), (2, .int 13), (1, .int 2), (0, .ref (b 0)), (4, .int x1_401), (5, .int (nI i_401))]) hx hb dX12_key_36 hl (k := 0) rfl (by decide) (by decide) rfl (fun ls hl => ?_)
                refine lv_goto (tgt := 25) hx hb dX12_key_39 (by decide) ?_
                refine va_ldcS hx hb hown hZ dX12_key_25 ?_
                refine lv_iload_n hx hb dX12_key_27 rfl (lv_at hl 0 rfl) ?_
                refine vp_callSi (va_Run.run (va_runV (As := [.int (nI 15)]) (rest := []) ⟨hx, hb, hml, hown, noTs⟩ (s_J0_charAt l adK adV 3 15 (by decide) (by show _ < 18; omega)) ⟨cbE 1 (wd_498 hE) (wd_129 hE) (wd_1528 hE) rfl rfl (by decide +kernel) ⟨Nat.le_of_ble_eq_true rfl, Nat.le_of_ble_eq_true rfl⟩, (wd_496 hE), (wd_497 hE)⟩ ⟨PS.blind, vk_recv hX.1 (by decide) hS, ps_pre (av := [.ref (adK 3), .int (nI 15)]) hX hS hE⟩ rfl rfl hl.1 rfl (lv_room (Nat.le_of_ble_eq_true rfl)) dX12_key_28 ⟨Nat.le_of_ble_eq_true rfl, Nat.le_of_ble_eq_true rfl⟩)) (fun r410 hr410 => ?_)
                have hr410 : r410 = 114 := hr410.trans (by decide)
                subst hr410
                refine lv_bipush (v := 32) hx hb dX12_key_31 (by decide) ?_
                refine lv_icmp_eq (tgt := 42) hx hb dX12_key_33 (by decide) (fun c411 => absurd c411 (by decide)) (fun c411 => ?_)
                refine lv_iinc (v := 16) (lv' := [(3, .int 16), (2, .int 13), (1, .int 2), (0, .ref (b 0)), (4, .int x1_401), (5, .int (nI i_401))]) hx hb dX12_key_36 hl (k := 0) rfl (by decide) (by decide) rfl (fun ls hl => ?_)
                refine lv_goto (tgt := 25) hx hb dX12_key_39 (by decide) ?_
                refine va_ldcS hx hb hown hZ dX12_key_25 ?_
                refine lv_iload_n hx hb dX12_key_27 rfl (lv_at hl 0 rfl) ?_
                refine vp_callSi (va_Run.run (va_runV (As := [.int (nI 16)]) (rest := []) ⟨hx, hb, hml, hown, noTs⟩ (s_J0_charAt l adK adV 3 16 (by decide) (by show _ < 18; omega)) ⟨cbE 1 (wd_498 hE) (wd_129 hE) (wd_1528 hE) rfl rfl (by decide +kernel) ⟨Nat.le_of_ble_eq_true rfl, Nat.le_of_ble_eq_true rfl⟩, (wd_496 hE), (wd_497 hE)⟩ ⟨PS.blind, vk_recv hX.1 (by decide) hS, ps_pre (av := [.ref (adK 3), .int (nI 16)]) hX hS hE⟩ rfl rfl hl.1 rfl (lv_room (Nat.le_of_ble_eq_true rfl)) dX12_key_28 ⟨Nat.le_of_ble_eq_true rfl, Nat.le_of_ble_eq_true rfl⟩)) (fun r412 hr412 => ?_)
                have hr412 : r412 = 100 := hr412.trans (by decide)
                subst hr412
                refine lv_bipush (v := 32) hx hb dX12_key_31 (by decide) ?_
                refine lv_icmp_eq (tgt := 42) hx hb dX12_key_33 (by decide) (fun c413 => absurd c413 (by decide)) (fun c413 => ?_)
                refine lv_iinc (v := 17) (lv' := [(3, .int 17), (2, .int 13), (1, .int 2), (0, .ref (b 0)), (4, .int x1_401), (5, .int (nI i_401))]) hx hb dX12_key_36 hl (k := 0) rfl (by decide) (by decide) rfl (fun ls hl => ?_)
                refine lv_goto (tgt := 25) hx hb dX12_key_39 (by decide) ?_
                refine va_ldcS hx hb hown hZ dX12_key_25 ?_
                refine lv_iload_n hx hb dX12_key_27 rfl (lv_at hl 0 rfl) ?_
                refine vp_callSi (va_Run.run (va_runV (As := [.int (nI 17)]) (rest := []) ⟨hx, hb, hml, hown, noTs⟩ (s_J0_charAt l adK adV 3 17 (by decide) (by show _ < 18; omega)) ⟨cbE 1 (wd_498 hE) (wd_129 hE) (wd_1528 hE) rfl rfl (by decide +kernel) ⟨Nat.le_of_ble_eq_true rfl, Nat.le_of_ble_eq_true rfl⟩, (wd_496 hE), (wd_497 hE)⟩ ⟨PS.blind, vk_recv hX.1 (by decide) hS, ps_pre (av := [.ref (adK 3), .int (nI 17)]) hX hS hE⟩ rfl rfl hl.1 rfl (lv_room (Nat.le_of_ble_eq_true rfl)) dX12_key_28 ⟨Nat.le_of_ble_eq_true rfl, Nat.le_of_ble_eq_true rfl⟩)) (fun r414 hr414 => ?_)
                have hr414 : r414 = 32 := hr414.trans (by decide)
                subst hr414
                refine lv_bipush (v := 32) hx hb dX12_key_31 (by decide) ?_
                refine lv_icmp_eq (tgt := 42) hx hb dX12_key_33 (by decide) (fun c415 => ?_) (fun c415 => absurd c415 (by decide))
                refine lv_iload_n hx hb dX12_key_42 rfl (lv_at hl 0 rfl) ?_
                refine lv_iload_n hx hb dX12_key_43 rfl (lv_at hl 1 rfl) ?_
                refine lv_isub hx hb dX12_key_44 ?_
                refine W.eq (g2 := F0 m 45 ls [.int 4]) rfl ?_
                refine lv_aload_n hx hb dX12_key_45 rfl (lv_at hl 3 rfl) ?_
                refine r_get (v := .int (nI (fN u 14))) hx hb (ly_X12 hE) hown hK hP rfl 14 (by decide) (wd_1395 hE) (fun _ h9 => h9) (congrArg (fun z : Int32 => some (Value.int z)) hp0.2.1) dX12_key_46 ?_
                refine lv_aload_n hx hb dX12_key_49 rfl (lv_at hl 3 rfl) ?_
                refine r_get (v := .int (nI (fN u 13))) hx hb (ly_X12 hE) hown hK hP rfl 13 (by decide) (wd_1394 hE) (fun _ h9 => h9) (congrArg (fun z : Int32 => some (Value.int z)) hp0.1) dX12_key_50 ?_
                refine lv_isub hx hb dX12_key_53 ?_
                refine W.eq (g2 := F0 m 54 ls [.int (nI ((fN u 14) - (fN u 13))), .int 4]) (congrArg (fun z : Int32 => F0 m 54 ls (.int z :: [.int 4])) (pk_sub (a := fN u 14) (b := fN u 13) (by omega))) ?_
                refine lv_icmp_ne (tgt := 61) hx hb dX12_key_54 (by decide) (fun c416 => ?_) (fun c416 => ?_)
                · have c416 := mt (b_eq (show Int32.toInt 4 = 4 from rfl) (nI_toInt (n := (fN u 14) - (fN u 13)) (by omega))).mpr c416
                  refine lv_iconst (v := 0) hx hb dX12_key_61 (by decide) ?_
                  refine lv_istore (lv' := [(4, .int 0), (3, .int 17), (2, .int 13), (1, .int 2), (0, .ref (b 0)), (5, .int (nI i_401))]) hx hb dX12_key_62 hl (by decide) rfl (fun ls hl => ?_)
                  refine lv_iconst (v := 0) hx hb dX12_key_64 (by decide) ?_
                  refine lv_istore (lv' := [(5, .int 0), (4, .int 0), (3, .int 17), (2, .int 13), (1, .int 2), (0, .ref (b 0))]) hx hb dX12_key_65 hl (by decide) rfl (fun ls hl => ?_)
                  refine r_indP (I := fun n ls => ∃ (i_417 : Nat) (x1_417 : Int32), n = 17 - 13 - i_417 ∧ (i_417 ≤ 17 - 13) ∧ lv_has ls 6 [(0, .ref (b 0)), (1, .int 2), (2, .int 13), (3, .int 17), (4, .int x1_417), (5, .int (nI i_417))]) (fun n ls hI ih417 => ?_) _ _ ⟨0, 0, rfl, (by first | assumption | omega | rfl | (congr 1; omega)), lv_sub hl [5, 4, 3, 2, 1, 0] rfl⟩
                  obtain ⟨i_417, x1_417, hmu417, hL417_0, hl⟩ := hI
                  subst hmu417
                  refine lv_iload hx hb dX12_key_67 (lv_at hl 5 rfl) ?_
                  refine lv_iload_n hx hb dX12_key_69 rfl (lv_at hl 3 rfl) ?_
                  refine lv_iload_n hx hb dX12_key_70 rfl (lv_at hl 2 rfl) ?_
                  refine lv_isub hx hb dX12_key_71 ?_
                  refine W.eq (g2 := F0 m 72 ls [.int 4, .int (nI i_417)]) rfl ?_
                  refine lv_icmp_ge (tgt := 116) hx hb dX12_key_72 (by decide) (fun c418 => ?_) (fun c418 => ?_)
                  · have c418 := (b_le (show Int32.toInt 4 = 4 from rfl) (nI_toInt (n := i_417) (by omega))).mp c418
                    refine lv_iload hx hb dX12_key_116 (lv_at hl 4 rfl) ?_
                    refine lv_if_eq (tgt := 123) hx hb dX12_key_118 (by decide) (fun c419 => ?_) (fun c419 => ?_)
                    · have c419 := (b_eq (rfl : Int32.toInt x1_417 = _) (show Int32.toInt 0 = 0 from rfl)).mp c419
                      refine lv_iinc (v := 3) (lv' := [(1, .int 3), (0, .ref (b 0)), (2, .int 13), (3, .int 17), (4, .int x1_417), (5, .int (nI i_417))]) hx hb dX12_key_123 hl (k := 1) rfl (by decide) (by decide) rfl (fun ls hl => ?_)
                      refine lv_iload_n hx hb dX12_key_126 rfl (lv_at hl 3 rfl) ?_
                      refine lv_iconst (v := 1) hx hb dX12_key_127 (by decide) ?_
                      refine lv_iadd hx hb dX12_key_128 ?_
                      refine W.eq (g2 := F0 m 129 ls [.int 18]) rfl ?_
                      refine lv_istore_n (lv' := [(2, .int 18), (1, .int 3), (0, .ref (b 0)), (3, .int 17), (4, .int x1_417), (5, .int (nI i_417))]) hx hb dX12_key_129 rfl hl (by decide) rfl (fun ls hl => ?_)
                      refine lv_goto (tgt := 14) hx hb dX12_key_130 (by decide) ?_
                      refine lv_iload_n hx hb dX12_key_14 rfl (lv_at hl 0 rfl) ?_
                      refine va_ldcS hx hb hown hZ dX12_key_15 ?_
                      refine vp_callSi (va_Run.run (va_runV (As := []) (rest := [.int 18]) ⟨hx, hb, hml, hown, noTs⟩ (s_J0_length l adK adV 3 (by decide)) ⟨cbE 0 (wd_488 hE) (wd_129 hE) (wd_1527 hE) rfl rfl (by decide +kernel) ⟨Nat.le_of_ble_eq_true rfl, Nat.le_of_ble_eq_true rfl⟩, (wd_486 hE), (wd_487 hE)⟩ ⟨PS.blind, vk_recv hX.1 (by decide) hS, ps_pre (av := [.ref (adK 3)]) hX hS hE⟩ rfl rfl hl.1 rfl (lv_room (Nat.le_of_ble_eq_true rfl)) dX12_key_17 ⟨Nat.le_of_ble_eq_true rfl, Nat.le_of_ble_eq_true rfl⟩)) (fun r420 hr420 => ?_)
                      have hr420 : r420 = 18 := hr420
                      subst hr420
                      refine lv_icmp_ge (tgt := 133) hx hb dX12_key_20 (by decide) (fun c421 => ?_) (fun c421 => absurd c421 (by decide))
                      refine lv_iconst (v := -1) hx hb dX12_key_133 (by decide) ?_
                      exact W.iret (v := -1) hx hb hr (fun t ht hW => ⟨-1, rfl, trivial, ht⟩) (fun _ h => absurd h List.not_mem_nil) dX12_key_134
                    · have c419 := mt (b_eq (rfl : Int32.toInt x1_417 = _) (show Int32.toInt 0 = 0 from rfl)).mpr c419
                      refine lv_iload_n hx hb dX12_key_121 rfl (lv_at hl 1 rfl) ?_
                      exact W.iret (v := 2) hx hb hr (fun t ht hW => ⟨2, rfl, trivial, ht⟩) (fun _ h => absurd h List.not_mem_nil) dX12_key_122
                  · have c418 := mt (b_le (show Int32.toInt 4 = 4 from rfl) (nI_toInt (n := i_417) (by omega))).mpr c418
                    refine lv_iload hx hb dX12_key_75 (lv_at hl 4 rfl) ?_
                    refine lv_if_eq (tgt := 116) hx hb dX12_key_77 (by decide) (fun c422 => ?_) (fun c422 => ?_)
                    · have c422 := (b_eq (rfl : Int32.toInt x1_417 = _) (show Int32.toInt 0 = 0 from rfl)).mp c422
                      refine lv_iload hx hb dX12_key_116 (lv_at hl 4 rfl) ?_
                      refine lv_if_eq (tgt := 123) hx hb dX12_key_118 (by decide) (fun c423 => ?_) (fun c423 => ?_)
                      · have c423 := (b_eq (rfl : Int32.toInt x1_417 = _) (show Int32.toInt 0 = 0 from rfl)).mp c423
                        refine lv_iinc (v := 3) (lv' := [(1, .int 3), (0, .ref (b 0)), (2, .int 13), (3, .int 17), (4, .int x1_417), (5, .int (nI i_417))]) hx hb dX12_key_123 hl (k := 1) rfl (by decide) (by decide) rfl (fun ls hl => ?_)
                        refine lv_iload_n hx hb dX12_key_126 rfl (lv_at hl 3 rfl) ?_
                        refine lv_iconst (v := 1) hx hb dX12_key_127 (by decide) ?_
                        refine lv_iadd hx hb dX12_key_128 ?_
                        refine W.eq (g2 := F0 m 129 ls [.int 18]) rfl ?_
                        refine lv_istore_n (lv' := [(2, .int 18), (1, .int 3), (0, .ref (b 0)), (3, .int 17), (4, .int x1_417), (5, .int (nI i_417))]) hx hb dX12_key_129 rfl hl (by decide) rfl (fun ls hl => ?_)
                        refine lv_goto (tgt := 14) hx hb dX12_key_130 (by decide) ?_
                        refine lv_iload_n hx hb dX12_key_14 rfl (lv_at hl 0 rfl) ?_
                        refine va_ldcS hx hb hown hZ dX12_key_15 ?_
                        refine vp_callSi (va_Run.run (va_runV (As := []) (rest := [.int 18]) ⟨hx, hb, hml, hown, noTs⟩ (s_J0_length l adK adV 3 (by decide)) ⟨cbE 0 (wd_488 hE) (wd_129 hE) (wd_1527 hE) rfl rfl (by decide +kernel) ⟨Nat.le_of_ble_eq_true rfl, Nat.le_of_ble_eq_true rfl⟩, (wd_486 hE), (wd_487 hE)⟩ ⟨PS.blind, vk_recv hX.1 (by decide) hS, ps_pre (av := [.ref (adK 3)]) hX hS hE⟩ rfl rfl hl.1 rfl (lv_room (Nat.le_of_ble_eq_true rfl)) dX12_key_17 ⟨Nat.le_of_ble_eq_true rfl, Nat.le_of_ble_eq_true rfl⟩)) (fun r424 hr424 => ?_)
                        have hr424 : r424 = 18 := hr424
                        subst hr424
                        refine lv_icmp_ge (tgt := 133) hx hb dX12_key_20 (by decide) (fun c425 => ?_) (fun c425 => absurd c425 (by decide))
                        refine lv_iconst (v := -1) hx hb dX12_key_133 (by decide) ?_
                        exact W.iret (v := -1) hx hb hr (fun t ht hW => ⟨-1, rfl, trivial, ht⟩) (fun _ h => absurd h List.not_mem_nil) dX12_key_134
                      · have c423 := mt (b_eq (rfl : Int32.toInt x1_417 = _) (show Int32.toInt 0 = 0 from rfl)).mpr c423
                        refine lv_iload_n hx hb dX12_key_121 rfl (lv_at hl 1 rfl) ?_
                        exact W.iret (v := 2) hx hb hr (fun t ht hW => ⟨2, rfl, trivial, ht⟩) (fun _ h => absurd h List.not_mem_nil) dX12_key_122
                    · have c422 := mt (b_eq (rfl : Int32.toInt x1_417 = _) (show Int32.toInt 0 = 0 from rfl)).mpr c422
                      refine va_ldcS hx hb hown hZ dX12_key_80 ?_
                      refine lv_iload_n hx hb dX12_key_82 rfl (lv_at hl 2 rfl) ?_
                      refine lv_iload hx hb dX12_key_83 (lv_at hl 5 rfl) ?_
                      refine lv_iadd hx hb dX12_key_85 ?_
                      refine W.eq (g2 := F0 m 86 ls [.int (nI (13 + i_417)), .ref (adK 3)]) (congrArg (fun z : Int32 => F0 m 86 ls (.int z :: [.ref (adK 3)])) (nI_add 13 i_417)) ?_
                      refine vp_callSi (va_Run.run (va_runV (As := [.int (nI (13 + i_417))]) (rest := []) ⟨hx, hb, hml, hown, noTs⟩ (s_J0_charAt l adK adV 3 (13 + i_417) (by decide) (by show _ < 18; omega)) ⟨cbE 1 (wd_498 hE) (wd_129 hE) (wd_1528 hE) rfl rfl (by decide +kernel) ⟨Nat.le_of_ble_eq_true rfl, Nat.le_of_ble_eq_true rfl⟩, (wd_496 hE), (wd_497 hE)⟩ ⟨PS.blind, vk_recv hX.1 (by decide) hS, ps_pre (av := [.ref (adK 3), .int (nI (13 + i_417))]) hX hS hE⟩ rfl rfl hl.1 rfl (lv_room (Nat.le_of_ble_eq_true rfl)) dX12_key_86 ⟨Nat.le_of_ble_eq_true rfl, Nat.le_of_ble_eq_true rfl⟩)) (fun r426 hr426 => ?_)
                      refine lv_aload_n hx hb dX12_key_89 rfl (lv_at hl 0 rfl) ?_
                      refine lv_aload_n hx hb dX12_key_90 rfl (lv_at hl 0 rfl) ?_
                      refine r_get (v := .int (nI (fN u 13))) hx hb (ly_X12 hE) hown hK hP rfl 13 (by decide) (wd_1394 hE) (fun _ h9 => h9) (congrArg (fun z : Int32 => some (Value.int z)) hp0.1) dX12_key_91 ?_
                      refine lv_iload hx hb dX12_key_94 (lv_at hl 5 rfl) ?_
                      refine lv_iadd hx hb dX12_key_96 ?_
                      refine W.eq (g2 := F0 m 97 ls [.int (nI ((fN u 13) + i_417)), .ref (b 0), .int r426]) (congrArg (fun z : Int32 => F0 m 97 ls (.int z :: [.ref (b 0), .int r426])) (nI_add (fN u 13) i_417)) ?_
                      refine vp_callSi (va_Run.run (va_runV (As := [.int (nI ((fN u 13) + i_417))]) (rest := [.int r426]) ⟨hx, hb, hml, hown, noTs⟩ (r_X12_byteAt l dC dI s.heap.size cs b u tx hAc16 ((fN u 13) + i_417) sz1 hF11 (by first | assumption | omega | rfl | (congr 1; omega)) (by first | assumption | omega | rfl | (congr 1; omega))) ⟨cbE 1 (wd_1510 hE) (wd_126 hE) (wd_1507 hE) rfl rfl (by decide +kernel) ⟨Nat.le_of_ble_eq_true rfl, Nat.le_of_ble_eq_true rfl⟩, (wd_1509 hE), (wd_57 hE)⟩ ⟨PR.blind, r_recv hK hP rfl, (r_pre (av := [.ref (b 0), .int (nI ((fN u 13) + i_417))]) hK hP hJ hE)⟩ rfl rfl hl.1 rfl (lv_room (Nat.le_of_ble_eq_true rfl)) dX12_key_97 ⟨Nat.le_of_ble_eq_true rfl, Nat.le_of_ble_eq_true rfl⟩)) (fun r427 hr427 => ?_)
                      subst hr427
                      have htf427 := bA_f tx sz1 ((fN u 13) + i_417)
                      refine lv_icmp_ne (tgt := 107) hx hb dX12_key_100 (by decide) (fun c428 => ?_) (fun c428 => ?_)
                      · have c428 := mt (b_eq (rfl : Int32.toInt r426 = _) (rfl : Int32.toInt (bA tx sz1 ((fN u 13) + i_417)) = _)).mpr c428
                        refine lv_iconst (v := 0) hx hb dX12_key_107 (by decide) ?_
                        refine lv_istore (lv' := [(4, .int 0), (0, .ref (b 0)), (1, .int 2), (2, .int 13), (3, .int 17), (5, .int (nI i_417))]) hx hb dX12_key_108 hl (by decide) rfl (fun ls hl => ?_)
                        refine lv_iinc (v := nI (i_417 + 1)) (lv' := [(5, .int (nI (i_417 + 1))), (4, .int 0), (0, .ref (b 0)), (1, .int 2), (2, .int 13), (3, .int 17)]) hx hb dX12_key_110 hl (k := 5) rfl (nI_1 i_417) (by decide) rfl (fun ls hl => ?_)
                        refine lv_goto (tgt := 67) hx hb dX12_key_113 (by decide) ?_
                        exact ih417 _ _ (by omega) ⟨(i_417 + 1), 0, rfl, (by first | assumption | omega | rfl | (congr 1; omega)), lv_sub hl [2, 3, 4, 5, 1, 0] rfl⟩
                      · have c428 := (b_eq (rfl : Int32.toInt r426 = _) (rfl : Int32.toInt (bA tx sz1 ((fN u 13) + i_417)) = _)).mp c428
                        refine lv_iconst (v := 1) hx hb dX12_key_103 (by decide) ?_
                        refine lv_goto (tgt := 108) hx hb dX12_key_104 (by decide) ?_
                        refine lv_istore (lv' := [(4, .int 1), (0, .ref (b 0)), (1, .int 2), (2, .int 13), (3, .int 17), (5, .int (nI i_417))]) hx hb dX12_key_108 hl (by decide) rfl (fun ls hl => ?_)
                        refine lv_iinc (v := nI (i_417 + 1)) (lv' := [(5, .int (nI (i_417 + 1))), (4, .int 1), (0, .ref (b 0)), (1, .int 2), (2, .int 13), (3, .int 17)]) hx hb dX12_key_110 hl (k := 5) rfl (nI_1 i_417) (by decide) rfl (fun ls hl => ?_)
                        refine lv_goto (tgt := 67) hx hb dX12_key_113 (by decide) ?_
                        exact ih417 _ _ (by omega) ⟨(i_417 + 1), 1, rfl, (by first | assumption | omega | rfl | (congr 1; omega)), lv_sub hl [2, 3, 4, 5, 1, 0] rfl⟩
                · have c416 := (b_eq (show Int32.toInt 4 = 4 from rfl) (nI_toInt (n := (fN u 14) - (fN u 13)) (by omega))).mp c416
                  refine lv_iconst (v := 1) hx hb dX12_key_57 (by decide) ?_
                  refine lv_goto (tgt := 62) hx hb dX12_key_58 (by decide) ?_
                  refine lv_istore (lv' := [(4, .int 1), (3, .int 17), (2, .int 13), (1, .int 2), (0, .ref (b 0)), (5, .int (nI i_401))]) hx hb dX12_key_62 hl (by decide) rfl (fun ls hl => ?_)
                  refine lv_iconst (v := 0) hx hb dX12_key_64 (by decide) ?_
                  refine lv_istore (lv' := [(5, .int 0), (4, .int 1), (3, .int 17), (2, .int 13), (1, .int 2), (0, .ref (b 0))]) hx hb dX12_key_65 hl (by decide) rfl (fun ls hl => ?_)
                  refine r_indP (I := fun n ls => ∃ (i_429 : Nat) (x1_429 : Int32), n = 17 - 13 - i_429 ∧ (i_429 ≤ 17 - 13) ∧ lv_has ls 6 [(0, .ref (b 0)), (1, .int 2), (2, .int 13), (3, .int 17), (4, .int x1_429), (5, .int (nI i_429))]) (fun n ls hI ih429 => ?_) _ _ ⟨0, 1, rfl, (by first | assumption | omega | rfl | (congr 1; omega)), lv_sub hl [5, 4, 3, 2, 1, 0] rfl⟩
                  obtain ⟨i_429, x1_429, hmu429, hL429_0, hl⟩ := hI
                  subst hmu429
                  refine lv_iload hx hb dX12_key_67 (lv_at hl 5 rfl) ?_
                  refine lv_iload_n hx hb dX12_key_69 rfl (lv_at hl 3 rfl) ?_
                  refine lv_iload_n hx hb dX12_key_70 rfl (lv_at hl 2 rfl) ?_
                  refine lv_isub hx hb dX12_key_71 ?_
                  refine W.eq (g2 := F0 m 72 ls [.int 4, .int (nI i_429)]) rfl ?_
                  refine lv_icmp_ge (tgt := 116) hx hb dX12_key_72 (by decide) (fun c430 => ?_) (fun c430 => ?_)
                  · have c430 := (b_le (show Int32.toInt 4 = 4 from rfl) (nI_toInt (n := i_429) (by omega))).mp c430
                    refine lv_iload hx hb dX12_key_116 (lv_at hl 4 rfl) ?_
                    refine lv_if_eq (tgt := 123) hx hb dX12_key_118 (by decide) (fun c431 => ?_) (fun c431 => ?_)
                    · have c431 := (b_eq (rfl : Int32.toInt x1_429 = _) (show Int32.toInt 0 = 0 from rfl)).mp c431
                      refine lv_iinc (v := 3) (lv' := [(1, .int 3), (0, .ref (b 0)), (2, .int 13), (3, .int 17), (4, .int x1_429), (5, .int (nI i_429))]) hx hb dX12_key_123 hl (k := 1) rfl (by decide) (by decide) rfl (fun ls hl => ?_)
                      refine lv_iload_n hx hb dX12_key_126 rfl (lv_at hl 3 rfl) ?_
                      refine lv_iconst (v := 1) hx hb dX12_key_127 (by decide) ?_
                      refine lv_iadd hx hb dX12_key_128 ?_
                      refine W.eq (g2 := F0 m 129 ls [.int 18]) rfl ?_
                      refine lv_istore_n (lv' := [(2, .int 18), (1, .int 3), (0, .ref (b 0)), (3, .int 17), (4, .int x1_429), (5, .int (nI i_429))]) hx hb dX12_key_129 rfl hl (by decide) rfl (fun ls hl => ?_)
                      refine lv_goto (tgt := 14) hx hb dX12_key_130 (by decide) ?_
                      refine lv_iload_n hx hb dX12_key_14 rfl (lv_at hl 0 rfl) ?_
                      refine va_ldcS hx hb hown hZ dX12_key_15 ?_
                      refine vp_callSi (va_Run.run (va_runV (As := []) (rest := [.int 18]) ⟨hx, hb, hml, hown, noTs⟩ (s_J0_length l adK adV 3 (by decide)) ⟨cbE 0 (wd_488 hE) (wd_129 hE) (wd_1527 hE) rfl rfl (by decide +kernel) ⟨Nat.le_of_ble_eq_true rfl, Nat.le_of_ble_eq_true rfl⟩, (wd_486 hE), (wd_487 hE)⟩ ⟨PS.blind, vk_recv hX.1 (by decide) hS, ps_pre (av := [.ref (adK 3)]) hX hS hE⟩ rfl rfl hl.1 rfl (lv_room (Nat.le_of_ble_eq_true rfl)) dX12_key_17 ⟨Nat.le_of_ble_eq_true rfl, Nat.le_of_ble_eq_true rfl⟩)) (fun r432 hr432 => ?_)
                      have hr432 : r432 = 18 := hr432
                      subst hr432
                      refine lv_icmp_ge (tgt := 133) hx hb dX12_key_20 (by decide) (fun c433 => ?_) (fun c433 => absurd c433 (by decide))
                      refine lv_iconst (v := -1) hx hb dX12_key_133 (by decide) ?_
                      exact W.iret (v := -1) hx hb hr (fun t ht hW => ⟨-1, rfl, trivial, ht⟩) (fun _ h => absurd h List.not_mem_nil) dX12_key_134
                    · have c431 := mt (b_eq (rfl : Int32.toInt x1_429 = _) (show Int32.toInt 0 = 0 from rfl)).mpr c431
                      refine lv_iload_n hx hb dX12_key_121 rfl (lv_at hl 1 rfl) ?_
                      exact W.iret (v := 2) hx hb hr (fun t ht hW => ⟨2, rfl, trivial, ht⟩) (fun _ h => absurd h List.not_mem_nil) dX12_key_122
                  · have c430 := mt (b_le (show Int32.toInt 4 = 4 from rfl) (nI_toInt (n := i_429) (by omega))).mpr c430
                    refine lv_iload hx hb dX12_key_75 (lv_at hl 4 rfl) ?_
                    refine lv_if_eq (tgt := 116) hx hb dX12_key_77 (by decide) (fun c434 => ?_) (fun c434 => ?_)
                    · have c434 := (b_eq (rfl : Int32.toInt x1_429 = _) (show Int32.toInt 0 = 0 from rfl)).mp c434
                      refine lv_iload hx hb dX12_key_116 (lv_at hl 4 rfl) ?_
                      refine lv_if_eq (tgt := 123) hx hb dX12_key_118 (by decide) (fun c435 => ?_) (fun c435 => ?_)
                      · have c435 := (b_eq (rfl : Int32.toInt x1_429 = _) (show Int32.toInt 0 = 0 from rfl)).mp c435
                        refine lv_iinc (v := 3) (lv' := [(1, .int 3), (0, .ref (b 0)), (2, .int 13), (3, .int 17), (4, .int x1_429), (5, .int (nI i_429))]) hx hb dX12_key_123 hl (k := 1) rfl (by decide) (by decide) rfl (fun ls hl => ?_)
                        refine lv_iload_n hx hb dX12_key_126 rfl (lv_at hl 3 rfl) ?_
                        refine lv_iconst (v := 1) hx hb dX12_key_127 (by decide) ?_
                        refine lv_iadd hx hb dX12_key_128 ?_
                        refine W.eq (g2 := F0 m 129 ls [.int 18]) rfl ?_
                        refine lv_istore_n (lv' := [(2, .int 18), (1, .int 3), (0, .ref (b 0)), (3, .int 17), (4, .int x1_429), (5, .int (nI i_429))]) hx hb dX12_key_129 rfl hl (by decide) rfl (fun ls hl => ?_)
                        refine lv_goto (tgt := 14) hx hb dX12_key_130 (by decide) ?_
                        refine lv_iload_n hx hb dX12_key_14 rfl (lv_at hl 0 rfl) ?_
                        refine va_ldcS hx hb hown hZ dX12_key_15 ?_
                        refine vp_callSi (va_Run.run (va_runV (As := []) (rest := [.int 18]) ⟨hx, hb, hml, hown, noTs⟩ (s_J0_length l adK adV 3 (by decide)) ⟨cbE 0 (wd_488 hE) (wd_129 hE) (wd_1527 hE) rfl rfl (by decide +kernel) ⟨Nat.le_of_ble_eq_true rfl, Nat.le_of_ble_eq_true rfl⟩, (wd_486 hE), (wd_487 hE)⟩ ⟨PS.blind, vk_recv hX.1 (by decide) hS, ps_pre (av := [.ref (adK 3)]) hX hS hE⟩ rfl rfl hl.1 rfl (lv_room (Nat.le_of_ble_eq_true rfl)) dX12_key_17 ⟨Nat.le_of_ble_eq_true rfl, Nat.le_of_ble_eq_true rfl⟩)) (fun r436 hr436 => ?_)
                        have hr436 : r436 = 18 := hr436
                        subst hr436
                        refine lv_icmp_ge (tgt := 133) hx hb dX12_key_20 (by decide) (fun c437 => ?_) (fun c437 => absurd c437 (by decide))
                        refine lv_iconst (v := -1) hx hb dX12_key_133 (by decide) ?_
                        exact W.iret (v := -1) hx hb hr (fun t ht hW => ⟨-1, rfl, trivial, ht⟩) (fun _ h => absurd h List.not_mem_nil) dX12_key_134
                      · have c435 := mt (b_eq (rfl : Int32.toInt x1_429 = _) (show Int32.toInt 0 = 0 from rfl)).mpr c435
                        refine lv_iload_n hx hb dX12_key_121 rfl (lv_at hl 1 rfl) ?_
                        exact W.iret (v := 2) hx hb hr (fun t ht hW => ⟨2, rfl, trivial, ht⟩) (fun _ h => absurd h List.not_mem_nil) dX12_key_122
                    · have c434 := mt (b_eq (rfl : Int32.toInt x1_429 = _) (show Int32.toInt 0 = 0 from rfl)).mpr c434
                      refine va_ldcS hx hb hown hZ dX12_key_80 ?_
                      refine lv_iload_n hx hb dX12_key_82 rfl (lv_at hl 2 rfl) ?_
                      refine lv_iload hx hb dX12_key_83 (lv_at hl 5 rfl) ?_
                      refine lv_iadd hx hb dX12_key_85 ?_
                      refine W.eq (g2 := F0 m 86 ls [.int (nI (13 + i_429)), .ref (adK 3)]) (congrArg (fun z : Int32 => F0 m 86 ls (.int z :: [.ref (adK 3)])) (nI_add 13 i_429)) ?_
                      refine vp_callSi (va_Run.run (va_runV (As := [.int (nI (13 + i_429))]) (rest := []) ⟨hx, hb, hml, hown, noTs⟩ (s_J0_charAt l adK adV 3 (13 + i_429) (by decide) (by show _ < 18; omega)) ⟨cbE 1 (wd_498 hE) (wd_129 hE) (wd_1528 hE) rfl rfl (by decide +kernel) ⟨Nat.le_of_ble_eq_true rfl, Nat.le_of_ble_eq_true rfl⟩, (wd_496 hE), (wd_497 hE)⟩ ⟨PS.blind, vk_recv hX.1 (by decide) hS, ps_pre (av := [.ref (adK 3), .int (nI (13 + i_429))]) hX hS hE⟩ rfl rfl hl.1 rfl (lv_room (Nat.le_of_ble_eq_true rfl)) dX12_key_86 ⟨Nat.le_of_ble_eq_true rfl, Nat.le_of_ble_eq_true rfl⟩)) (fun r438 hr438 => ?_)
                      refine lv_aload_n hx hb dX12_key_89 rfl (lv_at hl 0 rfl) ?_
                      refine lv_aload_n hx hb dX12_key_90 rfl (lv_at hl 0 rfl) ?_
                      refine r_get (v := .int (nI (fN u 13))) hx hb (ly_X12 hE) hown hK hP rfl 13 (by decide) (wd_1394 hE) (fun _ h9 => h9) (congrArg (fun z : Int32 => some (Value.int z)) hp0.1) dX12_key_91 ?_
                      refine lv_iload hx hb dX12_key_94 (lv_at hl 5 rfl) ?_
                      refine lv_iadd hx hb dX12_key_96 ?_
                      refine W.eq (g2 := F0 m 97 ls [.int (nI ((fN u 13) + i_429)), .ref (b 0), .int r438]) (congrArg (fun z : Int32 => F0 m 97 ls (.int z :: [.ref (b 0), .int r438])) (nI_add (fN u 13) i_429)) ?_
                      refine vp_callSi (va_Run.run (va_runV (As := [.int (nI ((fN u 13) + i_429))]) (rest := [.int r438]) ⟨hx, hb, hml, hown, noTs⟩ (r_X12_byteAt l dC dI s.heap.size cs b u tx hAc16 ((fN u 13) + i_429) sz1 hF11 (by first | assumption | omega | rfl | (congr 1; omega)) (by first | assumption | omega | rfl | (congr 1; omega))) ⟨cbE 1 (wd_1510 hE) (wd_126 hE) (wd_1507 hE) rfl rfl (by decide +kernel) ⟨Nat.le_of_ble_eq_true rfl, Nat.le_of_ble_eq_true rfl⟩, (wd_1509 hE), (wd_57 hE)⟩ ⟨PR.blind, r_recv hK hP rfl, (r_pre (av := [.ref (b 0), .int (nI ((fN u 13) + i_429))]) hK hP hJ hE)⟩ rfl rfl hl.1 rfl (lv_room (Nat.le_of_ble_eq_true rfl)) dX12_key_97 ⟨Nat.le_of_ble_eq_true rfl, Nat.le_of_ble_eq_true rfl⟩)) (fun r439 hr439 => ?_)
                      subst hr439
                      have htf439 := bA_f tx sz1 ((fN u 13) + i_429)
                      refine lv_icmp_ne (tgt := 107) hx hb dX12_key_100 (by decide) (fun c440 => ?_) (fun c440 => ?_)
                      · have c440 := mt (b_eq (rfl : Int32.toInt r438 = _) (rfl : Int32.toInt (bA tx sz1 ((fN u 13) + i_429)) = _)).mpr c440
                        refine lv_iconst (v := 0) hx hb dX12_key_107 (by decide) ?_
                        refine lv_istore (lv' := [(4, .int 0), (0, .ref (b 0)), (1, .int 2), (2, .int 13), (3, .int 17), (5, .int (nI i_429))]) hx hb dX12_key_108 hl (by decide) rfl (fun ls hl => ?_)
                        refine lv_iinc (v := nI (i_429 + 1)) (lv' := [(5, .int (nI (i_429 + 1))), (4, .int 0), (0, .ref (b 0)), (1, .int 2), (2, .int 13), (3, .int 17)]) hx hb dX12_key_110 hl (k := 5) rfl (nI_1 i_429) (by decide) rfl (fun ls hl => ?_)
                        refine lv_goto (tgt := 67) hx hb dX12_key_113 (by decide) ?_
                        exact ih429 _ _ (by omega) ⟨(i_429 + 1), 0, rfl, (by first | assumption | omega | rfl | (congr 1; omega)), lv_sub hl [2, 3, 4, 5, 1, 0] rfl⟩
                      · have c440 := (b_eq (rfl : Int32.toInt r438 = _) (rfl : Int32.toInt (bA tx sz1 ((fN u 13) + i_429)) = _)).mp c440
                        refine lv_iconst (v := 1) hx hb dX12_key_103 (by decide) ?_
                        refine lv_goto (tgt := 108) hx hb dX12_key_104 (by decide) ?_
                        refine lv_istore (lv' := [(4, .int 1), (0, .ref (b 0)), (1, .int 2), (2, .int 13), (3, .int 17), (5, .int (nI i_429))]) hx hb dX12_key_108 hl (by decide) rfl (fun ls hl => ?_)
                        refine lv_iinc (v := nI (i_429 + 1)) (lv' := [(5, .int (nI (i_429 + 1))), (4, .int 1), (0, .ref (b 0)), (1, .int 2), (2, .int 13), (3, .int 17)]) hx hb dX12_key_110 hl (k := 5) rfl (nI_1 i_429) (by decide) rfl (fun ls hl => ?_)
                        refine lv_goto (tgt := 67) hx hb dX12_key_113 (by decide) ?_
                        exact ih429 _ _ (by omega) ⟨(i_429 + 1), 1, rfl, (by first | assumption | omega | rfl | (congr 1; omega)), lv_sub hl [2, 3, 4, 5, 1, 0] rfl⟩
              · have c403 := mt (b_eq (rfl : Int32.toInt x1_401 = _) (show Int32.toInt 0 = 0 from rfl)).mpr c403
                refine lv_iload_n hx hb dX12_key_121 rfl (lv_at hl 1 rfl) ?_
                exact W.iret (v := 1) hx hb hr (fun t ht hW => ⟨1, rfl, trivial, ht⟩) (fun _ h => absurd h List.not_mem_nil) dX12_key_122
            · have c402 := mt (b_le (show Int32.toInt 4 = 4 from rfl) (nI_toInt (n := i_401) (by omega))).mpr c402
              refine lv_iload hx hb dX12_key_75 (lv_at hl 4 rfl) ?_
              refine lv_if_eq (tgt := 116) hx hb dX12_key_77 (by decide) (fun c441 => ?_) (fun c441 => ?_)
              · have c441 := (b_eq (rfl : Int32.toInt x1_401 = _) (show Int32.toInt 0 = 0 from rfl)).mp c441
                refine lv_iload hx hb dX12_key_116 (lv_at hl 4 rfl) ?_
                refine lv_if_eq (tgt := 123) hx hb dX12_key_118 (by decide) (fun c442 => ?_) (fun c442 => ?_)
                · have c442 := (b_eq (rfl : Int32.toInt x1_401 = _) (show Int32.toInt 0 = 0 from rfl)).mp c442
                  refine lv_iinc (v := 2) (lv' := [(1, .int 2), (0, .ref (b 0)), (2, .int 8), (3, .int 12), (4, .int x1_401), (5, .int (nI i_401))]) hx hb dX12_key_123 hl (k := 1) rfl (by decide) (by decide) rfl (fun ls hl => ?_)
                  refine lv_iload_n hx hb dX12_key_126 rfl (lv_at hl 3 rfl) ?_
                  refine lv_iconst (v := 1) hx hb dX12_key_127 (by decide) ?_
                  refine lv_iadd hx hb dX12_key_128 ?_
                  refine W.eq (g2 := F0 m 129 ls [.int 13]) rfl ?_
                  refine lv_istore_n (lv' := [(2, .int 13), (1, .int 2), (0, .ref (b 0)), (3, .int 12), (4, .int x1_401), (5, .int (nI i_401))]) hx hb dX12_key_129 rfl hl (by decide) rfl (fun ls hl => ?_)
                  refine lv_goto (tgt := 14) hx hb dX12_key_130 (by decide) ?_
                  refine lv_iload_n hx hb dX12_key_14 rfl (lv_at hl 0 rfl) ?_
                  refine va_ldcS hx hb hown hZ dX12_key_15 ?_
                  refine vp_callSi (va_Run.run (va_runV (As := []) (rest := [.int 13]) ⟨hx, hb, hml, hown, noTs⟩ (s_J0_length l adK adV 3 (by decide)) ⟨cbE 0 (wd_488 hE) (wd_129 hE) (wd_1527 hE) rfl rfl (by decide +kernel) ⟨Nat.le_of_ble_eq_true rfl, Nat.le_of_ble_eq_true rfl⟩, (wd_486 hE), (wd_487 hE)⟩ ⟨PS.blind, vk_recv hX.1 (by decide) hS, ps_pre (av := [.ref (adK 3)]) hX hS hE⟩ rfl rfl hl.1 rfl (lv_room (Nat.le_of_ble_eq_true rfl)) dX12_key_17 ⟨Nat.le_of_ble_eq_true rfl, Nat.le_of_ble_eq_true rfl⟩)) (fun r443 hr443 => ?_)
                  have hr443 : r443 = 18 := hr443
                  subst hr443
                  refine lv_icmp_ge (tgt := 133) hx hb dX12_key_20 (by decide) (fun c444 => absurd c444 (by decide)) (fun c444 => ?_)
                  refine lv_iload_n hx hb dX12_key_23 rfl (lv_at hl 0 rfl) ?_
                  refine lv_istore_n (lv' := [(3, .int 13), (2, .int 13), (1, .int 2), (0, .ref (b 0)), (4, .int x1_401), (5, .int (nI i_401))]) hx hb dX12_key_24 rfl hl (by decide) rfl (fun ls hl => ?_)
                  refine va_ldcS hx hb hown hZ dX12_key_25 ?_
                  refine lv_iload_n hx hb dX12_key_27 rfl (lv_at hl 0 rfl) ?_
                  refine vp_callSi (va_Run.run (va_runV (As := [.int (nI 13)]) (rest := []) ⟨hx, hb, hml, hown, noTs⟩ (s_J0_charAt l adK adV 3 13 (by decide) (by show _ < 18; omega)) ⟨cbE 1 (wd_498 hE) (wd_129 hE) (wd_1528 hE) rfl rfl (by decide +kernel) ⟨Nat.le_of_ble_eq_true rfl, Nat.le_of_ble_eq_true rfl⟩, (wd_496 hE), (wd_497 hE)⟩ ⟨PS.blind, vk_recv hX.1 (by decide) hS, ps_pre (av := [.ref (adK 3), .int (nI 13)]) hX hS hE⟩ rfl rfl hl.1 rfl (lv_room (Nat.le_of_ble_eq_true rfl)) dX12_key_28 ⟨Nat.le_of_ble_eq_true rfl, Nat.le_of_ble_eq_true rfl⟩)) (fun r445 hr445 => ?_)
                  have hr445 : r445 = 119 := hr445.trans (by decide)
                  subst hr445
                  refine lv_bipush (v := 32) hx hb dX12_key_31 (by decide) ?_
                  refine lv_icmp_eq (tgt := 42) hx hb dX12_key_33 (by decide) (fun c446 => absurd c446 (by decide)) (fun c446 => ?_)
                  refine lv_iinc (v := 14) (lv' := [(3, .int 14), (2, .int 13), (1, .int 2), (0, .ref (b 0)), (4, .int x1_401), (5, .int (nI i_401))]) hx hb dX12_key_36 hl (k := 0) rfl (by decide) (by decide) rfl (fun ls hl => ?_)
                  refine lv_goto (tgt := 25) hx hb dX12_key_39 (by decide) ?_
                  refine va_ldcS hx hb hown hZ dX12_key_25 ?_
                  refine lv_iload_n hx hb dX12_key_27 rfl (lv_at hl 0 rfl) ?_
                  refine vp_callSi (va_Run.run (va_runV (As := [.int (nI 14)]) (rest := []) ⟨hx, hb, hml, hown, noTs⟩ (s_J0_charAt l adK adV 3 14 (by decide) (by show _ < 18; omega)) ⟨cbE 1 (wd_498 hE) (wd_129 hE) (wd_1528 hE) rfl rfl (by decide +kernel) ⟨Nat.le_of_ble_eq_true rfl, Nat.le_of_ble_eq_true rfl⟩, (wd_496 hE), (wd_497 hE)⟩ ⟨PS.blind, vk_recv hX.1 (by decide) hS, ps_pre (av := [.ref (adK 3), .int (nI 14)]) hX hS hE⟩ rfl rfl hl.1 rfl (lv_room (Nat.le_of_ble_eq_true rfl)) dX12_key_28 ⟨Nat.le_of_ble_eq_true rfl, Nat.le_of_ble_eq_true rfl⟩)) (fun r447 hr447 => ?_)
                  have hr447 : r447 = 111 := hr447.trans (by decide)
                  subst hr447
                  refine lv_bipush (v := 32) hx hb dX12_key_31 (by decide) ?_
                  refine lv_icmp_eq (tgt := 42) hx hb dX12_key_33 (by decide) (fun c448 => absurd c448 (by decide)) (fun c448 => ?_)
                  refine lv_iinc (v := 15) (lv' := [(3, .int 15), (2, .int 13), (1, .int 2), (0, .ref (b 0)), (4, .int x1_401), (5, .int (nI i_401))]) hx hb dX12_key_36 hl (k := 0) rfl (by decide) (by decide) rfl (fun ls hl => ?_)
                  refine lv_goto (tgt := 25) hx hb dX12_key_39 (by decide) ?_
                  refine va_ldcS hx hb hown hZ dX12_key_25 ?_
                  refine lv_iload_n hx hb dX12_key_27 rfl (lv_at hl 0 rfl) ?_
                  refine vp_callSi (va_Run.run (va_runV (As := [.int (nI 15)]) (rest := []) ⟨hx, hb, hml, hown, noTs⟩ (s_J0_charAt l adK adV 3 15 (by decide) (by show _ < 18; omega)) ⟨cbE 1 (wd_498 hE) (wd_129 hE) (wd_1528 hE) rfl rfl (by decide +kernel) ⟨Nat.le_of_ble_eq_true rfl, Nat.le_of_ble_eq_true rfl⟩, (wd_496 hE), (wd_497 hE)⟩ ⟨PS.blind, vk_recv hX.1 (by decide) hS, ps_pre (av := [.ref (adK 3), .int (nI 15)]) hX hS hE⟩ rfl rfl hl.1 rfl (lv_room (Nat.le_of_ble_eq_true rfl)) dX12_key_28 ⟨Nat.le_of_ble_eq_true rfl, Nat.le_of_ble_eq_true rfl⟩)) (fun r449 hr449 => ?_)
                  have hr449 : r449 = 114 := hr449.trans (by decide)
                  subst hr449
                  refine lv_bipush (v := 32) hx hb dX12_key_31 (by decide) ?_
                  refine lv_icmp_eq (tgt := 42) hx hb dX12_key_33 (by decide) (fun c450 => absurd c450 (by decide)) (fun c450 => ?_)
                  refine lv_iinc (v := 16) (lv' := [(3, .int 16), (2, .int 13), (1, .int 2), (0, .ref (b 0)), (4, .int x1_401), (5, .int (nI i_401))]) hx hb dX12_key_36 hl (k := 0) rfl (by decide) (by decide) rfl (fun ls hl => ?_)
                  refine lv_goto (tgt := 25) hx hb dX12_key_39 (by decide) ?_
                  refine va_ldcS hx hb hown hZ dX12_key_25 ?_
                  refine lv_iload_n hx hb dX12_key_27 rfl (lv_at hl 0 rfl) ?_
                  refine vp_callSi (va_Run.run (va_runV (As := [.int (nI 16)]) (rest := []) ⟨hx, hb, hml, hown, noTs⟩ (s_J0_charAt l adK adV 3 16 (by decide) (by show _ < 18; omega)) ⟨cbE 1 (wd_498 hE) (wd_129 hE) (wd_1528 hE) rfl rfl (by decide +kernel) ⟨Nat.le_of_ble_eq_true rfl, Nat.le_of_ble_eq_true rfl⟩, (wd_496 hE), (wd_497 hE)⟩ ⟨PS.blind, vk_recv hX.1 (by decide) hS, ps_pre (av := [.ref (adK 3), .int (nI 16)]) hX hS hE⟩ rfl rfl hl.1 rfl (lv_room (Nat.le_of_ble_eq_true rfl)) dX12_key_28 ⟨Nat.le_of_ble_eq_true rfl, Nat.le_of_ble_eq_true rfl⟩)) (fun r451 hr451 => ?_)
                  have hr451 : r451 = 100 := hr451.trans (by decide)
                  subst hr451
                  refine lv_bipush (v := 32) hx hb dX12_key_31 (by decide) ?_
                  refine lv_icmp_eq (tgt := 42) hx hb dX12_key_33 (by decide) (fun c452 => absurd c452 (by decide)) (fun c452 => ?_)
                  refine lv_iinc (v := 17) (lv' := [(3, .int 17), (2, .int 13), (1, .int 2), (0, .ref (b 0)), (4, .int x1_401), (5, .int (nI i_401))]) hx hb dX12_key_36 hl (k := 0) rfl (by decide) (by decide) rfl (fun ls hl => ?_)
                  refine lv_goto (tgt := 25) hx hb dX12_key_39 (by decide) ?_
                  refine va_ldcS hx hb hown hZ dX12_key_25 ?_
                  refine lv_iload_n hx hb dX12_key_27 rfl (lv_at hl 0 rfl) ?_
                  refine vp_callSi (va_Run.run (va_runV (As := [.int (nI 17)]) (rest := []) ⟨hx, hb, hml, hown, noTs⟩ (s_J0_charAt l adK adV 3 17 (by decide) (by show _ < 18; omega)) ⟨cbE 1 (wd_498 hE) (wd_129 hE) (wd_1528 hE) rfl rfl (by decide +kernel) ⟨Nat.le_of_ble_eq_true rfl, Nat.le_of_ble_eq_true rfl⟩, (wd_496 hE), (wd_497 hE)⟩ ⟨PS.blind, vk_recv hX.1 (by decide) hS, ps_pre (av := [.ref (adK 3), .int (nI 17)]) hX hS hE⟩ rfl rfl hl.1 rfl (lv_room (Nat.le_of_ble_eq_true rfl)) dX12_key_28 ⟨Nat.le_of_ble_eq_true rfl, Nat.le_of_ble_eq_true rfl⟩)) (fun r453 hr453 => ?_)
                  have hr453 : r453 = 32 := hr453.trans (by decide)
                  subst hr453
                  refine lv_bipush (v := 32) hx hb dX12_key_31 (by decide) ?_
                  refine lv_icmp_eq (tgt := 42) hx hb dX12_key_33 (by decide) (fun c454 => ?_) (fun c454 => absurd c454 (by decide))
                  refine lv_iload_n hx hb dX12_key_42 rfl (lv_at hl 0 rfl) ?_
                  refine lv_iload_n hx hb dX12_key_43 rfl (lv_at hl 1 rfl) ?_
                  refine lv_isub hx hb dX12_key_44 ?_
                  refine W.eq (g2 := F0 m 45 ls [.int 4]) rfl ?_
                  refine lv_aload_n hx hb dX12_key_45 rfl (lv_at hl 3 rfl) ?_
                  refine r_get (v := .int (nI (fN u 14))) hx hb (ly_X12 hE) hown hK hP rfl 14 (by decide) (wd_1395 hE) (fun _ h9 => h9) (congrArg (fun z : Int32 => some (Value.int z)) hp0.2.1) dX12_key_46 ?_
                  refine lv_aload_n hx hb dX12_key_49 rfl (lv_at hl 3 rfl) ?_
                  refine r_get (v := .int (nI (fN u 13))) hx hb (ly_X12 hE) hown hK hP rfl 13 (by decide) (wd_1394 hE) (fun _ h9 => h9) (congrArg (fun z : Int32 => some (Value.int z)) hp0.1) dX12_key_50 ?_
                  refine lv_isub hx hb dX12_key_53 ?_
                  refine W.eq (g2 := F0 m 54 ls [.int (nI ((fN u 14) - (fN u 13))), .int 4]) (congrArg (fun z : Int32 => F0 m 54 ls (.int z :: [.int 4])) (pk_sub (a := fN u 14) (b := fN u 13) (by omega))) ?_
                  refine lv_icmp_ne (tgt := 61) hx hb dX12_key_54 (by decide) (fun c455 => ?_) (fun c455 => ?_)
                  · have c455 := mt (b_eq (show Int32.toInt 4 = 4 from rfl) (nI_toInt (n := (fN u 14) - (fN u 13)) (by omega))).mpr c455
                    refine lv_iconst (v := 0) hx hb dX12_key_61 (by decide) ?_
                    refine lv_istore (lv' := [(4, .int 0), (3, .int 17), (2, .int 13), (1, .int 2), (0, .ref (b 0)), (5, .int (nI i_401))]) hx hb dX12_key_62 hl (by decide) rfl (fun ls hl => ?_)
                    refine lv_iconst (v := 0) hx hb dX12_key_64 (by decide) ?_
                    refine lv_istore (lv' := [(5, .int 0), (4, .int 0), (3, .int 17), (2, .int 13), (1, .int 2), (0, .ref (b 0))]) hx hb dX12_key_65 hl (by decide) rfl (fun ls hl => ?_)
                    refine r_indP (I := fun n ls => ∃ (i_456 : Nat) (x1_456 : Int32), n = 17 - 13 - i_456 ∧ (i_456 ≤ 17 - 13) ∧ lv_has ls 6 [(0, .ref (b 0)), (1, .int 2), (2, .int 13), (3, .int 17), (4, .int x1_456), (5, .int (nI i_456))]) (fun n ls hI ih456 => ?_) _ _ ⟨0, 0, rfl, (by first | assumption | omega | rfl | (congr 1; omega)), lv_sub hl [5, 4, 3, 2, 1, 0] rfl⟩
                    obtain ⟨i_456, x1_456, hmu456, hL456_0, hl⟩ := hI
                    subst hmu456
                    refine lv_iload hx hb dX12_key_67 (lv_at hl 5 rfl) ?_
                    refine lv_iload_n hx hb dX12_key_69 rfl (lv_at hl 3 rfl) ?_
                    refine lv_iload_n hx hb dX12_key_70 rfl (lv_at hl 2 rfl) ?_
                    refine lv_isub hx hb dX12_key_71 ?_
                    refine W.eq (g2 := F0 m 72 ls [.int 4, .int (nI i_456)]) rfl ?_
                    refine lv_icmp_ge (tgt := 116) hx hb dX12_key_72 (by decide) (fun c457 => ?_) (fun c457 => ?_)
                    · have c457 := (b_le (show Int32.toInt 4 = 4 from rfl) (nI_toInt (n := i_456) (by omega))).mp c457
                      refine lv_iload hx hb dX12_key_116 (lv_at hl 4 rfl) ?_
                      refine lv_if_eq (tgt := 123) hx hb dX12_key_118 (by decide) (fun c458 => ?_) (fun c458 => ?_)
                      · have c458 := (b_eq (rfl : Int32.toInt x1_456 = _) (show Int32.toInt 0 = 0 from rfl)).mp c458
                        refine lv_iinc (v := 3) (lv' := [(1, .int 3), (0, .ref (b 0)), (2, .int 13), (3, .int 17), (4, .int x1_456), (5, .int (nI i_456))]) hx hb dX12_key_123 hl (k := 1) rfl (by decide) (by decide) rfl (fun ls hl => ?_)
                        refine lv_iload_n hx hb dX12_key_126 rfl (lv_at hl 3 rfl) ?_
                        refine lv_iconst (v := 1) hx hb dX12_key_127 (by decide) ?_
                        refine lv_iadd hx hb dX12_key_128 ?_
                        refine W.eq (g2 := F0 m 129 ls [.int 18]) rfl ?_
                        refine lv_istore_n (lv' := [(2, .int 18), (1, .int 3), (0, .ref (b 0)), (3, .int 17), (4, .int x1_456), (5, .int (nI i_456))]) hx hb dX12_key_129 rfl hl (by decide) rfl (fun ls hl => ?_)
                        refine lv_goto (tgt := 14) hx hb dX12_key_130 (by decide) ?_
                        refine lv_iload_n hx hb dX12_key_14 rfl (lv_at hl 0 rfl) ?_
                        refine va_ldcS hx hb hown hZ dX12_key_15 ?_
                        refine vp_callSi (va_Run.run (va_runV (As := []) (rest := [.int 18]) ⟨hx, hb, hml, hown, noTs⟩ (s_J0_length l adK adV 3 (by decide)) ⟨cbE 0 (wd_488 hE) (wd_129 hE) (wd_1527 hE) rfl rfl (by decide +kernel) ⟨Nat.le_of_ble_eq_true rfl, Nat.le_of_ble_eq_true rfl⟩, (wd_486 hE), (wd_487 hE)⟩ ⟨PS.blind, vk_recv hX.1 (by decide) hS, ps_pre (av := [.ref (adK 3)]) hX hS hE⟩ rfl rfl hl.1 rfl (lv_room (Nat.le_of_ble_eq_true rfl)) dX12_key_17 ⟨Nat.le_of_ble_eq_true rfl, Nat.le_of_ble_eq_true rfl⟩)) (fun r459 hr459 => ?_)
                        have hr459 : r459 = 18 := hr459
                        subst hr459
                        refine lv_icmp_ge (tgt := 133) hx hb dX12_key_20 (by decide) (fun c460 => ?_) (fun c460 => absurd c460 (by decide))
                        refine lv_iconst (v := -1) hx hb dX12_key_133 (by decide) ?_
                        exact W.iret (v := -1) hx hb hr (fun t ht hW => ⟨-1, rfl, trivial, ht⟩) (fun _ h => absurd h List.not_mem_nil) dX12_key_134
                      · have c458 := mt (b_eq (rfl : Int32.toInt x1_456 = _) (show Int32.toInt 0 = 0 from rfl)).mpr c458
                        refine lv_iload_n hx hb dX12_key_121 rfl (lv_at hl 1 rfl) ?_
                        exact W.iret (v := 2) hx hb hr (fun t ht hW => ⟨2, rfl, trivial, ht⟩) (fun _ h => absurd h List.not_mem_nil) dX12_key_122
                    · have c457 := mt (b_le (show Int32.toInt 4 = 4 from rfl) (nI_toInt (n := i_456) (by omega))).mpr c457
                      refine lv_iload hx hb dX12_key_75 (lv_at hl 4 rfl) ?_
                      refine lv_if_eq (tgt := 116) hx hb dX12_key_77 (by decide) (fun c461 => ?_) (fun c461 => ?_)
                      · have c461 := (b_eq (rfl : Int32.toInt x1_456 = _) (show Int32.toInt 0 = 0 from rfl)).mp c461
                        refine lv_iload hx hb dX12_key_116 (lv_at hl 4 rfl) ?_
                        refine lv_if_eq (tgt := 123) hx hb dX12_key_118 (by decide) (fun c462 => ?_) (fun c462 => ?_)
                        · have c462 := (b_eq (rfl : Int32.toInt x1_456 = _) (show Int32.toInt 0 = 0 from rfl)).mp c462
                          refine lv_iinc (v := 3) (lv' := [(1, .int 3), (0, .ref (b 0)), (2, .int 13), (3, .int 17), (4, .int x1_456), (5, .int (nI i_456))]) hx hb dX12_key_123 hl (k := 1) rfl (by decide) (by decide) rfl (fun ls hl => ?_)
                          refine lv_iload_n hx hb dX12_key_126 rfl (lv_at hl 3 rfl) ?_
                          refine lv_iconst (v := 1) hx hb dX12_key_127 (by decide) ?_
                          refine lv_iadd hx hb dX12_key_128 ?_
                          refine W.eq (g2 := F0 m 129 ls [.int 18]) rfl ?_
                          refine lv_istore_n (lv' := [(2, .int 18), (1, .int 3), (0, .ref (b 0)), (3, .int 17), (4, .int x1_456), (5, .int (nI i_456))]) hx hb dX12_key_129 rfl hl (by decide) rfl (fun ls hl => ?_)
                          refine lv_goto (tgt := 14) hx hb dX12_key_130 (by decide) ?_
                          refine lv_iload_n hx hb dX12_key_14 rfl (lv_at hl 0 rfl) ?_
                          refine va_ldcS hx hb hown hZ dX12_key_15 ?_
                          refine vp_callSi (va_Run.run (va_runV (As := []) (rest := [.int 18]) ⟨hx, hb, hml, hown, noTs⟩ (s_J0_length l adK adV 3 (by decide)) ⟨cbE 0 (wd_488 hE) (wd_129 hE) (wd_1527 hE) rfl rfl (by decide +kernel) ⟨Nat.le_of_ble_eq_true rfl, Nat.le_of_ble_eq_true rfl⟩, (wd_486 hE), (wd_487 hE)⟩ ⟨PS.blind, vk_recv hX.1 (by decide) hS, ps_pre (av := [.ref (adK 3)]) hX hS hE⟩ rfl rfl hl.1 rfl (lv_room (Nat.le_of_ble_eq_true rfl)) dX12_key_17 ⟨Nat.le_of_ble_eq_true rfl, Nat.le_of_ble_eq_true rfl⟩)) (fun r463 hr463 => ?_)
                          have hr463 : r463 = 18 := hr463
                          subst hr463
                          refine lv_icmp_ge (tgt := 133) hx hb dX12_key_20 (by decide) (fun c464 => ?_) (fun c464 => absurd c464 (by decide))
                          refine lv_iconst (v := -1) hx hb dX12_key_133 (by decide) ?_
                          exact W.iret (v := -1) hx hb hr (fun t ht hW => ⟨-1, rfl, trivial, ht⟩) (fun _ h => absurd h List.not_mem_nil) dX12_key_134
                        · have c462 := mt (b_eq (rfl : Int32.toInt x1_456 = _) (show Int32.toInt 0 = 0 from rfl)).mpr c462
                          refine lv_iload_n hx hb dX12_key_121 rfl (lv_at hl 1 rfl) ?_
                          exact W.iret (v := 2) hx hb hr (fun t ht hW => ⟨2, rfl, trivial, ht⟩) (fun _ h => absurd h List.not_mem_nil) dX12_key_122
                      · have c461 := mt (b_eq (rfl : Int32.toInt x1_456 = _) (show Int32.toInt 0 = 0 from rfl)).mpr c461
                        refine va_ldcS hx hb hown hZ dX12_key_80 ?_
                        refine lv_iload_n hx hb dX12_key_82 rfl (lv_at hl 2 rfl) ?_
                        refine lv_iload hx hb dX12_key_83 (lv_at hl 5 rfl) ?_
                        refine lv_iadd hx hb dX12_key_85 ?_
                        refine W.eq (g2 := F0 m 86 ls [.int (nI (13 + i_456)), .ref (adK 3)]) (congrArg (fun z : Int32 => F0 m 86 ls (.int z :: [.ref (adK 3)])) (nI_add 13 i_456)) ?_
                        refine vp_callSi (va_Run.run (va_runV (As := [.int (nI (13 + i_456))]) (rest := []) ⟨hx, hb, hml, hown, noTs⟩ (s_J0_charAt l adK adV 3 (13 + i_456) (by decide) (by show _ < 18; omega)) ⟨cbE 1 (wd_498 hE) (wd_129 hE) (wd_1528 hE) rfl rfl (by decide +kernel) ⟨Nat.le_of_ble_eq_true rfl, Nat.le_of_ble_eq_true rfl⟩, (wd_496 hE), (wd_497 hE)⟩ ⟨PS.blind, vk_recv hX.1 (by decide) hS, ps_pre (av := [.ref (adK 3), .int (nI (13 + i_456))]) hX hS hE⟩ rfl rfl hl.1 rfl (lv_room (Nat.le_of_ble_eq_true rfl)) dX12_key_86 ⟨Nat.le_of_ble_eq_true rfl, Nat.le_of_ble_eq_true rfl⟩)) (fun r465 hr465 => ?_)
                        refine lv_aload_n hx hb dX12_key_89 rfl (lv_at hl 0 rfl) ?_
                        refine lv_aload_n hx hb dX12_key_90 rfl (lv_at hl 0 rfl) ?_
                        refine r_get (v := .int (nI (fN u 13))) hx hb (ly_X12 hE) hown hK hP rfl 13 (by decide) (wd_1394 hE) (fun _ h9 => h9) (congrArg (fun z : Int32 => some (Value.int z)) hp0.1) dX12_key_91 ?_
                        refine lv_iload hx hb dX12_key_94 (lv_at hl 5 rfl) ?_
                        refine lv_iadd hx hb dX12_key_96 ?_
                        refine W.eq (g2 := F0 m 97 ls [.int (nI ((fN u 13) + i_456)), .ref (b 0), .int r465]) (congrArg (fun z : Int32 => F0 m 97 ls (.int z :: [.ref (b 0), .int r465])) (nI_add (fN u 13) i_456)) ?_
                        refine vp_callSi (va_Run.run (va_runV (As := [.int (nI ((fN u 13) + i_456))]) (rest := [.int r465]) ⟨hx, hb, hml, hown, noTs⟩ (r_X12_byteAt l dC dI s.heap.size cs b u tx hAc16 ((fN u 13) + i_456) sz1 hF11 (by first | assumption | omega | rfl | (congr 1; omega)) (by first | assumption | omega | rfl | (congr 1; omega))) ⟨cbE 1 (wd_1510 hE) (wd_126 hE) (wd_1507 hE) rfl rfl (by decide +kernel) ⟨Nat.le_of_ble_eq_true rfl, Nat.le_of_ble_eq_true rfl⟩, (wd_1509 hE), (wd_57 hE)⟩ ⟨PR.blind, r_recv hK hP rfl, (r_pre (av := [.ref (b 0), .int (nI ((fN u 13) + i_456))]) hK hP hJ hE)⟩ rfl rfl hl.1 rfl (lv_room (Nat.le_of_ble_eq_true rfl)) dX12_key_97 ⟨Nat.le_of_ble_eq_true rfl, Nat.le_of_ble_eq_true rfl⟩)) (fun r466 hr466 => ?_)
                        subst hr466
                        have htf466 := bA_f tx sz1 ((fN u 13) + i_456)
                        refine lv_icmp_ne (tgt := 107) hx hb dX12_key_100 (by decide) (fun c467 => ?_) (fun c467 => ?_)
                        · have c467 := mt (b_eq (rfl : Int32.toInt r465 = _) (rfl : Int32.toInt (bA tx sz1 ((fN u 13) + i_456)) = _)).mpr c467
                          refine lv_iconst (v := 0) hx hb dX12_key_107 (by decide) ?_
                          refine lv_istore (lv' := [(4, .int 0), (0, .ref (b 0)), (1, .int 2), (2, .int 13), (3, .int 17), (5, .int (nI i_456))]) hx hb dX12_key_108 hl (by decide) rfl (fun ls hl => ?_)
                          refine lv_iinc (v := nI (i_456 + 1)) (lv' := [(5, .int (nI (i_456 + 1))), (4, .int 0), (0, .ref (b 0)), (1, .int 2), (2, .int 13), (3, .int 17)]) hx hb dX12_key_110 hl (k := 5) rfl (nI_1 i_456) (by decide) rfl (fun ls hl => ?_)
                          refine lv_goto (tgt := 67) hx hb dX12_key_113 (by decide) ?_
                          exact ih456 _ _ (by omega) ⟨(i_456 + 1), 0, rfl, (by first | assumption | omega | rfl | (congr 1; omega)), lv_sub hl [2, 3, 4, 5, 1, 0] rfl⟩
                        · have c467 := (b_eq (rfl : Int32.toInt r465 = _) (rfl : Int32.toInt (bA tx sz1 ((fN u 13) + i_456)) = _)).mp c467
                          refine lv_iconst (v := 1) hx hb dX12_key_103 (by decide) ?_
                          refine lv_goto (tgt := 108) hx hb dX12_key_104 (by decide) ?_
                          refine lv_istore (lv' := [(4, .int 1), (0, .ref (b 0)), (1, .int 2), (2, .int 13), (3, .int 17), (5, .int (nI i_456))]) hx hb dX12_key_108 hl (by decide) rfl (fun ls hl => ?_)
                          refine lv_iinc (v := nI (i_456 + 1)) (lv' := [(5, .int (nI (i_456 + 1))), (4, .int 1), (0, .ref (b 0)), (1, .int 2), (2, .int 13), (3, .int 17)]) hx hb dX12_key_110 hl (k := 5) rfl (nI_1 i_456) (by decide) rfl (fun ls hl => ?_)
                          refine lv_goto (tgt := 67) hx hb dX12_key_113 (by decide) ?_
                          exact ih456 _ _ (by omega) ⟨(i_456 + 1), 1, rfl, (by first | assumption | omega | rfl | (congr 1; omega)), lv_sub hl [2, 3, 4, 5, 1, 0] rfl⟩
                  · have c455 := (b_eq (show Int32.toInt 4 = 4 from rfl) (nI_toInt (n := (fN u 14) - (fN u 13)) (by omega))).mp c455
                    refine lv_iconst (v := 1) hx hb dX12_key_57 (by decide) ?_
                    refine lv_goto (tgt := 62) hx hb dX12_key_58 (by decide) ?_
                    refine lv_istore (lv' := [(4, .int 1), (3, .int 17), (2, .int 13), (1, .int 2), (0, .ref (b 0)), (5, .int (nI i_401))]) hx hb dX12_key_62 hl (by decide) rfl (fun ls hl => ?_)
                    refine lv_iconst (v := 0) hx hb dX12_key_64 (by decide) ?_
                    refine lv_istore (lv' := [(5, .int 0), (4, .int 1), (3, .int 17), (2, .int 13), (1, .int 2), (0, .ref (b 0))]) hx hb dX12_key_65 hl (by decide) rfl (fun ls hl => ?_)
                    refine r_indP (I := fun n ls => ∃ (i_468 : Nat) (x1_468 : Int32), n = 17 - 13 - i_468 ∧ (i_468 ≤ 17 - 13) ∧ lv_has ls 6 [(0, .ref (b 0)), (1, .int 2), (2, .int 13), (3, .int 17), (4, .int x1_468), (5, .int (nI i_468))]) (fun n ls hI ih468 => ?_) _ _ ⟨0, 1, rfl, (by first | assumption | omega | rfl | (congr 1; omega)), lv_sub hl [5, 4, 3, 2, 1, 0] rfl⟩
                    obtain ⟨i_468, x1_468, hmu468, hL468_0, hl⟩ := hI
                    subst hmu468
                    refine lv_iload hx hb dX12_key_67 (lv_at hl 5 rfl) ?_
                    refine lv_iload_n hx hb dX12_key_69 rfl (lv_at hl 3 rfl) ?_
                    refine lv_iload_n hx hb dX12_key_70 rfl (lv_at hl 2 rfl) ?_
                    refine lv_isub hx hb dX12_key_71 ?_
                    refine W.eq (g2 := F0 m 72 ls [.int 4, .int (nI i_468)]) rfl ?_
                    refine lv_icmp_ge (tgt := 116) hx hb dX12_key_72 (by decide) (fun c469 => ?_) (fun c469 => ?_)
                    · have c469 := (b_le (show Int32.toInt 4 = 4 from rfl) (nI_toInt (n := i_468) (by omega))).mp c469
                      refine lv_iload hx hb dX12_key_116 (lv_at hl 4 rfl) ?_
                      refine lv_if_eq (tgt := 123) hx hb dX12_key_118 (by decide) (fun c470 => ?_) (fun c470 => ?_)
                      · have c470 := (b_eq (rfl : Int32.toInt x1_468 = _) (show Int32.toInt 0 = 0 from rfl)).mp c470
                        refine lv_iinc (v := 3) (lv' := [(1, .int 3), (0, .ref (b 0)), (2, .int 13), (3, .int 17), (4, .int x1_468), (5, .int (nI i_468))]) hx hb dX12_key_123 hl (k := 1) rfl (by decide) (by decide) rfl (fun ls hl => ?_)
                        refine lv_iload_n hx hb dX12_key_126 rfl (lv_at hl 3 rfl) ?_
                        refine lv_iconst (v := 1) hx hb dX12_key_127 (by decide) ?_
                        refine lv_iadd hx hb dX12_key_128 ?_
                        refine W.eq (g2 := F0 m 129 ls [.int 18]) rfl ?_
                        refine lv_istore_n (lv' := [(2, .int 18), (1, .int 3), (0, .ref (b 0)), (3, .int 17), (4, .int x1_468), (5, .int (nI i_468))]) hx hb dX12_key_129 rfl hl (by decide) rfl (fun ls hl => ?_)
                        refine lv_goto (tgt := 14) hx hb dX12_key_130 (by decide) ?_
                        refine lv_iload_n hx hb dX12_key_14 rfl (lv_at hl 0 rfl) ?_
                        refine va_ldcS hx hb hown hZ dX12_key_15 ?_
                        refine vp_callSi (va_Run.run (va_runV (As := []) (rest := [.int 18]) ⟨hx, hb, hml, hown, noTs⟩ (s_J0_length l adK adV 3 (by decide)) ⟨cbE 0 (wd_488 hE) (wd_129 hE) (wd_1527 hE) rfl rfl (by decide +kernel) ⟨Nat.le_of_ble_eq_true rfl, Nat.le_of_ble_eq_true rfl⟩, (wd_486 hE), (wd_487 hE)⟩ ⟨PS.blind, vk_recv hX.1 (by decide) hS, ps_pre (av := [.ref (adK 3)]) hX hS hE⟩ rfl rfl hl.1 rfl (lv_room (Nat.le_of_ble_eq_true rfl)) dX12_key_17 ⟨Nat.le_of_ble_eq_true rfl, Nat.le_of_ble_eq_true rfl⟩)) (fun r471 hr471 => ?_)
                        have hr471 : r471 = 18 := hr471
                        subst hr471
                        refine lv_icmp_ge (tgt := 133) hx hb dX12_key_20 (by decide) (fun c472 => ?_) (fun c472 => absurd c472 (by decide))
                        refine lv_iconst (v := -1) hx hb dX12_key_133 (by decide) ?_
                        exact W.iret (v := -1) hx hb hr (fun t ht hW => ⟨-1, rfl, trivial, ht⟩) (fun _ h => absurd h List.not_mem_nil) dX12_key_134
                      · have c470 := mt (b_eq (rfl : Int32.toInt x1_468 = _) (show Int32.toInt 0 = 0 from rfl)).mpr c470
                        refine lv_iload_n hx hb dX12_key_121 rfl (lv_at hl 1 rfl) ?_
                        exact W.iret (v := 2) hx hb hr (fun t ht hW => ⟨2, rfl, trivial, ht⟩) (fun _ h => absurd h List.not_mem_nil) dX12_key_122
                    · have c469 := mt (b_le (show Int32.toInt 4 = 4 from rfl) (nI_toInt (n := i_468) (by omega))).mpr c469
                      refine lv_iload hx hb dX12_key_75 (lv_at hl 4 rfl) ?_
                      refine lv_if_eq (tgt := 116) hx hb dX12_key_77 (by decide) (fun c473 => ?_) (fun c473 => ?_)
                      · have c473 := (b_eq (rfl : Int32.toInt x1_468 = _) (show Int32.toInt 0 = 0 from rfl)).mp c473
                        refine lv_iload hx hb dX12_key_116 (lv_at hl 4 rfl) ?_
                        refine lv_if_eq (tgt := 123) hx hb dX12_key_118 (by decide) (fun c474 => ?_) (fun c474 => ?_)
                        · have c474 := (b_eq (rfl : Int32.toInt x1_468 = _) (show Int32.toInt 0 = 0 from rfl)).mp c474
                          refine lv_iinc (v := 3) (lv' := [(1, .int 3), (0, .ref (b 0)), (2, .int 13), (3, .int 17), (4, .int x1_468), (5, .int (nI i_468))]) hx hb dX12_key_123 hl (k := 1) rfl (by decide) (by decide) rfl (fun ls hl => ?_)
                          refine lv_iload_n hx hb dX12_key_126 rfl (lv_at hl 3 rfl) ?_
                          refine lv_iconst (v := 1) hx hb dX12_key_127 (by decide) ?_
                          refine lv_iadd hx hb dX12_key_128 ?_
                          refine W.eq (g2 := F0 m 129 ls [.int 18]) rfl ?_
                          refine lv_istore_n (lv' := [(2, .int 18), (1, .int 3), (0, .ref (b 0)), (3, .int 17), (4, .int x1_468), (5, .int (nI i_468))]) hx hb dX12_key_129 rfl hl (by decide) rfl (fun ls hl => ?_)
                          refine lv_goto (tgt := 14) hx hb dX12_key_130 (by decide) ?_
                          refine lv_iload_n hx hb dX12_key_14 rfl (lv_at hl 0 rfl) ?_
                          refine va_ldcS hx hb hown hZ dX12_key_15 ?_
                          refine vp_callSi (va_Run.run (va_runV (As := []) (rest := [.int 18]) ⟨hx, hb, hml, hown, noTs⟩ (s_J0_length l adK adV 3 (by decide)) ⟨cbE 0 (wd_488 hE) (wd_129 hE) (wd_1527 hE) rfl rfl (by decide +kernel) ⟨Nat.le_of_ble_eq_true rfl, Nat.le_of_ble_eq_true rfl⟩, (wd_486 hE), (wd_487 hE)⟩ ⟨PS.blind, vk_recv hX.1 (by decide) hS, ps_pre (av := [.ref (adK 3)]) hX hS hE⟩ rfl rfl hl.1 rfl (lv_room (Nat.le_of_ble_eq_true rfl)) dX12_key_17 ⟨Nat.le_of_ble_eq_true rfl, Nat.le_of_ble_eq_true rfl⟩)) (fun r475 hr475 => ?_)
                          have hr475 : r475 = 18 := hr475
                          subst hr475
                          refine lv_icmp_ge (tgt := 133) hx hb dX12_key_20 (by decide) (fun c476 => ?_) (fun c476 => absurd c476 (by decide))
                          refine lv_iconst (v := -1) hx hb dX12_key_133 (by decide) ?_
                          exact W.iret (v := -1) hx hb hr (fun t ht hW => ⟨-1, rfl, trivial, ht⟩) (fun _ h => absurd h List.not_mem_nil) dX12_key_134
                        · have c474 := mt (b_eq (rfl : Int32.toInt x1_468 = _) (show Int32.toInt 0 = 0 from rfl)).mpr c474
                          refine lv_iload_n hx hb dX12_key_121 rfl (lv_at hl 1 rfl) ?_
                          exact W.iret (v := 2) hx hb hr (fun t ht hW => ⟨2, rfl, trivial, ht⟩) (fun _ h => absurd h List.not_mem_nil) dX12_key_122
                      · have c473 := mt (b_eq (rfl : Int32.toInt x1_468 = _) (show Int32.toInt 0 = 0 from rfl)).mpr c473
                        refine va_ldcS hx hb hown hZ dX12_key_80 ?_
                        refine lv_iload_n hx hb dX12_key_82 rfl (lv_at hl 2 rfl) ?_
                        refine lv_iload hx hb dX12_key_83 (lv_at hl 5 rfl) ?_
                        refine lv_iadd hx hb dX12_key_85 ?_
                        refine W.eq (g2 := F0 m 86 ls [.int (nI (13 + i_468)), .ref (adK 3)]) (congrArg (fun z : Int32 => F0 m 86 ls (.int z :: [.ref (adK 3)])) (nI_add 13 i_468)) ?_
                        refine vp_callSi (va_Run.run (va_runV (As := [.int (nI (13 + i_468))]) (rest := []) ⟨hx, hb, hml, hown, noTs⟩ (s_J0_charAt l adK adV 3 (13 + i_468) (by decide) (by show _ < 18; omega)) ⟨cbE 1 (wd_498 hE) (wd_129 hE) (wd_1528 hE) rfl rfl (by decide +kernel) ⟨Nat.le_of_ble_eq_true rfl, Nat.le_of_ble_eq_true rfl⟩, (wd_496 hE), (wd_497 hE)⟩ ⟨PS.blind, vk_recv hX.1 (by decide) hS, ps_pre (av := [.ref (adK 3), .int (nI (13 + i_468))]) hX hS hE⟩ rfl rfl hl.1 rfl (lv_room (Nat.le_of_ble_eq_true rfl)) dX12_key_86 ⟨Nat.le_of_ble_eq_true rfl, Nat.le_of_ble_eq_true rfl⟩)) (fun r477 hr477 => ?_)
                        refine lv_aload_n hx hb dX12_key_89 rfl (lv_at hl 0 rfl) ?_
                        refine lv_aload_n hx hb dX12_key_90 rfl (lv_at hl 0 rfl) ?_
                        refine r_get (v := .int (nI (fN u 13))) hx hb (ly_X12 hE) hown hK hP rfl 13 (by decide) (wd_1394 hE) (fun _ h9 => h9) (congrArg (fun z : Int32 => some (Value.int z)) hp0.1) dX12_key_91 ?_
                        refine lv_iload hx hb dX12_key_94 (lv_at hl 5 rfl) ?_
                        refine lv_iadd hx hb dX12_key_96 ?_
                        refine W.eq (g2 := F0 m 97 ls [.int (nI ((fN u 13) + i_468)), .ref (b 0), .int r477]) (congrArg (fun z : Int32 => F0 m 97 ls (.int z :: [.ref (b 0), .int r477])) (nI_add (fN u 13) i_468)) ?_
                        refine vp_callSi (va_Run.run (va_runV (As := [.int (nI ((fN u 13) + i_468))]) (rest := [.int r477]) ⟨hx, hb, hml, hown, noTs⟩ (r_X12_byteAt l dC dI s.heap.size cs b u tx hAc16 ((fN u 13) + i_468) sz1 hF11 (by first | assumption | omega | rfl | (congr 1; omega)) (by first | assumption | omega | rfl | (congr 1; omega))) ⟨cbE 1 (wd_1510 hE) (wd_126 hE) (wd_1507 hE) rfl rfl (by decide +kernel) ⟨Nat.le_of_ble_eq_true rfl, Nat.le_of_ble_eq_true rfl⟩, (wd_1509 hE), (wd_57 hE)⟩ ⟨PR.blind, r_recv hK hP rfl, (r_pre (av := [.ref (b 0), .int (nI ((fN u 13) + i_468))]) hK hP hJ hE)⟩ rfl rfl hl.1 rfl (lv_room (Nat.le_of_ble_eq_true rfl)) dX12_key_97 ⟨Nat.le_of_ble_eq_true rfl, Nat.le_of_ble_eq_true rfl⟩)) (fun r478 hr478 => ?_)
                        subst hr478
                        have htf478 := bA_f tx sz1 ((fN u 13) + i_468)
                        refine lv_icmp_ne (tgt := 107) hx hb dX12_key_100 (by decide) (fun c479 => ?_) (fun c479 => ?_)
                        · have c479 := mt (b_eq (rfl : Int32.toInt r477 = _) (rfl : Int32.toInt (bA tx sz1 ((fN u 13) + i_468)) = _)).mpr c479
                          refine lv_iconst (v := 0) hx hb dX12_key_107 (by decide) ?_
                          refine lv_istore (lv' := [(4, .int 0), (0, .ref (b 0)), (1, .int 2), (2, .int 13), (3, .int 17), (5, .int (nI i_468))]) hx hb dX12_key_108 hl (by decide) rfl (fun ls hl => ?_)
                          refine lv_iinc (v := nI (i_468 + 1)) (lv' := [(5, .int (nI (i_468 + 1))), (4, .int 0), (0, .ref (b 0)), (1, .int 2), (2, .int 13), (3, .int 17)]) hx hb dX12_key_110 hl (k := 5) rfl (nI_1 i_468) (by decide) rfl (fun ls hl => ?_)
                          refine lv_goto (tgt := 67) hx hb dX12_key_113 (by decide) ?_
                          exact ih468 _ _ (by omega) ⟨(i_468 + 1), 0, rfl, (by first | assumption | omega | rfl | (congr 1; omega)), lv_sub hl [2, 3, 4, 5, 1, 0] rfl⟩
                        · have c479 := (b_eq (rfl : Int32.toInt r477 = _) (rfl : Int32.toInt (bA tx sz1 ((fN u 13) + i_468)) = _)).mp c479
                          refine lv_iconst (v := 1) hx hb dX12_key_103 (by decide) ?_
                          refine lv_goto (tgt := 108) hx hb dX12_key_104 (by decide) ?_
                          refine lv_istore (lv' := [(4, .int 1), (0, .ref (b 0)), (1, .int 2), (2, .int 13), (3, .int 17), (5, .int (nI i_468))]) hx hb dX12_key_108 hl (by decide) rfl (fun ls hl => ?_)
                          refine lv_iinc (v := nI (i_468 + 1)) (lv' := [(5, .int (nI (i_468 + 1))), (4, .int 1), (0, .ref (b 0)), (1, .int 2), (2, .int 13), (3, .int 17)]) hx hb dX12_key_110 hl (k := 5) rfl (nI_1 i_468) (by decide) rfl (fun ls hl => ?_)
                          refine lv_goto (tgt := 67) hx hb dX12_key_113 (by decide) ?_
                          exact ih468 _ _ (by omega) ⟨(i_468 + 1), 1, rfl, (by first | assumption | omega | rfl | (congr 1; omega)), lv_sub hl [2, 3, 4, 5, 1, 0] rfl⟩
                · have c442 := mt (b_eq (rfl : Int32.toInt x1_401 = _) (show Int32.toInt 0 = 0 from rfl)).mpr c442
                  refine lv_iload_n hx hb dX12_key_121 rfl (lv_at hl 1 rfl) ?_
                  exact W.iret (v := 1) hx hb hr (fun t ht hW => ⟨1, rfl, trivial, ht⟩) (fun _ h => absurd h List.not_mem_nil) dX12_key_122
              · have c441 := mt (b_eq (rfl : Int32.toInt x1_401 = _) (show Int32.toInt 0 = 0 from rfl)).mpr c441
                refine va_ldcS hx hb hown hZ dX12_key_80 ?_
                refine lv_iload_n hx hb dX12_key_82 rfl (lv_at hl 2 rfl) ?_
                refine lv_iload hx hb dX12_key_83 (lv_at hl 5 rfl) ?_
                refine lv_iadd hx hb dX12_key_85 ?_
                refine W.eq (g2 := F0 m 86 ls [.int (nI (8 + i_401)), .ref (adK 3)]) (congrArg (fun z : Int32 => F0 m 86 ls (.int z :: [.ref (adK 3)])) (nI_add 8 i_401)) ?_
                refine vp_callSi (va_Run.run (va_runV (As := [.int (nI (8 + i_401))]) (rest := []) ⟨hx, hb, hml, hown, noTs⟩ (s_J0_charAt l adK adV 3 (8 + i_401) (by decide) (by show _ < 18; omega)) ⟨cbE 1 (wd_498 hE) (wd_129 hE) (wd_1528 hE) rfl rfl (by decide +kernel) ⟨Nat.le_of_ble_eq_true rfl, Nat.le_of_ble_eq_true rfl⟩, (wd_496 hE), (wd_497 hE)⟩ ⟨PS.blind, vk_recv hX.1 (by decide) hS, ps_pre (av := [.ref (adK 3), .int (nI (8 + i_401))]) hX hS hE⟩ rfl rfl hl.1 rfl (lv_room (Nat.le_of_ble_eq_true rfl)) dX12_key_86 ⟨Nat.le_of_ble_eq_true rfl, Nat.le_of_ble_eq_true rfl⟩)) (fun r480 hr480 => ?_)
                refine lv_aload_n hx hb dX12_key_89 rfl (lv_at hl 0 rfl) ?_
                refine lv_aload_n hx hb dX12_key_90 rfl (lv_at hl 0 rfl) ?_
                refine r_get (v := .int (nI (fN u 13))) hx hb (ly_X12 hE) hown hK hP rfl 13 (by decide) (wd_1394 hE) (fun _ h9 => h9) (congrArg (fun z : Int32 => some (Value.int z)) hp0.1) dX12_key_91 ?_
                refine lv_iload hx hb dX12_key_94 (lv_at hl 5 rfl) ?_
                refine lv_iadd hx hb dX12_key_96 ?_
                refine W.eq (g2 := F0 m 97 ls [.int (nI ((fN u 13) + i_401)), .ref (b 0), .int r480]) (congrArg (fun z : Int32 => F0 m 97 ls (.int z :: [.ref (b 0), .int r480])) (nI_add (fN u 13) i_401)) ?_
                refine vp_callSi (va_Run.run (va_runV (As := [.int (nI ((fN u 13) + i_401))]) (rest := [.int r480]) ⟨hx, hb, hml, hown, noTs⟩ (r_X12_byteAt l dC dI s.heap.size cs b u tx hAc16 ((fN u 13) + i_401) sz1 hF11 (by first | assumption | omega | rfl | (congr 1; omega)) (by first | assumption | omega | rfl | (congr 1; omega))) ⟨cbE 1 (wd_1510 hE) (wd_126 hE) (wd_1507 hE) rfl rfl (by decide +kernel) ⟨Nat.le_of_ble_eq_true rfl, Nat.le_of_ble_eq_true rfl⟩, (wd_1509 hE), (wd_57 hE)⟩ ⟨PR.blind, r_recv hK hP rfl, (r_pre (av := [.ref (b 0), .int (nI ((fN u 13) + i_401))]) hK hP hJ hE)⟩ rfl rfl hl.1 rfl (lv_room (Nat.le_of_ble_eq_true rfl)) dX12_key_97 ⟨Nat.le_of_ble_eq_true rfl, Nat.le_of_ble_eq_true rfl⟩)) (fun r481 hr481 => ?_)
                subst hr481
                have htf481 := bA_f tx sz1 ((fN u 13) + i_401)
                refine lv_icmp_ne (tgt := 107) hx hb dX12_key_100 (by decide) (fun c482 => ?_) (fun c482 => ?_)
                · have c482 := mt (b_eq (rfl : Int32.toInt r480 = _) (rfl : Int32.toInt (bA tx sz1 ((fN u 13) + i_401)) = _)).mpr c482
                  refine lv_iconst (v := 0) hx hb dX12_key_107 (by decide) ?_
                  refine lv_istore (lv' := [(4, .int 0), (0, .ref (b 0)), (1, .int 1), (2, .int 8), (3, .int 12), (5, .int (nI i_401))]) hx hb dX12_key_108 hl (by decide) rfl (fun ls hl => ?_)
                  refine lv_iinc (v := nI (i_401 + 1)) (lv' := [(5, .int (nI (i_401 + 1))), (4, .int 0), (0, .ref (b 0)), (1, .int 1), (2, .int 8), (3, .int 12)]) hx hb dX12_key_110 hl (k := 5) rfl (nI_1 i_401) (by decide) rfl (fun ls hl => ?_)
                  refine lv_goto (tgt := 67) hx hb dX12_key_113 (by decide) ?_
                  exact ih401 _ _ (by omega) ⟨(i_401 + 1), 0, rfl, (by first | assumption | omega | rfl | (congr 1; omega)), lv_sub hl [2, 3, 4, 5, 1, 0] rfl⟩
                · have c482 := (b_eq (rfl : Int32.toInt r480 = _) (rfl : Int32.toInt (bA tx sz1 ((fN u 13) + i_401)) = _)).mp c482
                  refine lv_iconst (v := 1) hx hb dX12_key_103 (by decide) ?_
                  refine lv_goto (tgt := 108) hx hb dX12_key_104 (by decide) ?_
                  refine lv_istore (lv' := [(4, .int 1), (0, .ref (b 0)), (1, .int 1), (2, .int 8), (3, .int 12), (5, .int (nI i_401))]) hx hb dX12_key_108 hl (by decide) rfl (fun ls hl => ?_)
                  refine lv_iinc (v := nI (i_401 + 1)) (lv' := [(5, .int (nI (i_401 + 1))), (4, .int 1), (0, .ref (b 0)), (1, .int 1), (2, .int 8), (3, .int 12)]) hx hb dX12_key_110 hl (k := 5) rfl (nI_1 i_401) (by decide) rfl (fun ls hl => ?_)
                  refine lv_goto (tgt := 67) hx hb dX12_key_113 (by decide) ?_
                  exact ih401 _ _ (by omega) ⟨(i_401 + 1), 1, rfl, (by first | assumption | omega | rfl | (congr 1; omega)), lv_sub hl [2, 3, 4, 5, 1, 0] rfl⟩
          · have c400 := (b_eq (show Int32.toInt 4 = 4 from rfl) (nI_toInt (n := (fN u 14) - (fN u 13)) (by omega))).mp c400
            refine lv_iconst (v := 1) hx hb dX12_key_57 (by decide) ?_
            refine lv_goto (tgt := 62) hx hb dX12_key_58 (by decide) ?_
            refine lv_istore (lv' := [(4, .int 1), (3, .int 12), (2, .int 8), (1, .int 1), (0, .ref (b 0)), (5, .int (nI i_385))]) hx hb dX12_key_62 hl (by decide) rfl (fun ls hl => ?_)
            refine lv_iconst (v := 0) hx hb dX12_key_64 (by decide) ?_
            refine lv_istore (lv' := [(5, .int 0), (4, .int 1), (3, .int 12), (2, .int 8), (1, .int 1), (0, .ref (b 0))]) hx hb dX12_key_65 hl (by decide) rfl (fun ls hl => ?_)
            refine r_indP (I := fun n ls => ∃ (i_483 : Nat) (x1_483 : Int32), n = 12 - 8 - i_483 ∧ (i_483 ≤ 12 - 8) ∧ lv_has ls 6 [(0, .ref (b 0)), (1, .int 1), (2, .int 8), (3, .int 12), (4, .int x1_483), (5, .int (nI i_483))]) (fun n ls hI ih483 => ?_) _ _ ⟨0, 1, rfl, (by first | assumption | omega | rfl | (congr 1; omega)), lv_sub hl [5, 4, 3, 2, 1, 0] rfl⟩
            obtain ⟨i_483, x1_483, hmu483, hL483_0, hl⟩ := hI
            subst hmu483
            refine lv_iload hx hb dX12_key_67 (lv_at hl 5 rfl) ?_
            refine lv_iload_n hx hb dX12_key_69 rfl (lv_at hl 3 rfl) ?_
            refine lv_iload_n hx hb dX12_key_70 rfl (lv_at hl 2 rfl) ?_
            refine lv_isub hx hb dX12_key_71 ?_
            refine W.eq (g2 := F0 m 72 ls [.int 4, .int (nI i_483)]) rfl ?_
            refine lv_icmp_ge (tgt := 116) hx hb dX12_key_72 (by decide) (fun c484 => ?_) (fun c484 => ?_)
            · have c484 := (b_le (show Int32.toInt 4 = 4 from rfl) (nI_toInt (n := i_483) (by omega))).mp c484
              refine lv_iload hx hb dX12_key_116 (lv_at hl 4 rfl) ?_
              refine lv_if_eq (tgt := 123) hx hb dX12_key_118 (by decide) (fun c485 => ?_) (fun c485 => ?_)
              · have c485 := (b_eq (rfl : Int32.toInt x1_483 = _) (show Int32.toInt 0 = 0 from rfl)).mp c485
                refine lv_iinc (v := 2) (lv' := [(1, .int 2), (0, .ref (b 0)), (2, .int 8), (3, .int 12), (4, .int x1_483), (5, .int (nI i_483))]) hx hb dX12_key_123 hl (k := 1) rfl (by decide) (by decide) rfl (fun ls hl => ?_)
                refine lv_iload_n hx hb dX12_key_126 rfl (lv_at hl 3 rfl) ?_
                refine lv_iconst (v := 1) hx hb dX12_key_127 (by decide) ?_
                refine lv_iadd hx hb dX12_key_128 ?_
                refine W.eq (g2 := F0 m 129 ls [.int 13]) rfl ?_
                refine lv_istore_n (lv' := [(2, .int 13), (1, .int 2), (0, .ref (b 0)), (3, .int 12), (4, .int x1_483), (5, .int (nI i_483))]) hx hb dX12_key_129 rfl hl (by decide) rfl (fun ls hl => ?_)
                refine lv_goto (tgt := 14) hx hb dX12_key_130 (by decide) ?_
                refine lv_iload_n hx hb dX12_key_14 rfl (lv_at hl 0 rfl) ?_
                refine va_ldcS hx hb hown hZ dX12_key_15 ?_
                refine vp_callSi (va_Run.run (va_runV (As := []) (rest := [.int 13]) ⟨hx, hb, hml, hown, noTs⟩ (s_J0_length l adK adV 3 (by decide)) ⟨cbE 0 (wd_488 hE) (wd_129 hE) (wd_1527 hE) rfl rfl (by decide +kernel) ⟨Nat.le_of_ble_eq_true rfl, Nat.le_of_ble_eq_true rfl⟩, (wd_486 hE), (wd_487 hE)⟩ ⟨PS.blind, vk_recv hX.1 (by decide) hS, ps_pre (av := [.ref (adK 3)]) hX hS hE⟩ rfl rfl hl.1 rfl (lv_room (Nat.le_of_ble_eq_true rfl)) dX12_key_17 ⟨Nat.le_of_ble_eq_true rfl, Nat.le_of_ble_eq_true rfl⟩)) (fun r486 hr486 => ?_)
                have hr486 : r486 = 18 := hr486
                subst hr486
                refine lv_icmp_ge (tgt := 133) hx hb dX12_key_20 (by decide) (fun c487 => absurd c487 (by decide)) (fun c487 => ?_)
                refine lv_iload_n hx hb dX12_key_23 rfl (lv_at hl 0 rfl) ?_
                refine lv_istore_n (lv' := [(3, .int 13), (2, .int 13), (1, .int 2), (0, .ref (b 0)), (4, .int x1_483), (5, .int (nI i_483))]) hx hb dX12_key_24 rfl hl (by decide) rfl (fun ls hl => ?_)
                refine va_ldcS hx hb hown hZ dX12_key_25 ?_
                refine lv_iload_n hx hb dX12_key_27 rfl (lv_at hl 0 rfl) ?_
                refine vp_callSi (va_Run.run (va_runV (As := [.int (nI 13)]) (rest := []) ⟨hx, hb, hml, hown, noTs⟩ (s_J0_charAt l adK adV 3 13 (by decide) (by show _ < 18; omega)) ⟨cbE 1 (wd_498 hE) (wd_129 hE) (wd_1528 hE) rfl rfl (by decide +kernel) ⟨Nat.le_of_ble_eq_true rfl, Nat.le_of_ble_eq_true rfl⟩, (wd_496 hE), (wd_497 hE)⟩ ⟨PS.blind, vk_recv hX.1 (by decide) hS, ps_pre (av := [.ref (adK 3), .int (nI 13)]) hX hS hE⟩ rfl rfl hl.1 rfl (lv_room (Nat.le_of_ble_eq_true rfl)) dX12_key_28 ⟨Nat.le_of_ble_eq_true rfl, Nat.le_of_ble_eq_true rfl⟩)) (fun r488 hr488 => ?_)
                have hr488 : r488 = 119 := hr488.trans (by decide)
                subst hr488
                refine lv_bipush (v := 32) hx hb dX12_key_31 (by decide) ?_
                refine lv_icmp_eq (tgt := 42) hx hb dX12_key_33 (by decide) (fun c489 => absurd c489 (by decide)) (fun c489 => ?_)
                refine lv_iinc (v := 14) (lv' := [(3, .int 14), (2, .int 13), (1, .int 2), (0, .ref (b 0)), (4, .int x1_483), (5, .int (nI i_483))]) hx hb dX12_key_36 hl (k := 0) rfl (by decide) (by decide) rfl (fun ls hl => ?_)
                refine lv_goto (tgt := 25) hx hb dX12_key_39 (by decide) ?_
                refine va_ldcS hx hb hown hZ dX12_key_25 ?_
                refine lv_iload_n hx hb dX12_key_27 rfl (lv_at hl 0 rfl) ?_
                refine vp_callSi (va_Run.run (va_runV (As := [.int (nI 14)]) (rest := []) ⟨hx, hb, hml, hown, noTs⟩ (s_J0_charAt l adK adV 3 14 (by decide) (by show _ < 18; omega)) ⟨cbE 1 (wd_498 hE) (wd_129 hE) (wd_1528 hE) rfl rfl (by decide +kernel) ⟨Nat.le_of_ble_eq_true rfl, Nat.le_of_ble_eq_true rfl⟩, (wd_496 hE), (wd_497 hE)⟩ ⟨PS.blind, vk_recv hX.1 (by decide) hS, ps_pre (av := [.ref (adK 3), .int (nI 14)]) hX hS hE⟩ rfl rfl hl.1 rfl (lv_room (Nat.le_of_ble_eq_true rfl)) dX12_key_28 ⟨Nat.le_of_ble_eq_true rfl, Nat.le_of_ble_eq_true rfl⟩)) (fun r490 hr490 => ?_)
                have hr490 : r490 = 111 := hr490.trans (by decide)
                subst hr490
                refine lv_bipush (v := 32) hx hb dX12_key_31 (by decide) ?_
                refine lv_icmp_eq (tgt := 42) hx hb dX12_key_33 (by decide) (fun c491 => absurd c491 (by decide)) (fun c491 => ?_)
                refine lv_iinc (v := 15) (lv' := [(3, .int 15), (2, .int 13), (1, .int 2), (0, .ref (b 0)), (4, .int x1_483), (5, .int (nI i_483))]) hx hb dX12_key_36 hl (k := 0) rfl (by decide) (by decide) rfl (fun ls hl => ?_)
                refine lv_goto (tgt := 25) hx hb dX12_key_39 (by decide) ?_
                refine va_ldcS hx hb hown hZ dX12_key_25 ?_
                refine lv_iload_n hx hb dX12_key_27 rfl (lv_at hl 0 rfl) ?_
                refine vp_callSi (va_Run.run (va_runV (As := [.int (nI 15)]) (rest := []) ⟨hx, hb, hml, hown, noTs⟩ (s_J0_charAt l adK adV 3 15 (by decide) (by show _ < 18; omega)) ⟨cbE 1 (wd_498 hE) (wd_129 hE) (wd_1528 hE) rfl rfl (by decide +kernel) ⟨Nat.le_of_ble_eq_true rfl, Nat.le_of_ble_eq_true rfl⟩, (wd_496 hE), (wd_497 hE)⟩ ⟨PS.blind, vk_recv hX.1 (by decide) hS, ps_pre (av := [.ref (adK 3), .int (nI 15)]) hX hS hE⟩ rfl rfl hl.1 rfl (lv_room (Nat.le_of_ble_eq_true rfl)) dX12_key_28 ⟨Nat.le_of_ble_eq_true rfl, Nat.le_of_ble_eq_true rfl⟩)) (fun r492 hr492 => ?_)
                have hr492 : r492 = 114 := hr492.trans (by decide)
                subst hr492
                refine lv_bipush (v := 32) hx hb dX12_key_31 (by decide) ?_
                refine lv_icmp_eq (tgt := 42) hx hb dX12_key_33 (by decide) (fun c493 => absurd c493 (by decide)) (fun c493 => ?_)
                refine lv_iinc (v := 16) (lv' := [(3, .int 16), (2, .int 13), (1, .int 2), (0, .ref (b 0)), (4, .int x1_483), (5, .int (nI i_483))]) hx hb dX12_key_36 hl (k := 0) rfl (by decide) (by decide) rfl (fun ls hl => ?_)
                refine lv_goto (tgt := 25) hx hb dX12_key_39 (by decide) ?_
                refine va_ldcS hx hb hown hZ dX12_key_25 ?_
                refine lv_iload_n hx hb dX12_key_27 rfl (lv_at hl 0 rfl) ?_
                refine vp_callSi (va_Run.run (va_runV (As := [.int (nI 16)]) (rest := []) ⟨hx, hb, hml, hown, noTs⟩ (s_J0_charAt l adK adV 3 16 (by decide) (by show _ < 18; omega)) ⟨cbE 1 (wd_498 hE) (wd_129 hE) (wd_1528 hE) rfl rfl (by decide +kernel) ⟨Nat.le_of_ble_eq_true rfl, Nat.le_of_ble_eq_true rfl⟩, (wd_496 hE), (wd_497 hE)⟩ ⟨PS.blind, vk_recv hX.1 (by decide) hS, ps_pre (av := [.ref (adK 3), .int (nI 16)]) hX hS hE⟩ rfl rfl hl.1 rfl (lv_room (Nat.le_of_ble_eq_true rfl)) dX12_key_28 ⟨Nat.le_of_ble_eq_true rfl, Nat.le_of_ble_eq_true rfl⟩)) (fun r494 hr494 => ?_)
                have hr494 : r494 = 100 := hr494.trans (by decide)
                subst hr494
                refine lv_bipush (v := 32) hx hb dX12_key_31 (by decide) ?_
                refine lv_icmp_eq (tgt := 42) hx hb dX12_key_33 (by decide) (fun c495 => absurd c495 (by decide)) (fun c495 => ?_)
                refine lv_iinc (v := 17) (lv' := [(3, .int 17), (2, .int 13), (1, .int 2), (0, .ref (b 0)), (4, .int x1_483), (5, .int (nI i_483))]) hx hb dX12_key_36 hl (k := 0) rfl (by decide) (by decide) rfl (fun ls hl => ?_)
                refine lv_goto (tgt := 25) hx hb dX12_key_39 (by decide) ?_
                refine va_ldcS hx hb hown hZ dX12_key_25 ?_
                refine lv_iload_n hx hb dX12_key_27 rfl (lv_at hl 0 rfl) ?_
                refine vp_callSi (va_Run.run (va_runV (As := [.int (nI 17)]) (rest := []) ⟨hx, hb, hml, hown, noTs⟩ (s_J0_charAt l adK adV 3 17 (by decide) (by show _ < 18; omega)) ⟨cbE 1 (wd_498 hE) (wd_129 hE) (wd_1528 hE) rfl rfl (by decide +kernel) ⟨Nat.le_of_ble_eq_true rfl, Nat.le_of_ble_eq_true rfl⟩, (wd_496 hE), (wd_497 hE)⟩ ⟨PS.blind, vk_recv hX.1 (by decide) hS, ps_pre (av := [.ref (adK 3), .int (nI 17)]) hX hS hE⟩ rfl rfl hl.1 rfl (lv_room (Nat.le_of_ble_eq_true rfl)) dX12_key_28 ⟨Nat.le_of_ble_eq_true rfl, Nat.le_of_ble_eq_true rfl⟩)) (fun r496 hr496 => ?_)
                have hr496 : r496 = 32 := hr496.trans (by decide)
                subst hr496
                refine lv_bipush (v := 32) hx hb dX12_key_31 (by decide) ?_
                refine lv_icmp_eq (tgt := 42) hx hb dX12_key_33 (by decide) (fun c497 => ?_) (fun c497 => absurd c497 (by decide))
                refine lv_iload_n hx hb dX12_key_42 rfl (lv_at hl 0 rfl) ?_
                refine lv_iload_n hx hb dX12_key_43 rfl (lv_at hl 1 rfl) ?_
                refine lv_isub hx hb dX12_key_44 ?_
                refine W.eq (g2 := F0 m 45 ls [.int 4]) rfl ?_
                refine lv_aload_n hx hb dX12_key_45 rfl (lv_at hl 3 rfl) ?_
                refine r_get (v := .int (nI (fN u 14))) hx hb (ly_X12 hE) hown hK hP rfl 14 (by decide) (wd_1395 hE) (fun _ h9 => h9) (congrArg (fun z : Int32 => some (Value.int z)) hp0.2.1) dX12_key_46 ?_
                refine lv_aload_n hx hb dX12_key_49 rfl (lv_at hl 3 rfl) ?_
                refine r_get (v := .int (nI (fN u 13))) hx hb (ly_X12 hE) hown hK hP rfl 13 (by decide) (wd_1394 hE) (fun _ h9 => h9) (congrArg (fun z : Int32 => some (Value.int z)) hp0.1) dX12_key_50 ?_
                refine lv_isub hx hb dX12_key_53 ?_
                refine W.eq (g2 := F0 m 54 ls [.int (nI ((fN u 14) - (fN u 13))), .int 4]) (congrArg (fun z : Int32 => F0 m 54 ls (.int z :: [.int 4])) (pk_sub (a := fN u 14) (b := fN u 13) (by omega))) ?_
                refine lv_icmp_ne (tgt := 61) hx hb dX12_key_54 (by decide) (fun c498 => ?_) (fun c498 => ?_)
                · have c498 := mt (b_eq (show Int32.toInt 4 = 4 from rfl) (nI_toInt (n := (fN u 14) - (fN u 13)) (by omega))).mpr c498
                  refine lv_iconst (v := 0) hx hb dX12_key_61 (by decide) ?_
                  refine lv_istore (lv' := [(4, .int 0), (3, .int 17), (2, .int 13), (1, .int 2), (0, .ref (b 0)), (5, .int (nI i_483))]) hx hb dX12_key_62 hl (by decide) rfl (fun ls hl => ?_)
                  refine lv_iconst (v := 0) hx hb dX12_key_64 (by decide) ?_
                  refine lv_istore (lv' := [(5, .int 0), (4, .int 0), (3, .int 17), (2, .int 13), (1, .int 2), (0, .ref (b 0))]) hx hb dX12_key_65 hl (by decide) rfl (fun ls hl => ?_)
                  refine r_indP (I := fun n ls => ∃ (i_499 : Nat) (x1_499 : Int32), n = 17 - 13 - i_499 ∧ (i_499 ≤ 17 - 13) ∧ lv_has ls 6 [(0, .ref (b 0)), (1, .int 2), (2, .int 13), (3, .int 17), (4, .int x1_499), (5, .int (nI i_499))]) (fun n ls hI ih499 => ?_) _ _ ⟨0, 0, rfl, (by first | assumption | omega | rfl | (congr 1; omega)), lv_sub hl [5, 4, 3, 2, 1, 0] rfl⟩
                  obtain ⟨i_499, x1_499, hmu499, hL499_0, hl⟩ := hI
                  subst hmu499
                  refine lv_iload hx hb dX12_key_67 (lv_at hl 5 rfl) ?_
                  refine lv_iload_n hx hb dX12_key_69 rfl (lv_at hl 3 rfl) ?_
                  refine lv_iload_n hx hb dX12_key_70 rfl (lv_at hl 2 rfl) ?_
                  refine lv_isub hx hb dX12_key_71 ?_
                  refine W.eq (g2 := F0 m 72 ls [.int 4, .int (nI i_499)]) rfl ?_
                  refine lv_icmp_ge (tgt := 116) hx hb dX12_key_72 (by decide) (fun c500 => ?_) (fun c500 => ?_)
                  · have c500 := (b_le (show Int32.toInt 4 = 4 from rfl) (nI_toInt (n := i_499) (by omega))).mp c500
                    refine lv_iload hx hb dX12_key_116 (lv_at hl 4 rfl) ?_
                    refine lv_if_eq (tgt := 123) hx hb dX12_key_118 (by decide) (fun c501 => ?_) (fun c501 => ?_)
                    · have c501 := (b_eq (rfl : Int32.toInt x1_499 = _) (show Int32.toInt 0 = 0 from rfl)).mp c501
                      refine lv_iinc (v := 3) (lv' := [(1, .int 3), (0, .ref (b 0)), (2, .int 13), (3, .int 17), (4, .int x1_499), (5, .int (nI i_499))]) hx hb dX12_key_123 hl (k := 1) rfl (by decide) (by decide) rfl (fun ls hl => ?_)
                      refine lv_iload_n hx hb dX12_key_126 rfl (lv_at hl 3 rfl) ?_
                      refine lv_iconst (v := 1) hx hb dX12_key_127 (by decide) ?_
                      refine lv_iadd hx hb dX12_key_128 ?_
                      refine W.eq (g2 := F0 m 129 ls [.int 18]) rfl ?_
                      refine lv_istore_n (lv' := [(2, .int 18), (1, .int 3), (0, .ref (b 0)), (3, .int 17), (4, .int x1_499), (5, .int (nI i_499))]) hx hb dX12_key_129 rfl hl (by decide) rfl (fun ls hl => ?_)
                      refine lv_goto (tgt := 14) hx hb dX12_key_130 (by decide) ?_
                      refine lv_iload_n hx hb dX12_key_14 rfl (lv_at hl 0 rfl) ?_
                      refine va_ldcS hx hb hown hZ dX12_key_15 ?_
                      refine vp_callSi (va_Run.run (va_runV (As := []) (rest := [.int 18]) ⟨hx, hb, hml, hown, noTs⟩ (s_J0_length l adK adV 3 (by decide)) ⟨cbE 0 (wd_488 hE) (wd_129 hE) (wd_1527 hE) rfl rfl (by decide +kernel) ⟨Nat.le_of_ble_eq_true rfl, Nat.le_of_ble_eq_true rfl⟩, (wd_486 hE), (wd_487 hE)⟩ ⟨PS.blind, vk_recv hX.1 (by decide) hS, ps_pre (av := [.ref (adK 3)]) hX hS hE⟩ rfl rfl hl.1 rfl (lv_room (Nat.le_of_ble_eq_true rfl)) dX12_key_17 ⟨Nat.le_of_ble_eq_true rfl, Nat.le_of_ble_eq_true rfl⟩)) (fun r502 hr502 => ?_)
                      have hr502 : r502 = 18 := hr502
                      subst hr502
                      refine lv_icmp_ge (tgt := 133) hx hb dX12_key_20 (by decide) (fun c503 => ?_) (fun c503 => absurd c503 (by decide))
                      refine lv_iconst (v := -1) hx hb dX12_key_133 (by decide) ?_
                      exact W.iret (v := -1) hx hb hr (fun t ht hW => ⟨-1, rfl, trivial, ht⟩) (fun _ h => absurd h List.not_mem_nil) dX12_key_134
                    · have c501 := mt (b_eq (rfl : Int32.toInt x1_499 = _) (show Int32.toInt 0 = 0 from rfl)).mpr c501
                      refine lv_iload_n hx hb dX12_key_121 rfl (lv_at hl 1 rfl) ?_
                      exact W.iret (v := 2) hx hb hr (fun t ht hW => ⟨2, rfl, trivial, ht⟩) (fun _ h => absurd h List.not_mem_nil) dX12_key_122
                  · have c500 := mt (b_le (show Int32.toInt 4 = 4 from rfl) (nI_toInt (n := i_499) (by omega))).mpr c500
                    refine lv_iload hx hb dX12_key_75 (lv_at hl 4 rfl) ?_
                    refine lv_if_eq (tgt := 116) hx hb dX12_key_77 (by decide) (fun c504 => ?_) (fun c504 => ?_)
                    · have c504 := (b_eq (rfl : Int32.toInt x1_499 = _) (show Int32.toInt 0 = 0 from rfl)).mp c504
                      refine lv_iload hx hb dX12_key_116 (lv_at hl 4 rfl) ?_
                      refine lv_if_eq (tgt := 123) hx hb dX12_key_118 (by decide) (fun c505 => ?_) (fun c505 => ?_)
                      · have c505 := (b_eq (rfl : Int32.toInt x1_499 = _) (show Int32.toInt 0 = 0 from rfl)).mp c505
                        refine lv_iinc (v := 3) (lv' := [(1, .int 3), (0, .ref (b 0)), (2, .int 13), (3, .int 17), (4, .int x1_499), (5, .int (nI i_499))]) hx hb dX12_key_123 hl (k := 1) rfl (by decide) (by decide) rfl (fun ls hl => ?_)
                        refine lv_iload_n hx hb dX12_key_126 rfl (lv_at hl 3 rfl) ?_
                        refine lv_iconst (v := 1) hx hb dX12_key_127 (by decide) ?_
                        refine lv_iadd hx hb dX12_key_128 ?_
                        refine W.eq (g2 := F0 m 129 ls [.int 18]) rfl ?_
                        refine lv_istore_n (lv' := [(2, .int 18), (1, .int 3), (0, .ref (b 0)), (3, .int 17), (4, .int x1_499), (5, .int (nI i_499))]) hx hb dX12_key_129 rfl hl (by decide) rfl (fun ls hl => ?_)
                        refine lv_goto (tgt := 14) hx hb dX12_key_130 (by decide) ?_
                        refine lv_iload_n hx hb dX12_key_14 rfl (lv_at hl 0 rfl) ?_
                        refine va_ldcS hx hb hown hZ dX12_key_15 ?_
                        refine vp_callSi (va_Run.run (va_runV (As := []) (rest := [.int 18]) ⟨hx, hb, hml, hown, noTs⟩ (s_J0_length l adK adV 3 (by decide)) ⟨cbE 0 (wd_488 hE) (wd_129 hE) (wd_1527 hE) rfl rfl (by decide +kernel) ⟨Nat.le_of_ble_eq_true rfl, Nat.le_of_ble_eq_true rfl⟩, (wd_486 hE), (wd_487 hE)⟩ ⟨PS.blind, vk_recv hX.1 (by decide) hS, ps_pre (av := [.ref (adK 3)]) hX hS hE⟩ rfl rfl hl.1 rfl (lv_room (Nat.le_of_ble_eq_true rfl)) dX12_key_17 ⟨Nat.le_of_ble_eq_true rfl, Nat.le_of_ble_eq_true rfl⟩)) (fun r506 hr506 => ?_)
                        have hr506 : r506 = 18 := hr506
                        subst hr506
                        refine lv_icmp_ge (tgt := 133) hx hb dX12_key_20 (by decide) (fun c507 => ?_) (fun c507 => absurd c507 (by decide))
                        refine lv_iconst (v := -1) hx hb dX12_key_133 (by decide) ?_
                        exact W.iret (v := -1) hx hb hr (fun t ht hW => ⟨-1, rfl, trivial, ht⟩) (fun _ h => absurd h List.not_mem_nil) dX12_key_134
                      · have c505 := mt (b_eq (rfl : Int32.toInt x1_499 = _) (show Int32.toInt 0 = 0 from rfl)).mpr c505
                        refine lv_iload_n hx hb dX12_key_121 rfl (lv_at hl 1 rfl) ?_
                        exact W.iret (v := 2) hx hb hr (fun t ht hW => ⟨2, rfl, trivial, ht⟩) (fun _ h => absurd h List.not_mem_nil) dX12_key_122
                    · have c504 := mt (b_eq (rfl : Int32.toInt x1_499 = _) (show Int32.toInt 0 = 0 from rfl)).mpr c504
                      refine va_ldcS hx hb hown hZ dX12_key_80 ?_
                      refine lv_iload_n hx hb dX12_key_82 rfl (lv_at hl 2 rfl) ?_
                      refine lv_iload hx hb dX12_key_83 (lv_at hl 5 rfl) ?_
                      refine lv_iadd hx hb dX12_key_85 ?_
                      refine W.eq (g2 := F0 m 86 ls [.int (nI (13 + i_499)), .ref (adK 3)]) (congrArg (fun z : Int32 => F0 m 86 ls (.int z :: [.ref (adK 3)])) (nI_add 13 i_499)) ?_
                      refine vp_callSi (va_Run.run (va_runV (As := [.int (nI (13 + i_499))]) (rest := []) ⟨hx, hb, hml, hown, noTs⟩ (s_J0_charAt l adK adV 3 (13 + i_499) (by decide) (by show _ < 18; omega)) ⟨cbE 1 (wd_498 hE) (wd_129 hE) (wd_1528 hE) rfl rfl (by decide +kernel) ⟨Nat.le_of_ble_eq_true rfl, Nat.le_of_ble_eq_true rfl⟩, (wd_496 hE), (wd_497 hE)⟩ ⟨PS.blind, vk_recv hX.1 (by decide) hS, ps_pre (av := [.ref (adK 3), .int (nI (13 + i_499))]) hX hS hE⟩ rfl rfl hl.1 rfl (lv_room (Nat.le_of_ble_eq_true rfl)) dX12_key_86 ⟨Nat.le_of_ble_eq_true rfl, Nat.le_of_ble_eq_true rfl⟩)) (fun r508 hr508 => ?_)
                      refine lv_aload_n hx hb dX12_key_89 rfl (lv_at hl 0 rfl) ?_
                      refine lv_aload_n hx hb dX12_key_90 rfl (lv_at hl 0 rfl) ?_
                      refine r_get (v := .int (nI (fN u 13))) hx hb (ly_X12 hE) hown hK hP rfl 13 (by decide) (wd_1394 hE) (fun _ h9 => h9) (congrArg (fun z : Int32 => some (Value.int z)) hp0.1) dX12_key_91 ?_
                      refine lv_iload hx hb dX12_key_94 (lv_at hl 5 rfl) ?_
                      refine lv_iadd hx hb dX12_key_96 ?_
                      refine W.eq (g2 := F0 m 97 ls [.int (nI ((fN u 13) + i_499)), .ref (b 0), .int r508]) (congrArg (fun z : Int32 => F0 m 97 ls (.int z :: [.ref (b 0), .int r508])) (nI_add (fN u 13) i_499)) ?_
                      refine vp_callSi (va_Run.run (va_runV (As := [.int (nI ((fN u 13) + i_499))]) (rest := [.int r508]) ⟨hx, hb, hml, hown, noTs⟩ (r_X12_byteAt l dC dI s.heap.size cs b u tx hAc16 ((fN u 13) + i_499) sz1 hF11 (by first | assumption | omega | rfl | (congr 1; omega)) (by first | assumption | omega | rfl | (congr 1; omega))) ⟨cbE 1 (wd_1510 hE) (wd_126 hE) (wd_1507 hE) rfl rfl (by decide +kernel) ⟨Nat.le_of_ble_eq_true rfl, Nat.le_of_ble_eq_true rfl⟩, (wd_1509 hE), (wd_57 hE)⟩ ⟨PR.blind, r_recv hK hP rfl, (r_pre (av := [.ref (b 0), .int (nI ((fN u 13) + i_499))]) hK hP hJ hE)⟩ rfl rfl hl.1 rfl (lv_room (Nat.le_of_ble_eq_true rfl)) dX12_key_97 ⟨Nat.le_of_ble_eq_true rfl, Nat.le_of_ble_eq_true rfl⟩)) (fun r509 hr509 => ?_)
                      subst hr509
                      have htf509 := bA_f tx sz1 ((fN u 13) + i_499)
                      refine lv_icmp_ne (tgt := 107) hx hb dX12_key_100 (by decide) (fun c510 => ?_) (fun c510 => ?_)
                      · have c510 := mt (b_eq (rfl : Int32.toInt r508 = _) (rfl : Int32.toInt (bA tx sz1 ((fN u 13) + i_499)) = _)).mpr c510
                        refine lv_iconst (v := 0) hx hb dX12_key_107 (by decide) ?_
                        refine lv_istore (lv' := [(4, .int 0), (0, .ref (b 0)), (1, .int 2), (2, .int 13), (3, .int 17), (5, .int (nI i_499))]) hx hb dX12_key_108 hl (by decide) rfl (fun ls hl => ?_)
                        refine lv_iinc (v := nI (i_499 + 1)) (lv' := [(5, .int (nI (i_499 + 1))), (4, .int 0), (0, .ref (b 0)), (1, .int 2), (2, .int 13), (3, .int 17)]) hx hb dX12_key_110 hl (k := 5) rfl (nI_1 i_499) (by decide) rfl (fun ls hl => ?_)
                        refine lv_goto (tgt := 67) hx hb dX12_key_113 (by decide) ?_
                        exact ih499 _ _ (by omega) ⟨(i_499 + 1), 0, rfl, (by first | assumption | omega | rfl | (congr 1; omega)), lv_sub hl [2, 3, 4, 5, 1, 0] rfl⟩
                      · have c510 := (b_eq (rfl : Int32.toInt r508 = _) (rfl : Int32.toInt (bA tx sz1 ((fN u 13) + i_499)) = _)).mp c510
                        refine lv_iconst (v := 1) hx hb dX12_key_103 (by decide) ?_
                        refine lv_goto (tgt := 108) hx hb dX12_key_104 (by decide) ?_
                        refine lv_istore (lv' := [(4, .int 1), (0, .ref (b 0)), (1, .int 2), (2, .int 13), (3, .int 17), (5, .int (nI i_499))]) hx hb dX12_key_108 hl (by decide) rfl (fun ls hl => ?_)
                        refine lv_iinc (v := nI (i_499 + 1)) (lv' := [(5, .int (nI (i_499 + 1))), (4, .int 1), (0, .ref (b 0)), (1, .int 2), (2, .int 13), (3, .int 17)]) hx hb dX12_key_110 hl (k := 5) rfl (nI_1 i_499) (by decide) rfl (fun ls hl => ?_)
                        refine lv_goto (tgt := 67) hx hb dX12_key_113 (by decide) ?_
                        exact ih499 _ _ (by omega) ⟨(i_499 + 1), 1, rfl, (by first | assumption | omega | rfl | (congr 1; omega)), lv_sub hl [2, 3, 4, 5, 1, 0] rfl⟩
                · have c498 := (b_eq (show Int32.toInt 4 = 4 from rfl) (nI_toInt (n := (fN u 14) - (fN u 13)) (by omega))).mp c498
                  refine lv_iconst (v := 1) hx hb dX12_key_57 (by decide) ?_
                  refine lv_goto (tgt := 62) hx hb dX12_key_58 (by decide) ?_
                  refine lv_istore (lv' := [(4, .int 1), (3, .int 17), (2, .int 13), (1, .int 2), (0, .ref (b 0)), (5, .int (nI i_483))]) hx hb dX12_key_62 hl (by decide) rfl (fun ls hl => ?_)
                  refine lv_iconst (v := 0) hx hb dX12_key_64 (by decide) ?_
                  refine lv_istore (lv' := [(5, .int 0), (4, .int 1), (3, .int 17), (2, .int 13), (1, .int 2), (0, .ref (b 0))]) hx hb dX12_key_65 hl (by decide) rfl (fun ls hl => ?_)
                  refine r_indP (I := fun n ls => ∃ (i_511 : Nat) (x1_511 : Int32), n = 17 - 13 - i_511 ∧ (i_511 ≤ 17 - 13) ∧ lv_has ls 6 [(0, .ref (b 0)), (1, .int 2), (2, .int 13), (3, .int 17), (4, .int x1_511), (5, .int (nI i_511))]) (fun n ls hI ih511 => ?_) _ _ ⟨0, 1, rfl, (by first | assumption | omega | rfl | (congr 1; omega)), lv_sub hl [5, 4, 3, 2, 1, 0] rfl⟩
                  obtain ⟨i_511, x1_511, hmu511, hL511_0, hl⟩ := hI
                  subst hmu511
                  refine lv_iload hx hb dX12_key_67 (lv_at hl 5 rfl) ?_
                  refine lv_iload_n hx hb dX12_key_69 rfl (lv_at hl 3 rfl) ?_
                  refine lv_iload_n hx hb dX12_key_70 rfl (lv_at hl 2 rfl) ?_
                  refine lv_isub hx hb dX12_key_71 ?_
                  refine W.eq (g2 := F0 m 72 ls [.int 4, .int (nI i_511)]) rfl ?_
                  refine lv_icmp_ge (tgt := 116) hx hb dX12_key_72 (by decide) (fun c512 => ?_) (fun c512 => ?_)
                  · have c512 := (b_le (show Int32.toInt 4 = 4 from rfl) (nI_toInt (n := i_511) (by omega))).mp c512
                    refine lv_iload hx hb dX12_key_116 (lv_at hl 4 rfl) ?_
                    refine lv_if_eq (tgt := 123) hx hb dX12_key_118 (by decide) (fun c513 => ?_) (fun c513 => ?_)
                    · have c513 := (b_eq (rfl : Int32.toInt x1_511 = _) (show Int32.toInt 0 = 0 from rfl)).mp c513
                      refine lv_iinc (v := 3) (lv' := [(1, .int 3), (0, .ref (b 0)), (2, .int 13), (3, .int 17), (4, .int x1_511), (5, .int (nI i_511))]) hx hb dX12_key_123 hl (k := 1) rfl (by decide) (by decide) rfl (fun ls hl => ?_)
                      refine lv_iload_n hx hb dX12_key_126 rfl (lv_at hl 3 rfl) ?_
                      refine lv_iconst (v := 1) hx hb dX12_key_127 (by decide) ?_
                      refine lv_iadd hx hb dX12_key_128 ?_
                      refine W.eq (g2 := F0 m 129 ls [.int 18]) rfl ?_
                      refine lv_istore_n (lv' := [(2, .int 18), (1, .int 3), (0, .ref (b 0)), (3, .int 17), (4, .int x1_511), (5, .int (nI i_511))]) hx hb dX12_key_129 rfl hl (by decide) rfl (fun ls hl => ?_)
                      refine lv_goto (tgt := 14) hx hb dX12_key_130 (by decide) ?_
                      refine lv_iload_n hx hb dX12_key_14 rfl (lv_at hl 0 rfl) ?_
                      refine va_ldcS hx hb hown hZ dX12_key_15 ?_
                      refine vp_callSi (va_Run.run (va_runV (As := []) (rest := [.int 18]) ⟨hx, hb, hml, hown, noTs⟩ (s_J0_length l adK adV 3 (by decide)) ⟨cbE 0 (wd_488 hE) (wd_129 hE) (wd_1527 hE) rfl rfl (by decide +kernel) ⟨Nat.le_of_ble_eq_true rfl, Nat.le_of_ble_eq_true rfl⟩, (wd_486 hE), (wd_487 hE)⟩ ⟨PS.blind, vk_recv hX.1 (by decide) hS, ps_pre (av := [.ref (adK 3)]) hX hS hE⟩ rfl rfl hl.1 rfl (lv_room (Nat.le_of_ble_eq_true rfl)) dX12_key_17 ⟨Nat.le_of_ble_eq_true rfl, Nat.le_of_ble_eq_true rfl⟩)) (fun r514 hr514 => ?_)
                      have hr514 : r514 = 18 := hr514
                      subst hr514
                      refine lv_icmp_ge (tgt := 133) hx hb dX12_key_20 (by decide) (fun c515 => ?_) (fun c515 => absurd c515 (by decide))
                      refine lv_iconst (v := -1) hx hb dX12_key_133 (by decide) ?_
                      exact W.iret (v := -1) hx hb hr (fun t ht hW => ⟨-1, rfl, trivial, ht⟩) (fun _ h => absurd h List.not_mem_nil) dX12_key_134
                    · have c513 := mt (b_eq (rfl : Int32.toInt x1_511 = _) (show Int32.toInt 0 = 0 from rfl)).mpr c513
                      refine lv_iload_n hx hb dX12_key_121 rfl (lv_at hl 1 rfl) ?_
                      exact W.iret (v := 2) hx hb hr (fun t ht hW => ⟨2, rfl, trivial, ht⟩) (fun _ h => absurd h List.not_mem_nil) dX12_key_122
                  · have c512 := mt (b_le (show Int32.toInt 4 = 4 from rfl) (nI_toInt (n := i_511) (by omega))).mpr c512
                    refine lv_iload hx hb dX12_key_75 (lv_at hl 4 rfl) ?_
                    refine lv_if_eq (tgt := 116) hx hb dX12_key_77 (by decide) (fun c516 => ?_) (fun c516 => ?_)
                    · have c516 := (b_eq (rfl : Int32.toInt x1_511 = _) (show Int32.toInt 0 = 0 from rfl)).mp c516
                      refine lv_iload hx hb dX12_key_116 (lv_at hl 4 rfl) ?_
                      refine lv_if_eq (tgt := 123) hx hb dX12_key_118 (by decide) (fun c517 => ?_) (fun c517 => ?_)
                      · have c517 := (b_eq (rfl : Int32.toInt x1_511 = _) (show Int32.toInt 0 = 0 from rfl)).mp c517
                        refine lv_iinc (v := 3) (lv' := [(1, .int 3), (0, .ref (b 0)), (2, .int 13), (3, .int 17), (4, .int x1_511), (5, .int (nI i_511))]) hx hb dX12_key_123 hl (k := 1) rfl (by decide) (by decide) rfl (fun ls hl => ?_)
                        refine lv_iload_n hx hb dX12_key_126 rfl (lv_at hl 3 rfl) ?_
                        refine lv_iconst (v := 1) hx hb dX12_key_127 (by decide) ?_
                        refine lv_iadd hx hb dX12_key_128 ?_
                        refine W.eq (g2 := F0 m 129 ls [.int 18]) rfl ?_
                        refine lv_istore_n (lv' := [(2, .int 18), (1, .int 3), (0, .ref (b 0)), (3, .int 17), (4, .int x1_511), (5, .int (nI i_511))]) hx hb dX12_key_129 rfl hl (by decide) rfl (fun ls hl => ?_)
                        refine lv_goto (tgt := 14) hx hb dX12_key_130 (by decide) ?_
                        refine lv_iload_n hx hb dX12_key_14 rfl (lv_at hl 0 rfl) ?_
                        refine va_ldcS hx hb hown hZ dX12_key_15 ?_
                        refine vp_callSi (va_Run.run (va_runV (As := []) (rest := [.int 18]) ⟨hx, hb, hml, hown, noTs⟩ (s_J0_length l adK adV 3 (by decide)) ⟨cbE 0 (wd_488 hE) (wd_129 hE) (wd_1527 hE) rfl rfl (by decide +kernel) ⟨Nat.le_of_ble_eq_true rfl, Nat.le_of_ble_eq_true rfl⟩, (wd_486 hE), (wd_487 hE)⟩ ⟨PS.blind, vk_recv hX.1 (by decide) hS, ps_pre (av := [.ref (adK 3)]) hX hS hE⟩ rfl rfl hl.1 rfl (lv_room (Nat.le_of_ble_eq_true rfl)) dX12_key_17 ⟨Nat.le_of_ble_eq_true rfl, Nat.le_of_ble_eq_true rfl⟩)) (fun r518 hr518 => ?_)
                        have hr518 : r518 = 18 := hr518
                        subst hr518
                        refine lv_icmp_ge (tgt := 133) hx hb dX12_key_20 (by decide) (fun c519 => ?_) (fun c519 => absurd c519 (by decide))
                        refine lv_iconst (v := -1) hx hb dX12_key_133 (by decide) ?_
                        exact W.iret (v := -1) hx hb hr (fun t ht hW => ⟨-1, rfl, trivial, ht⟩) (fun _ h => absurd h List.not_mem_nil) dX12_key_134
                      · have c517 := mt (b_eq (rfl : Int32.toInt x1_511 = _) (show Int32.toInt 0 = 0 from rfl)).mpr c517
                        refine lv_iload_n hx hb dX12_key_121 rfl (lv_at hl 1 rfl) ?_
                        exact W.iret (v := 2) hx hb hr (fun t ht hW => ⟨2, rfl, trivial, ht⟩) (fun _ h => absurd h List.not_mem_nil) dX12_key_122
                    · have c516 := mt (b_eq (rfl : Int32.toInt x1_511 = _) (show Int32.toInt 0 = 0 from rfl)).mpr c516
                      refine va_ldcS hx hb hown hZ dX12_key_80 ?_
                      refine lv_iload_n hx hb dX12_key_82 rfl (lv_at hl 2 rfl) ?_
                      refine lv_iload hx hb dX12_key_83 (lv_at hl 5 rfl) ?_
                      refine lv_iadd hx hb dX12_key_85 ?_
                      refine W.eq (g2 := F0 m 86 ls [.int (nI (13 + i_511)), .ref (adK 3)]) (congrArg (fun z : Int32 => F0 m 86 ls (.int z :: [.ref (adK 3)])) (nI_add 13 i_511)) ?_
                      refine vp_callSi (va_Run.run (va_runV (As := [.int (nI (13 + i_511))]) (rest := []) ⟨hx, hb, hml, hown, noTs⟩ (s_J0_charAt l adK adV 3 (13 + i_511) (by decide) (by show _ < 18; omega)) ⟨cbE 1 (wd_498 hE) (wd_129 hE) (wd_1528 hE) rfl rfl (by decide +kernel) ⟨Nat.le_of_ble_eq_true rfl, Nat.le_of_ble_eq_true rfl⟩, (wd_496 hE), (wd_497 hE)⟩ ⟨PS.blind, vk_recv hX.1 (by decide) hS, ps_pre (av := [.ref (adK 3), .int (nI (13 + i_511))]) hX hS hE⟩ rfl rfl hl.1 rfl (lv_room (Nat.le_of_ble_eq_true rfl)) dX12_key_86 ⟨Nat.le_of_ble_eq_true rfl, Nat.le_of_ble_eq_true rfl⟩)) (fun r520 hr520 => ?_)
                      refine lv_aload_n hx hb dX12_key_89 rfl (lv_at hl 0 rfl) ?_
                      refine lv_aload_n hx hb dX12_key_90 rfl (lv_at hl 0 rfl) ?_
                      refine r_get (v := .int (nI (fN u 13))) hx hb (ly_X12 hE) hown hK hP rfl 13 (by decide) (wd_1394 hE) (fun _ h9 => h9) (congrArg (fun z : Int32 => some (Value.int z)) hp0.1) dX12_key_91 ?_
                      refine lv_iload hx hb dX12_key_94 (lv_at hl 5 rfl) ?_
                      refine lv_iadd hx hb dX12_key_96 ?_
                      refine W.eq (g2 := F0 m 97 ls [.int (nI ((fN u 13) + i_511)), .ref (b 0), .int r520]) (congrArg (fun z : Int32 => F0 m 97 ls (.int z :: [.ref (b 0), .int r520])) (nI_add (fN u 13) i_511)) ?_
                      refine vp_callSi (va_Run.run (va_runV (As := [.int (nI ((fN u 13) + i_511))]) (rest := [.int r520]) ⟨hx, hb, hml, hown, noTs⟩ (r_X12_byteAt l dC dI s.heap.size cs b u tx hAc16 ((fN u 13) + i_511) sz1 hF11 (by first | assumption | omega | rfl | (congr 1; omega)) (by first | assumption | omega | rfl | (congr 1; omega))) ⟨cbE 1 (wd_1510 hE) (wd_126 hE) (wd_1507 hE) rfl rfl (by decide +kernel) ⟨Nat.le_of_ble_eq_true rfl, Nat.le_of_ble_eq_true rfl⟩, (wd_1509 hE), (wd_57 hE)⟩ ⟨PR.blind, r_recv hK hP rfl, (r_pre (av := [.ref (b 0), .int (nI ((fN u 13) + i_511))]) hK hP hJ hE)⟩ rfl rfl hl.1 rfl (lv_room (Nat.le_of_ble_eq_true rfl)) dX12_key_97 ⟨Nat.le_of_ble_eq_true rfl, Nat.le_of_ble_eq_true rfl⟩)) (fun r521 hr521 => ?_)
                      subst hr521
                      have htf521 := bA_f tx sz1 ((fN u 13) + i_511)
                      refine lv_icmp_ne (tgt := 107) hx hb dX12_key_100 (by decide) (fun c522 => ?_) (fun c522 => ?_)
                      · have c522 := mt (b_eq (rfl : Int32.toInt r520 = _) (rfl : Int32.toInt (bA tx sz1 ((fN u 13) + i_511)) = _)).mpr c522
                        refine lv_iconst (v := 0) hx hb dX12_key_107 (by decide) ?_
                        refine lv_istore (lv' := [(4, .int 0), (0, .ref (b 0)), (1, .int 2), (2, .int 13), (3, .int 17), (5, .int (nI i_511))]) hx hb dX12_key_108 hl (by decide) rfl (fun ls hl => ?_)
                        refine lv_iinc (v := nI (i_511 + 1)) (lv' := [(5, .int (nI (i_511 + 1))), (4, .int 0), (0, .ref (b 0)), (1, .int 2), (2, .int 13), (3, .int 17)]) hx hb dX12_key_110 hl (k := 5) rfl (nI_1 i_511) (by decide) rfl (fun ls hl => ?_)
                        refine lv_goto (tgt := 67) hx hb dX12_key_113 (by decide) ?_
                        exact ih511 _ _ (by omega) ⟨(i_511 + 1), 0, rfl, (by first | assumption | omega | rfl | (congr 1; omega)), lv_sub hl [2, 3, 4, 5, 1, 0] rfl⟩
                      · have c522 := (b_eq (rfl : Int32.toInt r520 = _) (rfl : Int32.toInt (bA tx sz1 ((fN u 13) + i_511)) = _)).mp c522
                        refine lv_iconst (v := 1) hx hb dX12_key_103 (by decide) ?_
                        refine lv_goto (tgt := 108) hx hb dX12_key_104 (by decide) ?_
                        refine lv_istore (lv' := [(4, .int 1), (0, .ref (b 0)), (1, .int 2), (2, .int 13), (3, .int 17), (5, .int (nI i_511))]) hx hb dX12_key_108 hl (by decide) rfl (fun ls hl => ?_)
                        refine lv_iinc (v := nI (i_511 + 1)) (lv' := [(5, .int (nI (i_511 + 1))), (4, .int 1), (0, .ref (b 0)), (1, .int 2), (2, .int 13), (3, .int 17)]) hx hb dX12_key_110 hl (k := 5) rfl (nI_1 i_511) (by decide) rfl (fun ls hl => ?_)
                        refine lv_goto (tgt := 67) hx hb dX12_key_113 (by decide) ?_
                        exact ih511 _ _ (by omega) ⟨(i_511 + 1), 1, rfl, (by first | assumption | omega | rfl | (congr 1; omega)), lv_sub hl [2, 3, 4, 5, 1, 0] rfl⟩
              · have c485 := mt (b_eq (rfl : Int32.toInt x1_483 = _) (show Int32.toInt 0 = 0 from rfl)).mpr c485
                refine lv_iload_n hx hb dX12_key_121 rfl (lv_at hl 1 rfl) ?_
                exact W.iret (v := 1) hx hb hr (fun t ht hW => ⟨1, rfl, trivial, ht⟩) (fun _ h => absurd h List.not_mem_nil) dX12_key_122
            · have c484 := mt (b_le (show Int32.toInt 4 = 4 from rfl) (nI_toInt (n := i_483) (by omega))).mpr c484
              refine lv_iload hx hb dX12_key_75 (lv_at hl 4 rfl) ?_
              refine lv_if_eq (tgt := 116) hx hb dX12_key_77 (by decide) (fun c523 => ?_) (fun c523 => ?_)
              · have c523 := (b_eq (rfl : Int32.toInt x1_483 = _) (show Int32.toInt 0 = 0 from rfl)).mp c523
                refine lv_iload hx hb dX12_key_116 (lv_at hl 4 rfl) ?_
                refine lv_if_eq (tgt := 123) hx hb dX12_key_118 (by decide) (fun c524 => ?_) (fun c524 => ?_)
                · have c524 := (b_eq (rfl : Int32.toInt x1_483 = _) (show Int32.toInt 0 = 0 from rfl)).mp c524
                  refine lv_iinc (v := 2) (lv' := [(1, .int 2), (0, .ref (b 0)), (2, .int 8), (3, .int 12), (4, .int x1_483), (5, .int (nI i_483))]) hx hb dX12_key_123 hl (k := 1) rfl (by decide) (by decide) rfl (fun ls hl => ?_)
                  refine lv_iload_n hx hb dX12_key_126 rfl (lv_at hl 3 rfl) ?_
                  refine lv_iconst (v := 1) hx hb dX12_key_127 (by decide) ?_
                  refine lv_iadd hx hb dX12_key_128 ?_
                  refine W.eq (g2 := F0 m 129 ls [.int 13]) rfl ?_
                  refine lv_istore_n (lv' := [(2, .int 13), (1, .int 2), (0, .ref (b 0)), (3, .int 12), (4, .int x1_483), (5, .int (nI i_483))]) hx hb dX12_key_129 rfl hl (by decide) rfl (fun ls hl => ?_)
                  refine lv_goto (tgt := 14) hx hb dX12_key_130 (by decide) ?_
                  refine lv_iload_n hx hb dX12_key_14 rfl (lv_at hl 0 rfl) ?_
                  refine va_ldcS hx hb hown hZ dX12_key_15 ?_
                  refine vp_callSi (va_Run.run (va_runV (As := []) (rest := [.int 13]) ⟨hx, hb, hml, hown, noTs⟩ (s_J0_length l adK adV 3 (by decide)) ⟨cbE 0 (wd_488 hE) (wd_129 hE) (wd_1527 hE) rfl rfl (by decide +kernel) ⟨Nat.le_of_ble_eq_true rfl, Nat.le_of_ble_eq_true rfl⟩, (wd_486 hE), (wd_487 hE)⟩ ⟨PS.blind, vk_recv hX.1 (by decide) hS, ps_pre (av := [.ref (adK 3)]) hX hS hE⟩ rfl rfl hl.1 rfl (lv_room (Nat.le_of_ble_eq_true rfl)) dX12_key_17 ⟨Nat.le_of_ble_eq_true rfl, Nat.le_of_ble_eq_true rfl⟩)) (fun r525 hr525 => ?_)
                  have hr525 : r525 = 18 := hr525
                  subst hr525
                  refine lv_icmp_ge (tgt := 133) hx hb dX12_key_20 (by decide) (fun c526 => absurd c526 (by decide)) (fun c526 => ?_)
                  refine lv_iload_n hx hb dX12_key_23 rfl (lv_at hl 0 rfl) ?_
                  refine lv_istore_n (lv' := [(3, .int 13), (2, .int 13), (1, .int 2), (0, .ref (b 0)), (4, .int x1_483), (5, .int (nI i_483))]) hx hb dX12_key_24 rfl hl (by decide) rfl (fun ls hl => ?_)
                  refine va_ldcS hx hb hown hZ dX12_key_25 ?_
                  refine lv_iload_n hx hb dX12_key_27 rfl (lv_at hl 0 rfl) ?_
                  refine vp_callSi (va_Run.run (va_runV (As := [.int (nI 13)]) (rest := []) ⟨hx, hb, hml, hown, noTs⟩ (s_J0_charAt l adK adV 3 13 (by decide) (by show _ < 18; omega)) ⟨cbE 1 (wd_498 hE) (wd_129 hE) (wd_1528 hE) rfl rfl (by decide +kernel) ⟨Nat.le_of_ble_eq_true rfl, Nat.le_of_ble_eq_true rfl⟩, (wd_496 hE), (wd_497 hE)⟩ ⟨PS.blind, vk_recv hX.1 (by decide) hS, ps_pre (av := [.ref (adK 3), .int (nI 13)]) hX hS hE⟩ rfl rfl hl.1 rfl (lv_room (Nat.le_of_ble_eq_true rfl)) dX12_key_28 ⟨Nat.le_of_ble_eq_true rfl, Nat.le_of_ble_eq_true rfl⟩)) (fun r527 hr527 => ?_)
                  have hr527 : r527 = 119 := hr527.trans (by decide)
                  subst hr527
                  refine lv_bipush (v := 32) hx hb dX12_key_31 (by decide) ?_
                  refine lv_icmp_eq (tgt := 42) hx hb dX12_key_33 (by decide) (fun c528 => absurd c528 (by decide)) (fun c528 => ?_)
                  refine lv_iinc (v := 14) (lv' := [(3, .int 14), (2, .int 13), (1, .int 2), (0, .ref (b 0)), (4, .int x1_483), (5, .int (nI i_483))]) hx hb dX12_key_36 hl (k := 0) rfl (by decide) (by decide) rfl (fun ls hl => ?_)
                  refine lv_goto (tgt := 25) hx hb dX12_key_39 (by decide) ?_
                  refine va_ldcS hx hb hown hZ dX12_key_25 ?_
                  refine lv_iload_n hx hb dX12_key_27 rfl (lv_at hl 0 rfl) ?_
                  refine vp_callSi (va_Run.run (va_runV (As := [.int (nI 14)]) (rest := []) ⟨hx, hb, hml, hown, noTs⟩ (s_J0_charAt l adK adV 3 14 (by decide) (by show _ < 18; omega)) ⟨cbE 1 (wd_498 hE) (wd_129 hE) (wd_1528 hE) rfl rfl (by decide +kernel) ⟨Nat.le_of_ble_eq_true rfl, Nat.le_of_ble_eq_true rfl⟩, (wd_496 hE), (wd_497 hE)⟩ ⟨PS.blind, vk_recv hX.1 (by decide) hS, ps_pre (av := [.ref (adK 3), .int (nI 14)]) hX hS hE⟩ rfl rfl hl.1 rfl (lv_room (Nat.le_of_ble_eq_true rfl)) dX12_key_28 ⟨Nat.le_of_ble_eq_true rfl, Nat.le_of_ble_eq_true rfl⟩)) (fun r529 hr529 => ?_)
                  have hr529 : r529 = 111 := hr529.trans (by decide)
                  subst hr529
                  refine lv_bipush (v := 32) hx hb dX12_key_31 (by decide) ?_
                  refine lv_icmp_eq (tgt := 42) hx hb dX12_key_33 (by decide) (fun c530 => absurd c530 (by decide)) (fun c530 => ?_)
                  refine lv_iinc (v := 15) (lv' := [(3, .int 15), (2, .int 13), (1, .int 2), (0, .ref (b 0)), (4, .int x1_483), (5, .int (nI i_483))]) hx hb dX12_key_36 hl (k := 0) rfl (by decide) (by decide) rfl (fun ls hl => ?_)
                  refine lv_goto (tgt := 25) hx hb dX12_key_39 (by decide) ?_
                  refine va_ldcS hx hb hown hZ dX12_key_25 ?_
                  refine lv_iload_n hx hb dX12_key_27 rfl (lv_at hl 0 rfl) ?_
                  refine vp_callSi (va_Run.run (va_runV (As := [.int (nI 15)]) (rest := []) ⟨hx, hb, hml, hown, noTs⟩ (s_J0_charAt l adK adV 3 15 (by decide) (by show _ < 18; omega)) ⟨cbE 1 (wd_498 hE) (wd_129 hE) (wd_1528 hE) rfl rfl (by decide +kernel) ⟨Nat.le_of_ble_eq_true rfl, Nat.le_of_ble_eq_true rfl⟩, (wd_496 hE), (wd_497 hE)⟩ ⟨PS.blind, vk_recv hX.1 (by decide) hS, ps_pre (av := [.ref (adK 3), .int (nI 15)]) hX hS hE⟩ rfl rfl hl.1 rfl (lv_room (Nat.le_of_ble_eq_true rfl)) dX12_key_28 ⟨Nat.le_of_ble_eq_true rfl, Nat.le_of_ble_eq_true rfl⟩)) (fun r531 hr531 => ?_)
                  have hr531 : r531 = 114 := hr531.trans (by decide)
                  subst hr531
                  refine lv_bipush (v := 32) hx hb dX12_key_31 (by decide) ?_
                  refine lv_icmp_eq (tgt := 42) hx hb dX12_key_33 (by decide) (fun c532 => absurd c532 (by decide)) (fun c532 => ?_)
                  refine lv_iinc (v := 16) (lv' := [(3, .int 16), (2, .int 13), (1, .int 2), (0, .ref (b 0)), (4, .int x1_483), (5, .int (nI i_483))]) hx hb dX12_key_36 hl (k := 0) rfl (by decide) (by decide) rfl (fun ls hl => ?_)
                  refine lv_goto (tgt := 25) hx hb dX12_key_39 (by decide) ?_
                  refine va_ldcS hx hb hown hZ dX12_key_25 ?_
                  refine lv_iload_n hx hb dX12_key_27 rfl (lv_at hl 0 rfl) ?_
                  refine vp_callSi (va_Run.run (va_runV (As := [.int (nI 16)]) (rest := []) ⟨hx, hb, hml, hown, noTs⟩ (s_J0_charAt l adK adV 3 16 (by decide) (by show _ < 18; omega)) ⟨cbE 1 (wd_498 hE) (wd_129 hE) (wd_1528 hE) rfl rfl (by decide +kernel) ⟨Nat.le_of_ble_eq_true rfl, Nat.le_of_ble_eq_true rfl⟩, (wd_496 hE), (wd_497 hE)⟩ ⟨PS.blind, vk_recv hX.1 (by decide) hS, ps_pre (av := [.ref (adK 3), .int (nI 16)]) hX hS hE⟩ rfl rfl hl.1 rfl (lv_room (Nat.le_of_ble_eq_true rfl)) dX12_key_28 ⟨Nat.le_of_ble_eq_true rfl, Nat.le_of_ble_eq_true rfl⟩)) (fun r533 hr533 => ?_)
                  have hr533 : r533 = 100 := hr533.trans (by decide)
                  subst hr533
                  refine lv_bipush (v := 32) hx hb dX12_key_31 (by decide) ?_
                  refine lv_icmp_eq (tgt := 42) hx hb dX12_key_33 (by decide) (fun c534 => absurd c534 (by decide)) (fun c534 => ?_)
                  refine lv_iinc (v := 17) (lv' := [(3, .int 17), (2, .int 13), (1, .int 2), (0, .ref (b 0)), (4, .int x1_483), (5, .int (nI i_483))]) hx hb dX12_key_36 hl (k := 0) rfl (by decide) (by decide) rfl (fun ls hl => ?_)
                  refine lv_goto (tgt := 25) hx hb dX12_key_39 (by decide) ?_
                  refine va_ldcS hx hb hown hZ dX12_key_25 ?_
                  refine lv_iload_n hx hb dX12_key_27 rfl (lv_at hl 0 rfl) ?_
                  refine vp_callSi (va_Run.run (va_runV (As := [.int (nI 17)]) (rest := []) ⟨hx, hb, hml, hown, noTs⟩ (s_J0_charAt l adK adV 3 17 (by decide) (by show _ < 18; omega)) ⟨cbE 1 (wd_498 hE) (wd_129 hE) (wd_1528 hE) rfl rfl (by decide +kernel) ⟨Nat.le_of_ble_eq_true rfl, Nat.le_of_ble_eq_true rfl⟩, (wd_496 hE), (wd_497 hE)⟩ ⟨PS.blind, vk_recv hX.1 (by decide) hS, ps_pre (av := [.ref (adK 3), .int (nI 17)]) hX hS hE⟩ rfl rfl hl.1 rfl (lv_room (Nat.le_of_ble_eq_true rfl)) dX12_key_28 ⟨Nat.le_of_ble_eq_true rfl, Nat.le_of_ble_eq_true rfl⟩)) (fun r535 hr535 => ?_)
                  have hr535 : r535 = 32 := hr535.trans (by decide)
                  subst hr535
                  refine lv_bipush (v := 32) hx hb dX12_key_31 (by decide) ?_
                  refine lv_icmp_eq (tgt := 42) hx hb dX12_key_33 (by decide) (fun c536 => ?_) (fun c536 => absurd c536 (by decide))
                  refine lv_iload_n hx hb dX12_key_42 rfl (lv_at hl 0 rfl) ?_
                  refine lv_iload_n hx hb dX12_key_43 rfl (lv_at hl 1 rfl) ?_
                  refine lv_isub hx hb dX12_key_44 ?_
                  refine W.eq (g2 := F0 m 45 ls [.int 4]) rfl ?_
                  refine lv_aload_n hx hb dX12_key_45 rfl (lv_at hl 3 rfl) ?_
                  refine r_get (v := .int (nI (fN u 14))) hx hb (ly_X12 hE) hown hK hP rfl 14 (by decide) (wd_1395 hE) (fun _ h9 => h9) (congrArg (fun z : Int32 => some (Value.int z)) hp0.2.1) dX12_key_46 ?_
                  refine lv_aload_n hx hb dX12_key_49 rfl (lv_at hl 3 rfl) ?_
                  refine r_get (v := .int (nI (fN u 13))) hx hb (ly_X12 hE) hown hK hP rfl 13 (by decide) (wd_1394 hE) (fun _ h9 => h9) (congrArg (fun z : Int32 => some (Value.int z)) hp0.1) dX12_key_50 ?_
                  refine lv_isub hx hb dX12_key_53 ?_
                  refine W.eq (g2 := F0 m 54 ls [.int (nI ((fN u 14) - (fN u 13))), .int 4]) (congrArg (fun z : Int32 => F0 m 54 ls (.int z :: [.int 4])) (pk_sub (a := fN u 14) (b := fN u 13) (by omega))) ?_
                  refine lv_icmp_ne (tgt := 61) hx hb dX12_key_54 (by decide) (fun c537 => ?_) (fun c537 => ?_)
                  · have c537 := mt (b_eq (show Int32.toInt 4 = 4 from rfl) (nI_toInt (n := (fN u 14) - (fN u 13)) (by omega))).mpr c537
                    refine lv_iconst (v := 0) hx hb dX12_key_61 (by decide) ?_
                    refine lv_istore (lv' := [(4, .int 0), (3, .int 17), (2, .int 13), (1, .int 2), (0, .ref (b 0)), (5, .int (nI i_483))]) hx hb dX12_key_62 hl (by decide) rfl (fun ls hl => ?_)
                    refine lv_iconst (v := 0) hx hb dX12_key_64 (by decide) ?_
                    refine lv_istore (lv' := [(5, .int 0), (4, .int 0), (3, .int 17), (2, .int 13), (1, .int 2), (0, .ref (b 0))]) hx hb dX12_key_65 hl (by decide) rfl (fun ls hl => ?_)
                    refine r_indP (I := fun n ls => ∃ (i_538 : Nat) (x1_538 : Int32), n = 17 - 13 - i_538 ∧ (i_538 ≤ 17 - 13) ∧ lv_has ls 6 [(0, .ref (b 0)), (1, .int 2), (2, .int 13), (3, .int 17), (4, .int x1_538), (5, .int (nI i_538))]) (fun n ls hI ih538 => ?_) _ _ ⟨0, 0, rfl, (by first | assumption | omega | rfl | (congr 1; omega)), lv_sub hl [5, 4, 3, 2, 1, 0] rfl⟩
                    obtain ⟨i_538, x1_538, hmu538, hL538_0, hl⟩ := hI
                    subst hmu538
                    refine lv_iload hx hb dX12_key_67 (lv_at hl 5 rfl) ?_
                    refine lv_iload_n hx hb dX12_key_69 rfl (lv_at hl 3 rfl) ?_
                    refine lv_iload_n hx hb dX12_key_70 rfl (lv_at hl 2 rfl) ?_
                    refine lv_isub hx hb dX12_key_71 ?_
                    refine W.eq (g2 := F0 m 72 ls [.int 4, .int (nI i_538)]) rfl ?_
                    refine lv_icmp_ge (tgt := 116) hx hb dX12_key_72 (by decide) (fun c539 => ?_) (fun c539 => ?_)
                    · have c539 := (b_le (show Int32.toInt 4 = 4 from rfl) (nI_toInt (n := i_538) (by omega))).mp c539
                      refine lv_iload hx hb dX12_key_116 (lv_at hl 4 rfl) ?_
                      refine lv_if_eq (tgt := 123) hx hb dX12_key_118 (by decide) (fun c540 => ?_) (fun c540 => ?_)
                      · have c540 := (b_eq (rfl : Int32.toInt x1_538 = _) (show Int32.toInt 0 = 0 from rfl)).mp c540
                        refine lv_iinc (v := 3) (lv' := [(1, .int 3), (0, .ref (b 0)), (2, .int 13), (3, .int 17), (4, .int x1_538), (5, .int (nI i_538))]) hx hb dX12_key_123 hl (k := 1) rfl (by decide) (by decide) rfl (fun ls hl => ?_)
                        refine lv_iload_n hx hb dX12_key_126 rfl (lv_at hl 3 rfl) ?_
                        refine lv_iconst (v := 1) hx hb dX12_key_127 (by decide) ?_
                        refine lv_iadd hx hb dX12_key_128 ?_
                        refine W.eq (g2 := F0 m 129 ls [.int 18]) rfl ?_
                        refine lv_istore_n (lv' := [(2, .int 18), (1, .int 3), (0, .ref (b 0)), (3, .int 17), (4, .int x1_538), (5, .int (nI i_538))]) hx hb dX12_key_129 rfl hl (by decide) rfl (fun ls hl => ?_)
                        refine lv_goto (tgt := 14) hx hb dX12_key_130 (by decide) ?_
                        refine lv_iload_n hx hb dX12_key_14 rfl (lv_at hl 0 rfl) ?_
                        refine va_ldcS hx hb hown hZ dX12_key_15 ?_
                        refine vp_callSi (va_Run.run (va_runV (As := []) (rest := [.int 18]) ⟨hx, hb, hml, hown, noTs⟩ (s_J0_length l adK adV 3 (by decide)) ⟨cbE 0 (wd_488 hE) (wd_129 hE) (wd_1527 hE) rfl rfl (by decide +kernel) ⟨Nat.le_of_ble_eq_true rfl, Nat.le_of_ble_eq_true rfl⟩, (wd_486 hE), (wd_487 hE)⟩ ⟨PS.blind, vk_recv hX.1 (by decide) hS, ps_pre (av := [.ref (adK 3)]) hX hS hE⟩ rfl rfl hl.1 rfl (lv_room (Nat.le_of_ble_eq_true rfl)) dX12_key_17 ⟨Nat.le_of_ble_eq_true rfl, Nat.le_of_ble_eq_true rfl⟩)) (fun r541 hr541 => ?_)
                        have hr541 : r541 = 18 := hr541
                        subst hr541
                        refine lv_icmp_ge (tgt := 133) hx hb dX12_key_20 (by decide) (fun c542 => ?_) (fun c542 => absurd c542 (by decide))
                        refine lv_iconst (v := -1) hx hb dX12_key_133 (by decide) ?_
                        exact W.iret (v := -1) hx hb hr (fun t ht hW => ⟨-1, rfl, trivial, ht⟩) (fun _ h => absurd h List.not_mem_nil) dX12_key_134
                      · have c540 := mt (b_eq (rfl : Int32.toInt x1_538 = _) (show Int32.toInt 0 = 0 from rfl)).mpr c540
                        refine lv_iload_n hx hb dX12_key_121 rfl (lv_at hl 1 rfl) ?_
                        exact W.iret (v := 2) hx hb hr (fun t ht hW => ⟨2, rfl, trivial, ht⟩) (fun _ h => absurd h List.not_mem_nil) dX12_key_122
                    · have c539 := mt (b_le (show Int32.toInt 4 = 4 from rfl) (nI_toInt (n := i_538) (by omega))).mpr c539
                      refine lv_iload hx hb dX12_key_75 (lv_at hl 4 rfl) ?_
                      refine lv_if_eq (tgt := 116) hx hb dX12_key_77 (by decide) (fun c543 => ?_) (fun c543 => ?_)
                      · have c543 := (b_eq (rfl : Int32.toInt x1_538 = _) (show Int32.toInt 0 = 0 from rfl)).mp c543
                        refine lv_iload hx hb dX12_key_116 (lv_at hl 4 rfl) ?_
                        refine lv_if_eq (tgt := 123) hx hb dX12_key_118 (by decide) (fun c544 => ?_) (fun c544 => ?_)
                        · have c544 := (b_eq (rfl : Int32.toInt x1_538 = _) (show Int32.toInt 0 = 0 from rfl)).mp c544
                          refine lv_iinc (v := 3) (lv' := [(1, .int 3), (0, .ref (b 0)), (2, .int 13), (3, .int 17), (4, .int x1_538), (5, .int (nI i_538))]) hx hb dX12_key_123 hl (k := 1) rfl (by decide) (by decide) rfl (fun ls hl => ?_)
                          refine lv_iload_n hx hb dX12_key_126 rfl (lv_at hl 3 rfl) ?_
                          refine lv_iconst (v := 1) hx hb dX12_key_127 (by decide) ?_
                          refine lv_iadd hx hb dX12_key_128 ?_
                          refine W.eq (g2 := F0 m 129 ls [.int 18]) rfl ?_
                          refine lv_istore_n (lv' := [(2, .int 18), (1, .int 3), (0, .ref (b 0)), (3, .int 17), (4, .int x1_538), (5, .int (nI i_538))]) hx hb dX12_key_129 rfl hl (by decide) rfl (fun ls hl => ?_)
                          refine lv_goto (tgt := 14) hx hb dX12_key_130 (by decide) ?_
                          refine lv_iload_n hx hb dX12_key_14 rfl (lv_at hl 0 rfl) ?_
                          refine va_ldcS hx hb hown hZ dX12_key_15 ?_
                          refine vp_callSi (va_Run.run (va_runV (As := []) (rest := [.int 18]) ⟨hx, hb, hml, hown, noTs⟩ (s_J0_length l adK adV 3 (by decide)) ⟨cbE 0 (wd_488 hE) (wd_129 hE) (wd_1527 hE) rfl rfl (by decide +kernel) ⟨Nat.le_of_ble_eq_true rfl, Nat.le_of_ble_eq_true rfl⟩, (wd_486 hE), (wd_487 hE)⟩ ⟨PS.blind, vk_recv hX.1 (by decide) hS, ps_pre (av := [.ref (adK 3)]) hX hS hE⟩ rfl rfl hl.1 rfl (lv_room (Nat.le_of_ble_eq_true rfl)) dX12_key_17 ⟨Nat.le_of_ble_eq_true rfl, Nat.le_of_ble_eq_true rfl⟩)) (fun r545 hr545 => ?_)
                          have hr545 : r545 = 18 := hr545
                          subst hr545
                          refine lv_icmp_ge (tgt := 133) hx hb dX12_key_20 (by decide) (fun c546 => ?_) (fun c546 => absurd c546 (by decide))
                          refine lv_iconst (v := -1) hx hb dX12_key_133 (by decide) ?_
                          exact W.iret (v := -1) hx hb hr (fun t ht hW => ⟨-1, rfl, trivial, ht⟩) (fun _ h => absurd h List.not_mem_nil) dX12_key_134
                        · have c544 := mt (b_eq (rfl : Int32.toInt x1_538 = _) (show Int32.toInt 0 = 0 from rfl)).mpr c544
                          refine lv_iload_n hx hb dX12_key_121 rfl (lv_at hl 1 rfl) ?_
                          exact W.iret (v := 2) hx hb hr (fun t ht hW => ⟨2, rfl, trivial, ht⟩) (fun _ h => absurd h List.not_mem_nil) dX12_key_122
                      · have c543 := mt (b_eq (rfl : Int32.toInt x1_538 = _) (show Int32.toInt 0 = 0 from rfl)).mpr c543
                        refine va_ldcS hx hb hown hZ dX12_key_80 ?_
                        refine lv_iload_n hx hb dX12_key_82 rfl (lv_at hl 2 rfl) ?_
                        refine lv_iload hx hb dX12_key_83 (lv_at hl 5 rfl) ?_
                        refine lv_iadd hx hb dX12_key_85 ?_
                        refine W.eq (g2 := F0 m 86 ls [.int (nI (13 + i_538)), .ref (adK 3)]) (congrArg (fun z : Int32 => F0 m 86 ls (.int z :: [.ref (adK 3)])) (nI_add 13 i_538)) ?_
                        refine vp_callSi (va_Run.run (va_runV (As := [.int (nI (13 + i_538))]) (rest := []) ⟨hx, hb, hml, hown, noTs⟩ (s_J0_charAt l adK adV 3 (13 + i_538) (by decide) (by show _ < 18; omega)) ⟨cbE 1 (wd_498 hE) (wd_129 hE) (wd_1528 hE) rfl rfl (by decide +kernel) ⟨Nat.le_of_ble_eq_true rfl, Nat.le_of_ble_eq_true rfl⟩, (wd_496 hE), (wd_497 hE)⟩ ⟨PS.blind, vk_recv hX.1 (by decide) hS, ps_pre (av := [.ref (adK 3), .int (nI (13 + i_538))]) hX hS hE⟩ rfl rfl hl.1 rfl (lv_room (Nat.le_of_ble_eq_true rfl)) dX12_key_86 ⟨Nat.le_of_ble_eq_true rfl, Nat.le_of_ble_eq_true rfl⟩)) (fun r547 hr547 => ?_)
                        refine lv_aload_n hx hb dX12_key_89 rfl (lv_at hl 0 rfl) ?_
                        refine lv_aload_n hx hb dX12_key_90 rfl (lv_at hl 0 rfl) ?_
                        refine r_get (v := .int (nI (fN u 13))) hx hb (ly_X12 hE) hown hK hP rfl 13 (by decide) (wd_1394 hE) (fun _ h9 => h9) (congrArg (fun z : Int32 => some (Value.int z)) hp0.1) dX12_key_91 ?_
                        refine lv_iload hx hb dX12_key_94 (lv_at hl 5 rfl) ?_
                        refine lv_iadd hx hb dX12_key_96 ?_
                        refine W.eq (g2 := F0 m 97 ls [.int (nI ((fN u 13) + i_538)), .ref (b 0), .int r547]) (congrArg (fun z : Int32 => F0 m 97 ls (.int z :: [.ref (b 0), .int r547])) (nI_add (fN u 13) i_538)) ?_
                        refine vp_callSi (va_Run.run (va_runV (As := [.int (nI ((fN u 13) + i_538))]) (rest := [.int r547]) ⟨hx, hb, hml, hown, noTs⟩ (r_X12_byteAt l dC dI s.heap.size cs b u tx hAc16 ((fN u 13) + i_538) sz1 hF11 (by first | assumption | omega | rfl | (congr 1; omega)) (by first | assumption | omega | rfl | (congr 1; omega))) ⟨cbE 1 (wd_1510 hE) (wd_126 hE) (wd_1507 hE) rfl rfl (by decide +kernel) ⟨Nat.le_of_ble_eq_true rfl, Nat.le_of_ble_eq_true rfl⟩, (wd_1509 hE), (wd_57 hE)⟩ ⟨PR.blind, r_recv hK hP rfl, (r_pre (av := [.ref (b 0), .int (nI ((fN u 13) + i_538))]) hK hP hJ hE)⟩ rfl rfl hl.1 rfl (lv_room (Nat.le_of_ble_eq_true rfl)) dX12_key_97 ⟨Nat.le_of_ble_eq_true rfl, Nat.le_of_ble_eq_true rfl⟩)) (fun r548 hr548 => ?_)
                        subst hr548
                        have htf548 := bA_f tx sz1 ((fN u 13) + i_538)
                        refine lv_icmp_ne (tgt := 107) hx hb dX12_key_100 (by decide) (fun c549 => ?_) (fun c549 => ?_)
                        · have c549 := mt (b_eq (rfl : Int32.toInt r547 = _) (rfl : Int32.toInt (bA tx sz1 ((fN u 13) + i_538)) = _)).mpr c549
                          refine lv_iconst (v := 0) hx hb dX12_key_107 (by decide) ?_
                          refine lv_istore (lv' := [(4, .int 0), (0, .ref (b 0)), (1, .int 2), (2, .int 13), (3, .int 17), (5, .int (nI i_538))]) hx hb dX12_key_108 hl (by decide) rfl (fun ls hl => ?_)
                          refine lv_iinc (v := nI (i_538 + 1)) (lv' := [(5, .int (nI (i_538 + 1))), (4, .int 0), (0, .ref (b 0)), (1, .int 2), (2, .int 13), (3, .int 17)]) hx hb dX12_key_110 hl (k := 5) rfl (nI_1 i_538) (by decide) rfl (fun ls hl => ?_)
                          refine lv_goto (tgt := 67) hx hb dX12_key_113 (by decide) ?_
                          exact ih538 _ _ (by omega) ⟨(i_538 + 1), 0, rfl, (by first | assumption | omega | rfl | (congr 1; omega)), lv_sub hl [2, 3, 4, 5, 1, 0] rfl⟩
                        · have c549 := (b_eq (rfl : Int32.toInt r547 = _) (rfl : Int32.toInt (bA tx sz1 ((fN u 13) + i_538)) = _)).mp c549
                          refine lv_iconst (v := 1) hx hb dX12_key_103 (by decide) ?_
                          refine lv_goto (tgt := 108) hx hb dX12_key_104 (by decide) ?_
                          refine lv_istore (lv' := [(4, .int 1), (0, .ref (b 0)), (1, .int 2), (2, .int 13), (3, .int 17), (5, .int (nI i_538))]) hx hb dX12_key_108 hl (by decide) rfl (fun ls hl => ?_)
                          refine lv_iinc (v := nI (i_538 + 1)) (lv' := [(5, .int (nI (i_538 + 1))), (4, .int 1), (0, .ref (b 0)), (1, .int 2), (2, .int 13), (3, .int 17)]) hx hb dX12_key_110 hl (k := 5) rfl (nI_1 i_538) (by decide) rfl (fun ls hl => ?_)
                          refine lv_goto (tgt := 67) hx hb dX12_key_113 (by decide) ?_
                          exact ih538 _ _ (by omega) ⟨(i_538 + 1), 1, rfl, (by first | assumption | omega | rfl | (congr 1; omega)), lv_sub hl [2, 3, 4, 5, 1, 0] rfl⟩
                  · have c537 := (b_eq (show Int32.toInt 4 = 4 from rfl) (nI_toInt (n := (fN u 14) - (fN u 13)) (by omega))).mp c537
                    refine lv_iconst (v := 1) hx hb dX12_key_57 (by decide) ?_
                    refine lv_goto (tgt := 62) hx hb dX12_key_58 (by decide) ?_
                    refine lv_istore (lv' := [(4, .int 1), (3, .int 17), (2, .int 13), (1, .int 2), (0, .ref (b 0)), (5, .int (nI i_483))]) hx hb dX12_key_62 hl (by decide) rfl (fun ls hl => ?_)
                    refine lv_iconst (v := 0) hx hb dX12_key_64 (by decide) ?_
                    refine lv_istore (lv' := [(5, .int 0), (4, .int 1), (3, .int 17), (2, .int 13), (1, .int 2), (0, .ref (b 0))]) hx hb dX12_key_65 hl (by decide) rfl (fun ls hl => ?_)
                    refine r_indP (I := fun n ls => ∃ (i_550 : Nat) (x1_550 : Int32), n = 17 - 13 - i_550 ∧ (i_550 ≤ 17 - 13) ∧ lv_has ls 6 [(0, .ref (b 0)), (1, .int 2), (2, .int 13), (3, .int 17), (4, .int x1_550), (5, .int (nI i_550))]) (fun n ls hI ih550 => ?_) _ _ ⟨0, 1, rfl, (by first | assumption | omega | rfl | (congr 1; omega)), lv_sub hl [5, 4, 3, 2, 1, 0] rfl⟩
                    obtain ⟨i_550, x1_550, hmu550, hL550_0, hl⟩ := hI
                    subst hmu550
                    refine lv_iload hx hb dX12_key_67 (lv_at hl 5 rfl) ?_
                    refine lv_iload_n hx hb dX12_key_69 rfl (lv_at hl 3 rfl) ?_
                    refine lv_iload_n hx hb dX12_key_70 rfl (lv_at hl 2 rfl) ?_
                    refine lv_isub hx hb dX12_key_71 ?_
                    refine W.eq (g2 := F0 m 72 ls [.int 4, .int (nI i_550)]) rfl ?_
                    refine lv_icmp_ge (tgt := 116) hx hb dX12_key_72 (by decide) (fun c551 => ?_) (fun c551 => ?_)
                    · have c551 := (b_le (show Int32.toInt 4 = 4 from rfl) (nI_toInt (n := i_550) (by omega))).mp c551
                      refine lv_iload hx hb dX12_key_116 (lv_at hl 4 rfl) ?_
                      refine lv_if_eq (tgt := 123) hx hb dX12_key_118 (by decide) (fun c552 => ?_) (fun c552 => ?_)
                      · have c552 := (b_eq (rfl : Int32.toInt x1_550 = _) (show Int32.toInt 0 = 0 from rfl)).mp c552
                        refine lv_iinc (v := 3) (lv' := [(1, .int 3), (0, .ref (b 0)), (2, .int 13), (3, .int 17), (4, .int x1_550), (5, .int (nI i_550))]) hx hb dX12_key_123 hl (k := 1) rfl (by decide) (by decide) rfl (fun ls hl => ?_)
                        refine lv_iload_n hx hb dX12_key_126 rfl (lv_at hl 3 rfl) ?_
                        refine lv_iconst (v := 1) hx hb dX12_key_127 (by decide) ?_
                        refine lv_iadd hx hb dX12_key_128 ?_
                        refine W.eq (g2 := F0 m 129 ls [.int 18]) rfl ?_
                        refine lv_istore_n (lv' := [(2, .int 18), (1, .int 3), (0, .ref (b 0)), (3, .int 17), (4, .int x1_550), (5, .int (nI i_550))]) hx hb dX12_key_129 rfl hl (by decide) rfl (fun ls hl => ?_)
                        refine lv_goto (tgt := 14) hx hb dX12_key_130 (by decide) ?_
                        refine lv_iload_n hx hb dX12_key_14 rfl (lv_at hl 0 rfl) ?_
                        refine va_ldcS hx hb hown hZ dX12_key_15 ?_
                        refine vp_callSi (va_Run.run (va_runV (As := []) (rest := [.int 18]) ⟨hx, hb, hml, hown, noTs⟩ (s_J0_length l adK adV 3 (by decide)) ⟨cbE 0 (wd_488 hE) (wd_129 hE) (wd_1527 hE) rfl rfl (by decide +kernel) ⟨Nat.le_of_ble_eq_true rfl, Nat.le_of_ble_eq_true rfl⟩, (wd_486 hE), (wd_487 hE)⟩ ⟨PS.blind, vk_recv hX.1 (by decide) hS, ps_pre (av := [.ref (adK 3)]) hX hS hE⟩ rfl rfl hl.1 rfl (lv_room (Nat.le_of_ble_eq_true rfl)) dX12_key_17 ⟨Nat.le_of_ble_eq_true rfl, Nat.le_of_ble_eq_true rfl⟩)) (fun r553 hr553 => ?_)
                        have hr553 : r553 = 18 := hr553
                        subst hr553
                        refine lv_icmp_ge (tgt := 133) hx hb dX12_key_20 (by decide) (fun c554 => ?_) (fun c554 => absurd c554 (by decide))
                        refine lv_iconst (v := -1) hx hb dX12_key_133 (by decide) ?_
                        exact W.iret (v := -1) hx hb hr (fun t ht hW => ⟨-1, rfl, trivial, ht⟩) (fun _ h => absurd h List.not_mem_nil) dX12_key_134
                      · have c552 := mt (b_eq (rfl : Int32.toInt x1_550 = _) (show Int32.toInt 0 = 0 from rfl)).mpr c552
                        refine lv_iload_n hx hb dX12_key_121 rfl (lv_at hl 1 rfl) ?_
                        exact W.iret (v := 2) hx hb hr (fun t ht hW => ⟨2, rfl, trivial, ht⟩) (fun _ h => absurd h List.not_mem_nil) dX12_key_122
                    · have c551 := mt (b_le (show Int32.toInt 4 = 4 from rfl) (nI_toInt (n := i_550) (by omega))).mpr c551
                      refine lv_iload hx hb dX12_key_75 (lv_at hl 4 rfl) ?_
                      refine lv_if_eq (tgt := 116) hx hb dX12_key_77 (by decide) (fun c555 => ?_) (fun c555 => ?_)
                      · have c555 := (b_eq (rfl : Int32.toInt x1_550 = _) (show Int32.toInt 0 = 0 from rfl)).mp c555
                        refine lv_iload hx hb dX12_key_116 (lv_at hl 4 rfl) ?_
                        refine lv_if_eq (tgt := 123) hx hb dX12_key_118 (by decide) (fun c556 => ?_) (fun c556 => ?_)
                        · have c556 := (b_eq (rfl : Int32.toInt x1_550 = _) (show Int32.toInt 0 = 0 from rfl)).mp c556
                          refine lv_iinc (v := 3) (lv' := [(1, .int 3), (0, .ref (b 0)), (2, .int 13), (3, .int 17), (4, .int x1_550), (5, .int (nI i_550))]) hx hb dX12_key_123 hl (k := 1) rfl (by decide) (by decide) rfl (fun ls hl => ?_)
                          refine lv_iload_n hx hb dX12_key_126 rfl (lv_at hl 3 rfl) ?_
                          refine lv_iconst (v := 1) hx hb dX12_key_127 (by decide) ?_
                          refine lv_iadd hx hb dX12_key_128 ?_
                          refine W.eq (g2 := F0 m 129 ls [.int 18]) rfl ?_
                          refine lv_istore_n (lv' := [(2, .int 18), (1, .int 3), (0, .ref (b 0)), (3, .int 17), (4, .int x1_550), (5, .int (nI i_550))]) hx hb dX12_key_129 rfl hl (by decide) rfl (fun ls hl => ?_)
                          refine lv_goto (tgt := 14) hx hb dX12_key_130 (by decide) ?_
                          refine lv_iload_n hx hb dX12_key_14 rfl (lv_at hl 0 rfl) ?_
                          refine va_ldcS hx hb hown hZ dX12_key_15 ?_
                          refine vp_callSi (va_Run.run (va_runV (As := []) (rest := [.int 18]) ⟨hx, hb, hml, hown, noTs⟩ (s_J0_length l adK adV 3 (by decide)) ⟨cbE 0 (wd_488 hE) (wd_129 hE) (wd_1527 hE) rfl rfl (by decide +kernel) ⟨Nat.le_of_ble_eq_true rfl, Nat.le_of_ble_eq_true rfl⟩, (wd_486 hE), (wd_487 hE)⟩ ⟨PS.blind, vk_recv hX.1 (by decide) hS, ps_pre (av := [.ref (adK 3)]) hX hS hE⟩ rfl rfl hl.1 rfl (lv_room (Nat.le_of_ble_eq_true rfl)) dX12_key_17 ⟨Nat.le_of_ble_eq_true rfl, Nat.le_of_ble_eq_true rfl⟩)) (fun r557 hr557 => ?_)
                          have hr557 : r557 = 18 := hr557
                          subst hr557
                          refine lv_icmp_ge (tgt := 133) hx hb dX12_key_20 (by decide) (fun c558 => ?_) (fun c558 => absurd c558 (by decide))
                          refine lv_iconst (v := -1) hx hb dX12_key_133 (by decide) ?_
                          exact W.iret (v := -1) hx hb hr (fun t ht hW => ⟨-1, rfl, trivial, ht⟩) (fun _ h => absurd h List.not_mem_nil) dX12_key_134
                        · have c556 := mt (b_eq (rfl : Int32.toInt x1_550 = _) (show Int32.toInt 0 = 0 from rfl)).mpr c556
                          refine lv_iload_n hx hb dX12_key_121 rfl (lv_at hl 1 rfl) ?_
                          exact W.iret (v := 2) hx hb hr (fun t ht hW => ⟨2, rfl, trivial, ht⟩) (fun _ h => absurd h List.not_mem_nil) dX12_key_122
                      · have c555 := mt (b_eq (rfl : Int32.toInt x1_550 = _) (show Int32.toInt 0 = 0 from rfl)).mpr c555
                        refine va_ldcS hx hb hown hZ dX12_key_80 ?_
                        refine lv_iload_n hx hb dX12_key_82 rfl (lv_at hl 2 rfl) ?_
                        refine lv_iload hx hb dX12_key_83 (lv_at hl 5 rfl) ?_
                        refine lv_iadd hx hb dX12_key_85 ?_
                        refine W.eq (g2 := F0 m 86 ls [.int (nI (13 + i_550)), .ref (adK 3)]) (congrArg (fun z : Int32 => F0 m 86 ls (.int z :: [.ref (adK 3)])) (nI_add 13 i_550)) ?_
                        refine vp_callSi (va_Run.run (va_runV (As := [.int (nI (13 + i_550))]) (rest := []) ⟨hx, hb, hml, hown, noTs⟩ (s_J0_charAt l adK adV 3 (13 + i_550) (by decide) (by show _ < 18; omega)) ⟨cbE 1 (wd_498 hE) (wd_129 hE) (wd_1528 hE) rfl rfl (by decide +kernel) ⟨Nat.le_of_ble_eq_true rfl, Nat.le_of_ble_eq_true rfl⟩, (wd_496 hE), (wd_497 hE)⟩ ⟨PS.blind, vk_recv hX.1 (by decide) hS, ps_pre (av := [.ref (adK 3), .int (nI (13 + i_550))]) hX hS hE⟩ rfl rfl hl.1 rfl (lv_room (Nat.le_of_ble_eq_true rfl)) dX12_key_86 ⟨Nat.le_of_ble_eq_true rfl, Nat.le_of_ble_eq_true rfl⟩)) (fun r559 hr559 => ?_)
                        refine lv_aload_n hx hb dX12_key_89 rfl (lv_at hl 0 rfl) ?_
                        refine lv_aload_n hx hb dX12_key_90 rfl (lv_at hl 0 rfl) ?_
                        refine r_get (v := .int (nI (fN u 13))) hx hb (ly_X12 hE) hown hK hP rfl 13 (by decide) (wd_1394 hE) (fun _ h9 => h9) (congrArg (fun z : Int32 => some (Value.int z)) hp0.1) dX12_key_91 ?_
                        refine lv_iload hx hb dX12_key_94 (lv_at hl 5 rfl) ?_
                        refine lv_iadd hx hb dX12_key_96 ?_
                        refine W.eq (g2 := F0 m 97 ls [.int (nI ((fN u 13) + i_550)), .ref (b 0), .int r559]) (congrArg (fun z : Int32 => F0 m 97 ls (.int z :: [.ref (b 0), .int r559])) (nI_add (fN u 13) i_550)) ?_
                        refine vp_callSi (va_Run.run (va_runV (As := [.int (nI ((fN u 13) + i_550))]) (rest := [.int r559]) ⟨hx, hb, hml, hown, noTs⟩ (r_X12_byteAt l dC dI s.heap.size cs b u tx hAc16 ((fN u 13) + i_550) sz1 hF11 (by first | assumption | omega | rfl | (congr 1; omega)) (by first | assumption | omega | rfl | (congr 1; omega))) ⟨cbE 1 (wd_1510 hE) (wd_126 hE) (wd_1507 hE) rfl rfl (by decide +kernel) ⟨Nat.le_of_ble_eq_true rfl, Nat.le_of_ble_eq_true rfl⟩, (wd_1509 hE), (wd_57 hE)⟩ ⟨PR.blind, r_recv hK hP rfl, (r_pre (av := [.ref (b 0), .int (nI ((fN u 13) + i_550))]) hK hP hJ hE)⟩ rfl rfl hl.1 rfl (lv_room (Nat.le_of_ble_eq_true rfl)) dX12_key_97 ⟨Nat.le_of_ble_eq_true rfl, Nat.le_of_ble_eq_true rfl⟩)) (fun r560 hr560 => ?_)
                        subst hr560
                        have htf560 := bA_f tx sz1 ((fN u 13) + i_550)
                        refine lv_icmp_ne (tgt := 107) hx hb dX12_key_100 (by decide) (fun c561 => ?_) (fun c561 => ?_)
                        · have c561 := mt (b_eq (rfl : Int32.toInt r559 = _) (rfl : Int32.toInt (bA tx sz1 ((fN u 13) + i_550)) = _)).mpr c561
                          refine lv_iconst (v := 0) hx hb dX12_key_107 (by decide) ?_
                          refine lv_istore (lv' := [(4, .int 0), (0, .ref (b 0)), (1, .int 2), (2, .int 13), (3, .int 17), (5, .int (nI i_550))]) hx hb dX12_key_108 hl (by decide) rfl (fun ls hl => ?_)
                          refine lv_iinc (v := nI (i_550 + 1)) (lv' := [(5, .int (nI (i_550 + 1))), (4, .int 0), (0, .ref (b 0)), (1, .int 2), (2, .int 13), (3, .int 17)]) hx hb dX12_key_110 hl (k := 5) rfl (nI_1 i_550) (by decide) rfl (fun ls hl => ?_)
                          refine lv_goto (tgt := 67) hx hb dX12_key_113 (by decide) ?_
                          exact ih550 _ _ (by omega) ⟨(i_550 + 1), 0, rfl, (by first | assumption | omega | rfl | (congr 1; omega)), lv_sub hl [2, 3, 4, 5, 1, 0] rfl⟩
                        · have c561 := (b_eq (rfl : Int32.toInt r559 = _) (rfl : Int32.toInt (bA tx sz1 ((fN u 13) + i_550)) = _)).mp c561
                          refine lv_iconst (v := 1) hx hb dX12_key_103 (by decide) ?_
                          refine lv_goto (tgt := 108) hx hb dX12_key_104 (by decide) ?_
                          refine lv_istore (lv' := [(4, .int 1), (0, .ref (b 0)), (1, .int 2), (2, .int 13), (3, .int 17), (5, .int (nI i_550))]) hx hb dX12_key_108 hl (by decide) rfl (fun ls hl => ?_)
                          refine lv_iinc (v := nI (i_550 + 1)) (lv' := [(5, .int (nI (i_550 + 1))), (4, .int 1), (0, .ref (b 0)), (1, .int 2), (2, .int 13), (3, .int 17)]) hx hb dX12_key_110 hl (k := 5) rfl (nI_1 i_550) (by decide) rfl (fun ls hl => ?_)
                          refine lv_goto (tgt := 67) hx hb dX12_key_113 (by decide) ?_
                          exact ih550 _ _ (by omega) ⟨(i_550 + 1), 1, rfl, (by first | assumption | omega | rfl | (congr 1; omega)), lv_sub hl [2, 3, 4, 5, 1, 0] rfl⟩
                · have c524 := mt (b_eq (rfl : Int32.toInt x1_483 = _) (show Int32.toInt 0 = 0 from rfl)).mpr c524
                  refine lv_iload_n hx hb dX12_key_121 rfl (lv_at hl 1 rfl) ?_
                  exact W.iret (v := 1) hx hb hr (fun t ht hW => ⟨1, rfl, trivial, ht⟩) (fun _ h => absurd h List.not_mem_nil) dX12_key_122
              · have c523 := mt (b_eq (rfl : Int32.toInt x1_483 = _) (show Int32.toInt 0 = 0 from rfl)).mpr c523
                refine va_ldcS hx hb hown hZ dX12_key_80 ?_
                refine lv_iload_n hx hb dX12_key_82 rfl (lv_at hl 2 rfl) ?_
                refine lv_iload hx hb dX12_key_83 (lv_at hl 5 rfl) ?_
                refine lv_iadd hx hb dX12_key_85 ?_
                refine W.eq (g2 := F0 m 86 ls [.int (nI (8 + i_483)), .ref (adK 3)]) (congrArg (fun z : Int32 => F0 m 86 ls (.int z :: [.ref (adK 3)])) (nI_add 8 i_483)) ?_
                refine vp_callSi (va_Run.run (va_runV (As := [.int (nI (8 + i_483))]) (rest := []) ⟨hx, hb, hml, hown, noTs⟩ (s_J0_charAt l adK adV 3 (8 + i_483) (by decide) (by show _ < 18; omega)) ⟨cbE 1 (wd_498 hE) (wd_129 hE) (wd_1528 hE) rfl rfl (by decide +kernel) ⟨Nat.le_of_ble_eq_true rfl, Nat.le_of_ble_eq_true rfl⟩, (wd_496 hE), (wd_497 hE)⟩ ⟨PS.blind, vk_recv hX.1 (by decide) hS, ps_pre (av := [.ref (adK 3), .int (nI (8 + i_483))]) hX hS hE⟩ rfl rfl hl.1 rfl (lv_room (Nat.le_of_ble_eq_true rfl)) dX12_key_86 ⟨Nat.le_of_ble_eq_true rfl, Nat.le_of_ble_eq_true rfl⟩)) (fun r562 hr562 => ?_)
                refine lv_aload_n hx hb dX12_key_89 rfl (lv_at hl 0 rfl) ?_
                refine lv_aload_n hx hb dX12_key_90 rfl (lv_at hl 0 rfl) ?_
                refine r_get (v := .int (nI (fN u 13))) hx hb (ly_X12 hE) hown hK hP rfl 13 (by decide) (wd_1394 hE) (fun _ h9 => h9) (congrArg (fun z : Int32 => some (Value.int z)) hp0.1) dX12_key_91 ?_
                refine lv_iload hx hb dX12_key_94 (lv_at hl 5 rfl) ?_
                refine lv_iadd hx hb dX12_key_96 ?_
                refine W.eq (g2 := F0 m 97 ls [.int (nI ((fN u 13) + i_483)), .ref (b 0), .int r562]) (congrArg (fun z : Int32 => F0 m 97 ls (.int z :: [.ref (b 0), .int r562])) (nI_add (fN u 13) i_483)) ?_
                refine vp_callSi (va_Run.run (va_runV (As := [.int (nI ((fN u 13) + i_483))]) (rest := [.int r562]) ⟨hx, hb, hml, hown, noTs⟩ (r_X12_byteAt l dC dI s.heap.size cs b u tx hAc16 ((fN u 13) + i_483) sz1 hF11 (by first | assumption | omega | rfl | (congr 1; omega)) (by first | assumption | omega | rfl | (congr 1; omega))) ⟨cbE 1 (wd_1510 hE) (wd_126 hE) (wd_1507 hE) rfl rfl (by decide +kernel) ⟨Nat.le_of_ble_eq_true rfl, Nat.le_of_ble_eq_true rfl⟩, (wd_1509 hE), (wd_57 hE)⟩ ⟨PR.blind, r_recv hK hP rfl, (r_pre (av := [.ref (b 0), .int (nI ((fN u 13) + i_483))]) hK hP hJ hE)⟩ rfl rfl hl.1 rfl (lv_room (Nat.le_of_ble_eq_true rfl)) dX12_key_97 ⟨Nat.le_of_ble_eq_true rfl, Nat.le_of_ble_eq_true rfl⟩)) (fun r563 hr563 => ?_)
                subst hr563
                have htf563 := bA_f tx sz1 ((fN u 13) + i_483)
                refine lv_icmp_ne (tgt := 107) hx hb dX12_key_100 (by decide) (fun c564 => ?_) (fun c564 => ?_)
                · have c564 := mt (b_eq (rfl : Int32.toInt r562 = _) (rfl : Int32.toInt (bA tx sz1 ((fN u 13) + i_483)) = _)).mpr c564
                  refine lv_iconst (v := 0) hx hb dX12_key_107 (by decide) ?_
                  refine lv_istore (lv' := [(4, .int 0), (0, .ref (b 0)), (1, .int 1), (2, .int 8), (3, .int 12), (5, .int (nI i_483))]) hx hb dX12_key_108 hl (by decide) rfl (fun ls hl => ?_)
                  refine lv_iinc (v := nI (i_483 + 1)) (lv' := [(5, .int (nI (i_483 + 1))), (4, .int 0), (0, .ref (b 0)), (1, .int 1), (2, .int 8), (3, .int 12)]) hx hb dX12_key_110 hl (k := 5) rfl (nI_1 i_483) (by decide) rfl (fun ls hl => ?_)
                  refine lv_goto (tgt := 67) hx hb dX12_key_113 (by decide) ?_
                  exact ih483 _ _ (by omega) ⟨(i_483 + 1), 0, rfl, (by first | assumption | omega | rfl | (congr 1; omega)), lv_sub hl [2, 3, 4, 5, 1, 0] rfl⟩
                · have c564 := (b_eq (rfl : Int32.toInt r562 = _) (rfl : Int32.toInt (bA tx sz1 ((fN u 13) + i_483)) = _)).mp c564
                  refine lv_iconst (v := 1) hx hb dX12_key_103 (by decide) ?_
                  refine lv_goto (tgt := 108) hx hb dX12_key_104 (by decide) ?_
                  refine lv_istore (lv' := [(4, .int 1), (0, .ref (b 0)), (1, .int 1), (2, .int 8), (3, .int 12), (5, .int (nI i_483))]) hx hb dX12_key_108 hl (by decide) rfl (fun ls hl => ?_)
                  refine lv_iinc (v := nI (i_483 + 1)) (lv' := [(5, .int (nI (i_483 + 1))), (4, .int 1), (0, .ref (b 0)), (1, .int 1), (2, .int 8), (3, .int 12)]) hx hb dX12_key_110 hl (k := 5) rfl (nI_1 i_483) (by decide) rfl (fun ls hl => ?_)
                  refine lv_goto (tgt := 67) hx hb dX12_key_113 (by decide) ?_
                  exact ih483 _ _ (by omega) ⟨(i_483 + 1), 1, rfl, (by first | assumption | omega | rfl | (congr 1; omega)), lv_sub hl [2, 3, 4, 5, 1, 0] rfl⟩
        · have c387 := mt (b_eq (rfl : Int32.toInt x1_385 = _) (show Int32.toInt 0 = 0 from rfl)).mpr c387
          refine lv_iload_n hx hb dX12_key_121 rfl (lv_at hl 1 rfl) ?_
          exact W.iret (v := 0) hx hb hr (fun t ht hW => ⟨0, rfl, trivial, ht⟩) (fun _ h => absurd h List.not_mem_nil) dX12_key_122
      · have c386 := mt (b_le (show Int32.toInt 6 = 6 from rfl) (nI_toInt (n := i_385) (by omega))).mpr c386
        refine lv_iload hx hb dX12_key_75 (lv_at hl 4 rfl) ?_
        refine lv_if_eq (tgt := 116) hx hb dX12_key_77 (by decide) (fun c565 => ?_) (fun c565 => ?_)
        · have c565 := (b_eq (rfl : Int32.toInt x1_385 = _) (show Int32.toInt 0 = 0 from rfl)).mp c565
          refine lv_iload hx hb dX12_key_116 (lv_at hl 4 rfl) ?_
          refine lv_if_eq (tgt := 123) hx hb dX12_key_118 (by decide) (fun c566 => ?_) (fun c566 => ?_)
          · have c566 := (b_eq (rfl : Int32.toInt x1_385 = _) (show Int32.toInt 0 = 0 from rfl)).mp c566
            refine lv_iinc (v := 1) (lv' := [(1, .int 1), (0, .ref (b 0)), (2, .int 1), (3, .int 7), (4, .int x1_385), (5, .int (nI i_385))]) hx hb dX12_key_123 hl (k := 1) rfl (by decide) (by decide) rfl (fun ls hl => ?_)
            refine lv_iload_n hx hb dX12_key_126 rfl (lv_at hl 3 rfl) ?_
            refine lv_iconst (v := 1) hx hb dX12_key_127 (by decide) ?_
            refine lv_iadd hx hb dX12_key_128 ?_
            refine W.eq (g2 := F0 m 129 ls [.int 8]) rfl ?_
            refine lv_istore_n (lv' := [(2, .int 8), (1, .int 1), (0, .ref (b 0)), (3, .int 7), (4, .int x1_385), (5, .int (nI i_385))]) hx hb dX12_key_129 rfl hl (by decide) rfl (fun ls hl => ?_)
            refine lv_goto (tgt := 14) hx hb dX12_key_130 (by decide) ?_
            refine lv_iload_n hx hb dX12_key_14 rfl (lv_at hl 0 rfl) ?_
            refine va_ldcS hx hb hown hZ dX12_key_15 ?_
            refine vp_callSi (va_Run.run (va_runV (As := []) (rest := [.int 8]) ⟨hx, hb, hml, hown, noTs⟩ (s_J0_length l adK adV 3 (by decide)) ⟨cbE 0 (wd_488 hE) (wd_129 hE) (wd_1527 hE) rfl rfl (by decide +kernel) ⟨Nat.le_of_ble_eq_true rfl, Nat.le_of_ble_eq_true rfl⟩, (wd_486 hE), (wd_487 hE)⟩ ⟨PS.blind, vk_recv hX.1 (by decide) hS, ps_pre (av := [.ref (adK 3)]) hX hS hE⟩ rfl rfl hl.1 rfl (lv_room (Nat.le_of_ble_eq_true rfl)) dX12_key_17 ⟨Nat.le_of_ble_eq_true rfl, Nat.le_of_ble_eq_true rfl⟩)) (fun r567 hr567 => ?_)
            have hr567 : r567 = 18 := hr567
            subst hr567
            refine lv_icmp_ge (tgt := 133) hx hb dX12_key_20 (by decide) (fun c568 => absurd c568 (by decide)) (fun c568 => ?_)
            refine lv_iload_n hx hb dX12_key_23 rfl (lv_at hl 0 rfl) ?_
            refine lv_istore_n (lv' := [(3, .int 8), (2, .int 8), (1, .int 1), (0, .ref (b 0)), (4, .int x1_385), (5, .int (nI i_385))]) hx hb dX12_key_24 rfl hl (by decide) rfl (fun ls hl => ?_)
            refine va_ldcS hx hb hown hZ dX12_key_25 ?_
            refine lv_iload_n hx hb dX12_key_27 rfl (lv_at hl 0 rfl) ?_
            refine vp_callSi (va_Run.run (va_runV (As := [.int (nI 8)]) (rest := []) ⟨hx, hb, hml, hown, noTs⟩ (s_J0_charAt l adK adV 3 8 (by decide) (by show _ < 18; omega)) ⟨cbE 1 (wd_498 hE) (wd_129 hE) (wd_1528 hE) rfl rfl (by decide +kernel) ⟨Nat.le_of_ble_eq_true rfl, Nat.le_of_ble_eq_true rfl⟩, (wd_496 hE), (wd_497 hE)⟩ ⟨PS.blind, vk_recv hX.1 (by decide) hS, ps_pre (av := [.ref (adK 3), .int (nI 8)]) hX hS hE⟩ rfl rfl hl.1 rfl (lv_room (Nat.le_of_ble_eq_true rfl)) dX12_key_28 ⟨Nat.le_of_ble_eq_true rfl, Nat.le_of_ble_eq_true rfl⟩)) (fun r569 hr569 => ?_)
            have hr569 : r569 = 101 := hr569.trans (by decide)
            subst hr569
            refine lv_bipush (v := 32) hx hb dX12_key_31 (by decide) ?_
            refine lv_icmp_eq (tgt := 42) hx hb dX12_key_33 (by decide) (fun c570 => absurd c570 (by decide)) (fun c570 => ?_)
            refine lv_iinc (v := 9) (lv' := [(3, .int 9), (2, .int 8), (1, .int 1), (0, .ref (b 0)), (4, .int x1_385), (5, .int (nI i_385))]) hx hb dX12_key_36 hl (k := 0) rfl (by decide) (by decide) rfl (fun ls hl => ?_)
            refine lv_goto (tgt := 25) hx hb dX12_key_39 (by decide) ?_
            refine va_ldcS hx hb hown hZ dX12_key_25 ?_
            refine lv_iload_n hx hb dX12_key_27 rfl (lv_at hl 0 rfl) ?_
            refine vp_callSi (va_Run.run (va_runV (As := [.int (nI 9)]) (rest := []) ⟨hx, hb, hml, hown, noTs⟩ (s_J0_charAt l adK adV 3 9 (by decide) (by show _ < 18; omega)) ⟨cbE 1 (wd_498 hE) (wd_129 hE) (wd_1528 hE) rfl rfl (by decide +kernel) ⟨Nat.le_of_ble_eq_true rfl, Nat.le_of_ble_eq_true rfl⟩, (wd_496 hE), (wd_497 hE)⟩ ⟨PS.blind, vk_recv hX.1 (by decide) hS, ps_pre (av := [.ref (adK 3), .int (nI 9)]) hX hS hE⟩ rfl rfl hl.1 rfl (lv_room (Nat.le_of_ble_eq_true rfl)) dX12_key_28 ⟨Nat.le_of_ble_eq_true rfl, Nat.le_of_ble_eq_true rfl⟩)) (fun r571 hr571 => ?_)
            have hr571 : r571 = 100 := hr571.trans (by decide)
            subst hr571
            refine lv_bipush (v := 32) hx hb dX12_key_31 (by decide) ?_
            refine lv_icmp_eq (tgt := 42) hx hb dX12_key_33 (by decide) (fun c572 => absurd c572 (by decide)) (fun c572 => ?_)
            refine lv_iinc (v := 10) (lv' := [(3, .int 10), (2, .int 8), (1, .int 1), (0, .ref (b 0)), (4, .int x1_385), (5, .int (nI i_385))]) hx hb dX12_key_36 hl (k := 0) rfl (by decide) (by decide) rfl (fun ls hl => ?_)
            refine lv_goto (tgt := 25) hx hb dX12_key_39 (by decide) ?_
            refine va_ldcS hx hb hown hZ dX12_key_25 ?_
            refine lv_iload_n hx hb dX12_key_27 rfl (lv_at hl 0 rfl) ?_
            refine vp_callSi (va_Run.run (va_runV (As := [.int (nI 10)]) (rest := []) ⟨hx, hb, hml, hown, noTs⟩ (s_J0_charAt l adK adV 3 10 (by decide) (by show _ < 18; omega)) ⟨cbE 1 (wd_498 hE) (wd_129 hE) (wd_1528 hE) rfl rfl (by decide +kernel) ⟨Nat.le_of_ble_eq_true rfl, Nat.le_of_ble_eq_true rfl⟩, (wd_496 hE), (wd_497 hE)⟩ ⟨PS.blind, vk_recv hX.1 (by decide) hS, ps_pre (av := [.ref (adK 3), .int (nI 10)]) hX hS hE⟩ rfl rfl hl.1 rfl (lv_room (Nat.le_of_ble_eq_true rfl)) dX12_key_28 ⟨Nat.le_of_ble_eq_true rfl, Nat.le_of_ble_eq_true rfl⟩)) (fun r573 hr573 => ?_)
            have hr573 : r573 = 103 := hr573.trans (by decide)
            subst hr573
            refine lv_bipush (v := 32) hx hb dX12_key_31 (by decide) ?_
            refine lv_icmp_eq (tgt := 42) hx hb dX12_key_33 (by decide) (fun c574 => absurd c574 (by decide)) (fun c574 => ?_)
            refine lv_iinc (v := 11) (lv' := [(3, .int 11), (2, .int 8), (1, .int 1), (0, .ref (b 0)), (4, .int x1_385), (5, .int (nI i_385))]) hx hb dX12_key_36 hl (k := 0) rfl (by decide) (by decide) rfl (fun ls hl => ?_)
            refine lv_goto (tgt := 25) hx hb dX12_key_39 (by decide) ?_
            refine va_ldcS hx hb hown hZ dX12_key_25 ?_
            refine lv_iload_n hx hb dX12_key_27 rfl (lv_at hl 0 rfl) ?_
            refine vp_callSi (va_Run.run (va_runV (As := [.int (nI 11)]) (rest := []) ⟨hx, hb, hml, hown, noTs⟩ (s_J0_charAt l adK adV 3 11 (by decide) (by show _ < 18; omega)) ⟨cbE 1 (wd_498 hE) (wd_129 hE) (wd_1528 hE) rfl rfl (by decide +kernel) ⟨Nat.le_of_ble_eq_true rfl, Nat.le_of_ble_eq_true rfl⟩, (wd_496 hE), (wd_497 hE)⟩ ⟨PS.blind, vk_recv hX.1 (by decide) hS, ps_pre (av := [.ref (adK 3), .int (nI 11)]) hX hS hE⟩ rfl rfl hl.1 rfl (lv_room (Nat.le_of_ble_eq_true rfl)) dX12_key_28 ⟨Nat.le_of_ble_eq_true rfl, Nat.le_of_ble_eq_true rfl⟩)) (fun r575 hr575 => ?_)
            have hr575 : r575 = 101 := hr575.trans (by decide)
            subst hr575
            refine lv_bipush (v := 32) hx hb dX12_key_31 (by decide) ?_
            refine lv_icmp_eq (tgt := 42) hx hb dX12_key_33 (by decide) (fun c576 => absurd c576 (by decide)) (fun c576 => ?_)
            refine lv_iinc (v := 12) (lv' := [(3, .int 12), (2, .int 8), (1, .int 1), (0, .ref (b 0)), (4, .int x1_385), (5, .int (nI i_385))]) hx hb dX12_key_36 hl (k := 0) rfl (by decide) (by decide) rfl (fun ls hl => ?_)
            refine lv_goto (tgt := 25) hx hb dX12_key_39 (by decide) ?_
            refine va_ldcS hx hb hown hZ dX12_key_25 ?_
            refine lv_iload_n hx hb dX12_key_27 rfl (lv_at hl 0 rfl) ?_
            refine vp_callSi (va_Run.run (va_runV (As := [.int (nI 12)]) (rest := []) ⟨hx, hb, hml, hown, noTs⟩ (s_J0_charAt l adK adV 3 12 (by decide) (by show _ < 18; omega)) ⟨cbE 1 (wd_498 hE) (wd_129 hE) (wd_1528 hE) rfl rfl (by decide +kernel) ⟨Nat.le_of_ble_eq_true rfl, Nat.le_of_ble_eq_true rfl⟩, (wd_496 hE), (wd_497 hE)⟩ ⟨PS.blind, vk_recv hX.1 (by decide) hS, ps_pre (av := [.ref (adK 3), .int (nI 12)]) hX hS hE⟩ rfl rfl hl.1 rfl (lv_room (Nat.le_of_ble_eq_true rfl)) dX12_key_28 ⟨Nat.le_of_ble_eq_true rfl, Nat.le_of_ble_eq_true rfl⟩)) (fun r577 hr577 => ?_)
            have hr577 : r577 = 32 := hr577.trans (by decide)
            subst hr577
            refine lv_bipush (v := 32) hx hb dX12_key_31 (by decide) ?_
            refine lv_icmp_eq (tgt := 42) hx hb dX12_key_33 (by decide) (fun c578 => ?_) (fun c578 => absurd c578 (by decide))
            refine lv_iload_n hx hb dX12_key_42 rfl (lv_at hl 0 rfl) ?_
            refine lv_iload_n hx hb dX12_key_43 rfl (lv_at hl 1 rfl) ?_
            refine lv_isub hx hb dX12_key_44 ?_
            refine W.eq (g2 := F0 m 45 ls [.int 4]) rfl ?_
            refine lv_aload_n hx hb dX12_key_45 rfl (lv_at hl 3 rfl) ?_
            refine r_get (v := .int (nI (fN u 14))) hx hb (ly_X12 hE) hown hK hP rfl 14 (by decide) (wd_1395 hE) (fun _ h9 => h9) (congrArg (fun z : Int32 => some (Value.int z)) hp0.2.1) dX12_key_46 ?_
            refine lv_aload_n hx hb dX12_key_49 rfl (lv_at hl 3 rfl) ?_
            refine r_get (v := .int (nI (fN u 13))) hx hb (ly_X12 hE) hown hK hP rfl 13 (by decide) (wd_1394 hE) (fun _ h9 => h9) (congrArg (fun z : Int32 => some (Value.int z)) hp0.1) dX12_key_50 ?_
            refine lv_isub hx hb dX12_key_53 ?_
            refine W.eq (g2 := F0 m 54 ls [.int (nI ((fN u 14) - (fN u 13))), .int 4]) (congrArg (fun z : Int32 => F0 m 54 ls (.int z :: [.int 4])) (pk_sub (a := fN u 14) (b := fN u 13) (by omega))) ?_
            refine lv_icmp_ne (tgt := 61) hx hb dX12_key_54 (by decide) (fun c579 => ?_) (fun c579 => ?_)
            · have c579 := mt (b_eq (show Int32.toInt 4 = 4 from rfl) (nI_toInt (n := (fN u 14) - (fN u 13)) (by omega))).mpr c579
              refine lv_iconst (v := 0) hx hb dX12_key_61 (by decide) ?_
              refine lv_istore (lv' := [(4, .int 0), (3, .int 12), (2, .int 8), (1, .int 1), (0, .ref (b 0)), (5, .int (nI i_385))]) hx hb dX12_key_62 hl (by decide) rfl (fun ls hl => ?_)
              refine lv_iconst (v := 0) hx hb dX12_key_64 (by decide) ?_
              refine lv_istore (lv' := [(5, .int 0), (4, .int 0), (3, .int 12), (2, .int 8), (1, .int 1), (0, .ref (b 0))]) hx hb dX12_key_65 hl (by decide) rfl (fun ls hl => ?_)
              refine r_indP (I := fun n ls => ∃ (i_580 : Nat) (x1_580 : Int32), n = 12 - 8 - i_580 ∧ (i_580 ≤ 12 - 8) ∧ lv_has ls 6 [(0, .ref (b 0)), (1, .int 1), (2, .int 8), (3, .int 12), (4, .int x1_580), (5, .int (nI i_580))]) (fun n ls hI ih580 => ?_) _ _ ⟨0, 0, rfl, (by first | assumption | omega | rfl | (congr 1; omega)), lv_sub hl [5, 4, 3, 2, 1, 0] rfl⟩
              obtain ⟨i_580, x1_580, hmu580, hL580_0, hl⟩ := hI
              subst hmu580
              refine lv_iload hx hb dX12_key_67 (lv_at hl 5 rfl) ?_
              refine lv_iload_n hx hb dX12_key_69 rfl (lv_at hl 3 rfl) ?_
              refine lv_iload_n hx hb dX12_key_70 rfl (lv_at hl 2 rfl) ?_
              refine lv_isub hx hb dX12_key_71 ?_
              refine W.eq (g2 := F0 m 72 ls [.int 4, .int (nI i_580)]) rfl ?_
              refine lv_icmp_ge (tgt := 116) hx hb dX12_key_72 (by decide) (fun c581 => ?_) (fun c581 => ?_)
              · have c581 := (b_le (show Int32.toInt 4 = 4 from rfl) (nI_toInt (n := i_580) (by omega))).mp c581
                refine lv_iload hx hb dX12_key_116 (lv_at hl 4 rfl) ?_
                refine lv_if_eq (tgt := 123) hx hb dX12_key_118 (by decide) (fun c582 => ?_) (fun c582 => ?_)
                · have c582 := (b_eq (rfl : Int32.toInt x1_580 = _) (show Int32.toInt 0 = 0 from rfl)).mp c582
                  refine lv_iinc (v := 2) (lv' := [(1, .int 2), (0, .ref (b 0)), (2, .int 8), (3, .int 12), (4, .int x1_580), (5, .int (nI i_580))]) hx hb dX12_key_123 hl (k := 1) rfl (by decide) (by decide) rfl (fun ls hl => ?_)
                  refine lv_iload_n hx hb dX12_key_126 rfl (lv_at hl 3 rfl) ?_
                  refine lv_iconst (v := 1) hx hb dX12_key_127 (by decide) ?_
                  refine lv_iadd hx hb dX12_key_128 ?_
                  refine W.eq (g2 := F0 m 129 ls [.int 13]) rfl ?_
                  refine lv_istore_n (lv' := [(2, .int 13), (1, .int 2), (0, .ref (b 0)), (3, .int 12), (4, .int x1_580), (5, .int (nI i_580))]) hx hb dX12_key_129 rfl hl (by decide) rfl (fun ls hl => ?_)
                  refine lv_goto (tgt := 14) hx hb dX12_key_130 (by decide) ?_
                  refine lv_iload_n hx hb dX12_key_14 rfl (lv_at hl 0 rfl) ?_
                  refine va_ldcS hx hb hown hZ dX12_key_15 ?_
                  refine vp_callSi (va_Run.run (va_runV (As := []) (rest := [.int 13]) ⟨hx, hb, hml, hown, noTs⟩ (s_J0_length l adK adV 3 (by decide)) ⟨cbE 0 (wd_488 hE) (wd_129 hE) (wd_1527 hE) rfl rfl (by decide +kernel) ⟨Nat.le_of_ble_eq_true rfl, Nat.le_of_ble_eq_true rfl⟩, (wd_486 hE), (wd_487 hE)⟩ ⟨PS.blind, vk_recv hX.1 (by decide) hS, ps_pre (av := [.ref (adK 3)]) hX hS hE⟩ rfl rfl hl.1 rfl (lv_room (Nat.le_of_ble_eq_true rfl)) dX12_key_17 ⟨Nat.le_of_ble_eq_true rfl, Nat.le_of_ble_eq_true rfl⟩)) (fun r583 hr583 => ?_)
                  have hr583 : r583 = 18 := hr583
                  subst hr583
                  refine lv_icmp_ge (tgt := 133) hx hb dX12_key_20 (by decide) (fun c584 => absurd c584 (by decide)) (fun c584 => ?_)
                  refine lv_iload_n hx hb dX12_key_23 rfl (lv_at hl 0 rfl) ?_
                  refine lv_istore_n (lv' := [(3, .int 13), (2, .int 13), (1, .int 2), (0, .ref (b 0)), (4, .int x1_580), (5, .int (nI i_580))]) hx hb dX12_key_24 rfl hl (by decide) rfl (fun ls hl => ?_)
                  refine va_ldcS hx hb hown hZ dX12_key_25 ?_
                  refine lv_iload_n hx hb dX12_key_27 rfl (lv_at hl 0 rfl) ?_
                  refine vp_callSi (va_Run.run (va_runV (As := [.int (nI 13)]) (rest := []) ⟨hx, hb, hml, hown, noTs⟩ (s_J0_charAt l adK adV 3 13 (by decide) (by show _ < 18; omega)) ⟨cbE 1 (wd_498 hE) (wd_129 hE) (wd_1528 hE) rfl rfl (by decide +kernel) ⟨Nat.le_of_ble_eq_true rfl, Nat.le_of_ble_eq_true rfl⟩, (wd_496 hE), (wd_497 hE)⟩ ⟨PS.blind, vk_recv hX.1 (by decide) hS, ps_pre (av := [.ref (adK 3), .int (nI 13)]) hX hS hE⟩ rfl rfl hl.1 rfl (lv_room (Nat.le_of_ble_eq_true rfl)) dX12_key_28 ⟨Nat.le_of_ble_eq_true rfl, Nat.le_of_ble_eq_true rfl⟩)) (fun r585 hr585 => ?_)
                  have hr585 : r585 = 119 := hr585.trans (by decide)
                  subst hr585
                  refine lv_bipush (v := 32) hx hb dX12_key_31 (by decide) ?_
                  refine lv_icmp_eq (tgt := 42) hx hb dX12_key_33 (by decide) (fun c586 => absurd c586 (by decide)) (fun c586 => ?_)
                  refine lv_iinc (v := 14) (lv' := [(3, .int 14), (2, .int 13), (1, .int 2), (0, .ref (b 0)), (4, .int x1_580), (5, .int (nI i_580))]) hx hb dX12_key_36 hl (k := 0) rfl (by decide) (by decide) rfl (fun ls hl => ?_)
                  refine lv_goto (tgt := 25) hx hb dX12_key_39 (by decide) ?_
                  refine va_ldcS hx hb hown hZ dX12_key_25 ?_
                  refine lv_iload_n hx hb dX12_key_27 rfl (lv_at hl 0 rfl) ?_
                  refine vp_callSi (va_Run.run (va_runV (As := [.int (nI 14)]) (rest := []) ⟨hx, hb, hml, hown, noTs⟩ (s_J0_charAt l adK adV 3 14 (by decide) (by show _ < 18; omega)) ⟨cbE 1 (wd_498 hE) (wd_129 hE) (wd_1528 hE) rfl rfl (by decide +kernel) ⟨Nat.le_of_ble_eq_true rfl, Nat.le_of_ble_eq_true rfl⟩, (wd_496 hE), (wd_497 hE)⟩ ⟨PS.blind, vk_recv hX.1 (by decide) hS, ps_pre (av := [.ref (adK 3), .int (nI 14)]) hX hS hE⟩ rfl rfl hl.1 rfl (lv_room (Nat.le_of_ble_eq_true rfl)) dX12_key_28 ⟨Nat.le_of_ble_eq_true rfl, Nat.le_of_ble_eq_true rfl⟩)) (fun r587 hr587 => ?_)
                  have hr587 : r587 = 111 := hr587.trans (by decide)
                  subst hr587
                  refine lv_bipush (v := 32) hx hb dX12_key_31 (by decide) ?_
                  refine lv_icmp_eq (tgt := 42) hx hb dX12_key_33 (by decide) (fun c588 => absurd c588 (by decide)) (fun c588 => ?_)
                  refine lv_iinc (v := 15) (lv' := [(3, .int 15), (2, .int 13), (1, .int 2), (0, .ref (b 0)), (4, .int x1_580), (5, .int (nI i_580))]) hx hb dX12_key_36 hl (k := 0) rfl (by decide) (by decide) rfl (fun ls hl => ?_)
                  refine lv_goto (tgt := 25) hx hb dX12_key_39 (by decide) ?_
                  refine va_ldcS hx hb hown hZ dX12_key_25 ?_
                  refine lv_iload_n hx hb dX12_key_27 rfl (lv_at hl 0 rfl) ?_
                  refine vp_callSi (va_Run.run (va_runV (As := [.int (nI 15)]) (rest := []) ⟨hx, hb, hml, hown, noTs⟩ (s_J0_charAt l adK adV 3 15 (by decide) (by show _ < 18; omega)) ⟨cbE 1 (wd_498 hE) (wd_129 hE) (wd_1528 hE) rfl rfl (by decide +kernel) ⟨Nat.le_of_ble_eq_true rfl, Nat.le_of_ble_eq_true rfl⟩, (wd_496 hE), (wd_497 hE)⟩ ⟨PS.blind, vk_recv hX.1 (by decide) hS, ps_pre (av := [.ref (adK 3), .int (nI 15)]) hX hS hE⟩ rfl rfl hl.1 rfl (lv_room (Nat.le_of_ble_eq_true rfl)) dX12_key_28 ⟨Nat.le_of_ble_eq_true rfl, Nat.le_of_ble_eq_true rfl⟩)) (fun r589 hr589 => ?_)
                  have hr589 : r589 = 114 := hr589.trans (by decide)
                  subst hr589
                  refine lv_bipush (v := 32) hx hb dX12_key_31 (by decide) ?_
                  refine lv_icmp_eq (tgt := 42) hx hb dX12_key_33 (by decide) (fun c590 => absurd c590 (by decide)) (fun c590 => ?_)
                  refine lv_iinc (v := 16) (lv' := [(3, .int 16), (2, .int 13), (1, .int 2), (0, .ref (b 0)), (4, .int x1_580), (5, .int (nI i_580))]) hx hb dX12_key_36 hl (k := 0) rfl (by decide) (by decide) rfl (fun ls hl => ?_)
                  refine lv_goto (tgt := 25) hx hb dX12_key_39 (by decide) ?_
                  refine va_ldcS hx hb hown hZ dX12_key_25 ?_
                  refine lv_iload_n hx hb dX12_key_27 rfl (lv_at hl 0 rfl) ?_
                  refine vp_callSi (va_Run.run (va_runV (As := [.int (nI 16)]) (rest := []) ⟨hx, hb, hml, hown, noTs⟩ (s_J0_charAt l adK adV 3 16 (by decide) (by show _ < 18; omega)) ⟨cbE 1 (wd_498 hE) (wd_129 hE) (wd_1528 hE) rfl rfl (by decide +kernel) ⟨Nat.le_of_ble_eq_true rfl, Nat.le_of_ble_eq_true rfl⟩, (wd_496 hE), (wd_497 hE)⟩ ⟨PS.blind, vk_recv hX.1 (by decide) hS, ps_pre (av := [.ref (adK 3), .int (nI 16)]) hX hS hE⟩ rfl rfl hl.1 rfl (lv_room (Nat.le_of_ble_eq_true rfl)) dX12_key_28 ⟨Nat.le_of_ble_eq_true rfl, Nat.le_of_ble_eq_true rfl⟩)) (fun r591 hr591 => ?_)
                  have hr591 : r591 = 100 := hr591.trans (by decide)
                  subst hr591
                  refine lv_bipush (v := 32) hx hb dX12_key_31 (by decide) ?_
                  refine lv_icmp_eq (tgt := 42) hx hb dX12_key_33 (by decide) (fun c592 => absurd c592 (by decide)) (fun c592 => ?_)
                  refine lv_iinc (v := 17) (lv' := [(3, .int 17), (2, .int 13), (1, .int 2), (0, .ref (b 0)), (4, .int x1_580), (5, .int (nI i_580))]) hx hb dX12_key_36 hl (k := 0) rfl (by decide) (by decide) rfl (fun ls hl => ?_)
                  refine lv_goto (tgt := 25) hx hb dX12_key_39 (by decide) ?_
                  refine va_ldcS hx hb hown hZ dX12_key_25 ?_
                  refine lv_iload_n hx hb dX12_key_27 rfl (lv_at hl 0 rfl) ?_
                  refine vp_callSi (va_Run.run (va_runV (As := [.int (nI 17)]) (rest := []) ⟨hx, hb, hml, hown, noTs⟩ (s_J0_charAt l adK adV 3 17 (by decide) (by show _ < 18; omega)) ⟨cbE 1 (wd_498 hE) (wd_129 hE) (wd_1528 hE) rfl rfl (by decide +kernel) ⟨Nat.le_of_ble_eq_true rfl, Nat.le_of_ble_eq_true rfl⟩, (wd_496 hE), (wd_497 hE)⟩ ⟨PS.blind, vk_recv hX.1 (by decide) hS, ps_pre (av := [.ref (adK 3), .int (nI 17)]) hX hS hE⟩ rfl rfl hl.1 rfl (lv_room (Nat.le_of_ble_eq_true rfl)) dX12_key_28 ⟨Nat.le_of_ble_eq_true rfl, Nat.le_of_ble_eq_true rfl⟩)) (fun r593 hr593 => ?_)
                  have hr593 : r593 = 32 := hr593.trans (by decide)
                  subst hr593
                  refine lv_bipush (v := 32) hx hb dX12_key_31 (by decide) ?_
                  refine lv_icmp_eq (tgt := 42) hx hb dX12_key_33 (by decide) (fun c594 => ?_) (fun c594 => absurd c594 (by decide))
                  refine lv_iload_n hx hb dX12_key_42 rfl (lv_at hl 0 rfl) ?_
                  refine lv_iload_n hx hb dX12_key_43 rfl (lv_at hl 1 rfl) ?_
                  refine lv_isub hx hb dX12_key_44 ?_
                  refine W.eq (g2 := F0 m 45 ls [.int 4]) rfl ?_
                  refine lv_aload_n hx hb dX12_key_45 rfl (lv_at hl 3 rfl) ?_
                  refine r_get (v := .int (nI (fN u 14))) hx hb (ly_X12 hE) hown hK hP rfl 14 (by decide) (wd_1395 hE) (fun _ h9 => h9) (congrArg (fun z : Int32 => some (Value.int z)) hp0.2.1) dX12_key_46 ?_
                  refine lv_aload_n hx hb dX12_key_49 rfl (lv_at hl 3 rfl) ?_
                  refine r_get (v := .int (nI (fN u 13))) hx hb (ly_X12 hE) hown hK hP rfl 13 (by decide) (wd_1394 hE) (fun _ h9 => h9) (congrArg (fun z : Int32 => some (Value.int z)) hp0.1) dX12_key_50 ?_
                  refine lv_isub hx hb dX12_key_53 ?_
                  refine W.eq (g2 := F0 m 54 ls [.int (nI ((fN u 14) - (fN u 13))), .int 4]) (congrArg (fun z : Int32 => F0 m 54 ls (.int z :: [.int 4])) (pk_sub (a := fN u 14) (b := fN u 13) (by omega))) ?_
                  refine lv_icmp_ne (tgt := 61) hx hb dX12_key_54 (by decide) (fun c595 => ?_) (fun c595 => ?_)
                  · have c595 := mt (b_eq (show Int32.toInt 4 = 4 from rfl) (nI_toInt (n := (fN u 14) - (fN u 13)) (by omega))).mpr c595
                    refine lv_iconst (v := 0) hx hb dX12_key_61 (by decide) ?_
                    refine lv_istore (lv' := [(4, .int 0), (3, .int 17), (2, .int 13), (1, .int 2), (0, .ref (b 0)), (5, .int (nI i_580))]) hx hb dX12_key_62 hl (by decide) rfl (fun ls hl => ?_)
                    refine lv_iconst (v := 0) hx hb dX12_key_64 (by decide) ?_
                    refine lv_istore (lv' := [(5, .int 0), (4, .int 0), (3, .int 17), (2, .int 13), (1, .int 2), (0, .ref (b 0))]) hx hb dX12_key_65 hl (by decide) rfl (fun ls hl => ?_)
                    refine r_indP (I := fun n ls => ∃ (i_596 : Nat) (x1_596 : Int32), n = 17 - 13 - i_596 ∧ (i_596 ≤ 17 - 13) ∧ lv_has ls 6 [(0, .ref (b 0)), (1, .int 2), (2, .int 13), (3, .int 17), (4, .int x1_596), (5, .int (nI i_596))]) (fun n ls hI ih596 => ?_) _ _ ⟨0, 0, rfl, (by first | assumption | omega | rfl | (congr 1; omega)), lv_sub hl [5, 4, 3, 2, 1, 0] rfl⟩
                    obtain ⟨i_596, x1_596, hmu596, hL596_0, hl⟩ := hI
                    subst hmu596
                    refine lv_iload hx hb dX12_key_67 (lv_at hl 5 rfl) ?_
                    refine lv_iload_n hx hb dX12_key_69 rfl (lv_at hl 3 rfl) ?_
                    refine lv_iload_n hx hb dX12_key_70 rfl (lv_at hl 2 rfl) ?_
                    refine lv_isub hx hb dX12_key_71 ?_
                    refine W.eq (g2 := F0 m 72 ls [.int 4, .int (nI i_596)]) rfl ?_
                    refine lv_icmp_ge (tgt := 116) hx hb dX12_key_72 (by decide) (fun c597 => ?_) (fun c597 => ?_)
                    · have c597 := (b_le (show Int32.toInt 4 = 4 from rfl) (nI_toInt (n := i_596) (by omega))).mp c597
                      refine lv_iload hx hb dX12_key_116 (lv_at hl 4 rfl) ?_
                      refine lv_if_eq (tgt := 123) hx hb dX12_key_118 (by decide) (fun c598 => ?_) (fun c598 => ?_)
                      · have c598 := (b_eq (rfl : Int32.toInt x1_596 = _) (show Int32.toInt 0 = 0 from rfl)).mp c598
                        refine lv_iinc (v := 3) (lv' := [(1, .int 3), (0, .ref (b 0)), (2, .int 13), (3, .int 17), (4, .int x1_596), (5, .int (nI i_596))]) hx hb dX12_key_123 hl (k := 1) rfl (by decide) (by decide) rfl (fun ls hl => ?_)
                        refine lv_iload_n hx hb dX12_key_126 rfl (lv_at hl 3 rfl) ?_
                        refine lv_iconst (v := 1) hx hb dX12_key_127 (by decide) ?_
                        refine lv_iadd hx hb dX12_key_128 ?_
                        refine W.eq (g2 := F0 m 129 ls [.int 18]) rfl ?_
                        refine lv_istore_n (lv' := [(2, .int 18), (1, .int 3), (0, .ref (b 0)), (3, .int 17), (4, .int x1_596), (5, .int (nI i_596))]) hx hb dX12_key_129 rfl hl (by decide) rfl (fun ls hl => ?_)
                        refine lv_goto (tgt := 14) hx hb dX12_key_130 (by decide) ?_
                        refine lv_iload_n hx hb dX12_key_14 rfl (lv_at hl 0 rfl) ?_
                        refine va_ldcS hx hb hown hZ dX12_key_15 ?_
                        refine vp_callSi (va_Run.run (va_runV (As := []) (rest := [.int 18]) ⟨hx, hb, hml, hown, noTs⟩ (s_J0_length l adK adV 3 (by decide)) ⟨cbE 0 (wd_488 hE) (wd_129 hE) (wd_1527 hE) rfl rfl (by decide +kernel) ⟨Nat.le_of_ble_eq_true rfl, Nat.le_of_ble_eq_true rfl⟩, (wd_486 hE), (wd_487 hE)⟩ ⟨PS.blind, vk_recv hX.1 (by decide) hS, ps_pre (av := [.ref (adK 3)]) hX hS hE⟩ rfl rfl hl.1 rfl (lv_room (Nat.le_of_ble_eq_true rfl)) dX12_key_17 ⟨Nat.le_of_ble_eq_true rfl, Nat.le_of_ble_eq_true rfl⟩)) (fun r599 hr599 => ?_)
                        have hr599 : r599 = 18 := hr599
                        subst hr599
                        refine lv_icmp_ge (tgt := 133) hx hb dX12_key_20 (by decide) (fun c600 => ?_) (fun c600 => absurd c600 (by decide))
                        refine lv_iconst (v := -1) hx hb dX12_key_133 (by decide) ?_
                        exact W.iret (v := -1) hx hb hr (fun t ht hW => ⟨-1, rfl, trivial, ht⟩) (fun _ h => absurd h List.not_mem_nil) dX12_key_134
                      · have c598 := mt (b_eq (rfl : Int32.toInt x1_596 = _) (show Int32.toInt 0 = 0 from rfl)).mpr c598
                        refine lv_iload_n hx hb dX12_key_121 rfl (lv_at hl 1 rfl) ?_
                        exact W.iret (v := 2) hx hb hr (fun t ht hW => ⟨2, rfl, trivial, ht⟩) (fun _ h => absurd h List.not_mem_nil) dX12_key_122
                    · have c597 := mt (b_le (show Int32.toInt 4 = 4 from rfl) (nI_toInt (n := i_596) (by omega))).mpr c597
                      refine lv_iload hx hb dX12_key_75 (lv_at hl 4 rfl) ?_
                      refine lv_if_eq (tgt := 116) hx hb dX12_key_77 (by decide) (fun c601 => ?_) (fun c601 => ?_)
                      · have c601 := (b_eq (rfl : Int32.toInt x1_596 = _) (show Int32.toInt 0 = 0 from rfl)).mp c601
                        refine lv_iload hx hb dX12_key_116 (lv_at hl 4 rfl) ?_
                        refine lv_if_eq (tgt := 123) hx hb dX12_key_118 (by decide) (fun c602 => ?_) (fun c602 => ?_)
                        · have c602 := (b_eq (rfl : Int32.toInt x1_596 = _) (show Int32.toInt 0 = 0 from rfl)).mp c602
                          refine lv_iinc (v := 3) (lv' := [(1, .int 3), (0, .ref (b 0)), (2, .int 13), (3, .int 17), (4, .int x1_596), (5, .int (nI i_596))]) hx hb dX12_key_123 hl (k := 1) rfl (by decide) (by decide) rfl (fun ls hl => ?_)
                          refine lv_iload_n hx hb dX12_key_126 rfl (lv_at hl 3 rfl) ?_
                          refine lv_iconst (v := 1) hx hb dX12_key_127 (by decide) ?_
                          refine lv_iadd hx hb dX12_key_128 ?_
                          refine W.eq (g2 := F0 m 129 ls [.int 18]) rfl ?_
                          refine lv_istore_n (lv' := [(2, .int 18), (1, .int 3), (0, .ref (b 0)), (3, .int 17), (4, .int x1_596), (5, .int (nI i_596))]) hx hb dX12_key_129 rfl hl (by decide) rfl (fun ls hl => ?_)
                          refine lv_goto (tgt := 14) hx hb dX12_key_130 (by decide) ?_
                          refine lv_iload_n hx hb dX12_key_14 rfl (lv_at hl 0 rfl) ?_
                          refine va_ldcS hx hb hown hZ dX12_key_15 ?_
                          refine vp_callSi (va_Run.run (va_runV (As := []) (rest := [.int 18]) ⟨hx, hb, hml, hown, noTs⟩ (s_J0_length l adK adV 3 (by decide)) ⟨cbE 0 (wd_488 hE) (wd_129 hE) (wd_1527 hE) rfl rfl (by decide +kernel) ⟨Nat.le_of_ble_eq_true rfl, Nat.le_of_ble_eq_true rfl⟩, (wd_486 hE), (wd_487 hE)⟩ ⟨PS.blind, vk_recv hX.1 (by decide) hS, ps_pre (av := [.ref (adK 3)]) hX hS hE⟩ rfl rfl hl.1 rfl (lv_room (Nat.le_of_ble_eq_true rfl)) dX12_key_17 ⟨Nat.le_of_ble_eq_true rfl, Nat.le_of_ble_eq_true rfl⟩)) (fun r603 hr603 => ?_)
                          have hr603 : r603 = 18 := hr603
                          subst hr603
                          refine lv_icmp_ge (tgt := 133) hx hb dX12_key_20 (by decide) (fun c604 => ?_) (fun c604 => absurd c604 (by decide))
                          refine lv_iconst (v := -1) hx hb dX12_key_133 (by decide) ?_
                          exact W.iret (v := -1) hx hb hr (fun t ht hW => ⟨-1, rfl, trivial, ht⟩) (fun _ h => absurd h List.not_mem_nil) dX12_key_134
                        · have c602 := mt (b_eq (rfl : Int32.toInt x1_596 = _) (show Int32.toInt 0 = 0 from rfl)).mpr c602
                          refine lv_iload_n hx hb dX12_key_121 rfl (lv_at hl 1 rfl) ?_
                          exact W.iret (v := 2) hx hb hr (fun t ht hW => ⟨2, rfl, trivial, ht⟩) (fun _ h => absurd h List.not_mem_nil) dX12_key_122
                      · have c601 := mt (b_eq (rfl : Int32.toInt x1_596 = _) (show Int32.toInt 0 = 0 from rfl)).mpr c601
                        refine va_ldcS hx hb hown hZ dX12_key_80 ?_
                        refine lv_iload_n hx hb dX12_key_82 rfl (lv_at hl 2 rfl) ?_
                        refine lv_iload hx hb dX12_key_83 (lv_at hl 5 rfl) ?_
                        refine lv_iadd hx hb dX12_key_85 ?_
                        refine W.eq (g2 := F0 m 86 ls [.int (nI (13 + i_596)), .ref (adK 3)]) (congrArg (fun z : Int32 => F0 m 86 ls (.int z :: [.ref (adK 3)])) (nI_add 13 i_596)) ?_
                        refine vp_callSi (va_Run.run (va_runV (As := [.int (nI (13 + i_596))]) (rest := []) ⟨hx, hb, hml, hown, noTs⟩ (s_J0_charAt l adK adV 3 (13 + i_596) (by decide) (by show _ < 18; omega)) ⟨cbE 1 (wd_498 hE) (wd_129 hE) (wd_1528 hE) rfl rfl (by decide +kernel) ⟨Nat.le_of_ble_eq_true rfl, Nat.le_of_ble_eq_true rfl⟩, (wd_496 hE), (wd_497 hE)⟩ ⟨PS.blind, vk_recv hX.1 (by decide) hS, ps_pre (av := [.ref (adK 3), .int (nI (13 + i_596))]) hX hS hE⟩ rfl rfl hl.1 rfl (lv_room (Nat.le_of_ble_eq_true rfl)) dX12_key_86 ⟨Nat.le_of_ble_eq_true rfl, Nat.le_of_ble_eq_true rfl⟩)) (fun r605 hr605 => ?_)
                        refine lv_aload_n hx hb dX12_key_89 rfl (lv_at hl 0 rfl) ?_
                        refine lv_aload_n hx hb dX12_key_90 rfl (lv_at hl 0 rfl) ?_
                        refine r_get (v := .int (nI (fN u 13))) hx hb (ly_X12 hE) hown hK hP rfl 13 (by decide) (wd_1394 hE) (fun _ h9 => h9) (congrArg (fun z : Int32 => some (Value.int z)) hp0.1) dX12_key_91 ?_
                        refine lv_iload hx hb dX12_key_94 (lv_at hl 5 rfl) ?_
                        refine lv_iadd hx hb dX12_key_96 ?_
                        refine W.eq (g2 := F0 m 97 ls [.int (nI ((fN u 13) + i_596)), .ref (b 0), .int r605]) (congrArg (fun z : Int32 => F0 m 97 ls (.int z :: [.ref (b 0), .int r605])) (nI_add (fN u 13) i_596)) ?_
                        refine vp_callSi (va_Run.run (va_runV (As := [.int (nI ((fN u 13) + i_596))]) (rest := [.int r605]) ⟨hx, hb, hml, hown, noTs⟩ (r_X12_byteAt l dC dI s.heap.size cs b u tx hAc16 ((fN u 13) + i_596) sz1 hF11 (by first | assumption | omega | rfl | (congr 1; omega)) (by first | assumption | omega | rfl | (congr 1; omega))) ⟨cbE 1 (wd_1510 hE) (wd_126 hE) (wd_1507 hE) rfl rfl (by decide +kernel) ⟨Nat.le_of_ble_eq_true rfl, Nat.le_of_ble_eq_true rfl⟩, (wd_1509 hE), (wd_57 hE)⟩ ⟨PR.blind, r_recv hK hP rfl, (r_pre (av := [.ref (b 0), .int (nI ((fN u 13) + i_596))]) hK hP hJ hE)⟩ rfl rfl hl.1 rfl (lv_room (Nat.le_of_ble_eq_true rfl)) dX12_key_97 ⟨Nat.le_of_ble_eq_true rfl, Nat.le_of_ble_eq_true rfl⟩)) (fun r606 hr606 => ?_)
                        subst hr606
                        have htf606 := bA_f tx sz1 ((fN u 13) + i_596)
                        refine lv_icmp_ne (tgt := 107) hx hb dX12_key_100 (by decide) (fun c607 => ?_) (fun c607 => ?_)
                        · have c607 := mt (b_eq (rfl : Int32.toInt r605 = _) (rfl : Int32.toInt (bA tx sz1 ((fN u 13) + i_596)) = _)).mpr c607
                          refine lv_iconst (v := 0) hx hb dX12_key_107 (by decide) ?_
                          refine lv_istore (lv' := [(4, .int 0), (0, .ref (b 0)), (1, .int 2), (2, .int 13), (3, .int 17), (5, .int (nI i_596))]) hx hb dX12_key_108 hl (by decide) rfl (fun ls hl => ?_)
                          refine lv_iinc (v := nI (i_596 + 1)) (lv' := [(5, .int (nI (i_596 + 1))), (4, .int 0), (0, .ref (b 0)), (1, .int 2), (2, .int 13), (3, .int 17)]) hx hb dX12_key_110 hl (k := 5) rfl (nI_1 i_596) (by decide) rfl (fun ls hl => ?_)
                          refine lv_goto (tgt := 67) hx hb dX12_key_113 (by decide) ?_
                          exact ih596 _ _ (by omega) ⟨(i_596 + 1), 0, rfl, (by first | assumption | omega | rfl | (congr 1; omega)), lv_sub hl [2, 3, 4, 5, 1, 0] rfl⟩
                        · have c607 := (b_eq (rfl : Int32.toInt r605 = _) (rfl : Int32.toInt (bA tx sz1 ((fN u 13) + i_596)) = _)).mp c607
                          refine lv_iconst (v := 1) hx hb dX12_key_103 (by decide) ?_
                          refine lv_goto (tgt := 108) hx hb dX12_key_104 (by decide) ?_
                          refine lv_istore (lv' := [(4, .int 1), (0, .ref (b 0)), (1, .int 2), (2, .int 13), (3, .int 17), (5, .int (nI i_596))]) hx hb dX12_key_108 hl (by decide) rfl (fun ls hl => ?_)
                          refine lv_iinc (v := nI (i_596 + 1)) (lv' := [(5, .int (nI (i_596 + 1))), (4, .int 1), (0, .ref (b 0)), (1, .int 2), (2, .int 13), (3, .int 17)]) hx hb dX12_key_110 hl (k := 5) rfl (nI_1 i_596) (by decide) rfl (fun ls hl => ?_)
                          refine lv_goto (tgt := 67) hx hb dX12_key_113 (by decide) ?_
                          exact ih596 _ _ (by omega) ⟨(i_596 + 1), 1, rfl, (by first | assumption | omega | rfl | (congr 1; omega)), lv_sub hl [2, 3, 4, 5, 1, 0] rfl⟩
                  · have c595 := (b_eq (show Int32.toInt 4 = 4 from rfl) (nI_toInt (n := (fN u 14) - (fN u 13)) (by omega))).mp c595
                    refine lv_iconst (v := 1) hx hb dX12_key_57 (by decide) ?_
                    refine lv_goto (tgt := 62) hx hb dX12_key_58 (by decide) ?_
                    refine lv_istore (lv' := [(4, .int 1), (3, .int 17), (2, .int 13), (1, .int 2), (0, .ref (b 0)), (5, .int (nI i_580))]) hx hb dX12_key_62 hl (by decide) rfl (fun ls hl => ?_)
                    refine lv_iconst (v := 0) hx hb dX12_key_64 (by decide) ?_
                    refine lv_istore (lv' := [(5, .int 0), (4, .int 1), (3, .int 17), (2, .int 13), (1, .int 2), (0, .ref (b 0))]) hx hb dX12_key_65 hl (by decide) rfl (fun ls hl => ?_)
                    refine r_indP (I := fun n ls => ∃ (i_608 : Nat) (x1_608 : Int32), n = 17 - 13 - i_608 ∧ (i_608 ≤ 17 - 13) ∧ lv_has ls 6 [(0, .ref (b 0)), (1, .int 2), (2, .int 13), (3, .int 17), (4, .int x1_608), (5, .int (nI i_608))]) (fun n ls hI ih608 => ?_) _ _ ⟨0, 1, rfl, (by first | assumption | omega | rfl | (congr 1; omega)), lv_sub hl [5, 4, 3, 2, 1, 0] rfl⟩
                    obtain ⟨i_608, x1_608, hmu608, hL608_0, hl⟩ := hI
                    subst hmu608
                    refine lv_iload hx hb dX12_key_67 (lv_at hl 5 rfl) ?_
                    refine lv_iload_n hx hb dX12_key_69 rfl (lv_at hl 3 rfl) ?_
                    refine lv_iload_n hx hb dX12_key_70 rfl (lv_at hl 2 rfl) ?_
                    refine lv_isub hx hb dX12_key_71 ?_
                    refine W.eq (g2 := F0 m 72 ls [.int 4, .int (nI i_608)]) rfl ?_
                    refine lv_icmp_ge (tgt := 116) hx hb dX12_key_72 (by decide) (fun c609 => ?_) (fun c609 => ?_)
                    · have c609 := (b_le (show Int32.toInt 4 = 4 from rfl) (nI_toInt (n := i_608) (by omega))).mp c609
                      refine lv_iload hx hb dX12_key_116 (lv_at hl 4 rfl) ?_
                      refine lv_if_eq (tgt := 123) hx hb dX12_key_118 (by decide) (fun c610 => ?_) (fun c610 => ?_)
                      · have c610 := (b_eq (rfl : Int32.toInt x1_608 = _) (show Int32.toInt 0 = 0 from rfl)).mp c610
                        refine lv_iinc (v := 3) (lv' := [(1, .int 3), (0, .ref (b 0)), (2, .int 13), (3, .int 17), (4, .int x1_608), (5, .int (nI i_608))]) hx hb dX12_key_123 hl (k := 1) rfl (by decide) (by decide) rfl (fun ls hl => ?_)
                        refine lv_iload_n hx hb dX12_key_126 rfl (lv_at hl 3 rfl) ?_
                        refine lv_iconst (v := 1) hx hb dX12_key_127 (by decide) ?_
                        refine lv_iadd hx hb dX12_key_128 ?_
                        refine W.eq (g2 := F0 m 129 ls [.int 18]) rfl ?_
                        refine lv_istore_n (lv' := [(2, .int 18), (1, .int 3), (0, .ref (b 0)), (3, .int 17), (4, .int x1_608), (5, .int (nI i_608))]) hx hb dX12_key_129 rfl hl (by decide) rfl (fun ls hl => ?_)
                        refine lv_goto (tgt := 14) hx hb dX12_key_130 (by decide) ?_
                        refine lv_iload_n hx hb dX12_key_14 rfl (lv_at hl 0 rfl) ?_
                        refine va_ldcS hx hb hown hZ dX12_key_15 ?_
                        refine vp_callSi (va_Run.run (va_runV (As := []) (rest := [.int 18]) ⟨hx, hb, hml, hown, noTs⟩ (s_J0_length l adK adV 3 (by decide)) ⟨cbE 0 (wd_488 hE) (wd_129 hE) (wd_1527 hE) rfl rfl (by decide +kernel) ⟨Nat.le_of_ble_eq_true rfl, Nat.le_of_ble_eq_true rfl⟩, (wd_486 hE), (wd_487 hE)⟩ ⟨PS.blind, vk_recv hX.1 (by decide) hS, ps_pre (av := [.ref (adK 3)]) hX hS hE⟩ rfl rfl hl.1 rfl (lv_room (Nat.le_of_ble_eq_true rfl)) dX12_key_17 ⟨Nat.le_of_ble_eq_true rfl, Nat.le_of_ble_eq_true rfl⟩)) (fun r611 hr611 => ?_)
                        have hr611 : r611 = 18 := hr611
                        subst hr611
                        refine lv_icmp_ge (tgt := 133) hx hb dX12_key_20 (by decide) (fun c612 => ?_) (fun c612 => absurd c612 (by decide))
                        refine lv_iconst (v := -1) hx hb dX12_key_133 (by decide) ?_
                        exact W.iret (v := -1) hx hb hr (fun t ht hW => ⟨-1, rfl, trivial, ht⟩) (fun _ h => absurd h List.not_mem_nil) dX12_key_134
                      · have c610 := mt (b_eq (rfl : Int32.toInt x1_608 = _) (show Int32.toInt 0 = 0 from rfl)).mpr c610
                        refine lv_iload_n hx hb dX12_key_121 rfl (lv_at hl 1 rfl) ?_
                        exact W.iret (v := 2) hx hb hr (fun t ht hW => ⟨2, rfl, trivial, ht⟩) (fun _ h => absurd h List.not_mem_nil) dX12_key_122
                    · have c609 := mt (b_le (show Int32.toInt 4 = 4 from rfl) (nI_toInt (n := i_608) (by omega))).mpr c609
                      refine lv_iload hx hb dX12_key_75 (lv_at hl 4 rfl) ?_
                      refine lv_if_eq (tgt := 116) hx hb dX12_key_77 (by decide) (fun c613 => ?_) (fun c613 => ?_)
                      · have c613 := (b_eq (rfl : Int32.toInt x1_608 = _) (show Int32.toInt 0 = 0 from rfl)).mp c613
                        refine lv_iload hx hb dX12_key_116 (lv_at hl 4 rfl) ?_
                        refine lv_if_eq (tgt := 123) hx hb dX12_key_118 (by decide) (fun c614 => ?_) (fun c614 => ?_)
                        · have c614 := (b_eq (rfl : Int32.toInt x1_608 = _) (show Int32.toInt 0 = 0 from rfl)).mp c614
                          refine lv_iinc (v := 3) (lv' := [(1, .int 3), (0, .ref (b 0)), (2, .int 13), (3, .int 17), (4, .int x1_608), (5, .int (nI i_608))]) hx hb dX12_key_123 hl (k := 1) rfl (by decide) (by decide) rfl (fun ls hl => ?_)
                          refine lv_iload_n hx hb dX12_key_126 rfl (lv_at hl 3 rfl) ?_
                          refine lv_iconst (v := 1) hx hb dX12_key_127 (by decide) ?_
                          refine lv_iadd hx hb dX12_key_128 ?_
                          refine W.eq (g2 := F0 m 129 ls [.int 18]) rfl ?_
                          refine lv_istore_n (lv' := [(2, .int 18), (1, .int 3), (0, .ref (b 0)), (3, .int 17), (4, .int x1_608), (5, .int (nI i_608))]) hx hb dX12_key_129 rfl hl (by decide) rfl (fun ls hl => ?_)
                          refine lv_goto (tgt := 14) hx hb dX12_key_130 (by decide) ?_
                          refine lv_iload_n hx hb dX12_key_14 rfl (lv_at hl 0 rfl) ?_
                          refine va_ldcS hx hb hown hZ dX12_key_15 ?_
                          refine vp_callSi (va_Run.run (va_runV (As := []) (rest := [.int 18]) ⟨hx, hb, hml, hown, noTs⟩ (s_J0_length l adK adV 3 (by decide)) ⟨cbE 0 (wd_488 hE) (wd_129 hE) (wd_1527 hE) rfl rfl (by decide +kernel) ⟨Nat.le_of_ble_eq_true rfl, Nat.le_of_ble_eq_true rfl⟩, (wd_486 hE), (wd_487 hE)⟩ ⟨PS.blind, vk_recv hX.1 (by decide) hS, ps_pre (av := [.ref (adK 3)]) hX hS hE⟩ rfl rfl hl.1 rfl (lv_room (Nat.le_of_ble_eq_true rfl)) dX12_key_17 ⟨Nat.le_of_ble_eq_true rfl, Nat.le_of_ble_eq_true rfl⟩)) (fun r615 hr615 => ?_)
                          have hr615 : r615 = 18 := hr615
                          subst hr615
                          refine lv_icmp_ge (tgt := 133) hx hb dX12_key_20 (by decide) (fun c616 => ?_) (fun c616 => absurd c616 (by decide))
                          refine lv_iconst (v := -1) hx hb dX12_key_133 (by decide) ?_
                          exact W.iret (v := -1) hx hb hr (fun t ht hW => ⟨-1, rfl, trivial, ht⟩) (fun _ h => absurd h List.not_mem_nil) dX12_key_134
                        · have c614 := mt (b_eq (rfl : Int32.toInt x1_608 = _) (show Int32.toInt 0 = 0 from rfl)).mpr c614
                          refine lv_iload_n hx hb dX12_key_121 rfl (lv_at hl 1 rfl) ?_
                          exact W.iret (v := 2) hx hb hr (fun t ht hW => ⟨2, rfl, trivial, ht⟩) (fun _ h => absurd h List.not_mem_nil) dX12_key_122
                      · have c613 := mt (b_eq (rfl : Int32.toInt x1_608 = _) (show Int32.toInt 0 = 0 from rfl)).mpr c613
                        refine va_ldcS hx hb hown hZ dX12_key_80 ?_
                        refine lv_iload_n hx hb dX12_key_82 rfl (lv_at hl 2 rfl) ?_
                        refine lv_iload hx hb dX12_key_83 (lv_at hl 5 rfl) ?_
                        refine lv_iadd hx hb dX12_key_85 ?_
                        refine W.eq (g2 := F0 m 86 ls [.int (nI (13 + i_608)), .ref (adK 3)]) (congrArg (fun z : Int32 => F0 m 86 ls (.int z :: [.ref (adK 3)])) (nI_add 13 i_608)) ?_
                        refine vp_callSi (va_Run.run (va_runV (As := [.int (nI (13 + i_608))]) (rest := []) ⟨hx, hb, hml, hown, noTs⟩ (s_J0_charAt l adK adV 3 (13 + i_608) (by decide) (by show _ < 18; omega)) ⟨cbE 1 (wd_498 hE) (wd_129 hE) (wd_1528 hE) rfl rfl (by decide +kernel) ⟨Nat.le_of_ble_eq_true rfl, Nat.le_of_ble_eq_true rfl⟩, (wd_496 hE), (wd_497 hE)⟩ ⟨PS.blind, vk_recv hX.1 (by decide) hS, ps_pre (av := [.ref (adK 3), .int (nI (13 + i_608))]) hX hS hE⟩ rfl rfl hl.1 rfl (lv_room (Nat.le_of_ble_eq_true rfl)) dX12_key_86 ⟨Nat.le_of_ble_eq_true rfl, Nat.le_of_ble_eq_true rfl⟩)) (fun r617 hr617 => ?_)
                        refine lv_aload_n hx hb dX12_key_89 rfl (lv_at hl 0 rfl) ?_
                        refine lv_aload_n hx hb dX12_key_90 rfl (lv_at hl 0 rfl) ?_
                        refine r_get (v := .int (nI (fN u 13))) hx hb (ly_X12 hE) hown hK hP rfl 13 (by decide) (wd_1394 hE) (fun _ h9 => h9) (congrArg (fun z : Int32 => some (Value.int z)) hp0.1) dX12_key_91 ?_
                        refine lv_iload hx hb dX12_key_94 (lv_at hl 5 rfl) ?_
                        refine lv_iadd hx hb dX12_key_96 ?_
                        refine W.eq (g2 := F0 m 97 ls [.int (nI ((fN u 13) + i_608)), .ref (b 0), .int r617]) (congrArg (fun z : Int32 => F0 m 97 ls (.int z :: [.ref (b 0), .int r617])) (nI_add (fN u 13) i_608)) ?_
                        refine vp_callSi (va_Run.run (va_runV (As := [.int (nI ((fN u 13) + i_608))]) (rest := [.int r617]) ⟨hx, hb, hml, hown, noTs⟩ (r_X12_byteAt l dC dI s.heap.size cs b u tx hAc16 ((fN u 13) + i_608) sz1 hF11 (by first | assumption | omega | rfl | (congr 1; omega)) (by first | assumption | omega | rfl | (congr 1; omega))) ⟨cbE 1 (wd_1510 hE) (wd_126 hE) (wd_1507 hE) rfl rfl (by decide +kernel) ⟨Nat.le_of_ble_eq_true rfl, Nat.le_of_ble_eq_true rfl⟩, (wd_1509 hE), (wd_57 hE)⟩ ⟨PR.blind, r_recv hK hP rfl, (r_pre (av := [.ref (b 0), .int (nI ((fN u 13) + i_608))]) hK hP hJ hE)⟩ rfl rfl hl.1 rfl (lv_room (Nat.le_of_ble_eq_true rfl)) dX12_key_97 ⟨Nat.le_of_ble_eq_true rfl, Nat.le_of_ble_eq_true rfl⟩)) (fun r618 hr618 => ?_)
                        subst hr618
                        have htf618 := bA_f tx sz1 ((fN u 13) + i_608)
                        refine lv_icmp_ne (tgt := 107) hx hb dX12_key_100 (by decide) (fun c619 => ?_) (fun c619 => ?_)
                        · have c619 := mt (b_eq (rfl : Int32.toInt r617 = _) (rfl : Int32.toInt (bA tx sz1 ((fN u 13) + i_608)) = _)).mpr c619
                          refine lv_iconst (v := 0) hx hb dX12_key_107 (by decide) ?_
                          refine lv_istore (lv' := [(4, .int 0), (0, .ref (b 0)), (1, .int 2), (2, .int 13), (3, .int 17), (5, .int (nI i_608))]) hx hb dX12_key_108 hl (by decide) rfl (fun ls hl => ?_)
                          refine lv_iinc (v := nI (i_608 + 1)) (lv' := [(5, .int (nI (i_608 + 1))), (4, .int 0), (0, .ref (b 0)), (1, .int 2), (2, .int 13), (3, .int 17)]) hx hb dX12_key_110 hl (k := 5) rfl (nI_1 i_608) (by decide) rfl (fun ls hl => ?_)
                          refine lv_goto (tgt := 67) hx hb dX12_key_113 (by decide) ?_
                          exact ih608 _ _ (by omega) ⟨(i_608 + 1), 0, rfl, (by first | assumption | omega | rfl | (congr 1; omega)), lv_sub hl [2, 3, 4, 5, 1, 0] rfl⟩
                        · have c619 := (b_eq (rfl : Int32.toInt r617 = _) (rfl : Int32.toInt (bA tx sz1 ((fN u 13) + i_608)) = _)).mp c619
                          refine lv_iconst (v := 1) hx hb dX12_key_103 (by decide) ?_
                          refine lv_goto (tgt := 108) hx hb dX12_key_104 (by decide) ?_
                          refine lv_istore (lv' := [(4, .int 1), (0, .ref (b 0)), (1, .int 2), (2, .int 13), (3, .int 17), (5, .int (nI i_608))]) hx hb dX12_key_108 hl (by decide) rfl (fun ls hl => ?_)
                          refine lv_iinc (v := nI (i_608 + 1)) (lv' := [(5, .int (nI (i_608 + 1))), (4, .int 1), (0, .ref (b 0)), (1, .int 2), (2, .int 13), (3, .int 17)]) hx hb dX12_key_110 hl (k := 5) rfl (nI_1 i_608) (by decide) rfl (fun ls hl => ?_)
                          refine lv_goto (tgt := 67) hx hb dX12_key_113 (by decide) ?_
                          exact ih608 _ _ (by omega) ⟨(i_608 + 1), 1, rfl, (by first | assumption | omega | rfl | (congr 1; omega)), lv_sub hl [2, 3, 4, 5, 1, 0] rfl⟩
                · have c582 := mt (b_eq (rfl : Int32.toInt x1_580 = _) (show Int32.toInt 0 = 0 from rfl)).mpr c582
                  refine lv_iload_n hx hb dX12_key_121 rfl (lv_at hl 1 rfl) ?_
                  exact W.iret (v := 1) hx hb hr (fun t ht hW => ⟨1, rfl, trivial, ht⟩) (fun _ h => absurd h List.not_mem_nil) dX12_key_122
              · have c581 := mt (b_le (show Int32.toInt 4 = 4 from rfl) (nI_toInt (n := i_580) (by omega))).mpr c581
                refine lv_iload hx hb dX12_key_75 (lv_at hl 4 rfl) ?_
                refine lv_if_eq (tgt := 116) hx hb dX12_key_77 (by decide) (fun c620 => ?_) (fun c620 => ?_)
                · have c620 := (b_eq (rfl : Int32.toInt x1_580 = _) (show Int32.toInt 0 = 0 from rfl)).mp c620
                  refine lv_iload hx hb dX12_key_116 (lv_at hl 4 rfl) ?_
                  refine lv_if_eq (tgt := 123) hx hb dX12_key_118 (by decide) (fun c621 => ?_) (fun c621 => ?_)
                  · have c621 := (b_eq (rfl : Int32.toInt x1_580 = _) (show Int32.toInt 0 = 0 from rfl)).mp c621
                    refine lv_iinc (v := 2) (lv' := [(1, .int 2), (0, .ref (b 0)), (2, .int 8), (3, .int 12), (4, .int x1_580), (5, .int (nI i_580))]) hx hb dX12_key_123 hl (k := 1) rfl (by decide) (by decide) rfl (fun ls hl => ?_)
                    refine lv_iload_n hx hb dX12_key_126 rfl (lv_at hl 3 rfl) ?_
                    refine lv_iconst (v := 1) hx hb dX12_key_127 (by decide) ?_
                    refine lv_iadd hx hb dX12_key_128 ?_
                    refine W.eq (g2 := F0 m 129 ls [.int 13]) rfl ?_
                    refine lv_istore_n (lv' := [(2, .int 13), (1, .int 2), (0, .ref (b 0)), (3, .int 12), (4, .int x1_580), (5, .int (nI i_580))]) hx hb dX12_key_129 rfl hl (by decide) rfl (fun ls hl => ?_)
                    refine lv_goto (tgt := 14) hx hb dX12_key_130 (by decide) ?_
                    refine lv_iload_n hx hb dX12_key_14 rfl (lv_at hl 0 rfl) ?_
                    refine va_ldcS hx hb hown hZ dX12_key_15 ?_
                    refine vp_callSi (va_Run.run (va_runV (As := []) (rest := [.int 13]) ⟨hx, hb, hml, hown, noTs⟩ (s_J0_length l adK adV 3 (by decide)) ⟨cbE 0 (wd_488 hE) (wd_129 hE) (wd_1527 hE) rfl rfl (by decide +kernel) ⟨Nat.le_of_ble_eq_true rfl, Nat.le_of_ble_eq_true rfl⟩, (wd_486 hE), (wd_487 hE)⟩ ⟨PS.blind, vk_recv hX.1 (by decide) hS, ps_pre (av := [.ref (adK 3)]) hX hS hE⟩ rfl rfl hl.1 rfl (lv_room (Nat.le_of_ble_eq_true rfl)) dX12_key_17 ⟨Nat.le_of_ble_eq_true rfl, Nat.le_of_ble_eq_true rfl⟩)) (fun r622 hr622 => ?_)
                    have hr622 : r622 = 18 := hr622
                    subst hr622
                    refine lv_icmp_ge (tgt := 133) hx hb dX12_key_20 (by decide) (fun c623 => absurd c623 (by decide)) (fun c623 => ?_)
                    refine lv_iload_n hx hb dX12_key_23 rfl (lv_at hl 0 rfl) ?_
                    refine lv_istore_n (lv' := [(3, .int 13), (2, .int 13), (1, .int 2), (0, .ref (b 0)), (4, .int x1_580), (5, .int (nI i_580))]) hx hb dX12_key_24 rfl hl (by decide) rfl (fun ls hl => ?_)
                    refine va_ldcS hx hb hown hZ dX12_key_25 ?_
                    refine lv_iload_n hx hb dX12_key_27 rfl (lv_at hl 0 rfl) ?_
                    refine vp_callSi (va_Run.run (va_runV (As := [.int (nI 13)]) (rest := []) ⟨hx, hb, hml, hown, noTs⟩ (s_J0_charAt l adK adV 3 13 (by decide) (by show _ < 18; omega)) ⟨cbE 1 (wd_498 hE) (wd_129 hE) (wd_1528 hE) rfl rfl (by decide +kernel) ⟨Nat.le_of_ble_eq_true rfl, Nat.le_of_ble_eq_true rfl⟩, (wd_496 hE), (wd_497 hE)⟩ ⟨PS.blind, vk_recv hX.1 (by decide) hS, ps_pre (av := [.ref (adK 3), .int (nI 13)]) hX hS hE⟩ rfl rfl hl.1 rfl (lv_room (Nat.le_of_ble_eq_true rfl)) dX12_key_28 ⟨Nat.le_of_ble_eq_true rfl, Nat.le_of_ble_eq_true rfl⟩)) (fun r624 hr624 => ?_)
                    have hr624 : r624 = 119 := hr624.trans (by decide)
                    subst hr624
                    refine lv_bipush (v := 32) hx hb dX12_key_31 (by decide) ?_
                    refine lv_icmp_eq (tgt := 42) hx hb dX12_key_33 (by decide) (fun c625 => absurd c625 (by decide)) (fun c625 => ?_)
                    refine lv_iinc (v := 14) (lv' := [(3, .int 14), (2, .int 13), (1, .int 2), (0, .ref (b 0)), (4, .int x1_580), (5, .int (nI i_580))]) hx hb dX12_key_36 hl (k := 0) rfl (by decide) (by decide) rfl (fun ls hl => ?_)
                    refine lv_goto (tgt := 25) hx hb dX12_key_39 (by decide) ?_
                    refine va_ldcS hx hb hown hZ dX12_key_25 ?_
                    refine lv_iload_n hx hb dX12_key_27 rfl (lv_at hl 0 rfl) ?_
                    refine vp_callSi (va_Run.run (va_runV (As := [.int (nI 14)]) (rest := []) ⟨hx, hb, hml, hown, noTs⟩ (s_J0_charAt l adK adV 3 14 (by decide) (by show _ < 18; omega)) ⟨cbE 1 (wd_498 hE) (wd_129 hE) (wd_1528 hE) rfl rfl (by decide +kernel) ⟨Nat.le_of_ble_eq_true rfl, Nat.le_of_ble_eq_true rfl⟩, (wd_496 hE), (wd_497 hE)⟩ ⟨PS.blind, vk_recv hX.1 (by decide) hS, ps_pre (av := [.ref (adK 3), .int (nI 14)]) hX hS hE⟩ rfl rfl hl.1 rfl (lv_room (Nat.le_of_ble_eq_true rfl)) dX12_key_28 ⟨Nat.le_of_ble_eq_true rfl, Nat.le_of_ble_eq_true rfl⟩)) (fun r626 hr626 => ?_)
                    have hr626 : r626 = 111 := hr626.trans (by decide)
                    subst hr626
                    refine lv_bipush (v := 32) hx hb dX12_key_31 (by decide) ?_
                    refine lv_icmp_eq (tgt := 42) hx hb dX12_key_33 (by decide) (fun c627 => absurd c627 (by decide)) (fun c627 => ?_)
                    refine lv_iinc (v := 15) (lv' := [(3, .int 15), (2, .int 13), (1, .int 2), (0, .ref (b 0)), (4, .int x1_580), (5, .int (nI i_580))]) hx hb dX12_key_36 hl (k := 0) rfl (by decide) (by decide) rfl (fun ls hl => ?_)
                    refine lv_goto (tgt := 25) hx hb dX12_key_39 (by decide) ?_
                    refine va_ldcS hx hb hown hZ dX12_key_25 ?_
                    refine lv_iload_n hx hb dX12_key_27 rfl (lv_at hl 0 rfl) ?_
                    refine vp_callSi (va_Run.run (va_runV (As := [.int (nI 15)]) (rest := []) ⟨hx, hb, hml, hown, noTs⟩ (s_J0_charAt l adK adV 3 15 (by decide) (by show _ < 18; omega)) ⟨cbE 1 (wd_498 hE) (wd_129 hE) (wd_1528 hE) rfl rfl (by decide +kernel) ⟨Nat.le_of_ble_eq_true rfl, Nat.le_of_ble_eq_true rfl⟩, (wd_496 hE), (wd_497 hE)⟩ ⟨PS.blind, vk_recv hX.1 (by decide) hS, ps_pre (av := [.ref (adK 3), .int (nI 15)]) hX hS hE⟩ rfl rfl hl.1 rfl (lv_room (Nat.le_of_ble_eq_true rfl)) dX12_key_28 ⟨Nat.le_of_ble_eq_true rfl, Nat.le_of_ble_eq_true rfl⟩)) (fun r628 hr628 => ?_)
                    have hr628 : r628 = 114 := hr628.trans (by decide)
                    subst hr628
                    refine lv_bipush (v := 32) hx hb dX12_key_31 (by decide) ?_
                    refine lv_icmp_eq (tgt := 42) hx hb dX12_key_33 (by decide) (fun c629 => absurd c629 (by decide)) (fun c629 => ?_)
                    refine lv_iinc (v := 16) (lv' := [(3, .int 16), (2, .int 13), (1, .int 2), (0, .ref (b 0)), (4, .int x1_580), (5, .int (nI i_580))]) hx hb dX12_key_36 hl (k := 0) rfl (by decide) (by decide) rfl (fun ls hl => ?_)
                    refine lv_goto (tgt := 25) hx hb dX12_key_39 (by decide) ?_
                    refine va_ldcS hx hb hown hZ dX12_key_25 ?_
                    refine lv_iload_n hx hb dX12_key_27 rfl (lv_at hl 0 rfl) ?_
                    refine vp_callSi (va_Run.run (va_runV (As := [.int (nI 16)]) (rest := []) ⟨hx, hb, hml, hown, noTs⟩ (s_J0_charAt l adK adV 3 16 (by decide) (by show _ < 18; omega)) ⟨cbE 1 (wd_498 hE) (wd_129 hE) (wd_1528 hE) rfl rfl (by decide +kernel) ⟨Nat.le_of_ble_eq_true rfl, Nat.le_of_ble_eq_true rfl⟩, (wd_496 hE), (wd_497 hE)⟩ ⟨PS.blind, vk_recv hX.1 (by decide) hS, ps_pre (av := [.ref (adK 3), .int (nI 16)]) hX hS hE⟩ rfl rfl hl.1 rfl (lv_room (Nat.le_of_ble_eq_true rfl)) dX12_key_28 ⟨Nat.le_of_ble_eq_true rfl, Nat.le_of_ble_eq_true rfl⟩)) (fun r630 hr630 => ?_)
                    have hr630 : r630 = 100 := hr630.trans (by decide)
                    subst hr630
                    refine lv_bipush (v := 32) hx hb dX12_key_31 (by decide) ?_
                    refine lv_icmp_eq (tgt := 42) hx hb dX12_key_33 (by decide) (fun c631 => absurd c631 (by decide)) (fun c631 => ?_)
                    refine lv_iinc (v := 17) (lv' := [(3, .int 17), (2, .int 13), (1, .int 2), (0, .ref (b 0)), (4, .int x1_580), (5, .int (nI i_580))]) hx hb dX12_key_36 hl (k := 0) rfl (by decide) (by decide) rfl (fun ls hl => ?_)
                    refine lv_goto (tgt := 25) hx hb dX12_key_39 (by decide) ?_
                    refine va_ldcS hx hb hown hZ dX12_key_25 ?_
                    refine lv_iload_n hx hb dX12_key_27 rfl (lv_at hl 0 rfl) ?_
                    refine vp_callSi (va_Run.run (va_runV (As := [.int (nI 17)]) (rest := []) ⟨hx, hb, hml, hown, noTs⟩ (s_J0_charAt l adK adV 3 17 (by decide) (by show _ < 18; omega)) ⟨cbE 1 (wd_498 hE) (wd_129 hE) (wd_1528 hE) rfl rfl (by decide +kernel) ⟨Nat.le_of_ble_eq_true rfl, Nat.le_of_ble_eq_true rfl⟩, (wd_496 hE), (wd_497 hE)⟩ ⟨PS.blind, vk_recv hX.1 (by decide) hS, ps_pre (av := [.ref (adK 3), .int (nI 17)]) hX hS hE⟩ rfl rfl hl.1 rfl (lv_room (Nat.le_of_ble_eq_true rfl)) dX12_key_28 ⟨Nat.le_of_ble_eq_true rfl, Nat.le_of_ble_eq_true rfl⟩)) (fun r632 hr632 => ?_)
                    have hr632 : r632 = 32 := hr632.trans (by decide)
                    subst hr632
                    refine lv_bipush (v := 32) hx hb dX12_key_31 (by decide) ?_
                    refine lv_icmp_eq (tgt := 42) hx hb dX12_key_33 (by decide) (fun c633 => ?_) (fun c633 => absurd c633 (by decide))
                    refine lv_iload_n hx hb dX12_key_42 rfl (lv_at hl 0 rfl) ?_
                    refine lv_iload_n hx hb dX12_key_43 rfl (lv_at hl 1 rfl) ?_
                    refine lv_isub hx hb dX12_key_44 ?_
                    refine W.eq (g2 := F0 m 45 ls [.int 4]) rfl ?_
                    refine lv_aload_n hx hb dX12_key_45 rfl (lv_at hl 3 rfl) ?_
                    refine r_get (v := .int (nI (fN u 14))) hx hb (ly_X12 hE) hown hK hP rfl 14 (by decide) (wd_1395 hE) (fun _ h9 => h9) (congrArg (fun z : Int32 => some (Value.int z)) hp0.2.1) dX12_key_46 ?_
                    refine lv_aload_n hx hb dX12_key_49 rfl (lv_at hl 3 rfl) ?_
                    refine r_get (v := .int (nI (fN u 13))) hx hb (ly_X12 hE) hown hK hP rfl 13 (by decide) (wd_1394 hE) (fun _ h9 => h9) (congrArg (fun z : Int32 => some (Value.int z)) hp0.1) dX12_key_50 ?_
                    refine lv_isub hx hb dX12_key_53 ?_
                    refine W.eq (g2 := F0 m 54 ls [.int (nI ((fN u 14) - (fN u 13))), .int 4]) (congrArg (fun z : Int32 => F0 m 54 ls (.int z :: [.int 4])) (pk_sub (a := fN u 14) (b := fN u 13) (by omega))) ?_
                    refine lv_icmp_ne (tgt := 61) hx hb dX12_key_54 (by decide) (fun c634 => ?_) (fun c634 => ?_)
                    · have c634 := mt (b_eq (show Int32.toInt 4 = 4 from rfl) (nI_toInt (n := (fN u 14) - (fN u 13)) (by omega))).mpr c634
                      refine lv_iconst (v := 0) hx hb dX12_key_61 (by decide) ?_
                      refine lv_istore (lv' := [(4, .int 0), (3, .int 17), (2, .int 13), (1, .int 2), (0, .ref (b 0)), (5, .int (nI i_580))]) hx hb dX12_key_62 hl (by decide) rfl (fun ls hl => ?_)
                      refine lv_iconst (v := 0) hx hb dX12_key_64 (by decide) ?_
                      refine lv_istore (lv' := [(5, .int 0), (4, .int 0), (3, .int 17), (2, .int 13), (1, .int 2), (0, .ref (b 0))]) hx hb dX12_key_65 hl (by decide) rfl (fun ls hl => ?_)
                      refine r_indP (I := fun n ls => ∃ (i_635 : Nat) (x1_635 : Int32), n = 17 - 13 - i_635 ∧ (i_635 ≤ 17 - 13) ∧ lv_has ls 6 [(0, .ref (b 0)), (1, .int 2), (2, .int 13), (3, .int 17), (4, .int x1_635), (5, .int (nI i_635))]) (fun n ls hI ih635 => ?_) _ _ ⟨0, 0, rfl, (by first | assumption | omega | rfl | (congr 1; omega)), lv_sub hl [5, 4, 3, 2, 1, 0] rfl⟩
                      obtain ⟨i_635, x1_635, hmu635, hL635_0, hl⟩ := hI
                      subst hmu635
                      refine lv_iload hx hb dX12_key_67 (lv_at hl 5 rfl) ?_
                      refine lv_iload_n hx hb dX12_key_69 rfl (lv_at hl 3 rfl) ?_
                      refine lv_iload_n hx hb dX12_key_70 rfl (lv_at hl 2 rfl) ?_
                      refine lv_isub hx hb dX12_key_71 ?_
                      refine W.eq (g2 := F0 m 72 ls [.int 4, .int (nI i_635)]) rfl ?_
                      refine lv_icmp_ge (tgt := 116) hx hb dX12_key_72 (by decide) (fun c636 => ?_) (fun c636 => ?_)
                      · have c636 := (b_le (show Int32.toInt 4 = 4 from rfl) (nI_toInt (n := i_635) (by omega))).mp c636
                        refine lv_iload hx hb dX12_key_116 (lv_at hl 4 rfl) ?_
                        refine lv_if_eq (tgt := 123) hx hb dX12_key_118 (by decide) (fun c637 => ?_) (fun c637 => ?_)
                        · have c637 := (b_eq (rfl : Int32.toInt x1_635 = _) (show Int32.toInt 0 = 0 from rfl)).mp c637
                          refine lv_iinc (v := 3) (lv' := [(1, .int 3), (0, .ref (b 0)), (2, .int 13), (3, .int 17), (4, .int x1_635), (5, .int (nI i_635))]) hx hb dX12_key_123 hl (k := 1) rfl (by decide) (by decide) rfl (fun ls hl => ?_)
                          refine lv_iload_n hx hb dX12_key_126 rfl (lv_at hl 3 rfl) ?_
                          refine lv_iconst (v := 1) hx hb dX12_key_127 (by decide) ?_
                          refine lv_iadd hx hb dX12_key_128 ?_
                          refine W.eq (g2 := F0 m 129 ls [.int 18]) rfl ?_
                          refine lv_istore_n (lv' := [(2, .int 18), (1, .int 3), (0, .ref (b 0)), (3, .int 17), (4, .int x1_635), (5, .int (nI i_635))]) hx hb dX12_key_129 rfl hl (by decide) rfl (fun ls hl => ?_)
                          refine lv_goto (tgt := 14) hx hb dX12_key_130 (by decide) ?_
                          refine lv_iload_n hx hb dX12_key_14 rfl (lv_at hl 0 rfl) ?_
                          refine va_ldcS hx hb hown hZ dX12_key_15 ?_
                          refine vp_callSi (va_Run.run (va_runV (As := []) (rest := [.int 18]) ⟨hx, hb, hml, hown, noTs⟩ (s_J0_length l adK adV 3 (by decide)) ⟨cbE 0 (wd_488 hE) (wd_129 hE) (wd_1527 hE) rfl rfl (by decide +kernel) ⟨Nat.le_of_ble_eq_true rfl, Nat.le_of_ble_eq_true rfl⟩, (wd_486 hE), (wd_487 hE)⟩ ⟨PS.blind, vk_recv hX.1 (by decide) hS, ps_pre (av := [.ref (adK 3)]) hX hS hE⟩ rfl rfl hl.1 rfl (lv_room (Nat.le_of_ble_eq_true rfl)) dX12_key_17 ⟨Nat.le_of_ble_eq_true rfl, Nat.le_of_ble_eq_true rfl⟩)) (fun r638 hr638 => ?_)
                          have hr638 : r638 = 18 := hr638
                          subst hr638
                          refine lv_icmp_ge (tgt := 133) hx hb dX12_key_20 (by decide) (fun c639 => ?_) (fun c639 => absurd c639 (by decide))
                          refine lv_iconst (v := -1) hx hb dX12_key_133 (by decide) ?_
                          exact W.iret (v := -1) hx hb hr (fun t ht hW => ⟨-1, rfl, trivial, ht⟩) (fun _ h => absurd h List.not_mem_nil) dX12_key_134
                        · have c637 := mt (b_eq (rfl : Int32.toInt x1_635 = _) (show Int32.toInt 0 = 0 from rfl)).mpr c637
                          refine lv_iload_n hx hb dX12_key_121 rfl (lv_at hl 1 rfl) ?_
                          exact W.iret (v := 2) hx hb hr (fun t ht hW => ⟨2, rfl, trivial, ht⟩) (fun _ h => absurd h List.not_mem_nil) dX12_key_122
                      · have c636 := mt (b_le (show Int32.toInt 4 = 4 from rfl) (nI_toInt (n := i_635) (by omega))).mpr c636
                        refine lv_iload hx hb dX12_key_75 (lv_at hl 4 rfl) ?_
                        refine lv_if_eq (tgt := 116) hx hb dX12_key_77 (by decide) (fun c640 => ?_) (fun c640 => ?_)
                        · have c640 := (b_eq (rfl : Int32.toInt x1_635 = _) (show Int32.toInt 0 = 0 from rfl)).mp c640
                          refine lv_iload hx hb dX12_key_116 (lv_at hl 4 rfl) ?_
                          refine lv_if_eq (tgt := 123) hx hb dX12_key_118 (by decide) (fun c641 => ?_) (fun c641 => ?_)
                          · have c641 := (b_eq (rfl : Int32.toInt x1_635 = _) (show Int32.toInt 0 = 0 from rfl)).mp c641
                            refine lv_iinc (v := 3) (lv' := [(1, .int 3), (0, .ref (b 0)), (2, .int 13), (3, .int 17), (4, .int x1_635), (5, .int (nI i_635))]) hx hb dX12_key_123 hl (k := 1) rfl (by decide) (by decide) rfl (fun ls hl => ?_)
                            refine lv_iload_n hx hb dX12_key_126 rfl (lv_at hl 3 rfl) ?_
                            refine lv_iconst (v := 1) hx hb dX12_key_127 (by decide) ?_
                            refine lv_iadd hx hb dX12_key_128 ?_
                            refine W.eq (g2 := F0 m 129 ls [.int 18]) rfl ?_
                            refine lv_istore_n (lv' := [(2, .int 18), (1, .int 3), (0, .ref (b 0)), (3, .int 17), (4, .int x1_635), (5, .int (nI i_635))]) hx hb dX12_key_129 rfl hl (by decide) rfl (fun ls hl => ?_)
                            refine lv_goto (tgt := 14) hx hb dX12_key_130 (by decide) ?_
                            refine lv_iload_n hx hb dX12_key_14 rfl (lv_at hl 0 rfl) ?_
                            refine va_ldcS hx hb hown hZ dX12_key_15 ?_
                            refine vp_callSi (va_Run.run (va_runV (As := []) (rest := [.int 18]) ⟨hx, hb, hml, hown, noTs⟩ (s_J0_length l adK adV 3 (by decide)) ⟨cbE 0 (wd_488 hE) (wd_129 hE) (wd_1527 hE) rfl rfl (by decide +kernel) ⟨Nat.le_of_ble_eq_true rfl, Nat.le_of_ble_eq_true rfl⟩, (wd_486 hE), (wd_487 hE)⟩ ⟨PS.blind, vk_recv hX.1 (by decide) hS, ps_pre (av := [.ref (adK 3)]) hX hS hE⟩ rfl rfl hl.1 rfl (lv_room (Nat.le_of_ble_eq_true rfl)) dX12_key_17 ⟨Nat.le_of_ble_eq_true rfl, Nat.le_of_ble_eq_true rfl⟩)) (fun r642 hr642 => ?_)
                            have hr642 : r642 = 18 := hr642
                            subst hr642
                            refine lv_icmp_ge (tgt := 133) hx hb dX12_key_20 (by decide) (fun c643 => ?_) (fun c643 => absurd c643 (by decide))
                            refine lv_iconst (v := -1) hx hb dX12_key_133 (by decide) ?_
                            exact W.iret (v := -1) hx hb hr (fun t ht hW => ⟨-1, rfl, trivial, ht⟩) (fun _ h => absurd h List.not_mem_nil) dX12_key_134
                          · have c641 := mt (b_eq (rfl : Int32.toInt x1_635 = _) (show Int32.toInt 0 = 0 from rfl)).mpr c641
                            refine lv_iload_n hx hb dX12_key_121 rfl (lv_at hl 1 rfl) ?_
                            exact W.iret (v := 2) hx hb hr (fun t ht hW => ⟨2, rfl, trivial, ht⟩) (fun _ h => absurd h List.not_mem_nil) dX12_key_122
                        · have c640 := mt (b_eq (rfl : Int32.toInt x1_635 = _) (show Int32.toInt 0 = 0 from rfl)).mpr c640
                          refine va_ldcS hx hb hown hZ dX12_key_80 ?_
                          refine lv_iload_n hx hb dX12_key_82 rfl (lv_at hl 2 rfl) ?_
                          refine lv_iload hx hb dX12_key_83 (lv_at hl 5 rfl) ?_
                          refine lv_iadd hx hb dX12_key_85 ?_
                          refine W.eq (g2 := F0 m 86 ls [.int (nI (13 + i_635)), .ref (adK 3)]) (congrArg (fun z : Int32 => F0 m 86 ls (.int z :: [.ref (adK 3)])) (nI_add 13 i_635)) ?_
                          refine vp_callSi (va_Run.run (va_runV (As := [.int (nI (13 + i_635))]) (rest := []) ⟨hx, hb, hml, hown, noTs⟩ (s_J0_charAt l adK adV 3 (13 + i_635) (by decide) (by show _ < 18; omega)) ⟨cbE 1 (wd_498 hE) (wd_129 hE) (wd_1528 hE) rfl rfl (by decide +kernel) ⟨Nat.le_of_ble_eq_true rfl, Nat.le_of_ble_eq_true rfl⟩, (wd_496 hE), (wd_497 hE)⟩ ⟨PS.blind, vk_recv hX.1 (by decide) hS, ps_pre (av := [.ref (adK 3), .int (nI (13 + i_635))]) hX hS hE⟩ rfl rfl hl.1 rfl (lv_room (Nat.le_of_ble_eq_true rfl)) dX12_key_86 ⟨Nat.le_of_ble_eq_true rfl, Nat.le_of_ble_eq_true rfl⟩)) (fun r644 hr644 => ?_)
                          refine lv_aload_n hx hb dX12_key_89 rfl (lv_at hl 0 rfl) ?_
                          refine lv_aload_n hx hb dX12_key_90 rfl (lv_at hl 0 rfl) ?_
                          refine r_get (v := .int (nI (fN u 13))) hx hb (ly_X12 hE) hown hK hP rfl 13 (by decide) (wd_1394 hE) (fun _ h9 => h9) (congrArg (fun z : Int32 => some (Value.int z)) hp0.1) dX12_key_91 ?_
                          refine lv_iload hx hb dX12_key_94 (lv_at hl 5 rfl) ?_
                          refine lv_iadd hx hb dX12_key_96 ?_
                          refine W.eq (g2 := F0 m 97 ls [.int (nI ((fN u 13) + i_635)), .ref (b 0), .int r644]) (congrArg (fun z : Int32 => F0 m 97 ls (.int z :: [.ref (b 0), .int r644])) (nI_add (fN u 13) i_635)) ?_
                          refine vp_callSi (va_Run.run (va_runV (As := [.int (nI ((fN u 13) + i_635))]) (rest := [.int r644]) ⟨hx, hb, hml, hown, noTs⟩ (r_X12_byteAt l dC dI s.heap.size cs b u tx hAc16 ((fN u 13) + i_635) sz1 hF11 (by first | assumption | omega | rfl | (congr 1; omega)) (by first | assumption | omega | rfl | (congr 1; omega))) ⟨cbE 1 (wd_1510 hE) (wd_126 hE) (wd_1507 hE) rfl rfl (by decide +kernel) ⟨Nat.le_of_ble_eq_true rfl, Nat.le_of_ble_eq_true rfl⟩, (wd_1509 hE), (wd_57 hE)⟩ ⟨PR.blind, r_recv hK hP rfl, (r_pre (av := [.ref (b 0), .int (nI ((fN u 13) + i_635))]) hK hP hJ hE)⟩ rfl rfl hl.1 rfl (lv_room (Nat.le_of_ble_eq_true rfl)) dX12_key_97 ⟨Nat.le_of_ble_eq_true rfl, Nat.le_of_ble_eq_true rfl⟩)) (fun r645 hr645 => ?_)
                          subst hr645
                          have htf645 := bA_f tx sz1 ((fN u 13) + i_635)
                          refine lv_icmp_ne (tgt := 107) hx hb dX12_key_100 (by decide) (fun c646 => ?_) (fun c646 => ?_)
                          · have c646 := mt (b_eq (rfl : Int32.toInt r644 = _) (rfl : Int32.toInt (bA tx sz1 ((fN u 13) + i_635)) = _)).mpr c646
                            refine lv_iconst (v := 0) hx hb dX12_key_107 (by decide) ?_
                            refine lv_istore (lv' := [(4, .int 0), (0, .ref (b 0)), (1, .int 2), (2, .int 13), (3, .int 17), (5, .int (nI i_635))]) hx hb dX12_key_108 hl (by decide) rfl (fun ls hl => ?_)
                            refine lv_iinc (v := nI (i_635 + 1)) (lv' := [(5, .int (nI (i_635 + 1))), (4, .int 0), (0, .ref (b 0)), (1, .int 2), (2, .int 13), (3, .int 17)]) hx hb dX12_key_110 hl (k := 5) rfl (nI_1 i_635) (by decide) rfl (fun ls hl => ?_)
                            refine lv_goto (tgt := 67) hx hb dX12_key_113 (by decide) ?_
                            exact ih635 _ _ (by omega) ⟨(i_635 + 1), 0, rfl, (by first | assumption | omega | rfl | (congr 1; omega)), lv_sub hl [2, 3, 4, 5, 1, 0] rfl⟩
                          · have c646 := (b_eq (rfl : Int32.toInt r644 = _) (rfl : Int32.toInt (bA tx sz1 ((fN u 13) + i_635)) = _)).mp c646
                            refine lv_iconst (v := 1) hx hb dX12_key_103 (by decide) ?_
                            refine lv_goto (tgt := 108) hx hb dX12_key_104 (by decide) ?_
                            refine lv_istore (lv' := [(4, .int 1), (0, .ref (b 0)), (1, .int 2), (2, .int 13), (3, .int 17), (5, .int (nI i_635))]) hx hb dX12_key_108 hl (by decide) rfl (fun ls hl => ?_)
                            refine lv_iinc (v := nI (i_635 + 1)) (lv' := [(5, .int (nI (i_635 + 1))), (4, .int 1), (0, .ref (b 0)), (1, .int 2), (2, .int 13), (3, .int 17)]) hx hb dX12_key_110 hl (k := 5) rfl (nI_1 i_635) (by decide) rfl (fun ls hl => ?_)
                            refine lv_goto (tgt := 67) hx hb dX12_key_113 (by decide) ?_
                            exact ih635 _ _ (by omega) ⟨(i_635 + 1), 1, rfl, (by first | assumption | omega | rfl | (congr 1; omega)), lv_sub hl [2, 3, 4, 5, 1, 0] rfl⟩
                    · have c634 := (b_eq (show Int32.toInt 4 = 4 from rfl) (nI_toInt (n := (fN u 14) - (fN u 13)) (by omega))).mp c634
                      refine lv_iconst (v := 1) hx hb dX12_key_57 (by decide) ?_
                      refine lv_goto (tgt := 62) hx hb dX12_key_58 (by decide) ?_
                      refine lv_istore (lv' := [(4, .int 1), (3, .int 17), (2, .int 13), (1, .int 2), (0, .ref (b 0)), (5, .int (nI i_580))]) hx hb dX12_key_62 hl (by decide) rfl (fun ls hl => ?_)
                      refine lv_iconst (v := 0) hx hb dX12_key_64 (by decide) ?_
                      refine lv_istore (lv' := [(5, .int 0), (4, .int 1), (3, .int 17), (2, .int 13), (1, .int 2), (0, .ref (b 0))]) hx hb dX12_key_65 hl (by decide) rfl (fun ls hl => ?_)
                      refine r_indP (I := fun n ls => ∃ (i_647 : Nat) (x1_647 : Int32), n = 17 - 13 - i_647 ∧ (i_647 ≤ 17 - 13) ∧ lv_has ls 6 [(0, .ref (b 0)), (1, .int 2), (2, .int 13), (3, .int 17), (4, .int x1_647), (5, .int (nI i_647))]) (fun n ls hI ih647 => ?_) _ _ ⟨0, 1, rfl, (by first | assumption | omega | rfl | (congr 1; omega)), lv_sub hl [5, 4, 3, 2, 1, 0] rfl⟩
                      obtain ⟨i_647, x1_647, hmu647, hL647_0, hl⟩ := hI
                      subst hmu647
                      refine lv_iload hx hb dX12_key_67 (lv_at hl 5 rfl) ?_
                      refine lv_iload_n hx hb dX12_key_69 rfl (lv_at hl 3 rfl) ?_
                      refine lv_iload_n hx hb dX12_key_70 rfl (lv_at hl 2 rfl) ?_
                      refine lv_isub hx hb dX12_key_71 ?_
                      refine W.eq (g2 := F0 m 72 ls [.int 4, .int (nI i_647)]) rfl ?_
                      refine lv_icmp_ge (tgt := 116) hx hb dX12_key_72 (by decide) (fun c648 => ?_) (fun c648 => ?_)
                      · have c648 := (b_le (show Int32.toInt 4 = 4 from rfl) (nI_toInt (n := i_647) (by omega))).mp c648
                        refine lv_iload hx hb dX12_key_116 (lv_at hl 4 rfl) ?_
                        refine lv_if_eq (tgt := 123) hx hb dX12_key_118 (by decide) (fun c649 => ?_) (fun c649 => ?_)
                        · have c649 := (b_eq (rfl : Int32.toInt x1_647 = _) (show Int32.toInt 0 = 0 from rfl)).mp c649
                          refine lv_iinc (v := 3) (lv' := [(1, .int 3), (0, .ref (b 0)), (2, .int 13), (3, .int 17), (4, .int x1_647), (5, .int (nI i_647))]) hx hb dX12_key_123 hl (k := 1) rfl (by decide) (by decide) rfl (fun ls hl => ?_)
                          refine lv_iload_n hx hb dX12_key_126 rfl (lv_at hl 3 rfl) ?_
                          refine lv_iconst (v := 1) hx hb dX12_key_127 (by decide) ?_
                          refine lv_iadd hx hb dX12_key_128 ?_
                          refine W.eq (g2 := F0 m 129 ls [.int 18]) rfl ?_
                          refine lv_istore_n (lv' := [(2, .int 18), (1, .int 3), (0, .ref (b 0)), (3, .int 17), (4, .int x1_647), (5, .int (nI i_647))]) hx hb dX12_key_129 rfl hl (by decide) rfl (fun ls hl => ?_)
                          refine lv_goto (tgt := 14) hx hb dX12_key_130 (by decide) ?_
                          refine lv_iload_n hx hb dX12_key_14 rfl (lv_at hl 0 rfl) ?_
                          refine va_ldcS hx hb hown hZ dX12_key_15 ?_
                          refine vp_callSi (va_Run.run (va_runV (As := []) (rest := [.int 18]) ⟨hx, hb, hml, hown, noTs⟩ (s_J0_length l adK adV 3 (by decide)) ⟨cbE 0 (wd_488 hE) (wd_129 hE) (wd_1527 hE) rfl rfl (by decide +kernel) ⟨Nat.le_of_ble_eq_true rfl, Nat.le_of_ble_eq_true rfl⟩, (wd_486 hE), (wd_487 hE)⟩ ⟨PS.blind, vk_recv hX.1 (by decide) hS, ps_pre (av := [.ref (adK 3)]) hX hS hE⟩ rfl rfl hl.1 rfl (lv_room (Nat.le_of_ble_eq_true rfl)) dX12_key_17 ⟨Nat.le_of_ble_eq_true rfl, Nat.le_of_ble_eq_true rfl⟩)) (fun r650 hr650 => ?_)
                          have hr650 : r650 = 18 := hr650
                          subst hr650
                          refine lv_icmp_ge (tgt := 133) hx hb dX12_key_20 (by decide) (fun c651 => ?_) (fun c651 => absurd c651 (by decide))
                          refine lv_iconst (v := -1) hx hb dX12_key_133 (by decide) ?_
                          exact W.iret (v := -1) hx hb hr (fun t ht hW => ⟨-1, rfl, trivial, ht⟩) (fun _ h => absurd h List.not_mem_nil) dX12_key_134
                        · have c649 := mt (b_eq (rfl : Int32.toInt x1_647 = _) (show Int32.toInt 0 = 0 from rfl)).mpr c649
                          refine lv_iload_n hx hb dX12_key_121 rfl (lv_at hl 1 rfl) ?_
                          exact W.iret (v := 2) hx hb hr (fun t ht hW => ⟨2, rfl, trivial, ht⟩) (fun _ h => absurd h List.not_mem_nil) dX12_key_122
                      · have c648 := mt (b_le (show Int32.toInt 4 = 4 from rfl) (nI_toInt (n := i_647) (by omega))).mpr c648
                        refine lv_iload hx hb dX12_key_75 (lv_at hl 4 rfl) ?_
                        refine lv_if_eq (tgt := 116) hx hb dX12_key_77 (by decide) (fun c652 => ?_) (fun c652 => ?_)
                        · have c652 := (b_eq (rfl : Int32.toInt x1_647 = _) (show Int32.toInt 0 = 0 from rfl)).mp c652
                          refine lv_iload hx hb dX12_key_116 (lv_at hl 4 rfl) ?_
                          refine lv_if_eq (tgt := 123) hx hb dX12_key_118 (by decide) (fun c653 => ?_) (fun c653 => ?_)
                          · have c653 := (b_eq (rfl : Int32.toInt x1_647 = _) (show Int32.toInt 0 = 0 from rfl)).mp c653
                            refine lv_iinc (v := 3) (lv' := [(1, .int 3), (0, .ref (b 0)), (2, .int 13), (3, .int 17), (4, .int x1_647), (5, .int (nI i_647))]) hx hb dX12_key_123 hl (k := 1) rfl (by decide) (by decide) rfl (fun ls hl => ?_)
                            refine lv_iload_n hx hb dX12_key_126 rfl (lv_at hl 3 rfl) ?_
                            refine lv_iconst (v := 1) hx hb dX12_key_127 (by decide) ?_
                            refine lv_iadd hx hb dX12_key_128 ?_
                            refine W.eq (g2 := F0 m 129 ls [.int 18]) rfl ?_
                            refine lv_istore_n (lv' := [(2, .int 18), (1, .int 3), (0, .ref (b 0)), (3, .int 17), (4, .int x1_647), (5, .int (nI i_647))]) hx hb dX12_key_129 rfl hl (by decide) rfl (fun ls hl => ?_)
                            refine lv_goto (tgt := 14) hx hb dX12_key_130 (by decide) ?_
                            refine lv_iload_n hx hb dX12_key_14 rfl (lv_at hl 0 rfl) ?_
                            refine va_ldcS hx hb hown hZ dX12_key_15 ?_
                            refine vp_callSi (va_Run.run (va_runV (As := []) (rest := [.int 18]) ⟨hx, hb, hml, hown, noTs⟩ (s_J0_length l adK adV 3 (by decide)) ⟨cbE 0 (wd_488 hE) (wd_129 hE) (wd_1527 hE) rfl rfl (by decide +kernel) ⟨Nat.le_of_ble_eq_true rfl, Nat.le_of_ble_eq_true rfl⟩, (wd_486 hE), (wd_487 hE)⟩ ⟨PS.blind, vk_recv hX.1 (by decide) hS, ps_pre (av := [.ref (adK 3)]) hX hS hE⟩ rfl rfl hl.1 rfl (lv_room (Nat.le_of_ble_eq_true rfl)) dX12_key_17 ⟨Nat.le_of_ble_eq_true rfl, Nat.le_of_ble_eq_true rfl⟩)) (fun r654 hr654 => ?_)
                            have hr654 : r654 = 18 := hr654
                            subst hr654
                            refine lv_icmp_ge (tgt := 133) hx hb dX12_key_20 (by decide) (fun c655 => ?_) (fun c655 => absurd c655 (by decide))
                            refine lv_iconst (v := -1) hx hb dX12_key_133 (by decide) ?_
                            exact W.iret (v := -1) hx hb hr (fun t ht hW => ⟨-1, rfl, trivial, ht⟩) (fun _ h => absurd h List.not_mem_nil) dX12_key_134
                          · have c653 := mt (b_eq (rfl : Int32.toInt x1_647 = _) (show Int32.toInt 0 = 0 from rfl)).mpr c653
                            refine lv_iload_n hx hb dX12_key_121 rfl (lv_at hl 1 rfl) ?_
                            exact W.iret (v := 2) hx hb hr (fun t ht hW => ⟨2, rfl, trivial, ht⟩) (fun _ h => absurd h List.not_mem_nil) dX12_key_122
                        · have c652 := mt (b_eq (rfl : Int32.toInt x1_647 = _) (show Int32.toInt 0 = 0 from rfl)).mpr c652
                          refine va_ldcS hx hb hown hZ dX12_key_80 ?_
                          refine lv_iload_n hx hb dX12_key_82 rfl (lv_at hl 2 rfl) ?_
                          refine lv_iload hx hb dX12_key_83 (lv_at hl 5 rfl) ?_
                          refine lv_iadd hx hb dX12_key_85 ?_
                          refine W.eq (g2 := F0 m 86 ls [.int (nI (13 + i_647)), .ref (adK 3)]) (congrArg (fun z : Int32 => F0 m 86 ls (.int z :: [.ref (adK 3)])) (nI_add 13 i_647)) ?_
                          refine vp_callSi (va_Run.run (va_runV (As := [.int (nI (13 + i_647))]) (rest := []) ⟨hx, hb, hml, hown, noTs⟩ (s_J0_charAt l adK adV 3 (13 + i_647) (by decide) (by show _ < 18; omega)) ⟨cbE 1 (wd_498 hE) (wd_129 hE) (wd_1528 hE) rfl rfl (by decide +kernel) ⟨Nat.le_of_ble_eq_true rfl, Nat.le_of_ble_eq_true rfl⟩, (wd_496 hE), (wd_497 hE)⟩ ⟨PS.blind, vk_recv hX.1 (by decide) hS, ps_pre (av := [.ref (adK 3), .int (nI (13 + i_647))]) hX hS hE⟩ rfl rfl hl.1 rfl (lv_room (Nat.le_of_ble_eq_true rfl)) dX12_key_86 ⟨Nat.le_of_ble_eq_true rfl, Nat.le_of_ble_eq_true rfl⟩)) (fun r656 hr656 => ?_)
                          refine lv_aload_n hx hb dX12_key_89 rfl (lv_at hl 0 rfl) ?_
                          refine lv_aload_n hx hb dX12_key_90 rfl (lv_at hl 0 rfl) ?_
                          refine r_get (v := .int (nI (fN u 13))) hx hb (ly_X12 hE) hown hK hP rfl 13 (by decide) (wd_1394 hE) (fun _ h9 => h9) (congrArg (fun z : Int32 => some (Value.int z)) hp0.1) dX12_key_91 ?_
                          refine lv_iload hx hb dX12_key_94 (lv_at hl 5 rfl) ?_
                          refine lv_iadd hx hb dX12_key_96 ?_
                          refine W.eq (g2 := F0 m 97 ls [.int (nI ((fN u 13) + i_647)), .ref (b 0), .int r656]) (congrArg (fun z : Int32 => F0 m 97 ls (.int z :: [.ref (b 0), .int r656])) (nI_add (fN u 13) i_647)) ?_
                          refine vp_callSi (va_Run.run (va_runV (As := [.int (nI ((fN u 13) + i_647))]) (rest := [.int r656]) ⟨hx, hb, hml, hown, noTs⟩ (r_X12_byteAt l dC dI s.heap.size cs b u tx hAc16 ((fN u 13) + i_647) sz1 hF11 (by first | assumption | omega | rfl | (congr 1; omega)) (by first | assumption | omega | rfl | (congr 1; omega))) ⟨cbE 1 (wd_1510 hE) (wd_126 hE) (wd_1507 hE) rfl rfl (by decide +kernel) ⟨Nat.le_of_ble_eq_true rfl, Nat.le_of_ble_eq_true rfl⟩, (wd_1509 hE), (wd_57 hE)⟩ ⟨PR.blind, r_recv hK hP rfl, (r_pre (av := [.ref (b 0), .int (nI ((fN u 13) + i_647))]) hK hP hJ hE)⟩ rfl rfl hl.1 rfl (lv_room (Nat.le_of_ble_eq_true rfl)) dX12_key_97 ⟨Nat.le_of_ble_eq_true rfl, Nat.le_of_ble_eq_true rfl⟩)) (fun r657 hr657 => ?_)
                          subst hr657
                          have htf657 := bA_f tx sz1 ((fN u 13) + i_647)
                          refine lv_icmp_ne (tgt := 107) hx hb dX12_key_100 (by decide) (fun c658 => ?_) (fun c658 => ?_)
                          · have c658 := mt (b_eq (rfl : Int32.toInt r656 = _) (rfl : Int32.toInt (bA tx sz1 ((fN u 13) + i_647)) = _)).mpr c658
                            refine lv_iconst (v := 0) hx hb dX12_key_107 (by decide) ?_
                            refine lv_istore (lv' := [(4, .int 0), (0, .ref (b 0)), (1, .int 2), (2, .int 13), (3, .int 17), (5, .int (nI i_647))]) hx hb dX12_key_108 hl (by decide) rfl (fun ls hl => ?_)
                            refine lv_iinc (v := nI (i_647 + 1)) (lv' := [(5, .int (nI (i_647 + 1))), (4, .int 0), (0, .ref (b 0)), (1, .int 2), (2, .int 13), (3, .int 17)]) hx hb dX12_key_110 hl (k := 5) rfl (nI_1 i_647) (by decide) rfl (fun ls hl => ?_)
                            refine lv_goto (tgt := 67) hx hb dX12_key_113 (by decide) ?_
                            exact ih647 _ _ (by omega) ⟨(i_647 + 1), 0, rfl, (by first | assumption | omega | rfl | (congr 1; omega)), lv_sub hl [2, 3, 4, 5, 1, 0] rfl⟩
                          · have c658 := (b_eq (rfl : Int32.toInt r656 = _) (rfl : Int32.toInt (bA tx sz1 ((fN u 13) + i_647)) = _)).mp c658
                            refine lv_iconst (v := 1) hx hb dX12_key_103 (by decide) ?_
                            refine lv_goto (tgt := 108) hx hb dX12_key_104 (by decide) ?_
                            refine lv_istore (lv' := [(4, .int 1), (0, .ref (b 0)), (1, .int 2), (2, .int 13), (3, .int 17), (5, .int (nI i_647))]) hx hb dX12_key_108 hl (by decide) rfl (fun ls hl => ?_)
                            refine lv_iinc (v := nI (i_647 + 1)) (lv' := [(5, .int (nI (i_647 + 1))), (4, .int 1), (0, .ref (b 0)), (1, .int 2), (2, .int 13), (3, .int 17)]) hx hb dX12_key_110 hl (k := 5) rfl (nI_1 i_647) (by decide) rfl (fun ls hl => ?_)
                            refine lv_goto (tgt := 67) hx hb dX12_key_113 (by decide) ?_
                            exact ih647 _ _ (by omega) ⟨(i_647 + 1), 1, rfl, (by first | assumption | omega | rfl | (congr 1; omega)), lv_sub hl [2, 3, 4, 5, 1, 0] rfl⟩
                  · have c621 := mt (b_eq (rfl : Int32.toInt x1_580 = _) (show Int32.toInt 0 = 0 from rfl)).mpr c621
                    refine lv_iload_n hx hb dX12_key_121 rfl (lv_at hl 1 rfl) ?_
                    exact W.iret (v := 1) hx hb hr (fun t ht hW => ⟨1, rfl, trivial, ht⟩) (fun _ h => absurd h List.not_mem_nil) dX12_key_122
                · have c620 := mt (b_eq (rfl : Int32.toInt x1_580 = _) (show Int32.toInt 0 = 0 from rfl)).mpr c620
                  refine va_ldcS hx hb hown hZ dX12_key_80 ?_
                  refine lv_iload_n hx hb dX12_key_82 rfl (lv_at hl 2 rfl) ?_
                  refine lv_iload hx hb dX12_key_83 (lv_at hl 5 rfl) ?_
                  refine lv_iadd hx hb dX12_key_85 ?_
                  refine W.eq (g2 := F0 m 86 ls [.int (nI (8 + i_580)), .ref (adK 3)]) (congrArg (fun z : Int32 => F0 m 86 ls (.int z :: [.ref (adK 3)])) (nI_add 8 i_580)) ?_
                  refine vp_callSi (va_Run.run (va_runV (As := [.int (nI (8 + i_580))]) (rest := []) ⟨hx, hb, hml, hown, noTs⟩ (s_J0_charAt l adK adV 3 (8 + i_580) (by decide) (by show _ < 18; omega)) ⟨cbE 1 (wd_498 hE) (wd_129 hE) (wd_1528 hE) rfl rfl (by decide +kernel) ⟨Nat.le_of_ble_eq_true rfl, Nat.le_of_ble_eq_true rfl⟩, (wd_496 hE), (wd_497 hE)⟩ ⟨PS.blind, vk_recv hX.1 (by decide) hS, ps_pre (av := [.ref (adK 3), .int (nI (8 + i_580))]) hX hS hE⟩ rfl rfl hl.1 rfl (lv_room (Nat.le_of_ble_eq_true rfl)) dX12_key_86 ⟨Nat.le_of_ble_eq_true rfl, Nat.le_of_ble_eq_true rfl⟩)) (fun r659 hr659 => ?_)
                  refine lv_aload_n hx hb dX12_key_89 rfl (lv_at hl 0 rfl) ?_
                  refine lv_aload_n hx hb dX12_key_90 rfl (lv_at hl 0 rfl) ?_
                  refine r_get (v := .int (nI (fN u 13))) hx hb (ly_X12 hE) hown hK hP rfl 13 (by decide) (wd_1394 hE) (fun _ h9 => h9) (congrArg (fun z : Int32 => some (Value.int z)) hp0.1) dX12_key_91 ?_
                  refine lv_iload hx hb dX12_key_94 (lv_at hl 5 rfl) ?_
                  refine lv_iadd hx hb dX12_key_96 ?_
                  refine W.eq (g2 := F0 m 97 ls [.int (nI ((fN u 13) + i_580)), .ref (b 0), .int r659]) (congrArg (fun z : Int32 => F0 m 97 ls (.int z :: [.ref (b 0), .int r659])) (nI_add (fN u 13) i_580)) ?_
                  refine vp_callSi (va_Run.run (va_runV (As := [.int (nI ((fN u 13) + i_580))]) (rest := [.int r659]) ⟨hx, hb, hml, hown, noTs⟩ (r_X12_byteAt l dC dI s.heap.size cs b u tx hAc16 ((fN u 13) + i_580) sz1 hF11 (by first | assumption | omega | rfl | (congr 1; omega)) (by first | assumption | omega | rfl | (congr 1; omega))) ⟨cbE 1 (wd_1510 hE) (wd_126 hE) (wd_1507 hE) rfl rfl (by decide +kernel) ⟨Nat.le_of_ble_eq_true rfl, Nat.le_of_ble_eq_true rfl⟩, (wd_1509 hE), (wd_57 hE)⟩ ⟨PR.blind, r_recv hK hP rfl, (r_pre (av := [.ref (b 0), .int (nI ((fN u 13) + i_580))]) hK hP hJ hE)⟩ rfl rfl hl.1 rfl (lv_room (Nat.le_of_ble_eq_true rfl)) dX12_key_97 ⟨Nat.le_of_ble_eq_true rfl, Nat.le_of_ble_eq_true rfl⟩)) (fun r660 hr660 => ?_)
                  subst hr660
                  have htf660 := bA_f tx sz1 ((fN u 13) + i_580)
                  refine lv_icmp_ne (tgt := 107) hx hb dX12_key_100 (by decide) (fun c661 => ?_) (fun c661 => ?_)
                  · have c661 := mt (b_eq (rfl : Int32.toInt r659 = _) (rfl : Int32.toInt (bA tx sz1 ((fN u 13) + i_580)) = _)).mpr c661
                    refine lv_iconst (v := 0) hx hb dX12_key_107 (by decide) ?_
                    refine lv_istore (lv' := [(4, .int 0), (0, .ref (b 0)), (1, .int 1), (2, .int 8), (3, .int 12), (5, .int (nI i_580))]) hx hb dX12_key_108 hl (by decide) rfl (fun ls hl => ?_)
                    refine lv_iinc (v := nI (i_580 + 1)) (lv' := [(5, .int (nI (i_580 + 1))), (4, .int 0), (0, .ref (b 0)), (1, .int 1), (2, .int 8), (3, .int 12)]) hx hb dX12_key_110 hl (k := 5) rfl (nI_1 i_580) (by decide) rfl (fun ls hl => ?_)
                    refine lv_goto (tgt := 67) hx hb dX12_key_113 (by decide) ?_
                    exact ih580 _ _ (by omega) ⟨(i_580 + 1), 0, rfl, (by first | assumption | omega | rfl | (congr 1; omega)), lv_sub hl [2, 3, 4, 5, 1, 0] rfl⟩
                  · have c661 := (b_eq (rfl : Int32.toInt r659 = _) (rfl : Int32.toInt (bA tx sz1 ((fN u 13) + i_580)) = _)).mp c661
                    refine lv_iconst (v := 1) hx hb dX12_key_103 (by decide) ?_
                    refine lv_goto (tgt := 108) hx hb dX12_key_104 (by decide) ?_
                    refine lv_istore (lv' := [(4, .int 1), (0, .ref (b 0)), (1, .int 1), (2, .int 8), (3, .int 12), (5, .int (nI i_580))]) hx hb dX12_key_108 hl (by decide) rfl (fun ls hl => ?_)
                    refine lv_iinc (v := nI (i_580 + 1)) (lv' := [(5, .int (nI (i_580 + 1))), (4, .int 1), (0, .ref (b 0)), (1, .int 1), (2, .int 8), (3, .int 12)]) hx hb dX12_key_110 hl (k := 5) rfl (nI_1 i_580) (by decide) rfl (fun ls hl => ?_)
                    refine lv_goto (tgt := 67) hx hb dX12_key_113 (by decide) ?_
                    exact ih580 _ _ (by omega) ⟨(i_580 + 1), 1, rfl, (by first | assumption | omega | rfl | (congr 1; omega)), lv_sub hl [2, 3, 4, 5, 1, 0] rfl⟩
            · have c579 := (b_eq (show Int32.toInt 4 = 4 from rfl) (nI_toInt (n := (fN u 14) - (fN u 13)) (by omega))).mp c579
              refine lv_iconst (v := 1) hx hb dX12_key_57 (by decide) ?_
              refine lv_goto (tgt := 62) hx hb dX12_key_58 (by decide) ?_
              refine lv_istore (lv' := [(4, .int 1), (3, .int 12), (2, .int 8), (1, .int 1), (0, .ref (b 0)), (5, .int (nI i_385))]) hx hb dX12_key_62 hl (by decide) rfl (fun ls hl => ?_)
              refine lv_iconst (v := 0) hx hb dX12_key_64 (by decide) ?_
              refine lv_istore (lv' := [(5, .int 0), (4, .int 1), (3, .int 12), (2, .int 8), (1, .int 1), (0, .ref (b 0))]) hx hb dX12_key_65 hl (by decide) rfl (fun ls hl => ?_)
              refine r_indP (I := fun n ls => ∃ (i_662 : Nat) (x1_662 : Int32), n = 12 - 8 - i_662 ∧ (i_662 ≤ 12 - 8) ∧ lv_has ls 6 [(0, .ref (b 0)), (1, .int 1), (2, .int 8), (3, .int 12), (4, .int x1_662), (5, .int (nI i_662))]) (fun n ls hI ih662 => ?_) _ _ ⟨0, 1, rfl, (by first | assumption | omega | rfl | (congr 1; omega)), lv_sub hl [5, 4, 3, 2, 1, 0] rfl⟩
              obtain ⟨i_662, x1_662, hmu662, hL662_0, hl⟩ := hI
              subst hmu662
              refine lv_iload hx hb dX12_key_67 (lv_at hl 5 rfl) ?_
              refine lv_iload_n hx hb dX12_key_69 rfl (lv_at hl 3 rfl) ?_
              refine lv_iload_n hx hb dX12_key_70 rfl (lv_at hl 2 rfl) ?_
              refine lv_isub hx hb dX12_key_71 ?_
              refine W.eq (g2 := F0 m 72 ls [.int 4, .int (nI i_662)]) rfl ?_
              refine lv_icmp_ge (tgt := 116) hx hb dX12_key_72 (by decide) (fun c663 => ?_) (fun c663 => ?_)
              · have c663 := (b_le (show Int32.toInt 4 = 4 from rfl) (nI_toInt (n := i_662) (by omega))).mp c663
                refine lv_iload hx hb dX12_key_116 (lv_at hl 4 rfl) ?_
                refine lv_if_eq (tgt := 123) hx hb dX12_key_118 (by decide) (fun c664 => ?_) (fun c664 => ?_)
                · have c664 := (b_eq (rfl : Int32.toInt x1_662 = _) (show Int32.toInt 0 = 0 from rfl)).mp c664
                  refine lv_iinc (v := 2) (lv' := [(1, .int 2), (0, .ref (b 0)), (2, .int 8), (3, .int 12), (4, .int x1_662), (5, .int (nI i_662))]) hx hb dX12_key_123 hl (k := 1) rfl (by decide) (by decide) rfl (fun ls hl => ?_)
                  refine lv_iload_n hx hb dX12_key_126 rfl (lv_at hl 3 rfl) ?_
                  refine lv_iconst (v := 1) hx hb dX12_key_127 (by decide) ?_
                  refine lv_iadd hx hb dX12_key_128 ?_
                  refine W.eq (g2 := F0 m 129 ls [.int 13]) rfl ?_
                  refine lv_istore_n (lv' := [(2, .int 13), (1, .int 2), (0, .ref (b 0)), (3, .int 12), (4, .int x1_662), (5, .int (nI i_662))]) hx hb dX12_key_129 rfl hl (by decide) rfl (fun ls hl => ?_)
                  refine lv_goto (tgt := 14) hx hb dX12_key_130 (by decide) ?_
                  refine lv_iload_n hx hb dX12_key_14 rfl (lv_at hl 0 rfl) ?_
                  refine va_ldcS hx hb hown hZ dX12_key_15 ?_
                  refine vp_callSi (va_Run.run (va_runV (As := []) (rest := [.int 13]) ⟨hx, hb, hml, hown, noTs⟩ (s_J0_length l adK adV 3 (by decide)) ⟨cbE 0 (wd_488 hE) (wd_129 hE) (wd_1527 hE) rfl rfl (by decide +kernel) ⟨Nat.le_of_ble_eq_true rfl, Nat.le_of_ble_eq_true rfl⟩, (wd_486 hE), (wd_487 hE)⟩ ⟨PS.blind, vk_recv hX.1 (by decide) hS, ps_pre (av := [.ref (adK 3)]) hX hS hE⟩ rfl rfl hl.1 rfl (lv_room (Nat.le_of_ble_eq_true rfl)) dX12_key_17 ⟨Nat.le_of_ble_eq_true rfl, Nat.le_of_ble_eq_true rfl⟩)) (fun r665 hr665 => ?_)
                  have hr665 : r665 = 18 := hr665
                  subst hr665
                  refine lv_icmp_ge (tgt := 133) hx hb dX12_key_20 (by decide) (fun c666 => absurd c666 (by decide)) (fun c666 => ?_)
                  refine lv_iload_n hx hb dX12_key_23 rfl (lv_at hl 0 rfl) ?_
                  refine lv_istore_n (lv' := [(3, .int 13), (2, .int 13), (1, .int 2), (0, .ref (b 0)), (4, .int x1_662), (5, .int (nI i_662))]) hx hb dX12_key_24 rfl hl (by decide) rfl (fun ls hl => ?_)
                  refine va_ldcS hx hb hown hZ dX12_key_25 ?_
                  refine lv_iload_n hx hb dX12_key_27 rfl (lv_at hl 0 rfl) ?_
                  refine vp_callSi (va_Run.run (va_runV (As := [.int (nI 13)]) (rest := []) ⟨hx, hb, hml, hown, noTs⟩ (s_J0_charAt l adK adV 3 13 (by decide) (by show _ < 18; omega)) ⟨cbE 1 (wd_498 hE) (wd_129 hE) (wd_1528 hE) rfl rfl (by decide +kernel) ⟨Nat.le_of_ble_eq_true rfl, Nat.le_of_ble_eq_true rfl⟩, (wd_496 hE), (wd_497 hE)⟩ ⟨PS.blind, vk_recv hX.1 (by decide) hS, ps_pre (av := [.ref (adK 3), .int (nI 13)]) hX hS hE⟩ rfl rfl hl.1 rfl (lv_room (Nat.le_of_ble_eq_true rfl)) dX12_key_28 ⟨Nat.le_of_ble_eq_true rfl, Nat.le_of_ble_eq_true rfl⟩)) (fun r667 hr667 => ?_)
                  have hr667 : r667 = 119 := hr667.trans (by decide)
                  subst hr667
                  refine lv_bipush (v := 32) hx hb dX12_key_31 (by decide) ?_
                  refine lv_icmp_eq (tgt := 42) hx hb dX12_key_33 (by decide) (fun c668 => absurd c668 (by decide)) (fun c668 => ?_)
                  refine lv_iinc (v := 14) (lv' := [(3, .int 14), (2, .int 13), (1, .int 2), (0, .ref (b 0)), (4, .int x1_662), (5, .int (nI i_662))]) hx hb dX12_key_36 hl (k := 0) rfl (by decide) (by decide) rfl (fun ls hl => ?_)
                  refine lv_goto (tgt := 25) hx hb dX12_key_39 (by decide) ?_
                  refine va_ldcS hx hb hown hZ dX12_key_25 ?_
                  refine lv_iload_n hx hb dX12_key_27 rfl (lv_at hl 0 rfl) ?_
                  refine vp_callSi (va_Run.run (va_runV (As := [.int (nI 14)]) (rest := []) ⟨hx, hb, hml, hown, noTs⟩ (s_J0_charAt l adK adV 3 14 (by decide) (by show _ < 18; omega)) ⟨cbE 1 (wd_498 hE) (wd_129 hE) (wd_1528 hE) rfl rfl (by decide +kernel) ⟨Nat.le_of_ble_eq_true rfl, Nat.le_of_ble_eq_true rfl⟩, (wd_496 hE), (wd_497 hE)⟩ ⟨PS.blind, vk_recv hX.1 (by decide) hS, ps_pre (av := [.ref (adK 3), .int (nI 14)]) hX hS hE⟩ rfl rfl hl.1 rfl (lv_room (Nat.le_of_ble_eq_true rfl)) dX12_key_28 ⟨Nat.le_of_ble_eq_true rfl, Nat.le_of_ble_eq_true rfl⟩)) (fun r669 hr669 => ?_)
                  have hr669 : r669 = 111 := hr669.trans (by decide)
                  subst hr669
                  refine lv_bipush (v := 32) hx hb dX12_key_31 (by decide) ?_
                  refine lv_icmp_eq (tgt := 42) hx hb dX12_key_33 (by decide) (fun c670 => absurd c670 (by decide)) (fun c670 => ?_)
                  refine lv_iinc (v := 15) (lv' := [(3, .int 15), (2, .int 13), (1, .int 2), (0, .ref (b 0)), (4, .int x1_662), (5, .int (nI i_662))]) hx hb dX12_key_36 hl (k := 0) rfl (by decide) (by decide) rfl (fun ls hl => ?_)
                  refine lv_goto (tgt := 25) hx hb dX12_key_39 (by decide) ?_
                  refine va_ldcS hx hb hown hZ dX12_key_25 ?_
                  refine lv_iload_n hx hb dX12_key_27 rfl (lv_at hl 0 rfl) ?_
                  refine vp_callSi (va_Run.run (va_runV (As := [.int (nI 15)]) (rest := []) ⟨hx, hb, hml, hown, noTs⟩ (s_J0_charAt l adK adV 3 15 (by decide) (by show _ < 18; omega)) ⟨cbE 1 (wd_498 hE) (wd_129 hE) (wd_1528 hE) rfl rfl (by decide +kernel) ⟨Nat.le_of_ble_eq_true rfl, Nat.le_of_ble_eq_true rfl⟩, (wd_496 hE), (wd_497 hE)⟩ ⟨PS.blind, vk_recv hX.1 (by decide) hS, ps_pre (av := [.ref (adK 3), .int (nI 15)]) hX hS hE⟩ rfl rfl hl.1 rfl (lv_room (Nat.le_of_ble_eq_true rfl)) dX12_key_28 ⟨Nat.le_of_ble_eq_true rfl, Nat.le_of_ble_eq_true rfl⟩)) (fun r671 hr671 => ?_)
                  have hr671 : r671 = 114 := hr671.trans (by decide)
                  subst hr671
                  refine lv_bipush (v := 32) hx hb dX12_key_31 (by decide) ?_
                  refine lv_icmp_eq (tgt := 42) hx hb dX12_key_33 (by decide) (fun c672 => absurd c672 (by decide)) (fun c672 => ?_)
                  refine lv_iinc (v := 16) (lv' := [(3, .int 16), (2, .int 13), (1, .int 2), (0, .ref (b 0)), (4, .int x1_662), (5, .int (nI i_662))]) hx hb dX12_key_36 hl (k := 0) rfl (by decide) (by decide) rfl (fun ls hl => ?_)
                  refine lv_goto (tgt := 25) hx hb dX12_key_39 (by decide) ?_
                  refine va_ldcS hx hb hown hZ dX12_key_25 ?_
                  refine lv_iload_n hx hb dX12_key_27 rfl (lv_at hl 0 rfl) ?_
                  refine vp_callSi (va_Run.run (va_runV (As := [.int (nI 16)]) (rest := []) ⟨hx, hb, hml, hown, noTs⟩ (s_J0_charAt l adK adV 3 16 (by decide) (by show _ < 18; omega)) ⟨cbE 1 (wd_498 hE) (wd_129 hE) (wd_1528 hE) rfl rfl (by decide +kernel) ⟨Nat.le_of_ble_eq_true rfl, Nat.le_of_ble_eq_true rfl⟩, (wd_496 hE), (wd_497 hE)⟩ ⟨PS.blind, vk_recv hX.1 (by decide) hS, ps_pre (av := [.ref (adK 3), .int (nI 16)]) hX hS hE⟩ rfl rfl hl.1 rfl (lv_room (Nat.le_of_ble_eq_true rfl)) dX12_key_28 ⟨Nat.le_of_ble_eq_true rfl, Nat.le_of_ble_eq_true rfl⟩)) (fun r673 hr673 => ?_)
                  have hr673 : r673 = 100 := hr673.trans (by decide)
                  subst hr673
                  refine lv_bipush (v := 32) hx hb dX12_key_31 (by decide) ?_
                  refine lv_icmp_eq (tgt := 42) hx hb dX12_key_33 (by decide) (fun c674 => absurd c674 (by decide)) (fun c674 => ?_)
                  refine lv_iinc (v := 17) (lv' := [(3, .int 17), (2, .int 13), (1, .int 2), (0, .ref (b 0)), (4, .int x1_662), (5, .int (nI i_662))]) hx hb dX12_key_36 hl (k := 0) rfl (by decide) (by decide) rfl (fun ls hl => ?_)
                  refine lv_goto (tgt := 25) hx hb dX12_key_39 (by decide) ?_
                  refine va_ldcS hx hb hown hZ dX12_key_25 ?_
                  refine lv_iload_n hx hb dX12_key_27 rfl (lv_at hl 0 rfl) ?_
                  refine vp_callSi (va_Run.run (va_runV (As := [.int (nI 17)]) (rest := []) ⟨hx, hb, hml, hown, noTs⟩ (s_J0_charAt l adK adV 3 17 (by decide) (by show _ < 18; omega)) ⟨cbE 1 (wd_498 hE) (wd_129 hE) (wd_1528 hE) rfl rfl (by decide +kernel) ⟨Nat.le_of_ble_eq_true rfl, Nat.le_of_ble_eq_true rfl⟩, (wd_496 hE), (wd_497 hE)⟩ ⟨PS.blind, vk_recv hX.1 (by decide) hS, ps_pre (av := [.ref (adK 3), .int (nI 17)]) hX hS hE⟩ rfl rfl hl.1 rfl (lv_room (Nat.le_of_ble_eq_true rfl)) dX12_key_28 ⟨Nat.le_of_ble_eq_true rfl, Nat.le_of_ble_eq_true rfl⟩)) (fun r675 hr675 => ?_)
                  have hr675 : r675 = 32 := hr675.trans (by decide)
                  subst hr675
                  refine lv_bipush (v := 32) hx hb dX12_key_31 (by decide) ?_
                  refine lv_icmp_eq (tgt := 42) hx hb dX12_key_33 (by decide) (fun c676 => ?_) (fun c676 => absurd c676 (by decide))
                  refine lv_iload_n hx hb dX12_key_42 rfl (lv_at hl 0 rfl) ?_
                  refine lv_iload_n hx hb dX12_key_43 rfl (lv_at hl 1 rfl) ?_
                  refine lv_isub hx hb dX12_key_44 ?_
                  refine W.eq (g2 := F0 m 45 ls [.int 4]) rfl ?_
                  refine lv_aload_n hx hb dX12_key_45 rfl (lv_at hl 3 rfl) ?_
                  refine r_get (v := .int (nI (fN u 14))) hx hb (ly_X12 hE) hown hK hP rfl 14 (by decide) (wd_1395 hE) (fun _ h9 => h9) (congrArg (fun z : Int32 => some (Value.int z)) hp0.2.1) dX12_key_46 ?_
                  refine lv_aload_n hx hb dX12_key_49 rfl (lv_at hl 3 rfl) ?_
                  refine r_get (v := .int (nI (fN u 13))) hx hb (ly_X12 hE) hown hK hP rfl 13 (by decide) (wd_1394 hE) (fun _ h9 => h9) (congrArg (fun z : Int32 => some (Value.int z)) hp0.1) dX12_key_50 ?_
                  refine lv_isub hx hb dX12_key_53 ?_
                  refine W.eq (g2 := F0 m 54 ls [.int (nI ((fN u 14) - (fN u 13))), .int 4]) (congrArg (fun z : Int32 => F0 m 54 ls (.int z :: [.int 4])) (pk_sub (a := fN u 14) (b := fN u 13) (by omega))) ?_
                  refine lv_icmp_ne (tgt := 61) hx hb dX12_key_54 (by decide) (fun c677 => ?_) (fun c677 => ?_)
                  · have c677 := mt (b_eq (show Int32.toInt 4 = 4 from rfl) (nI_toInt (n := (fN u 14) - (fN u 13)) (by omega))).mpr c677
                    refine lv_iconst (v := 0) hx hb dX12_key_61 (by decide) ?_
                    refine lv_istore (lv' := [(4, .int 0), (3, .int 17), (2, .int 13), (1, .int 2), (0, .ref (b 0)), (5, .int (nI i_662))]) hx hb dX12_key_62 hl (by decide) rfl (fun ls hl => ?_)
                    refine lv_iconst (v := 0) hx hb dX12_key_64 (by decide) ?_
                    refine lv_istore (lv' := [(5, .int 0), (4, .int 0), (3, .int 17), (2, .int 13), (1, .int 2), (0, .ref (b 0))]) hx hb dX12_key_65 hl (by decide) rfl (fun ls hl => ?_)
                    refine r_indP (I := fun n ls => ∃ (i_678 : Nat) (x1_678 : Int32), n = 17 - 13 - i_678 ∧ (i_678 ≤ 17 - 13) ∧ lv_has ls 6 [(0, .ref (b 0)), (1, .int 2), (2, .int 13), (3, .int 17), (4, .int x1_678), (5, .int (nI i_678))]) (fun n ls hI ih678 => ?_) _ _ ⟨0, 0, rfl, (by first | assumption | omega | rfl | (congr 1; omega)), lv_sub hl [5, 4, 3, 2, 1, 0] rfl⟩
                    obtain ⟨i_678, x1_678, hmu678, hL678_0, hl⟩ := hI
                    subst hmu678
                    refine lv_iload hx hb dX12_key_67 (lv_at hl 5 rfl) ?_
                    refine lv_iload_n hx hb dX12_key_69 rfl (lv_at hl 3 rfl) ?_
                    refine lv_iload_n hx hb dX12_key_70 rfl (lv_at hl 2 rfl) ?_
                    refine lv_isub hx hb dX12_key_71 ?_
                    refine W.eq (g2 := F0 m 72 ls [.int 4, .int (nI i_678)]) rfl ?_
                    refine lv_icmp_ge (tgt := 116) hx hb dX12_key_72 (by decide) (fun c679 => ?_) (fun c679 => ?_)
                    · have c679 := (b_le (show Int32.toInt 4 = 4 from rfl) (nI_toInt (n := i_678) (by omega))).mp c679
                      refine lv_iload hx hb dX12_key_116 (lv_at hl 4 rfl) ?_
                      refine lv_if_eq (tgt := 123) hx hb dX12_key_118 (by decide) (fun c680 => ?_) (fun c680 => ?_)
                      · have c680 := (b_eq (rfl : Int32.toInt x1_678 = _) (show Int32.toInt 0 = 0 from rfl)).mp c680
                        refine lv_iinc (v := 3) (lv' := [(1, .int 3), (0, .ref (b 0)), (2, .int 13), (3, .int 17), (4, .int x1_678), (5, .int (nI i_678))]) hx hb dX12_key_123 hl (k := 1) rfl (by decide) (by decide) rfl (fun ls hl => ?_)
                        refine lv_iload_n hx hb dX12_key_126 rfl (lv_at hl 3 rfl) ?_
                        refine lv_iconst (v := 1) hx hb dX12_key_127 (by decide) ?_
                        refine lv_iadd hx hb dX12_key_128 ?_
                        refine W.eq (g2 := F0 m 129 ls [.int 18]) rfl ?_
                        refine lv_istore_n (lv' := [(2, .int 18), (1, .int 3), (0, .ref (b 0)), (3, .int 17), (4, .int x1_678), (5, .int (nI i_678))]) hx hb dX12_key_129 rfl hl (by decide) rfl (fun ls hl => ?_)
                        refine lv_goto (tgt := 14) hx hb dX12_key_130 (by decide) ?_
                        refine lv_iload_n hx hb dX12_key_14 rfl (lv_at hl 0 rfl) ?_
                        refine va_ldcS hx hb hown hZ dX12_key_15 ?_
                        refine vp_callSi (va_Run.run (va_runV (As := []) (rest := [.int 18]) ⟨hx, hb, hml, hown, noTs⟩ (s_J0_length l adK adV 3 (by decide)) ⟨cbE 0 (wd_488 hE) (wd_129 hE) (wd_1527 hE) rfl rfl (by decide +kernel) ⟨Nat.le_of_ble_eq_true rfl, Nat.le_of_ble_eq_true rfl⟩, (wd_486 hE), (wd_487 hE)⟩ ⟨PS.blind, vk_recv hX.1 (by decide) hS, ps_pre (av := [.ref (adK 3)]) hX hS hE⟩ rfl rfl hl.1 rfl (lv_room (Nat.le_of_ble_eq_true rfl)) dX12_key_17 ⟨Nat.le_of_ble_eq_true rfl, Nat.le_of_ble_eq_true rfl⟩)) (fun r681 hr681 => ?_)
                        have hr681 : r681 = 18 := hr681
                        subst hr681
                        refine lv_icmp_ge (tgt := 133) hx hb dX12_key_20 (by decide) (fun c682 => ?_) (fun c682 => absurd c682 (by decide))
                        refine lv_iconst (v := -1) hx hb dX12_key_133 (by decide) ?_
                        exact W.iret (v := -1) hx hb hr (fun t ht hW => ⟨-1, rfl, trivial, ht⟩) (fun _ h => absurd h List.not_mem_nil) dX12_key_134
                      · have c680 := mt (b_eq (rfl : Int32.toInt x1_678 = _) (show Int32.toInt 0 = 0 from rfl)).mpr c680
                        refine lv_iload_n hx hb dX12_key_121 rfl (lv_at hl 1 rfl) ?_
                        exact W.iret (v := 2) hx hb hr (fun t ht hW => ⟨2, rfl, trivial, ht⟩) (fun _ h => absurd h List.not_mem_nil) dX12_key_122
                    · have c679 := mt (b_le (show Int32.toInt 4 = 4 from rfl) (nI_toInt (n := i_678) (by omega))).mpr c679
                      refine lv_iload hx hb dX12_key_75 (lv_at hl 4 rfl) ?_
                      refine lv_if_eq (tgt := 116) hx hb dX12_key_77 (by decide) (fun c683 => ?_) (fun c683 => ?_)
                      · have c683 := (b_eq (rfl : Int32.toInt x1_678 = _) (show Int32.toInt 0 = 0 from rfl)).mp c683
                        refine lv_iload hx hb dX12_key_116 (lv_at hl 4 rfl) ?_
                        refine lv_if_eq (tgt := 123) hx hb dX12_key_118 (by decide) (fun c684 => ?_) (fun c684 => ?_)
                        · have c684 := (b_eq (rfl : Int32.toInt x1_678 = _) (show Int32.toInt 0 = 0 from rfl)).mp c684
                          refine lv_iinc (v := 3) (lv' := [(1, .int 3), (0, .ref (b 0)), (2, .int 13), (3, .int 17), (4, .int x1_678), (5, .int (nI i_678))]) hx hb dX12_key_123 hl (k := 1) rfl (by decide) (by decide) rfl (fun ls hl => ?_)
                          refine lv_iload_n hx hb dX12_key_126 rfl (lv_at hl 3 rfl) ?_
                          refine lv_iconst (v := 1) hx hb dX12_key_127 (by decide) ?_
                          refine lv_iadd hx hb dX12_key_128 ?_
                          refine W.eq (g2 := F0 m 129 ls [.int 18]) rfl ?_
                          refine lv_istore_n (lv' := [(2, .int 18), (1, .int 3), (0, .ref (b 0)), (3, .int 17), (4, .int x1_678), (5, .int (nI i_678))]) hx hb dX12_key_129 rfl hl (by decide) rfl (fun ls hl => ?_)
                          refine lv_goto (tgt := 14) hx hb dX12_key_130 (by decide) ?_
                          refine lv_iload_n hx hb dX12_key_14 rfl (lv_at hl 0 rfl) ?_
                          refine va_ldcS hx hb hown hZ dX12_key_15 ?_
                          refine vp_callSi (va_Run.run (va_runV (As := []) (rest := [.int 18]) ⟨hx, hb, hml, hown, noTs⟩ (s_J0_length l adK adV 3 (by decide)) ⟨cbE 0 (wd_488 hE) (wd_129 hE) (wd_1527 hE) rfl rfl (by decide +kernel) ⟨Nat.le_of_ble_eq_true rfl, Nat.le_of_ble_eq_true rfl⟩, (wd_486 hE), (wd_487 hE)⟩ ⟨PS.blind, vk_recv hX.1 (by decide) hS, ps_pre (av := [.ref (adK 3)]) hX hS hE⟩ rfl rfl hl.1 rfl (lv_room (Nat.le_of_ble_eq_true rfl)) dX12_key_17 ⟨Nat.le_of_ble_eq_true rfl, Nat.le_of_ble_eq_true rfl⟩)) (fun r685 hr685 => ?_)
                          have hr685 : r685 = 18 := hr685
                          subst hr685
                          refine lv_icmp_ge (tgt := 133) hx hb dX12_key_20 (by decide) (fun c686 => ?_) (fun c686 => absurd c686 (by decide))
                          refine lv_iconst (v := -1) hx hb dX12_key_133 (by decide) ?_
                          exact W.iret (v := -1) hx hb hr (fun t ht hW => ⟨-1, rfl, trivial, ht⟩) (fun _ h => absurd h List.not_mem_nil) dX12_key_134
                        · have c684 := mt (b_eq (rfl : Int32.toInt x1_678 = _) (show Int32.toInt 0 = 0 from rfl)).mpr c684
                          refine lv_iload_n hx hb dX12_key_121 rfl (lv_at hl 1 rfl) ?_
                          exact W.iret (v := 2) hx hb hr (fun t ht hW => ⟨2, rfl, trivial, ht⟩) (fun _ h => absurd h List.not_mem_nil) dX12_key_122
                      · have c683 := mt (b_eq (rfl : Int32.toInt x1_678 = _) (show Int32.toInt 0 = 0 from rfl)).mpr c683
                        refine va_ldcS hx hb hown hZ dX12_key_80 ?_
                        refine lv_iload_n hx hb dX12_key_82 rfl (lv_at hl 2 rfl) ?_
                        refine lv_iload hx hb dX12_key_83 (lv_at hl 5 rfl) ?_
                        refine lv_iadd hx hb dX12_key_85 ?_
                        refine W.eq (g2 := F0 m 86 ls [.int (nI (13 + i_678)), .ref (adK 3)]) (congrArg (fun z : Int32 => F0 m 86 ls (.int z :: [.ref (adK 3)])) (nI_add 13 i_678)) ?_
                        refine vp_callSi (va_Run.run (va_runV (As := [.int (nI (13 + i_678))]) (rest := []) ⟨hx, hb, hml, hown, noTs⟩ (s_J0_charAt l adK adV 3 (13 + i_678) (by decide) (by show _ < 18; omega)) ⟨cbE 1 (wd_498 hE) (wd_129 hE) (wd_1528 hE) rfl rfl (by decide +kernel) ⟨Nat.le_of_ble_eq_true rfl, Nat.le_of_ble_eq_true rfl⟩, (wd_496 hE), (wd_497 hE)⟩ ⟨PS.blind, vk_recv hX.1 (by decide) hS, ps_pre (av := [.ref (adK 3), .int (nI (13 + i_678))]) hX hS hE⟩ rfl rfl hl.1 rfl (lv_room (Nat.le_of_ble_eq_true rfl)) dX12_key_86 ⟨Nat.le_of_ble_eq_true rfl, Nat.le_of_ble_eq_true rfl⟩)) (fun r687 hr687 => ?_)
                        refine lv_aload_n hx hb dX12_key_89 rfl (lv_at hl 0 rfl) ?_
                        refine lv_aload_n hx hb dX12_key_90 rfl (lv_at hl 0 rfl) ?_
                        refine r_get (v := .int (nI (fN u 13))) hx hb (ly_X12 hE) hown hK hP rfl 13 (by decide) (wd_1394 hE) (fun _ h9 => h9) (congrArg (fun z : Int32 => some (Value.int z)) hp0.1) dX12_key_91 ?_
                        refine lv_iload hx hb dX12_key_94 (lv_at hl 5 rfl) ?_
                        refine lv_iadd hx hb dX12_key_96 ?_
                        refine W.eq (g2 := F0 m 97 ls [.int (nI ((fN u 13) + i_678)), .ref (b 0), .int r687]) (congrArg (fun z : Int32 => F0 m 97 ls (.int z :: [.ref (b 0), .int r687])) (nI_add (fN u 13) i_678)) ?_
                        refine vp_callSi (va_Run.run (va_runV (As := [.int (nI ((fN u 13) + i_678))]) (rest := [.int r687]) ⟨hx, hb, hml, hown, noTs⟩ (r_X12_byteAt l dC dI s.heap.size cs b u tx hAc16 ((fN u 13) + i_678) sz1 hF11 (by first | assumption | omega | rfl | (congr 1; omega)) (by first | assumption | omega | rfl | (congr 1; omega))) ⟨cbE 1 (wd_1510 hE) (wd_126 hE) (wd_1507 hE) rfl rfl (by decide +kernel) ⟨Nat.le_of_ble_eq_true rfl, Nat.le_of_ble_eq_true rfl⟩, (wd_1509 hE), (wd_57 hE)⟩ ⟨PR.blind, r_recv hK hP rfl, (r_pre (av := [.ref (b 0), .int (nI ((fN u 13) + i_678))]) hK hP hJ hE)⟩ rfl rfl hl.1 rfl (lv_room (Nat.le_of_ble_eq_true rfl)) dX12_key_97 ⟨Nat.le_of_ble_eq_true rfl, Nat.le_of_ble_eq_true rfl⟩)) (fun r688 hr688 => ?_)
                        subst hr688
                        have htf688 := bA_f tx sz1 ((fN u 13) + i_678)
                        refine lv_icmp_ne (tgt := 107) hx hb dX12_key_100 (by decide) (fun c689 => ?_) (fun c689 => ?_)
                        · have c689 := mt (b_eq (rfl : Int32.toInt r687 = _) (rfl : Int32.toInt (bA tx sz1 ((fN u 13) + i_678)) = _)).mpr c689
                          refine lv_iconst (v := 0) hx hb dX12_key_107 (by decide) ?_
                          refine lv_istore (lv' := [(4, .int 0), (0, .ref (b 0)), (1, .int 2), (2, .int 13), (3, .int 17), (5, .int (nI i_678))]) hx hb dX12_key_108 hl (by decide) rfl (fun ls hl => ?_)
                          refine lv_iinc (v := nI (i_678 + 1)) (lv' := [(5, .int (nI (i_678 + 1))), (4, .int 0), (0, .ref (b 0)), (1, .int 2), (2, .int 13), (3, .int 17)]) hx hb dX12_key_110 hl (k := 5) rfl (nI_1 i_678) (by decide) rfl (fun ls hl => ?_)
                          refine lv_goto (tgt := 67) hx hb dX12_key_113 (by decide) ?_
                          exact ih678 _ _ (by omega) ⟨(i_678 + 1), 0, rfl, (by first | assumption | omega | rfl | (congr 1; omega)), lv_sub hl [2, 3, 4, 5, 1, 0] rfl⟩
                        · have c689 := (b_eq (rfl : Int32.toInt r687 = _) (rfl : Int32.toInt (bA tx sz1 ((fN u 13) + i_678)) = _)).mp c689
                          refine lv_iconst (v := 1) hx hb dX12_key_103 (by decide) ?_
                          refine lv_goto (tgt := 108) hx hb dX12_key_104 (by decide) ?_
                          refine lv_istore (lv' := [(4, .int 1), (0, .ref (b 0)), (1, .int 2), (2, .int 13), (3, .int 17), (5, .int (nI i_678))]) hx hb dX12_key_108 hl (by decide) rfl (fun ls hl => ?_)
                          refine lv_iinc (v := nI (i_678 + 1)) (lv' := [(5, .int (nI (i_678 + 1))), (4, .int 1), (0, .ref (b 0)), (1, .int 2), (2, .int 13), (3, .int 17)]) hx hb dX12_key_110 hl (k := 5) rfl (nI_1 i_678) (by decide) rfl (fun ls hl => ?_)
                          refine lv_goto (tgt := 67) hx hb dX12_key_113 (by decide) ?_
                          exact ih678 _ _ (by omega) ⟨(i_678 + 1), 1, rfl, (by first | assumption | omega | rfl | (congr 1; omega)), lv_sub hl [2, 3, 4, 5, 1, 0] rfl⟩
                  · have c677 := (b_eq (show Int32.toInt 4 = 4 from rfl) (nI_toInt (n := (fN u 14) - (fN u 13)) (by omega))).mp c677
                    refine lv_iconst (v := 1) hx hb dX12_key_57 (by decide) ?_
                    refine lv_goto (tgt := 62) hx hb dX12_key_58 (by decide) ?_
                    refine lv_istore (lv' := [(4, .int 1), (3, .int 17), (2, .int 13), (1, .int 2), (0, .ref (b 0)), (5, .int (nI i_662))]) hx hb dX12_key_62 hl (by decide) rfl (fun ls hl => ?_)
                    refine lv_iconst (v := 0) hx hb dX12_key_64 (by decide) ?_
                    refine lv_istore (lv' := [(5, .int 0), (4, .int 1), (3, .int 17), (2, .int 13), (1, .int 2), (0, .ref (b 0))]) hx hb dX12_key_65 hl (by decide) rfl (fun ls hl => ?_)
                    refine r_indP (I := fun n ls => ∃ (i_690 : Nat) (x1_690 : Int32), n = 17 - 13 - i_690 ∧ (i_690 ≤ 17 - 13) ∧ lv_has ls 6 [(0, .ref (b 0)), (1, .int 2), (2, .int 13), (3, .int 17), (4, .int x1_690), (5, .int (nI i_690))]) (fun n ls hI ih690 => ?_) _ _ ⟨0, 1, rfl, (by first | assumption | omega | rfl | (congr 1; omega)), lv_sub hl [5, 4, 3, 2, 1, 0] rfl⟩
                    obtain ⟨i_690, x1_690, hmu690, hL690_0, hl⟩ := hI
                    subst hmu690
                    refine lv_iload hx hb dX12_key_67 (lv_at hl 5 rfl) ?_
                    refine lv_iload_n hx hb dX12_key_69 rfl (lv_at hl 3 rfl) ?_
                    refine lv_iload_n hx hb dX12_key_70 rfl (lv_at hl 2 rfl) ?_
                    refine lv_isub hx hb dX12_key_71 ?_
                    refine W.eq (g2 := F0 m 72 ls [.int 4, .int (nI i_690)]) rfl ?_
                    refine lv_icmp_ge (tgt := 116) hx hb dX12_key_72 (by decide) (fun c691 => ?_) (fun c691 => ?_)
                    · have c691 := (b_le (show Int32.toInt 4 = 4 from rfl) (nI_toInt (n := i_690) (by omega))).mp c691
                      refine lv_iload hx hb dX12_key_116 (lv_at hl 4 rfl) ?_
                      refine lv_if_eq (tgt := 123) hx hb dX12_key_118 (by decide) (fun c692 => ?_) (fun c692 => ?_)
                      · have c692 := (b_eq (rfl : Int32.toInt x1_690 = _) (show Int32.toInt 0 = 0 from rfl)).mp c692
                        refine lv_iinc (v := 3) (lv' := [(1, .int 3), (0, .ref (b 0)), (2, .int 13), (3, .int 17), (4, .int x1_690), (5, .int (nI i_690))]) hx hb dX12_key_123 hl (k := 1) rfl (by decide) (by decide) rfl (fun ls hl => ?_)
                        refine lv_iload_n hx hb dX12_key_126 rfl (lv_at hl 3 rfl) ?_
                        refine lv_iconst (v := 1) hx hb dX12_key_127 (by decide) ?_
                        refine lv_iadd hx hb dX12_key_128 ?_
                        refine W.eq (g2 := F0 m 129 ls [.int 18]) rfl ?_
                        refine lv_istore_n (lv' := [(2, .int 18), (1, .int 3), (0, .ref (b 0)), (3, .int 17), (4, .int x1_690), (5, .int (nI i_690))]) hx hb dX12_key_129 rfl hl (by decide) rfl (fun ls hl => ?_)
                        refine lv_goto (tgt := 14) hx hb dX12_key_130 (by decide) ?_
                        refine lv_iload_n hx hb dX12_key_14 rfl (lv_at hl 0 rfl) ?_
                        refine va_ldcS hx hb hown hZ dX12_key_15 ?_
                        refine vp_callSi (va_Run.run (va_runV (As := []) (rest := [.int 18]) ⟨hx, hb, hml, hown, noTs⟩ (s_J0_length l adK adV 3 (by decide)) ⟨cbE 0 (wd_488 hE) (wd_129 hE) (wd_1527 hE) rfl rfl (by decide +kernel) ⟨Nat.le_of_ble_eq_true rfl, Nat.le_of_ble_eq_true rfl⟩, (wd_486 hE), (wd_487 hE)⟩ ⟨PS.blind, vk_recv hX.1 (by decide) hS, ps_pre (av := [.ref (adK 3)]) hX hS hE⟩ rfl rfl hl.1 rfl (lv_room (Nat.le_of_ble_eq_true rfl)) dX12_key_17 ⟨Nat.le_of_ble_eq_true rfl, Nat.le_of_ble_eq_true rfl⟩)) (fun r693 hr693 => ?_)
                        have hr693 : r693 = 18 := hr693
                        subst hr693
                        refine lv_icmp_ge (tgt := 133) hx hb dX12_key_20 (by decide) (fun c694 => ?_) (fun c694 => absurd c694 (by decide))
                        refine lv_iconst (v := -1) hx hb dX12_key_133 (by decide) ?_
                        exact W.iret (v := -1) hx hb hr (fun t ht hW => ⟨-1, rfl, trivial, ht⟩) (fun _ h => absurd h List.not_mem_nil) dX12_key_134
                      · have c692 := mt (b_eq (rfl : Int32.toInt x1_690 = _) (show Int32.toInt 0 = 0 from rfl)).mpr c692
                        refine lv_iload_n hx hb dX12_key_121 rfl (lv_at hl 1 rfl) ?_
                        exact W.iret (v := 2) hx hb hr (fun t ht hW => ⟨2, rfl, trivial, ht⟩) (fun _ h => absurd h List.not_mem_nil) dX12_key_122
                    · have c691 := mt (b_le (show Int32.toInt 4 = 4 from rfl) (nI_toInt (n := i_690) (by omega))).mpr c691
                      refine lv_iload hx hb dX12_key_75 (lv_at hl 4 rfl) ?_
                      refine lv_if_eq (tgt := 116) hx hb dX12_key_77 (by decide) (fun c695 => ?_) (fun c695 => ?_)
                      · have c695 := (b_eq (rfl : Int32.toInt x1_690 = _) (show Int32.toInt 0 = 0 from rfl)).mp c695
                        refine lv_iload hx hb dX12_key_116 (lv_at hl 4 rfl) ?_
                        refine lv_if_eq (tgt := 123) hx hb dX12_key_118 (by decide) (fun c696 => ?_) (fun c696 => ?_)
                        · have c696 := (b_eq (rfl : Int32.toInt x1_690 = _) (show Int32.toInt 0 = 0 from rfl)).mp c696
                          refine lv_iinc (v := 3) (lv' := [(1, .int 3), (0, .ref (b 0)), (2, .int 13), (3, .int 17), (4, .int x1_690), (5, .int (nI i_690))]) hx hb dX12_key_123 hl (k := 1) rfl (by decide) (by decide) rfl (fun ls hl => ?_)
                          refine lv_iload_n hx hb dX12_key_126 rfl (lv_at hl 3 rfl) ?_
                          refine lv_iconst (v := 1) hx hb dX12_key_127 (by decide) ?_
                          refine lv_iadd hx hb dX12_key_128 ?_
                          refine W.eq (g2 := F0 m 129 ls [.int 18]) rfl ?_
                          refine lv_istore_n (lv' := [(2, .int 18), (1, .int 3), (0, .ref (b 0)), (3, .int 17), (4, .int x1_690), (5, .int (nI i_690))]) hx hb dX12_key_129 rfl hl (by decide) rfl (fun ls hl => ?_)
                          refine lv_goto (tgt := 14) hx hb dX12_key_130 (by decide) ?_
                          refine lv_iload_n hx hb dX12_key_14 rfl (lv_at hl 0 rfl) ?_
                          refine va_ldcS hx hb hown hZ dX12_key_15 ?_
                          refine vp_callSi (va_Run.run (va_runV (As := []) (rest := [.int 18]) ⟨hx, hb, hml, hown, noTs⟩ (s_J0_length l adK adV 3 (by decide)) ⟨cbE 0 (wd_488 hE) (wd_129 hE) (wd_1527 hE) rfl rfl (by decide +kernel) ⟨Nat.le_of_ble_eq_true rfl, Nat.le_of_ble_eq_true rfl⟩, (wd_486 hE), (wd_487 hE)⟩ ⟨PS.blind, vk_recv hX.1 (by decide) hS, ps_pre (av := [.ref (adK 3)]) hX hS hE⟩ rfl rfl hl.1 rfl (lv_room (Nat.le_of_ble_eq_true rfl)) dX12_key_17 ⟨Nat.le_of_ble_eq_true rfl, Nat.le_of_ble_eq_true rfl⟩)) (fun r697 hr697 => ?_)
                          have hr697 : r697 = 18 := hr697
                          subst hr697
                          refine lv_icmp_ge (tgt := 133) hx hb dX12_key_20 (by decide) (fun c698 => ?_) (fun c698 => absurd c698 (by decide))
                          refine lv_iconst (v := -1) hx hb dX12_key_133 (by decide) ?_
                          exact W.iret (v := -1) hx hb hr (fun t ht hW => ⟨-1, rfl, trivial, ht⟩) (fun _ h => absurd h List.not_mem_nil) dX12_key_134
                        · have c696 := mt (b_eq (rfl : Int32.toInt x1_690 = _) (show Int32.toInt 0 = 0 from rfl)).mpr c696
                          refine lv_iload_n hx hb dX12_key_121 rfl (lv_at hl 1 rfl) ?_
                          exact W.iret (v := 2) hx hb hr (fun t ht hW => ⟨2, rfl, trivial, ht⟩) (fun _ h => absurd h List.not_mem_nil) dX12_key_122
                      · have c695 := mt (b_eq (rfl : Int32.toInt x1_690 = _) (show Int32.toInt 0 = 0 from rfl)).mpr c695
                        refine va_ldcS hx hb hown hZ dX12_key_80 ?_
                        refine lv_iload_n hx hb dX12_key_82 rfl (lv_at hl 2 rfl) ?_
                        refine lv_iload hx hb dX12_key_83 (lv_at hl 5 rfl) ?_
                        refine lv_iadd hx hb dX12_key_85 ?_
                        refine W.eq (g2 := F0 m 86 ls [.int (nI (13 + i_690)), .ref (adK 3)]) (congrArg (fun z : Int32 => F0 m 86 ls (.int z :: [.ref (adK 3)])) (nI_add 13 i_690)) ?_
                        refine vp_callSi (va_Run.run (va_runV (As := [.int (nI (13 + i_690))]) (rest := []) ⟨hx, hb, hml, hown, noTs⟩ (s_J0_charAt l adK adV 3 (13 + i_690) (by decide) (by show _ < 18; omega)) ⟨cbE 1 (wd_498 hE) (wd_129 hE) (wd_1528 hE) rfl rfl (by decide +kernel) ⟨Nat.le_of_ble_eq_true rfl, Nat.le_of_ble_eq_true rfl⟩, (wd_496 hE), (wd_497 hE)⟩ ⟨PS.blind, vk_recv hX.1 (by decide) hS, ps_pre (av := [.ref (adK 3), .int (nI (13 + i_690))]) hX hS hE⟩ rfl rfl hl.1 rfl (lv_room (Nat.le_of_ble_eq_true rfl)) dX12_key_86 ⟨Nat.le_of_ble_eq_true rfl, Nat.le_of_ble_eq_true rfl⟩)) (fun r699 hr699 => ?_)
                        refine lv_aload_n hx hb dX12_key_89 rfl (lv_at hl 0 rfl) ?_
                        refine lv_aload_n hx hb dX12_key_90 rfl (lv_at hl 0 rfl) ?_
                        refine r_get (v := .int (nI (fN u 13))) hx hb (ly_X12 hE) hown hK hP rfl 13 (by decide) (wd_1394 hE) (fun _ h9 => h9) (congrArg (fun z : Int32 => some (Value.int z)) hp0.1) dX12_key_91 ?_
                        refine lv_iload hx hb dX12_key_94 (lv_at hl 5 rfl) ?_
                        refine lv_iadd hx hb dX12_key_96 ?_
                        refine W.eq (g2 := F0 m 97 ls [.int (nI ((fN u 13) + i_690)), .ref (b 0), .int r699]) (congrArg (fun z : Int32 => F0 m 97 ls (.int z :: [.ref (b 0), .int r699])) (nI_add (fN u 13) i_690)) ?_
                        refine vp_callSi (va_Run.run (va_runV (As := [.int (nI ((fN u 13) + i_690))]) (rest := [.int r699]) ⟨hx, hb, hml, hown, noTs⟩ (r_X12_byteAt l dC dI s.heap.size cs b u tx hAc16 ((fN u 13) + i_690) sz1 hF11 (by first | assumption | omega | rfl | (congr 1; omega)) (by first | assumption | omega | rfl | (congr 1; omega))) ⟨cbE 1 (wd_1510 hE) (wd_126 hE) (wd_1507 hE) rfl rfl (by decide +kernel) ⟨Nat.le_of_ble_eq_true rfl, Nat.le_of_ble_eq_true rfl⟩, (wd_1509 hE), (wd_57 hE)⟩ ⟨PR.blind, r_recv hK hP rfl, (r_pre (av := [.ref (b 0), .int (nI ((fN u 13) + i_690))]) hK hP hJ hE)⟩ rfl rfl hl.1 rfl (lv_room (Nat.le_of_ble_eq_true rfl)) dX12_key_97 ⟨Nat.le_of_ble_eq_true rfl, Nat.le_of_ble_eq_true rfl⟩)) (fun r700 hr700 => ?_)
                        subst hr700
                        have htf700 := bA_f tx sz1 ((fN u 13) + i_690)
                        refine lv_icmp_ne (tgt := 107) hx hb dX12_key_100 (by decide) (fun c701 => ?_) (fun c701 => ?_)
                        · have c701 := mt (b_eq (rfl : Int32.toInt r699 = _) (rfl : Int32.toInt (bA tx sz1 ((fN u 13) + i_690)) = _)).mpr c701
                          refine lv_iconst (v := 0) hx hb dX12_key_107 (by decide) ?_
                          refine lv_istore (lv' := [(4, .int 0), (0, .ref (b 0)), (1, .int 2), (2, .int 13), (3, .int 17), (5, .int (nI i_690))]) hx hb dX12_key_108 hl (by decide) rfl (fun ls hl => ?_)
                          refine lv_iinc (v := nI (i_690 + 1)) (lv' := [(5, .int (nI (i_690 + 1))), (4, .int 0), (0, .ref (b 0)), (1, .int 2), (2, .int 13), (3, .int 17)]) hx hb dX12_key_110 hl (k := 5) rfl (nI_1 i_690) (by decide) rfl (fun ls hl => ?_)
                          refine lv_goto (tgt := 67) hx hb dX12_key_113 (by decide) ?_
                          exact ih690 _ _ (by omega) ⟨(i_690 + 1), 0, rfl, (by first | assumption | omega | rfl | (congr 1; omega)), lv_sub hl [2, 3, 4, 5, 1, 0] rfl⟩
                        · have c701 := (b_eq (rfl : Int32.toInt r699 = _) (rfl : Int32.toInt (bA tx sz1 ((fN u 13) + i_690)) = _)).mp c701
                          refine lv_iconst (v := 1) hx hb dX12_key_103 (by decide) ?_
                          refine lv_goto (tgt := 108) hx hb dX12_key_104 (by decide) ?_
                          refine lv_istore (lv' := [(4, .int 1), (0, .ref (b 0)), (1, .int 2), (2, .int 13), (3, .int 17), (5, .int (nI i_690))]) hx hb dX12_key_108 hl (by decide) rfl (fun ls hl => ?_)
                          refine lv_iinc (v := nI (i_690 + 1)) (lv' := [(5, .int (nI (i_690 + 1))), (4, .int 1), (0, .ref (b 0)), (1, .int 2), (2, .int 13), (3, .int 17)]) hx hb dX12_key_110 hl (k := 5) rfl (nI_1 i_690) (by decide) rfl (fun ls hl => ?_)
                          refine lv_goto (tgt := 67) hx hb dX12_key_113 (by decide) ?_
                          exact ih690 _ _ (by omega) ⟨(i_690 + 1), 1, rfl, (by first | assumption | omega | rfl | (congr 1; omega)), lv_sub hl [2, 3, 4, 5, 1, 0] rfl⟩
                · have c664 := mt (b_eq (rfl : Int32.toInt x1_662 = _) (show Int32.toInt 0 = 0 from rfl)).mpr c664
                  refine lv_iload_n hx hb dX12_key_121 rfl (lv_at hl 1 rfl) ?_
                  exact W.iret (v := 1) hx hb hr (fun t ht hW => ⟨1, rfl, trivial, ht⟩) (fun _ h => absurd h List.not_mem_nil) dX12_key_122
              · have c663 := mt (b_le (show Int32.toInt 4 = 4 from rfl) (nI_toInt (n := i_662) (by omega))).mpr c663
                refine lv_iload hx hb dX12_key_75 (lv_at hl 4 rfl) ?_
                refine lv_if_eq (tgt := 116) hx hb dX12_key_77 (by decide) (fun c702 => ?_) (fun c702 => ?_)
                · have c702 := (b_eq (rfl : Int32.toInt x1_662 = _) (show Int32.toInt 0 = 0 from rfl)).mp c702
                  refine lv_iload hx hb dX12_key_116 (lv_at hl 4 rfl) ?_
                  refine lv_if_eq (tgt := 123) hx hb dX12_key_118 (by decide) (fun c703 => ?_) (fun c703 => ?_)
                  · have c703 := (b_eq (rfl : Int32.toInt x1_662 = _) (show Int32.toInt 0 = 0 from rfl)).mp c703
                    refine lv_iinc (v := 2) (lv' := [(1, .int 2), (0, .ref (b 0)), (2, .int 8), (3, .int 12), (4, .int x1_662), (5, .int (nI i_662))]) hx hb dX12_key_123 hl (k := 1) rfl (by decide) (by decide) rfl (fun ls hl => ?_)
                    refine lv_iload_n hx hb dX12_key_126 rfl (lv_at hl 3 rfl) ?_
                    refine lv_iconst (v := 1) hx hb dX12_key_127 (by decide) ?_
                    refine lv_iadd hx hb dX12_key_128 ?_
                    refine W.eq (g2 := F0 m 129 ls [.int 13]) rfl ?_
                    refine lv_istore_n (lv' := [(2, .int 13), (1, .int 2), (0, .ref (b 0)), (3, .int 12), (4, .int x1_662), (5, .int (nI i_662))]) hx hb dX12_key_129 rfl hl (by decide) rfl (fun ls hl => ?_)
                    refine lv_goto (tgt := 14) hx hb dX12_key_130 (by decide) ?_
                    refine lv_iload_n hx hb dX12_key_14 rfl (lv_at hl 0 rfl) ?_
                    refine va_ldcS hx hb hown hZ dX12_key_15 ?_
                    refine vp_callSi (va_Run.run (va_runV (As := []) (rest := [.int 13]) ⟨hx, hb, hml, hown, noTs⟩ (s_J0_length l adK adV 3 (by decide)) ⟨cbE 0 (wd_488 hE) (wd_129 hE) (wd_1527 hE) rfl rfl (by decide +kernel) ⟨Nat.le_of_ble_eq_true rfl, Nat.le_of_ble_eq_true rfl⟩, (wd_486 hE), (wd_487 hE)⟩ ⟨PS.blind, vk_recv hX.1 (by decide) hS, ps_pre (av := [.ref (adK 3)]) hX hS hE⟩ rfl rfl hl.1 rfl (lv_room (Nat.le_of_ble_eq_true rfl)) dX12_key_17 ⟨Nat.le_of_ble_eq_true rfl, Nat.le_of_ble_eq_true rfl⟩)) (fun r704 hr704 => ?_)
                    have hr704 : r704 = 18 := hr704
                    subst hr704
                    refine lv_icmp_ge (tgt := 133) hx hb dX12_key_20 (by decide) (fun c705 => absurd c705 (by decide)) (fun c705 => ?_)
                    refine lv_iload_n hx hb dX12_key_23 rfl (lv_at hl 0 rfl) ?_
                    refine lv_istore_n (lv' := [(3, .int 13), (2, .int 13), (1, .int 2), (0, .ref (b 0)), (4, .int x1_662), (5, .int (nI i_662))]) hx hb dX12_key_24 rfl hl (by decide) rfl (fun ls hl => ?_)
                    refine va_ldcS hx hb hown hZ dX12_key_25 ?_
                    refine lv_iload_n hx hb dX12_key_27 rfl (lv_at hl 0 rfl) ?_
                    refine vp_callSi (va_Run.run (va_runV (As := [.int (nI 13)]) (rest := []) ⟨hx, hb, hml, hown, noTs⟩ (s_J0_charAt l adK adV 3 13 (by decide) (by show _ < 18; omega)) ⟨cbE 1 (wd_498 hE) (wd_129 hE) (wd_1528 hE) rfl rfl (by decide +kernel) ⟨Nat.le_of_ble_eq_true rfl, Nat.le_of_ble_eq_true rfl⟩, (wd_496 hE), (wd_497 hE)⟩ ⟨PS.blind, vk_recv hX.1 (by decide) hS, ps_pre (av := [.ref (adK 3), .int (nI 13)]) hX hS hE⟩ rfl rfl hl.1 rfl (lv_room (Nat.le_of_ble_eq_true rfl)) dX12_key_28 ⟨Nat.le_of_ble_eq_true rfl, Nat.le_of_ble_eq_true rfl⟩)) (fun r706 hr706 => ?_)
                    have hr706 : r706 = 119 := hr706.trans (by decide)
                    subst hr706
                    refine lv_bipush (v := 32) hx hb dX12_key_31 (by decide) ?_
                    refine lv_icmp_eq (tgt := 42) hx hb dX12_key_33 (by decide) (fun c707 => absurd c707 (by decide)) (fun c707 => ?_)
                    refine lv_iinc (v := 14) (lv' := [(3, .int 14), (2, .int 13), (1, .int 2), (0, .ref (b 0)), (4, .int x1_662), (5, .int (nI i_662))]) hx hb dX12_key_36 hl (k := 0) rfl (by decide) (by decide) rfl (fun ls hl => ?_)
                    refine lv_goto (tgt := 25) hx hb dX12_key_39 (by decide) ?_
                    refine va_ldcS hx hb hown hZ dX12_key_25 ?_
                    refine lv_iload_n hx hb dX12_key_27 rfl (lv_at hl 0 rfl) ?_
                    refine vp_callSi (va_Run.run (va_runV (As := [.int (nI 14)]) (rest := []) ⟨hx, hb, hml, hown, noTs⟩ (s_J0_charAt l adK adV 3 14 (by decide) (by show _ < 18; omega)) ⟨cbE 1 (wd_498 hE) (wd_129 hE) (wd_1528 hE) rfl rfl (by decide +kernel) ⟨Nat.le_of_ble_eq_true rfl, Nat.le_of_ble_eq_true rfl⟩, (wd_496 hE), (wd_497 hE)⟩ ⟨PS.blind, vk_recv hX.1 (by decide) hS, ps_pre (av := [.ref (adK 3), .int (nI 14)]) hX hS hE⟩ rfl rfl hl.1 rfl (lv_room (Nat.le_of_ble_eq_true rfl)) dX12_key_28 ⟨Nat.le_of_ble_eq_true rfl, Nat.le_of_ble_eq_true rfl⟩)) (fun r708 hr708 => ?_)
                    have hr708 : r708 = 111 := hr708.trans (by decide)
                    subst hr708
                    refine lv_bipush (v := 32) hx hb dX12_key_31 (by decide) ?_
                    refine lv_icmp_eq (tgt := 42) hx hb dX12_key_33 (by decide) (fun c709 => absurd c709 (by decide)) (fun c709 => ?_)
                    refine lv_iinc (v := 15) (lv' := [(3, .int 15), (2, .int 13), (1, .int 2), (0, .ref (b 0)), (4, .int x1_662), (5, .int (nI i_662))]) hx hb dX12_key_36 hl (k := 0) rfl (by decide) (by decide) rfl (fun ls hl => ?_)
                    refine lv_goto (tgt := 25) hx hb dX12_key_39 (by decide) ?_
                    refine va_ldcS hx hb hown hZ dX12_key_25 ?_
                    refine lv_iload_n hx hb dX12_key_27 rfl (lv_at hl 0 rfl) ?_
                    refine vp_callSi (va_Run.run (va_runV (As := [.int (nI 15)]) (rest := []) ⟨hx, hb, hml, hown, noTs⟩ (s_J0_charAt l adK adV 3 15 (by decide) (by show _ < 18; omega)) ⟨cbE 1 (wd_498 hE) (wd_129 hE) (wd_1528 hE) rfl rfl (by decide +kernel) ⟨Nat.le_of_ble_eq_true rfl, Nat.le_of_ble_eq_true rfl⟩, (wd_496 hE), (wd_497 hE)⟩ ⟨PS.blind, vk_recv hX.1 (by decide) hS, ps_pre (av := [.ref (adK 3), .int (nI 15)]) hX hS hE⟩ rfl rfl hl.1 rfl (lv_room (Nat.le_of_ble_eq_true rfl)) dX12_key_28 ⟨Nat.le_of_ble_eq_true rfl, Nat.le_of_ble_eq_true rfl⟩)) (fun r710 hr710 => ?_)
                    have hr710 : r710 = 114 := hr710.trans (by decide)
                    subst hr710
                    refine lv_bipush (v := 32) hx hb dX12_key_31 (by decide) ?_
                    refine lv_icmp_eq (tgt := 42) hx hb dX12_key_33 (by decide) (fun c711 => absurd c711 (by decide)) (fun c711 => ?_)
                    refine lv_iinc (v := 16) (lv' := [(3, .int 16), (2, .int 13), (1, .int 2), (0, .ref (b 0)), (4, .int x1_662), (5, .int (nI i_662))]) hx hb dX12_key_36 hl (k := 0) rfl (by decide) (by decide) rfl (fun ls hl => ?_)
                    refine lv_goto (tgt := 25) hx hb dX12_key_39 (by decide) ?_
                    refine va_ldcS hx hb hown hZ dX12_key_25 ?_
                    refine lv_iload_n hx hb dX12_key_27 rfl (lv_at hl 0 rfl) ?_
                    refine vp_callSi (va_Run.run (va_runV (As := [.int (nI 16)]) (rest := []) ⟨hx, hb, hml, hown, noTs⟩ (s_J0_charAt l adK adV 3 16 (by decide) (by show _ < 18; omega)) ⟨cbE 1 (wd_498 hE) (wd_129 hE) (wd_1528 hE) rfl rfl (by decide +kernel) ⟨Nat.le_of_ble_eq_true rfl, Nat.le_of_ble_eq_true rfl⟩, (wd_496 hE), (wd_497 hE)⟩ ⟨PS.blind, vk_recv hX.1 (by decide) hS, ps_pre (av := [.ref (adK 3), .int (nI 16)]) hX hS hE⟩ rfl rfl hl.1 rfl (lv_room (Nat.le_of_ble_eq_true rfl)) dX12_key_28 ⟨Nat.le_of_ble_eq_true rfl, Nat.le_of_ble_eq_true rfl⟩)) (fun r712 hr712 => ?_)
                    have hr712 : r712 = 100 := hr712.trans (by decide)
                    subst hr712
                    refine lv_bipush (v := 32) hx hb dX12_key_31 (by decide) ?_
                    refine lv_icmp_eq (tgt := 42) hx hb dX12_key_33 (by decide) (fun c713 => absurd c713 (by decide)) (fun c713 => ?_)
                    refine lv_iinc (v := 17) (lv' := [(3, .int 17), (2, .int 13), (1, .int 2), (0, .ref (b 0)), (4, .int x1_662), (5, .int (nI i_662))]) hx hb dX12_key_36 hl (k := 0) rfl (by decide) (by decide) rfl (fun ls hl => ?_)
                    refine lv_goto (tgt := 25) hx hb dX12_key_39 (by decide) ?_
                    refine va_ldcS hx hb hown hZ dX12_key_25 ?_
                    refine lv_iload_n hx hb dX12_key_27 rfl (lv_at hl 0 rfl) ?_
                    refine vp_callSi (va_Run.run (va_runV (As := [.int (nI 17)]) (rest := []) ⟨hx, hb, hml, hown, noTs⟩ (s_J0_charAt l adK adV 3 17 (by decide) (by show _ < 18; omega)) ⟨cbE 1 (wd_498 hE) (wd_129 hE) (wd_1528 hE) rfl rfl (by decide +kernel) ⟨Nat.le_of_ble_eq_true rfl, Nat.le_of_ble_eq_true rfl⟩, (wd_496 hE), (wd_497 hE)⟩ ⟨PS.blind, vk_recv hX.1 (by decide) hS, ps_pre (av := [.ref (adK 3), .int (nI 17)]) hX hS hE⟩ rfl rfl hl.1 rfl (lv_room (Nat.le_of_ble_eq_true rfl)) dX12_key_28 ⟨Nat.le_of_ble_eq_true rfl, Nat.le_of_ble_eq_true rfl⟩)) (fun r714 hr714 => ?_)
                    have hr714 : r714 = 32 := hr714.trans (by decide)
                    subst hr714
                    refine lv_bipush (v := 32) hx hb dX12_key_31 (by decide) ?_
                    refine lv_icmp_eq (tgt := 42) hx hb dX12_key_33 (by decide) (fun c715 => ?_) (fun c715 => absurd c715 (by decide))
                    refine lv_iload_n hx hb dX12_key_42 rfl (lv_at hl 0 rfl) ?_
                    refine lv_iload_n hx hb dX12_key_43 rfl (lv_at hl 1 rfl) ?_
                    refine lv_isub hx hb dX12_key_44 ?_
                    refine W.eq (g2 := F0 m 45 ls [.int 4]) rfl ?_
                    refine lv_aload_n hx hb dX12_key_45 rfl (lv_at hl 3 rfl) ?_
                    refine r_get (v := .int (nI (fN u 14))) hx hb (ly_X12 hE) hown hK hP rfl 14 (by decide) (wd_1395 hE) (fun _ h9 => h9) (congrArg (fun z : Int32 => some (Value.int z)) hp0.2.1) dX12_key_46 ?_
                    refine lv_aload_n hx hb dX12_key_49 rfl (lv_at hl 3 rfl) ?_
                    refine r_get (v := .int (nI (fN u 13))) hx hb (ly_X12 hE) hown hK hP rfl 13 (by decide) (wd_1394 hE) (fun _ h9 => h9) (congrArg (fun z : Int32 => some (Value.int z)) hp0.1) dX12_key_50 ?_
                    refine lv_isub hx hb dX12_key_53 ?_
                    refine W.eq (g2 := F0 m 54 ls [.int (nI ((fN u 14) - (fN u 13))), .int 4]) (congrArg (fun z : Int32 => F0 m 54 ls (.int z :: [.int 4])) (pk_sub (a := fN u 14) (b := fN u 13) (by omega))) ?_
                    refine lv_icmp_ne (tgt := 61) hx hb dX12_key_54 (by decide) (fun c716 => ?_) (fun c716 => ?_)
                    · have c716 := mt (b_eq (show Int32.toInt 4 = 4 from rfl) (nI_toInt (n := (fN u 14) - (fN u 13)) (by omega))).mpr c716
                      refine lv_iconst (v := 0) hx hb dX12_key_61 (by decide) ?_
                      refine lv_istore (lv' := [(4, .int 0), (3, .int 17), (2, .int 13), (1, .int 2), (0, .ref (b 0)), (5, .int (nI i_662))]) hx hb dX12_key_62 hl (by decide) rfl (fun ls hl => ?_)
                      refine lv_iconst (v := 0) hx hb dX12_key_64 (by decide) ?_
                      refine lv_istore (lv' := [(5, .int 0), (4, .int 0), (3, .int 17), (2, .int 13), (1, .int 2), (0, .ref (b 0))]) hx hb dX12_key_65 hl (by decide) rfl (fun ls hl => ?_)
                      refine r_indP (I := fun n ls => ∃ (i_717 : Nat) (x1_717 : Int32), n = 17 - 13 - i_717 ∧ (i_717 ≤ 17 - 13) ∧ lv_has ls 6 [(0, .ref (b 0)), (1, .int 2), (2, .int 13), (3, .int 17), (4, .int x1_717), (5, .int (nI i_717))]) (fun n ls hI ih717 => ?_) _ _ ⟨0, 0, rfl, (by first | assumption | omega | rfl | (congr 1; omega)), lv_sub hl [5, 4, 3, 2, 1, 0] rfl⟩
                      obtain ⟨i_717, x1_717, hmu717, hL717_0, hl⟩ := hI
                      subst hmu717
                      refine lv_iload hx hb dX12_key_67 (lv_at hl 5 rfl) ?_
                      refine lv_iload_n hx hb dX12_key_69 rfl (lv_at hl 3 rfl) ?_
                      refine lv_iload_n hx hb dX12_key_70 rfl (lv_at hl 2 rfl) ?_
                      refine lv_isub hx hb dX12_key_71 ?_
                      refine W.eq (g2 := F0 m 72 ls [.int 4, .int (nI i_717)]) rfl ?_
                      refine lv_icmp_ge (tgt := 116) hx hb dX12_key_72 (by decide) (fun c718 => ?_) (fun c718 => ?_)
                      · have c718 := (b_le (show Int32.toInt 4 = 4 from rfl) (nI_toInt (n := i_717) (by omega))).mp c718
                        refine lv_iload hx hb dX12_key_116 (lv_at hl 4 rfl) ?_
                        refine lv_if_eq (tgt := 123) hx hb dX12_key_118 (by decide) (fun c719 => ?_) (fun c719 => ?_)
                        · have c719 := (b_eq (rfl : Int32.toInt x1_717 = _) (show Int32.toInt 0 = 0 from rfl)).mp c719
                          refine lv_iinc (v := 3) (lv' := [(1, .int 3), (0, .ref (b 0)), (2, .int 13), (3, .int 17), (4, .int x1_717), (5, .int (nI i_717))]) hx hb dX12_key_123 hl (k := 1) rfl (by decide) (by decide) rfl (fun ls hl => ?_)
                          refine lv_iload_n hx hb dX12_key_126 rfl (lv_at hl 3 rfl) ?_
                          refine lv_iconst (v := 1) hx hb dX12_key_127 (by decide) ?_
                          refine lv_iadd hx hb dX12_key_128 ?_
                          refine W.eq (g2 := F0 m 129 ls [.int 18]) rfl ?_
                          refine lv_istore_n (lv' := [(2, .int 18), (1, .int 3), (0, .ref (b 0)), (3, .int 17), (4, .int x1_717), (5, .int (nI i_717))]) hx hb dX12_key_129 rfl hl (by decide) rfl (fun ls hl => ?_)
                          refine lv_goto (tgt := 14) hx hb dX12_key_130 (by decide) ?_
                          refine lv_iload_n hx hb dX12_key_14 rfl (lv_at hl 0 rfl) ?_
                          refine va_ldcS hx hb hown hZ dX12_key_15 ?_
                          refine vp_callSi (va_Run.run (va_runV (As := []) (rest := [.int 18]) ⟨hx, hb, hml, hown, noTs⟩ (s_J0_length l adK adV 3 (by decide)) ⟨cbE 0 (wd_488 hE) (wd_129 hE) (wd_1527 hE) rfl rfl (by decide +kernel) ⟨Nat.le_of_ble_eq_true rfl, Nat.le_of_ble_eq_true rfl⟩, (wd_486 hE), (wd_487 hE)⟩ ⟨PS.blind, vk_recv hX.1 (by decide) hS, ps_pre (av := [.ref (adK 3)]) hX hS hE⟩ rfl rfl hl.1 rfl (lv_room (Nat.le_of_ble_eq_true rfl)) dX12_key_17 ⟨Nat.le_of_ble_eq_true rfl, Nat.le_of_ble_eq_true rfl⟩)) (fun r720 hr720 => ?_)
                          have hr720 : r720 = 18 := hr720
                          subst hr720
                          refine lv_icmp_ge (tgt := 133) hx hb dX12_key_20 (by decide) (fun c721 => ?_) (fun c721 => absurd c721 (by decide))
                          refine lv_iconst (v := -1) hx hb dX12_key_133 (by decide) ?_
                          exact W.iret (v := -1) hx hb hr (fun t ht hW => ⟨-1, rfl, trivial, ht⟩) (fun _ h => absurd h List.not_mem_nil) dX12_key_134
                        · have c719 := mt (b_eq (rfl : Int32.toInt x1_717 = _) (show Int32.toInt 0 = 0 from rfl)).mpr c719
                          refine lv_iload_n hx hb dX12_key_121 rfl (lv_at hl 1 rfl) ?_
                          exact W.iret (v := 2) hx hb hr (fun t ht hW => ⟨2, rfl, trivial, ht⟩) (fun _ h => absurd h List.not_mem_nil) dX12_key_122
                      · have c718 := mt (b_le (show Int32.toInt 4 = 4 from rfl) (nI_toInt (n := i_717) (by omega))).mpr c718
                        refine lv_iload hx hb dX12_key_75 (lv_at hl 4 rfl) ?_
                        refine lv_if_eq (tgt := 116) hx hb dX12_key_77 (by decide) (fun c722 => ?_) (fun c722 => ?_)
                        · have c722 := (b_eq (rfl : Int32.toInt x1_717 = _) (show Int32.toInt 0 = 0 from rfl)).mp c722
                          refine lv_iload hx hb dX12_key_116 (lv_at hl 4 rfl) ?_
                          refine lv_if_eq (tgt := 123) hx hb dX12_key_118 (by decide) (fun c723 => ?_) (fun c723 => ?_)
                          · have c723 := (b_eq (rfl : Int32.toInt x1_717 = _) (show Int32.toInt 0 = 0 from rfl)).mp c723
                            refine lv_iinc (v := 3) (lv' := [(1, .int 3), (0, .ref (b 0)), (2, .int 13), (3, .int 17), (4, .int x1_717), (5, .int (nI i_717))]) hx hb dX12_key_123 hl (k := 1) rfl (by decide) (by decide) rfl (fun ls hl => ?_)
                            refine lv_iload_n hx hb dX12_key_126 rfl (lv_at hl 3 rfl) ?_
                            refine lv_iconst (v := 1) hx hb dX12_key_127 (by decide) ?_
                            refine lv_iadd hx hb dX12_key_128 ?_
                            refine W.eq (g2 := F0 m 129 ls [.int 18]) rfl ?_
                            refine lv_istore_n (lv' := [(2, .int 18), (1, .int 3), (0, .ref (b 0)), (3, .int 17), (4, .int x1_717), (5, .int (nI i_717))]) hx hb dX12_key_129 rfl hl (by decide) rfl (fun ls hl => ?_)
                            refine lv_goto (tgt := 14) hx hb dX12_key_130 (by decide) ?_
                            refine lv_iload_n hx hb dX12_key_14 rfl (lv_at hl 0 rfl) ?_
                            refine va_ldcS hx hb hown hZ dX12_key_15 ?_
                            refine vp_callSi (va_Run.run (va_runV (As := []) (rest := [.int 18]) ⟨hx, hb, hml, hown, noTs⟩ (s_J0_length l adK adV 3 (by decide)) ⟨cbE 0 (wd_488 hE) (wd_129 hE) (wd_1527 hE) rfl rfl (by decide +kernel) ⟨Nat.le_of_ble_eq_true rfl, Nat.le_of_ble_eq_true rfl⟩, (wd_486 hE), (wd_487 hE)⟩ ⟨PS.blind, vk_recv hX.1 (by decide) hS, ps_pre (av := [.ref (adK 3)]) hX hS hE⟩ rfl rfl hl.1 rfl (lv_room (Nat.le_of_ble_eq_true rfl)) dX12_key_17 ⟨Nat.le_of_ble_eq_true rfl, Nat.le_of_ble_eq_true rfl⟩)) (fun r724 hr724 => ?_)
                            have hr724 : r724 = 18 := hr724
                            subst hr724
                            refine lv_icmp_ge (tgt := 133) hx hb dX12_key_20 (by decide) (fun c725 => ?_) (fun c725 => absurd c725 (by decide))
                            refine lv_iconst (v := -1) hx hb dX12_key_133 (by decide) ?_
                            exact W.iret (v := -1) hx hb hr (fun t ht hW => ⟨-1, rfl, trivial, ht⟩) (fun _ h => absurd h List.not_mem_nil) dX12_key_134
                          · have c723 := mt (b_eq (rfl : Int32.toInt x1_717 = _) (show Int32.toInt 0 = 0 from rfl)).mpr c723
                            refine lv_iload_n hx hb dX12_key_121 rfl (lv_at hl 1 rfl) ?_
                            exact W.iret (v := 2) hx hb hr (fun t ht hW => ⟨2, rfl, trivial, ht⟩) (fun _ h => absurd h List.not_mem_nil) dX12_key_122
                        · have c722 := mt (b_eq (rfl : Int32.toInt x1_717 = _) (show Int32.toInt 0 = 0 from rfl)).mpr c722
                          refine va_ldcS hx hb hown hZ dX12_key_80 ?_
                          refine lv_iload_n hx hb dX12_key_82 rfl (lv_at hl 2 rfl) ?_
                          refine lv_iload hx hb dX12_key_83 (lv_at hl 5 rfl) ?_
                          refine lv_iadd hx hb dX12_key_85 ?_
                          refine W.eq (g2 := F0 m 86 ls [.int (nI (13 + i_717)), .ref (adK 3)]) (congrArg (fun z : Int32 => F0 m 86 ls (.int z :: [.ref (adK 3)])) (nI_add 13 i_717)) ?_
                          refine vp_callSi (va_Run.run (va_runV (As := [.int (nI (13 + i_717))]) (rest := []) ⟨hx, hb, hml, hown, noTs⟩ (s_J0_charAt l adK adV 3 (13 + i_717) (by decide) (by show _ < 18; omega)) ⟨cbE 1 (wd_498 hE) (wd_129 hE) (wd_1528 hE) rfl rfl (by decide +kernel) ⟨Nat.le_of_ble_eq_true rfl, Nat.le_of_ble_eq_true rfl⟩, (wd_496 hE), (wd_497 hE)⟩ ⟨PS.blind, vk_recv hX.1 (by decide) hS, ps_pre (av := [.ref (adK 3), .int (nI (13 + i_717))]) hX hS hE⟩ rfl rfl hl.1 rfl (lv_room (Nat.le_of_ble_eq_true rfl)) dX12_key_86 ⟨Nat.le_of_ble_eq_true rfl, Nat.le_of_ble_eq_true rfl⟩)) (fun r726 hr726 => ?_)
                          refine lv_aload_n hx hb dX12_key_89 rfl (lv_at hl 0 rfl) ?_
                          refine lv_aload_n hx hb dX12_key_90 rfl (lv_at hl 0 rfl) ?_
                          refine r_get (v := .int (nI (fN u 13))) hx hb (ly_X12 hE) hown hK hP rfl 13 (by decide) (wd_1394 hE) (fun _ h9 => h9) (congrArg (fun z : Int32 => some (Value.int z)) hp0.1) dX12_key_91 ?_
                          refine lv_iload hx hb dX12_key_94 (lv_at hl 5 rfl) ?_
                          refine lv_iadd hx hb dX12_key_96 ?_
                          refine W.eq (g2 := F0 m 97 ls [.int (nI ((fN u 13) + i_717)), .ref (b 0), .int r726]) (congrArg (fun z : Int32 => F0 m 97 ls (.int z :: [.ref (b 0), .int r726])) (nI_add (fN u 13) i_717)) ?_
                          refine vp_callSi (va_Run.run (va_runV (As := [.int (nI ((fN u 13) + i_717))]) (rest := [.int r726]) ⟨hx, hb, hml, hown, noTs⟩ (r_X12_byteAt l dC dI s.heap.size cs b u tx hAc16 ((fN u 13) + i_717) sz1 hF11 (by first | assumption | omega | rfl | (congr 1; omega)) (by first | assumption | omega | rfl | (congr 1; omega))) ⟨cbE 1 (wd_1510 hE) (wd_126 hE) (wd_1507 hE) rfl rfl (by decide +kernel) ⟨Nat.le_of_ble_eq_true rfl, Nat.le_of_ble_eq_true rfl⟩, (wd_1509 hE), (wd_57 hE)⟩ ⟨PR.blind, r_recv hK hP rfl, (r_pre (av := [.ref (b 0), .int (nI ((fN u 13) + i_717))]) hK hP hJ hE)⟩ rfl rfl hl.1 rfl (lv_room (Nat.le_of_ble_eq_true rfl)) dX12_key_97 ⟨Nat.le_of_ble_eq_true rfl, Nat.le_of_ble_eq_true rfl⟩)) (fun r727 hr727 => ?_)
                          subst hr727
                          have htf727 := bA_f tx sz1 ((fN u 13) + i_717)
                          refine lv_icmp_ne (tgt := 107) hx hb dX12_key_100 (by decide) (fun c728 => ?_) (fun c728 => ?_)
                          · have c728 := mt (b_eq (rfl : Int32.toInt r726 = _) (rfl : Int32.toInt (bA tx sz1 ((fN u 13) + i_717)) = _)).mpr c728
                            refine lv_iconst (v := 0) hx hb dX12_key_107 (by decide) ?_
                            refine lv_istore (lv' := [(4, .int 0), (0, .ref (b 0)), (1, .int 2), (2, .int 13), (3, .int 17), (5, .int (nI i_717))]) hx hb dX12_key_108 hl (by decide) rfl (fun ls hl => ?_)
                            refine lv_iinc (v := nI (i_717 + 1)) (lv' := [(5, .int (nI (i_717 + 1))), (4, .int 0), (0, .ref (b 0)), (1, .int 2), (2, .int 13), (3, .int 17)]) hx hb dX12_key_110 hl (k := 5) rfl (nI_1 i_717) (by decide) rfl (fun ls hl => ?_)
                            refine lv_goto (tgt := 67) hx hb dX12_key_113 (by decide) ?_
                            exact ih717 _ _ (by omega) ⟨(i_717 + 1), 0, rfl, (by first | assumption | omega | rfl | (congr 1; omega)), lv_sub hl [2, 3, 4, 5, 1, 0] rfl⟩
                          · have c728 := (b_eq (rfl : Int32.toInt r726 = _) (rfl : Int32.toInt (bA tx sz1 ((fN u 13) + i_717)) = _)).mp c728
                            refine lv_iconst (v := 1) hx hb dX12_key_103 (by decide) ?_
                            refine lv_goto (tgt := 108) hx hb dX12_key_104 (by decide) ?_
                            refine lv_istore (lv' := [(4, .int 1), (0, .ref (b 0)), (1, .int 2), (2, .int 13), (3, .int 17), (5, .int (nI i_717))]) hx hb dX12_key_108 hl (by decide) rfl (fun ls hl => ?_)
                            refine lv_iinc (v := nI (i_717 + 1)) (lv' := [(5, .int (nI (i_717 + 1))), (4, .int 1), (0, .ref (b 0)), (1, .int 2), (2, .int 13), (3, .int 17)]) hx hb dX12_key_110 hl (k := 5) rfl (nI_1 i_717) (by decide) rfl (fun ls hl => ?_)
                            refine lv_goto (tgt := 67) hx hb dX12_key_113 (by decide) ?_
                            exact ih717 _ _ (by omega) ⟨(i_717 + 1), 1, rfl, (by first | assumption | omega | rfl | (congr 1; omega)), lv_sub hl [2, 3, 4, 5, 1, 0] rfl⟩
                    · have c716 := (b_eq (show Int32.toInt 4 = 4 from rfl) (nI_toInt (n := (fN u 14) - (fN u 13)) (by omega))).mp c716
                      refine lv_iconst (v := 1) hx hb dX12_key_57 (by decide) ?_
                      refine lv_goto (tgt := 62) hx hb dX12_key_58 (by decide) ?_
                      refine lv_istore (lv' := [(4, .int 1), (3, .int 17), (2, .int 13), (1, .int 2), (0, .ref (b 0)), (5, .int (nI i_662))]) hx hb dX12_key_62 hl (by decide) rfl (fun ls hl => ?_)
                      refine lv_iconst (v := 0) hx hb dX12_key_64 (by decide) ?_
                      refine lv_istore (lv' := [(5, .int 0), (4, .int 1), (3, .int 17), (2, .int 13), (1, .int 2), (0, .ref (b 0))]) hx hb dX12_key_65 hl (by decide) rfl (fun ls hl => ?_)
                      refine r_indP (I := fun n ls => ∃ (i_729 : Nat) (x1_729 : Int32), n = 17 - 13 - i_729 ∧ (i_729 ≤ 17 - 13) ∧ lv_has ls 6 [(0, .ref (b 0)), (1, .int 2), (2, .int 13), (3, .int 17), (4, .int x1_729), (5, .int (nI i_729))]) (fun n ls hI ih729 => ?_) _ _ ⟨0, 1, rfl, (by first | assumption | omega | rfl | (congr 1; omega)), lv_sub hl [5, 4, 3, 2, 1, 0] rfl⟩
                      obtain ⟨i_729, x1_729, hmu729, hL729_0, hl⟩ := hI
                      subst hmu729
                      refine lv_iload hx hb dX12_key_67 (lv_at hl 5 rfl) ?_
                      refine lv_iload_n hx hb dX12_key_69 rfl (lv_at hl 3 rfl) ?_
                      refine lv_iload_n hx hb dX12_key_70 rfl (lv_at hl 2 rfl) ?_
                      refine lv_isub hx hb dX12_key_71 ?_
                      refine W.eq (g2 := F0 m 72 ls [.int 4, .int (nI i_729)]) rfl ?_
                      refine lv_icmp_ge (tgt := 116) hx hb dX12_key_72 (by decide) (fun c730 => ?_) (fun c730 => ?_)
                      · have c730 := (b_le (show Int32.toInt 4 = 4 from rfl) (nI_toInt (n := i_729) (by omega))).mp c730
                        refine lv_iload hx hb dX12_key_116 (lv_at hl 4 rfl) ?_
                        refine lv_if_eq (tgt := 123) hx hb dX12_key_118 (by decide) (fun c731 => ?_) (fun c731 => ?_)
                        · have c731 := (b_eq (rfl : Int32.toInt x1_729 = _) (show Int32.toInt 0 = 0 from rfl)).mp c731
                          refine lv_iinc (v := 3) (lv' := [(1, .int 3), (0, .ref (b 0)), (2, .int 13), (3, .int 17), (4, .int x1_729), (5, .int (nI i_729))]) hx hb dX12_key_123 hl (k := 1) rfl (by decide) (by decide) rfl (fun ls hl => ?_)
                          refine lv_iload_n hx hb dX12_key_126 rfl (lv_at hl 3 rfl) ?_
                          refine lv_iconst (v := 1) hx hb dX12_key_127 (by decide) ?_
                          refine lv_iadd hx hb dX12_key_128 ?_
                          refine W.eq (g2 := F0 m 129 ls [.int 18]) rfl ?_
                          refine lv_istore_n (lv' := [(2, .int 18), (1, .int 3), (0, .ref (b 0)), (3, .int 17), (4, .int x1_729), (5, .int (nI i_729))]) hx hb dX12_key_129 rfl hl (by decide) rfl (fun ls hl => ?_)
                          refine lv_goto (tgt := 14) hx hb dX12_key_130 (by decide) ?_
                          refine lv_iload_n hx hb dX12_key_14 rfl (lv_at hl 0 rfl) ?_
                          refine va_ldcS hx hb hown hZ dX12_key_15 ?_
                          refine vp_callSi (va_Run.run (va_runV (As := []) (rest := [.int 18]) ⟨hx, hb, hml, hown, noTs⟩ (s_J0_length l adK adV 3 (by decide)) ⟨cbE 0 (wd_488 hE) (wd_129 hE) (wd_1527 hE) rfl rfl (by decide +kernel) ⟨Nat.le_of_ble_eq_true rfl, Nat.le_of_ble_eq_true rfl⟩, (wd_486 hE), (wd_487 hE)⟩ ⟨PS.blind, vk_recv hX.1 (by decide) hS, ps_pre (av := [.ref (adK 3)]) hX hS hE⟩ rfl rfl hl.1 rfl (lv_room (Nat.le_of_ble_eq_true rfl)) dX12_key_17 ⟨Nat.le_of_ble_eq_true rfl, Nat.le_of_ble_eq_true rfl⟩)) (fun r732 hr732 => ?_)
                          have hr732 : r732 = 18 := hr732
                          subst hr732
                          refine lv_icmp_ge (tgt := 133) hx hb dX12_key_20 (by decide) (fun c733 => ?_) (fun c733 => absurd c733 (by decide))
                          refine lv_iconst (v := -1) hx hb dX12_key_133 (by decide) ?_
                          exact W.iret (v := -1) hx hb hr (fun t ht hW => ⟨-1, rfl, trivial, ht⟩) (fun _ h => absurd h List.not_mem_nil) dX12_key_134
                        · have c731 := mt (b_eq (rfl : Int32.toInt x1_729 = _) (show Int32.toInt 0 = 0 from rfl)).mpr c731
                          refine lv_iload_n hx hb dX12_key_121 rfl (lv_at hl 1 rfl) ?_
                          exact W.iret (v := 2) hx hb hr (fun t ht hW => ⟨2, rfl, trivial, ht⟩) (fun _ h => absurd h List.not_mem_nil) dX12_key_122
                      · have c730 := mt (b_le (show Int32.toInt 4 = 4 from rfl) (nI_toInt (n := i_729) (by omega))).mpr c730
                        refine lv_iload hx hb dX12_key_75 (lv_at hl 4 rfl) ?_
                        refine lv_if_eq (tgt := 116) hx hb dX12_key_77 (by decide) (fun c734 => ?_) (fun c734 => ?_)
                        · have c734 := (b_eq (rfl : Int32.toInt x1_729 = _) (show Int32.toInt 0 = 0 from rfl)).mp c734
                          refine lv_iload hx hb dX12_key_116 (lv_at hl 4 rfl) ?_
                          refine lv_if_eq (tgt := 123) hx hb dX12_key_118 (by decide) (fun c735 => ?_) (fun c735 => ?_)
                          · have c735 := (b_eq (rfl : Int32.toInt x1_729 = _) (show Int32.toInt 0 = 0 from rfl)).mp c735
                            refine lv_iinc (v := 3) (lv' := [(1, .int 3), (0, .ref (b 0)), (2, .int 13), (3, .int 17), (4, .int x1_729), (5, .int (nI i_729))]) hx hb dX12_key_123 hl (k := 1) rfl (by decide) (by decide) rfl (fun ls hl => ?_)
                            refine lv_iload_n hx hb dX12_key_126 rfl (lv_at hl 3 rfl) ?_
                            refine lv_iconst (v := 1) hx hb dX12_key_127 (by decide) ?_
                            refine lv_iadd hx hb dX12_key_128 ?_
                            refine W.eq (g2 := F0 m 129 ls [.int 18]) rfl ?_
                            refine lv_istore_n (lv' := [(2, .int 18), (1, .int 3), (0, .ref (b 0)), (3, .int 17), (4, .int x1_729), (5, .int (nI i_729))]) hx hb dX12_key_129 rfl hl (by decide) rfl (fun ls hl => ?_)
                            refine lv_goto (tgt := 14) hx hb dX12_key_130 (by decide) ?_
                            refine lv_iload_n hx hb dX12_key_14 rfl (lv_at hl 0 rfl) ?_
                            refine va_ldcS hx hb hown hZ dX12_key_15 ?_
                            refine vp_callSi (va_Run.run (va_runV (As := []) (rest := [.int 18]) ⟨hx, hb, hml, hown, noTs⟩ (s_J0_length l adK adV 3 (by decide)) ⟨cbE 0 (wd_488 hE) (wd_129 hE) (wd_1527 hE) rfl rfl (by decide +kernel) ⟨Nat.le_of_ble_eq_true rfl, Nat.le_of_ble_eq_true rfl⟩, (wd_486 hE), (wd_487 hE)⟩ ⟨PS.blind, vk_recv hX.1 (by decide) hS, ps_pre (av := [.ref (adK 3)]) hX hS hE⟩ rfl rfl hl.1 rfl (lv_room (Nat.le_of_ble_eq_true rfl)) dX12_key_17 ⟨Nat.le_of_ble_eq_true rfl, Nat.le_of_ble_eq_true rfl⟩)) (fun r736 hr736 => ?_)
                            have hr736 : r736 = 18 := hr736
                            subst hr736
                            refine lv_icmp_ge (tgt := 133) hx hb dX12_key_20 (by decide) (fun c737 => ?_) (fun c737 => absurd c737 (by decide))
                            refine lv_iconst (v := -1) hx hb dX12_key_133 (by decide) ?_
                            exact W.iret (v := -1) hx hb hr (fun t ht hW => ⟨-1, rfl, trivial, ht⟩) (fun _ h => absurd h List.not_mem_nil) dX12_key_134
                          · have c735 := mt (b_eq (rfl : Int32.toInt x1_729 = _) (show Int32.toInt 0 = 0 from rfl)).mpr c735
                            refine lv_iload_n hx hb dX12_key_121 rfl (lv_at hl 1 rfl) ?_
                            exact W.iret (v := 2) hx hb hr (fun t ht hW => ⟨2, rfl, trivial, ht⟩) (fun _ h => absurd h List.not_mem_nil) dX12_key_122
                        · have c734 := mt (b_eq (rfl : Int32.toInt x1_729 = _) (show Int32.toInt 0 = 0 from rfl)).mpr c734
                          refine va_ldcS hx hb hown hZ dX12_key_80 ?_
                          refine lv_iload_n hx hb dX12_key_82 rfl (lv_at hl 2 rfl) ?_
                          refine lv_iload hx hb dX12_key_83 (lv_at hl 5 rfl) ?_
                          refine lv_iadd hx hb dX12_key_85 ?_
                          refine W.eq (g2 := F0 m 86 ls [.int (nI (13 + i_729)), .ref (adK 3)]) (congrArg (fun z : Int32 => F0 m 86 ls (.int z :: [.ref (adK 3)])) (nI_add 13 i_729)) ?_
                          refine vp_callSi (va_Run.run (va_runV (As := [.int (nI (13 + i_729))]) (rest := []) ⟨hx, hb, hml, hown, noTs⟩ (s_J0_charAt l adK adV 3 (13 + i_729) (by decide) (by show _ < 18; omega)) ⟨cbE 1 (wd_498 hE) (wd_129 hE) (wd_1528 hE) rfl rfl (by decide +kernel) ⟨Nat.le_of_ble_eq_true rfl, Nat.le_of_ble_eq_true rfl⟩, (wd_496 hE), (wd_497 hE)⟩ ⟨PS.blind, vk_recv hX.1 (by decide) hS, ps_pre (av := [.ref (adK 3), .int (nI (13 + i_729))]) hX hS hE⟩ rfl rfl hl.1 rfl (lv_room (Nat.le_of_ble_eq_true rfl)) dX12_key_86 ⟨Nat.le_of_ble_eq_true rfl, Nat.le_of_ble_eq_true rfl⟩)) (fun r738 hr738 => ?_)
                          refine lv_aload_n hx hb dX12_key_89 rfl (lv_at hl 0 rfl) ?_
                          refine lv_aload_n hx hb dX12_key_90 rfl (lv_at hl 0 rfl) ?_
                          refine r_get (v := .int (nI (fN u 13))) hx hb (ly_X12 hE) hown hK hP rfl 13 (by decide) (wd_1394 hE) (fun _ h9 => h9) (congrArg (fun z : Int32 => some (Value.int z)) hp0.1) dX12_key_91 ?_
                          refine lv_iload hx hb dX12_key_94 (lv_at hl 5 rfl) ?_
                          refine lv_iadd hx hb dX12_key_96 ?_
                          refine W.eq (g2 := F0 m 97 ls [.int (nI ((fN u 13) + i_729)), .ref (b 0), .int r738]) (congrArg (fun z : Int32 => F0 m 97 ls (.int z :: [.ref (b 0), .int r738])) (nI_add (fN u 13) i_729)) ?_
                          refine vp_callSi (va_Run.run (va_runV (As := [.int (nI ((fN u 13) + i_729))]) (rest := [.int r738]) ⟨hx, hb, hml, hown, noTs⟩ (r_X12_byteAt l dC dI s.heap.size cs b u tx hAc16 ((fN u 13) + i_729) sz1 hF11 (by first | assumption | omega | rfl | (congr 1; omega)) (by first | assumption | omega | rfl | (congr 1; omega))) ⟨cbE 1 (wd_1510 hE) (wd_126 hE) (wd_1507 hE) rfl rfl (by decide +kernel) ⟨Nat.le_of_ble_eq_true rfl, Nat.le_of_ble_eq_true rfl⟩, (wd_1509 hE), (wd_57 hE)⟩ ⟨PR.blind, r_recv hK hP rfl, (r_pre (av := [.ref (b 0), .int (nI ((fN u 13) + i_729))]) hK hP hJ hE)⟩ rfl rfl hl.1 rfl (lv_room (Nat.le_of_ble_eq_true rfl)) dX12_key_97 ⟨Nat.le_of_ble_eq_true rfl, Nat.le_of_ble_eq_true rfl⟩)) (fun r739 hr739 => ?_)
                          subst hr739
                          have htf739 := bA_f tx sz1 ((fN u 13) + i_729)
                          refine lv_icmp_ne (tgt := 107) hx hb dX12_key_100 (by decide) (fun c740 => ?_) (fun c740 => ?_)
                          · have c740 := mt (b_eq (rfl : Int32.toInt r738 = _) (rfl : Int32.toInt (bA tx sz1 ((fN u 13) + i_729)) = _)).mpr c740
                            refine lv_iconst (v := 0) hx hb dX12_key_107 (by decide) ?_
                            refine lv_istore (lv' := [(4, .int 0), (0, .ref (b 0)), (1, .int 2), (2, .int 13), (3, .int 17), (5, .int (nI i_729))]) hx hb dX12_key_108 hl (by decide) rfl (fun ls hl => ?_)
                            refine lv_iinc (v := nI (i_729 + 1)) (lv' := [(5, .int (nI (i_729 + 1))), (4, .int 0), (0, .ref (b 0)), (1, .int 2), (2, .int 13), (3, .int 17)]) hx hb dX12_key_110 hl (k := 5) rfl (nI_1 i_729) (by decide) rfl (fun ls hl => ?_)
                            refine lv_goto (tgt := 67) hx hb dX12_key_113 (by decide) ?_
                            exact ih729 _ _ (by omega) ⟨(i_729 + 1), 0, rfl, (by first | assumption | omega | rfl | (congr 1; omega)), lv_sub hl [2, 3, 4, 5, 1, 0] rfl⟩
                          · have c740 := (b_eq (rfl : Int32.toInt r738 = _) (rfl : Int32.toInt (bA tx sz1 ((fN u 13) + i_729)) = _)).mp c740
                            refine lv_iconst (v := 1) hx hb dX12_key_103 (by decide) ?_
                            refine lv_goto (tgt := 108) hx hb dX12_key_104 (by decide) ?_
                            refine lv_istore (lv' := [(4, .int 1), (0, .ref (b 0)), (1, .int 2), (2, .int 13), (3, .int 17), (5, .int (nI i_729))]) hx hb dX12_key_108 hl (by decide) rfl (fun ls hl => ?_)
                            refine lv_iinc (v := nI (i_729 + 1)) (lv' := [(5, .int (nI (i_729 + 1))), (4, .int 1), (0, .ref (b 0)), (1, .int 2), (2, .int 13), (3, .int 17)]) hx hb dX12_key_110 hl (k := 5) rfl (nI_1 i_729) (by decide) rfl (fun ls hl => ?_)
                            refine lv_goto (tgt := 67) hx hb dX12_key_113 (by decide) ?_
                            exact ih729 _ _ (by omega) ⟨(i_729 + 1), 1, rfl, (by first | assumption | omega | rfl | (congr 1; omega)), lv_sub hl [2, 3, 4, 5, 1, 0] rfl⟩
                  · have c703 := mt (b_eq (rfl : Int32.toInt x1_662 = _) (show Int32.toInt 0 = 0 from rfl)).mpr c703
                    refine lv_iload_n hx hb dX12_key_121 rfl (lv_at hl 1 rfl) ?_
                    exact W.iret (v := 1) hx hb hr (fun t ht hW => ⟨1, rfl, trivial, ht⟩) (fun _ h => absurd h List.not_mem_nil) dX12_key_122
                · have c702 := mt (b_eq (rfl : Int32.toInt x1_662 = _) (show Int32.toInt 0 = 0 from rfl)).mpr c702
                  refine va_ldcS hx hb hown hZ dX12_key_80 ?_
                  refine lv_iload_n hx hb dX12_key_82 rfl (lv_at hl 2 rfl) ?_
                  refine lv_iload hx hb dX12_key_83 (lv_at hl 5 rfl) ?_
                  refine lv_iadd hx hb dX12_key_85 ?_
                  refine W.eq (g2 := F0 m 86 ls [.int (nI (8 + i_662)), .ref (adK 3)]) (congrArg (fun z : Int32 => F0 m 86 ls (.int z :: [.ref (adK 3)])) (nI_add 8 i_662)) ?_
                  refine vp_callSi (va_Run.run (va_runV (As := [.int (nI (8 + i_662))]) (rest := []) ⟨hx, hb, hml, hown, noTs⟩ (s_J0_charAt l adK adV 3 (8 + i_662) (by decide) (by show _ < 18; omega)) ⟨cbE 1 (wd_498 hE) (wd_129 hE) (wd_1528 hE) rfl rfl (by decide +kernel) ⟨Nat.le_of_ble_eq_true rfl, Nat.le_of_ble_eq_true rfl⟩, (wd_496 hE), (wd_497 hE)⟩ ⟨PS.blind, vk_recv hX.1 (by decide) hS, ps_pre (av := [.ref (adK 3), .int (nI (8 + i_662))]) hX hS hE⟩ rfl rfl hl.1 rfl (lv_room (Nat.le_of_ble_eq_true rfl)) dX12_key_86 ⟨Nat.le_of_ble_eq_true rfl, Nat.le_of_ble_eq_true rfl⟩)) (fun r741 hr741 => ?_)
                  refine lv_aload_n hx hb dX12_key_89 rfl (lv_at hl 0 rfl) ?_
                  refine lv_aload_n hx hb dX12_key_90 rfl (lv_at hl 0 rfl) ?_
                  refine r_get (v := .int (nI (fN u 13))) hx hb (ly_X12 hE) hown hK hP rfl 13 (by decide) (wd_1394 hE) (fun _ h9 => h9) (congrArg (fun z : Int32 => some (Value.int z)) hp0.1) dX12_key_91 ?_
                  refine lv_iload hx hb dX12_key_94 (lv_at hl 5 rfl) ?_
                  refine lv_iadd hx hb dX12_key_96 ?_
                  refine W.eq (g2 := F0 m 97 ls [.int (nI ((fN u 13) + i_662)), .ref (b 0), .int r741]) (congrArg (fun z : Int32 => F0 m 97 ls (.int z :: [.ref (b 0), .int r741])) (nI_add (fN u 13) i_662)) ?_
                  refine vp_callSi (va_Run.run (va_runV (As := [.int (nI ((fN u 13) + i_662))]) (rest := [.int r741]) ⟨hx, hb, hml, hown, noTs⟩ (r_X12_byteAt l dC dI s.heap.size cs b u tx hAc16 ((fN u 13) + i_662) sz1 hF11 (by first | assumption | omega | rfl | (congr 1; omega)) (by first | assumption | omega | rfl | (congr 1; omega))) ⟨cbE 1 (wd_1510 hE) (wd_126 hE) (wd_1507 hE) rfl rfl (by decide +kernel) ⟨Nat.le_of_ble_eq_true rfl, Nat.le_of_ble_eq_true rfl⟩, (wd_1509 hE), (wd_57 hE)⟩ ⟨PR.blind, r_recv hK hP rfl, (r_pre (av := [.ref (b 0), .int (nI ((fN u 13) + i_662))]) hK hP hJ hE)⟩ rfl rfl hl.1 rfl (lv_room (Nat.le_of_ble_eq_true rfl)) dX12_key_97 ⟨Nat.le_of_ble_eq_true rfl, Nat.le_of_ble_eq_true rfl⟩)) (fun r742 hr742 => ?_)
                  subst hr742
                  have htf742 := bA_f tx sz1 ((fN u 13) + i_662)
                  refine lv_icmp_ne (tgt := 107) hx hb dX12_key_100 (by decide) (fun c743 => ?_) (fun c743 => ?_)
                  · have c743 := mt (b_eq (rfl : Int32.toInt r741 = _) (rfl : Int32.toInt (bA tx sz1 ((fN u 13) + i_662)) = _)).mpr c743
                    refine lv_iconst (v := 0) hx hb dX12_key_107 (by decide) ?_
                    refine lv_istore (lv' := [(4, .int 0), (0, .ref (b 0)), (1, .int 1), (2, .int 8), (3, .int 12), (5, .int (nI i_662))]) hx hb dX12_key_108 hl (by decide) rfl (fun ls hl => ?_)
                    refine lv_iinc (v := nI (i_662 + 1)) (lv' := [(5, .int (nI (i_662 + 1))), (4, .int 0), (0, .ref (b 0)), (1, .int 1), (2, .int 8), (3, .int 12)]) hx hb dX12_key_110 hl (k := 5) rfl (nI_1 i_662) (by decide) rfl (fun ls hl => ?_)
                    refine lv_goto (tgt := 67) hx hb dX12_key_113 (by decide) ?_
                    exact ih662 _ _ (by omega) ⟨(i_662 + 1), 0, rfl, (by first | assumption | omega | rfl | (congr 1; omega)), lv_sub hl [2, 3, 4, 5, 1, 0] rfl⟩
                  · have c743 := (b_eq (rfl : Int32.toInt r741 = _) (rfl : Int32.toInt (bA tx sz1 ((fN u 13) + i_662)) = _)).mp c743
                    refine lv_iconst (v := 1) hx hb dX12_key_103 (by decide) ?_
                    refine lv_goto (tgt := 108) hx hb dX12_key_104 (by decide) ?_
                    refine lv_istore (lv' := [(4, .int 1), (0, .ref (b 0)), (1, .int 1), (2, .int 8), (3, .int 12), (5, .int (nI i_662))]) hx hb dX12_key_108 hl (by decide) rfl (fun ls hl => ?_)
                    refine lv_iinc (v := nI (i_662 + 1)) (lv' := [(5, .int (nI (i_662 + 1))), (4, .int 1), (0, .ref (b 0)), (1, .int 1), (2, .int 8), (3, .int 12)]) hx hb dX12_key_110 hl (k := 5) rfl (nI_1 i_662) (by decide) rfl (fun ls hl => ?_)
                    refine lv_goto (tgt := 67) hx hb dX12_key_113 (by decide) ?_
                    exact ih662 _ _ (by omega) ⟨(i_662 + 1), 1, rfl, (by first | assumption | omega | rfl | (congr 1; omega)), lv_sub hl [2, 3, 4, 5, 1, 0] rfl⟩
          · have c566 := mt (b_eq (rfl : Int32.toInt x1_385 = _) (show Int32.toInt 0 = 0 from rfl)).mpr c566
            refine lv_iload_n hx hb dX12_key_121 rfl (lv_at hl 1 rfl) ?_
            exact W.iret (v := 0) hx hb hr (fun t ht hW => ⟨0, rfl, trivial, ht⟩) (fun _ h => absurd h List.not_mem_nil) dX12_key_122
        · have c565 := mt (b_eq (rfl : Int32.toInt x1_385 = _) (show Int32.toInt 0 = 0 from rfl)).mpr c565
          refine va_ldcS hx hb hown hZ dX12_key_80 ?_
          refine lv_iload_n hx hb dX12_key_82 rfl (lv_at hl 2 rfl) ?_
          refine lv_iload hx hb dX12_key_83 (lv_at hl 5 rfl) ?_
          refine lv_iadd hx hb dX12_key_85 ?_
          refine W.eq (g2 := F0 m 86 ls [.int (nI (1 + i_385)), .ref (adK 3)]) (congrArg (fun z : Int32 => F0 m 86 ls (.int z :: [.ref (adK 3)])) (nI_add 1 i_385)) ?_
          refine vp_callSi (va_Run.run (va_runV (As := [.int (nI (1 + i_385))]) (rest := []) ⟨hx, hb, hml, hown, noTs⟩ (s_J0_charAt l adK adV 3 (1 + i_385) (by decide) (by show _ < 18; omega)) ⟨cbE 1 (wd_498 hE) (wd_129 hE) (wd_1528 hE) rfl rfl (by decide +kernel) ⟨Nat.le_of_ble_eq_true rfl, Nat.le_of_ble_eq_true rfl⟩, (wd_496 hE), (wd_497 hE)⟩ ⟨PS.blind, vk_recv hX.1 (by decide) hS, ps_pre (av := [.ref (adK 3), .int (nI (1 + i_385))]) hX hS hE⟩ rfl rfl hl.1 rfl (lv_room (Nat.le_of_ble_eq_true rfl)) dX12_key_86 ⟨Nat.le_of_ble_eq_true rfl, Nat.le_of_ble_eq_true rfl⟩)) (fun r744 hr744 => ?_)
          refine lv_aload_n hx hb dX12_key_89 rfl (lv_at hl 0 rfl) ?_
          refine lv_aload_n hx hb dX12_key_90 rfl (lv_at hl 0 rfl) ?_
          refine r_get (v := .int (nI (fN u 13))) hx hb (ly_X12 hE) hown hK hP rfl 13 (by decide) (wd_1394 hE) (fun _ h9 => h9) (congrArg (fun z : Int32 => some (Value.int z)) hp0.1) dX12_key_91 ?_
          refine lv_iload hx hb dX12_key_94 (lv_at hl 5 rfl) ?_
          refine lv_iadd hx hb dX12_key_96 ?_
          refine W.eq (g2 := F0 m 97 ls [.int (nI ((fN u 13) + i_385)), .ref (b 0), .int r744]) (congrArg (fun z : Int32 => F0 m 97 ls (.int z :: [.ref (b 0), .int r744])) (nI_add (fN u 13) i_385)) ?_
          refine vp_callSi (va_Run.run (va_runV (As := [.int (nI ((fN u 13) + i_385))]) (rest := [.int r744]) ⟨hx, hb, hml, hown, noTs⟩ (r_X12_byteAt l dC dI s.heap.size cs b u tx hAc16 ((fN u 13) + i_385) sz1 hF11 (by first | assumption | omega | rfl | (congr 1; omega)) (by first | assumption | omega | rfl | (congr 1; omega))) ⟨cbE 1 (wd_1510 hE) (wd_126 hE) (wd_1507 hE) rfl rfl (by decide +kernel) ⟨Nat.le_of_ble_eq_true rfl, Nat.le_of_ble_eq_true rfl⟩, (wd_1509 hE), (wd_57 hE)⟩ ⟨PR.blind, r_recv hK hP rfl, (r_pre (av := [.ref (b 0), .int (nI ((fN u 13) + i_385))]) hK hP hJ hE)⟩ rfl rfl hl.1 rfl (lv_room (Nat.le_of_ble_eq_true rfl)) dX12_key_97 ⟨Nat.le_of_ble_eq_true rfl, Nat.le_of_ble_eq_true rfl⟩)) (fun r745 hr745 => ?_)
          subst hr745
          have htf745 := bA_f tx sz1 ((fN u 13) + i_385)
          refine lv_icmp_ne (tgt := 107) hx hb dX12_key_100 (by decide) (fun c746 => ?_) (fun c746 => ?_)
          · have c746 := mt (b_eq (rfl : Int32.toInt r744 = _) (rfl : Int32.toInt (bA tx sz1 ((fN u 13) + i_385)) = _)).mpr c746
            refine lv_iconst (v := 0) hx hb dX12_key_107 (by decide) ?_
            refine lv_istore (lv' := [(4, .int 0), (0, .ref (b 0)), (1, .int 0), (2, .int 1), (3, .int 7), (5, .int (nI i_385))]) hx hb dX12_key_108 hl (by decide) rfl (fun ls hl => ?_)
            refine lv_iinc (v := nI (i_385 + 1)) (lv' := [(5, .int (nI (i_385 + 1))), (4, .int 0), (0, .ref (b 0)), (1, .int 0), (2, .int 1), (3, .int 7)]) hx hb dX12_key_110 hl (k := 5) rfl (nI_1 i_385) (by decide) rfl (fun ls hl => ?_)
            refine lv_goto (tgt := 67) hx hb dX12_key_113 (by decide) ?_
            exact ih385 _ _ (by omega) ⟨(i_385 + 1), 0, rfl, (by first | assumption | omega | rfl | (congr 1; omega)), lv_sub hl [2, 3, 4, 5, 1, 0] rfl⟩
          · have c746 := (b_eq (rfl : Int32.toInt r744 = _) (rfl : Int32.toInt (bA tx sz1 ((fN u 13) + i_385)) = _)).mp c746
            refine lv_iconst (v := 1) hx hb dX12_key_103 (by decide) ?_
            refine lv_goto (tgt := 108) hx hb dX12_key_104 (by decide) ?_
            refine lv_istore (lv' := [(4, .int 1), (0, .ref (b 0)), (1, .int 0), (2, .int 1), (3, .int 7), (5, .int (nI i_385))]) hx hb dX12_key_108 hl (by decide) rfl (fun ls hl => ?_)
            refine lv_iinc (v := nI (i_385 + 1)) (lv' := [(5, .int (nI (i_385 + 1))), (4, .int 1), (0, .ref (b 0)), (1, .int 0), (2, .int 1), (3, .int 7)]) hx hb dX12_key_110 hl (k := 5) rfl (nI_1 i_385) (by decide) rfl (fun ls hl => ?_)
            refine lv_goto (tgt := 67) hx hb dX12_key_113 (by decide) ?_
            exact ih385 _ _ (by omega) ⟨(i_385 + 1), 1, rfl, (by first | assumption | omega | rfl | (congr 1; omega)), lv_sub hl [2, 3, 4, 5, 1, 0] rfl⟩
  · have c5 := mt (b_eq (rfl : Int32.toInt y4 = _) (show Int32.toInt 2 = 2 from rfl)).mpr c5
    refine lv_iconst (v := -1) hx hb dX12_key_8 (by decide) ?_
    exact W.iret (v := -1) hx hb hr (fun t ht hW => ⟨-1, rfl, trivial, ht⟩) (fun _ h => absurd h List.not_mem_nil) dX12_key_9
