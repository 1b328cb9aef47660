/-! THE CLAIM OUT OF ONE WALK OF THE LAW'S BODY. Your part is whole_start (and what it stands on); all else here is the same for every law, but numbers. -/
def R_law : String := "GluedWordsLaw"
def lw_P (b : Addr) (xs : List Int32) (args : Array Value) (s : State) : Prop := args = #[.ref b] ∧ s.IntsAt b xs ∧ xs.length ≤ 3072 ∧ (Jvm.Cond.and given_1 narrow_1).before args s = true
def lw_Q (_ : Array Value) (s : State) (o : Outcome) (t : State) : Prop := o = .returned (some (.int 1)) ∧ Framed s o t [] 600000 7302250
def lw_Z (below : List Frame) (a : Array Value) (s : State) : State → Prop := fun t => ∃ o, t.status = .running ∧ Ended t below o ∧ lw_Q a s o t
/-- the law's own end, with 1 on the stack, nothing written that was there before, its room as the claim has it -/
theorem lw_ret {p : Program} {l : Launch} {e : Env} {s : State} {m : MethodId} {below : List Frame} {meth : Method} {c : Code} {b : Nat} (hx : p.tables.exec = Jvm.exec) (hb : c.code = code) (hr : meth.sig.returnType = ret) (hlocks : meth.locks = false) {pc : Nat} {H : Heap} {ls : Array Slot} (hdg : decode code pc = .ok (.ireturn, 1)) : W p l e room_1 s m #[Value.ref b] below meth c H [] 600000 7302250 (lw_Z below #[Value.ref b] s) (F0 m pc ls [.int 1]) := by
  intro T hT X
  obtain ⟨fs, hret, hrun, hended, hW, hframe⟩ := X.leave (v := some (.int 1)) (hlocks := hlocks) (fun h => by rw [hr] at h; cases h)
  have hmeth' : T.vm.method? m = some meth := X.method'
  refine ⟨T.setFrames fs, ?_, .returned (some (.int 1)), hrun, hended, rfl, ⟨_, rfl⟩, hW, hframe⟩
  jvm_step X.here [X.here.top, hx, hb, hdg, hmeth', hr, ret, narrow_b1]
  (try refine ⟨rfl, ?_⟩); (try refine ⟨rfl, ?_⟩)
  first | (intro acts; rw [hret _ acts rfl rfl rfl]) | rw [hret _ _ rfl rfl rfl]
  exact Steps.refl _
/-- what holds at the law's entry: the machine, the code, the tables' words (any of lw_tbl by 'hts w (by decide +kernel)'), the script of L ints xs at the cell b, what the Statement gives of the start (any of its parts by flat_of_before) -/
def lw_At (p : Program) (s : State) (m : MethodId) (meth : Method) (c : Code) (b L : Nat) (xs : Nat → Int32) : Prop :=
  p.tables.exec = Jvm.exec ∧ c.code = code ∧ meth.sig.returnType = ret ∧ c.maxLocals = 4 ∧ s.vm.findClass R_law = some m.cls ∧ (∀ w ∈ lw_tbl, w.before #[Value.ref b] s = true) ∧ va_X b L xs s s.heap ∧ b < s.heap.size ∧ meth.locks = false ∧ (Jvm.Cond.and given_1 narrow_1).before #[Value.ref b] s = true
/-! the tables' words at the law's entry -/
theorem am_over {args : Array Value} {s : State} {t : FieldType} (h : (Cond.arrayOver (.array t)).before args s = true) :
    ∃ (comp c : ClassId) (k : Class), s.vm.findClass (FieldType.array t).toString = some comp ∧ s.vm.classes[c]? = some k ∧ k.kind = .array comp (.array t) ∧ s.vm.findClass ("[" ++ (FieldType.array t).toString) = some c := by
  unfold Cond.before at h
  simp only [Cond.holds, Cond.value, beq_iff_eq] at h
  cases hc : s.vm.findClass (FieldType.array t).toString with
  | none => simp [hc] at h
  | some comp =>
    simp only [hc, Option.bind_some, Option.bind_eq_some_iff, Option.map_eq_some_iff] at h
    obtain ⟨c, hi, k, hk, hb⟩ := h
    obtain ⟨hlt, hp, -⟩ := Array.findIdx?_eq_some_iff_getElem.mp hi
    have hkk : s.vm.classes[c] = k := (Array.getElem?_eq_some_iff.mp hk).2
    rw [hkk] at hp
    cases hkind : k.kind with
    | array component ty =>
      rw [hkind] at hb hp
      simp at hb hp
      exact ⟨comp, c, k, rfl, hk, by rw [hkind, hp, hb.1], hb.2⟩
    | _ => rw [hkind] at hb; simp at hb
theorem am_of {args : Array Value} {s : State} (h3 : (Cond.arrayOver (.array (.array .long))).before args s = true) (h2 : (Cond.arrayOver (.array .long)).before args s = true) (h1 : (Cond.arrayClass .long).before args s = true) (g2 : (Cond.arrayOver (.array .int)).before args s = true) (g1 : (Cond.arrayClass .int).before args s = true) : AM s := by
  obtain ⟨cB, cA, kA, fB, a1, a2, fA⟩ := am_over h3
  obtain ⟨cC, cB', kB, fC, b1, b2, fB'⟩ := am_over h2
  obtain ⟨cC', kC, cD, fC', c1, c2⟩ := Cond.arrayClass_spec h1
  obtain ⟨cF, cE, kE, fF, e1, e2, fE⟩ := am_over g2
  obtain ⟨cF', kF, cG, fF', f1, f2⟩ := Cond.arrayClass_spec g1
  cases Option.some.inj (fB.symm.trans fB')
  cases Option.some.inj (fC.symm.trans fC')
  cases Option.some.inj (fF.symm.trans fF')
  exact ⟨⟨cA, cB, cC, cD, kA, kB, kC, fA, a1, a2, b1, b2, c1, c2⟩, cE, cF, cG, kE, kF, fE, e1, e2, f1, f2⟩
theorem ex_of {args : Array Value} {s : State} (hts : ∀ w ∈ lw_tbl, w.before args s = true) : EX s :=
  ⟨fun w hw hg a => word_at (U := s) (State.WarmedH.refl s) (good_of_word hg) (hts w hw), fun o i y h hq => va_Nw.of rfl (hts _ hq), va_AO.of (hts (.arrayOver (.object "GluedWords$Store")) (List.mem_of_getElem? (i := 161) (by decide +kernel))), va_AO.of (hts (.arrayOver (.object "GluedWords$History")) (List.mem_of_getElem? (i := 173) (by decide +kernel))),
    am_of (hts (.arrayOver (.array (.array .long))) (List.mem_of_getElem? (i := 1378) (by decide +kernel))) (hts (.arrayOver (.array .long)) (List.mem_of_getElem? (i := 1379) (by decide +kernel))) (hts (.arrayClass .long) (List.mem_of_getElem? (i := 358) (by decide +kernel))) (hts (.arrayOver (.array .int)) (List.mem_of_getElem? (i := 1376) (by decide +kernel))) (hts (.arrayClass .int) (List.mem_of_getElem? (i := 153) (by decide +kernel)))⟩
/-! the law's world: both objects, each with its own cells; counters alike -/
def IV (u : RS) (t k : Nat) : Prop := AB (rA u 1) ∧ (∃ q, q ≤ 8 ∧ rF u 2 = nI q) ∧ rF u 3 = nI k ∧ rF u 10 = nI t ∧ (∃ q, q ≤ 9999 ∧ rF u 15 = nI q) ∧ ∃ q, q ≤ 400 ∧ rF u 30 = nI q
theorem iv_fr {u u' : RS} {t k : Nat} {js ks : List Nat} {lb : Bool} (h : IV u t k) (hf : FR js ks lb u u') (h1 : 1 ∉ js) (h2 : 2 ∉ ks) (h3 : 3 ∉ ks) (h10 : 10 ∉ ks) (h15 : 15 ∉ ks) (h30 : 30 ∉ ks) : IV u' t k := by
  unfold IV
  rw [hf.1 1 h1, hf.2.1 2 h2, hf.2.1 3 h3, hf.2.1 10 h10, hf.2.1 15 h15, hf.2.1 30 h30]
  exact h
theorem iv_act {u u' : RS} {t k : Nat} {js ks : List Nat} {lb : Bool} (h : IV u t k) (hf : FR js ks lb u u') (hA : AB (rA u' 1)) (h2 : ∃ q, q ≤ 8 ∧ rF u' 2 = nI q) (h3 : 3 ∉ ks) (h10 : 10 ∉ ks) (h15 : 15 ∉ ks) (h30 : 30 ∉ ks) : IV u' t k := by
  unfold IV
  rw [hf.2.1 3 h3, hf.2.1 10 h10, hf.2.1 15 h15, hf.2.1 30 h30]
  exact ⟨hA, h2, h.2.2⟩
def AL (s : State) : Nat → Prop := fun q => s.heap.size ≤ q
def LWD (s : State) (dC : Nat → ClassId) (dI : Nat → Nat → Nat) (G : GT) (cs cr : Nat → ClassId) (br adK adV : Nat → Nat) : Prop :=
  va_K (dC, dI) vwCl (TYS cs) s ∧ va_K (dC, dI) vwCl (RTY cr) s ∧ (gL G).Nodup ∧ WT G ∧ RJ br ∧ EX s ∧ (∀ a, a ∈ gL G → s.heap.size ≤ a) ∧ (∀ i, i < 108 → s.heap.size ≤ br i) ∧ (∀ i, i < 108 → br i ∉ gL G) ∧ SX adK adV (AL s) s s.heap ∧ vk_R "GluedWords$Tokens" 68 "vertex" (adK 0) s ∧ vk_R "GluedWords$Tokens" 74 "edge" (adK 1) s ∧ vk_R "GluedWords$Tokens" 76 "word" (adK 2) s ∧ vk_R "GluedWordsModel" 172 " vertex edge word " (adK 3) s
def KP (dC : Nat → ClassId) (dI : Nat → Nat → Nat) (cr : Nat → ClassId) (br : Nat → Nat) (u : RS) (cs : Nat → ClassId) (bq : Nat → Nat) (v : RS) (H : Heap) : Prop := va_P (dC, dI) vwCl (rW cr br u) H ∧ va_P (dC, dI) vwCl (qV cs bq v) H
/-- the reader's places beside the others' -/
def QXD (s : State) (G : GT) (br bq : Nat → Nat) : Prop := QJ bq ∧ (∀ i, i < 12 → s.heap.size ≤ bq i) ∧ (∀ i, i < 11 → bq i ∉ gL G) ∧ (∀ i, i < 108 → ∀ j, j < 12 → br i ≠ bq j) ∧ Ty G (bq 11) 11 ∧ (∀ w : RS, RVL G (bq 11) (rF w 34) (rF w 35) (rF w 37) = qG bq w) ∧ Ty G (bq 20) 7 ∧ Ty G (bq 21) 3
/-- the tapes alike, and the faults -/
def TPQ (u v : RS) (t : Nat) : Prop := BY (rA v 5) ∧ BY (rA u 15) ∧ ∀ q, q < t → rA v 5 q = rA u 15 q
def FTQ (u v : RS) : Prop := (rF v 3 = 0 ∧ rF u 17 = -1 ∧ rF u 18 = -1 ∧ rF u 19 = -1) ∨ (rF v 3 = 1 ∧ rF v 7 = rF u 19 ∧ rF v 8 = rF u 17 ∧ rF v 9 = rF u 18)
def IV5 (u v : RS) (t k : Nat) : Prop := IV u t k ∧ TPQ u v t ∧ FTQ u v
theorem tf_fr {u v u' : RS} {t : Nat} {js ks : List Nat} {lb : Bool} (h : TPQ u v t ∧ FTQ u v) (hf : FR js ks lb u u') (h15 : 15 ∉ js) (h17 : 17 ∉ ks) (h18 : 18 ∉ ks) (h19 : 19 ∉ ks) : TPQ u' v t ∧ FTQ u' v := by
  unfold TPQ FTQ
  rw [hf.1 15 h15, hf.2.1 17 h17, hf.2.1 18 h18, hf.2.1 19 h19]
  exact h
theorem tf_cl {u v w : RS} {t : Nat} (h : TPQ u v t ∧ FTQ u v) (h5 : rA w 5 = rA v 5) (h3 : rF w 3 = rF v 3) (h7 : rF w 7 = rF v 7) (h8 : rF w 8 = rF v 8) (h9 : rF w 9 = rF v 9) : TPQ u w t ∧ FTQ u w := by
  unfold TPQ FTQ
  rw [h5, h3, h7, h8, h9]
  exact h
theorem f_m1 (x : Int) : (if x = 0 then (-1 : Int32) else if x = 1 then -1 else if x = 2 then -1 else -1) = -1 := by
  split
  · rfl
  · split
    · rfl
    · split <;> rfl
theorem bA_eq {f g : Nat → Int32} {t n : Nat} (hn : n ≤ t) (h : ∀ q, q < t → f q = g q) : bA f n = bA g n := funext fun k => by
  unfold bA
  by_cases q : k < n
  · rw [if_pos q, if_pos q, h k (by omega)]
  · rw [if_neg q, if_neg q]
theorem ft_load {u w : RS} {z z2 : Nat × Nat × Nat × PGr} {r r2 : Int32} (e : z = z2) (h3 : rF w 3 = 1) (hc : (z.1 ≠ 0 ∧ r = -1 ∧ FQ w z.1 z.2.1 z.2.2.1) ∨ (z.1 = 0 ∧ r = nI (pW z.2.2.2) ∧ rF w 7 = 0 ∧ rF w 8 = -1 ∧ rF w 9 = -1)) (h19 : rF u 19 = nI z2.1) (hr : (z2.1 = 0 ∧ rF u 17 = -1 ∧ rF u 18 = -1) ∨ (z2.1 ≠ 0 ∧ rF u 17 = nI z2.2.1 ∧ rF u 18 = nI z2.2.2.1)) (hr2 : (z2.1 ≠ 0 ∧ r2 = -1) ∨ (z2.1 = 0 ∧ r2 = nI (pW z2.2.2.2))) : FTQ u w ∧ r2 = r := by
  subst e
  rcases hc with ⟨h0, hrr, q7, q8, q9⟩ | ⟨h0, hrr, q7, q8, q9⟩
  · have hr := hr.resolve_left (fun h => h0 h.1)
    have hr2 := hr2.resolve_right (fun h => h0 h.1)
    exact ⟨Or.inr ⟨h3, q7.trans h19.symm, q8.trans hr.2.1.symm, q9.trans hr.2.2.symm⟩, hr2.2.trans hrr.symm⟩
  · have hr := hr.resolve_right (fun h => h.1 h0)
    have hr2 := hr2.resolve_left (fun h => h.1 h0)
    rw [h0] at h19
    exact ⟨Or.inr ⟨h3, q7.trans h19.symm, q8.trans hr.2.1.symm, q9.trans hr.2.2.symm⟩, hr2.2.trans hrr.symm⟩
theorem pl_keep {D : va_G} {cl : List vw_C} {ws : va_W} {H H1 : Heap} (h : va_P D cl ws H) (hk : ∀ (k : Nat) (q : Nat × va_E), ws[k]? = some q → q.1 < H.size → H1[q.1]? = H[q.1]?) : va_P D cl ws H1 := fun k q hq => (h k q hq).kept (hk k q hq (h k q hq).lt)
section LAWC
variable {p : Program} {l : Launch} {e : Env} {R : Room} {s : State} {m : MethodId} {args : Array Value} {below : List Frame} {meth : Method} {c : Code} {H : Heap} {locs : List Loc} {cells slots : Nat} {Q : State → Prop}
variable {pc : Nat} {ls : Array Slot} {rest st0 : List Value} {ar : Array Value}
variable {dC : Nat → ClassId} {dI : Nat → Nat → Nat} {G : GT} {cs cr : Nat → ClassId} {br adK adV bq : Nat → Nat} {u v : RS} {f : Nat → va_E} {t2 m2 : Nat}
theorem lx_F (hW : LWD s dC dI G cs cr br adK adV) (hS : va_S (AL s) s.heap H locs) : ∀ q, AT G H.size q → AL s q := fun q h => h.elim (hW.2.2.2.2.2.2.1 q) (fun h => Nat.le_trans hS.1 h)
theorem ly_F (hW : LWD s dC dI G cs cr br adK adV) (hS : va_S (AL s) s.heap H locs) : ∀ q, AR br H.size q → AL s q := fun q h => h.elim (fun ⟨i, hi, hq⟩ => by rw [hq]; exact hW.2.2.2.2.2.2.2.1 i hi) (fun h => Nat.le_trans hS.1 h)
theorem lx_k (hW : LWD s dC dI G cs cr br adK adV) (hQX : QXD s G br bq) {H1 : Heap} (hP2 : KP dC dI cr br u cs bq v H) (hk : ∀ q : Nat, q < H.size → ¬ AT G H.size q → H1[q]? = H[q]?) : KP dC dI cr br u cs bq v H1 := by
  refine ⟨pl_keep hP2.1 (fun k q hq hlt => hk _ hlt (fun h => ?_)), pl_keep hP2.2 (fun k q hq hlt => hk _ hlt (fun h => ?_))⟩
  rotate_left
  · obtain ⟨h1, rfl⟩ := z_qv hq
    rcases h with h | h
    · exact hQX.2.2.1 k h1 h
    · exact absurd hlt (Nat.not_lt.mpr h)
  have h1 : k < 108 := by have := (List.getElem?_eq_some_iff.mp hq).1; rw [rW_len] at this; exact this
  rw [rW_at h1] at hq
  cases hq
  rcases h with h | h
  · exact hW.2.2.2.2.2.2.2.2.1 k h1 h
  · exact absurd hlt (Nat.not_lt.mpr h)
theorem ly_k (hW : LWD s dC dI G cs cr br adK adV) {H1 : Heap} (hP1 : va_P (dC, dI) vwCl (va_pl (gL G) f) H) (hk : ∀ q : Nat, q < H.size → ¬ AR br H.size q → H1[q]? = H[q]?) : va_P (dC, dI) vwCl (va_pl (gL G) f) H1 := by
  refine pl_keep hP1 (fun k q hq hlt => hk _ hlt (fun h => ?_))
  have hm : q.1 ∈ gL G := by
    simp only [va_pl, List.getElem?_map, Option.map_eq_some_iff] at hq
    obtain ⟨z, hz, rfl⟩ := hq
    exact List.mem_of_getElem? hz
  rcases h with ⟨i, hi, h⟩ | h
  · rw [h] at hm
    exact hW.2.2.2.2.2.2.2.2.1 i hi hm
  · exact absurd hlt (Nat.not_lt.mpr h)
theorem lx_i {post : Int32 → (Nat → va_E) → Prop} (hW : LWD s dC dI G cs cr br adK adV) (hQX : QXD s G br bq) (hP2 : KP dC dI cr br u cs bq v H) (hS : va_S (AL s) s.heap H locs) (hr : va_Run p l e R s m args below meth c H locs cells slots 0 0 (F0 m pc ls st0) rest (va_Qi post (BT dC dI G cs t2 m2) (AT G H.size) ar) (AT G H.size))
    (kk : ∀ (r : Int32) (f' : Nat → va_E) (H1 : Heap) (locs1 : List Loc), post r f' → OKT G cs t2 m2 f' → va_P (dC, dI) vwCl (va_pl (gL G) f') H1 → KP dC dI cr br u cs bq v H1 → va_S (AL s) s.heap H1 locs1 → W p l e R s m args below meth c H1 locs1 cells slots Q (F0 m (pc + 3) ls (.int r :: rest))) : W p l e R s m args below meth c H locs cells slots Q (F0 m pc ls st0) := by
  have hF := lx_F hW hS
  refine va_calli hr hS (fun q _ h => hF q h) hF (fun r u t H1 locs1 ht hvm hw hB hz1 hk1 hS1 => ?_)
  obtain ⟨h1, h2⟩ := hB
  rw [ht] at h2
  exact kk r u H1 locs1 hw h1 h2 (lx_k hW hQX hP2 hk1) hS1
theorem lx_l {post : Int64 → (Nat → va_E) → Prop} (hW : LWD s dC dI G cs cr br adK adV) (hQX : QXD s G br bq) (hP2 : KP dC dI cr br u cs bq v H) (hS : va_S (AL s) s.heap H locs) (hr : va_Run p l e R s m args below meth c H locs cells slots 0 0 (F0 m pc ls st0) rest (va_Ql post (BT dC dI G cs t2 m2) (AT G H.size) ar) (AT G H.size))
    (kk : ∀ (r : Int64) (f' : Nat → va_E) (H1 : Heap) (locs1 : List Loc), post r f' → OKT G cs t2 m2 f' → va_P (dC, dI) vwCl (va_pl (gL G) f') H1 → KP dC dI cr br u cs bq v H1 → va_S (AL s) s.heap H1 locs1 → W p l e R s m args below meth c H1 locs1 cells slots Q (F0 m (pc + 3) ls (.long r :: rest))) : W p l e R s m args below meth c H locs cells slots Q (F0 m pc ls st0) := by
  have hF := lx_F hW hS
  refine va_calll hr hS (fun q _ h => hF q h) hF (fun r u t H1 locs1 ht hvm hw hB hz1 hk1 hS1 => ?_)
  obtain ⟨h1, h2⟩ := hB
  rw [ht] at h2
  exact kk r u H1 locs1 hw h1 h2 (lx_k hW hQX hP2 hk1) hS1
theorem ly_q (hQX : QXD s G br bq) {H1 : Heap} (hQ : va_P (dC, dI) vwCl (qV cs bq v) H) (hk : ∀ q : Nat, q < H.size → ¬ AR br H.size q → H1[q]? = H[q]?) : va_P (dC, dI) vwCl (qV cs bq v) H1 := by
  refine pl_keep hQ (fun k q hq hlt => hk _ hlt (fun h => ?_))
  obtain ⟨h1, rfl⟩ := z_qv hq
  rcases h with ⟨i, hi, h⟩ | h
  · exact hQX.2.2.2.1 i hi k (by omega) h.symm
  · exact absurd hlt (Nat.not_lt.mpr h)
theorem ly_i {post : Int32 → RS → Prop} (hW : LWD s dC dI G cs cr br adK adV) (hQX : QXD s G br bq) (hP1 : va_P (dC, dI) vwCl (va_pl (gL G) f) H) (hQ : va_P (dC, dI) vwCl (qV cs bq v) H) (hS : va_S (AL s) s.heap H locs) (hr : va_Run p l e R s m args below meth c H locs cells slots 0 0 (F0 m pc ls st0) rest (va_Qi post (BR dC dI cr br) (AR br H.size) ar) (AR br H.size))
    (kk : ∀ (r : Int32) (u' : RS) (H1 : Heap) (locs1 : List Loc), post r u' → KP dC dI cr br u' cs bq v H1 → va_P (dC, dI) vwCl (va_pl (gL G) f) H1 → va_S (AL s) s.heap H1 locs1 → W p l e R s m args below meth c H1 locs1 cells slots Q (F0 m (pc + 3) ls (.int r :: rest))) : W p l e R s m args below meth c H locs cells slots Q (F0 m pc ls st0) := by
  have hF := ly_F hW hS
  refine va_calli hr hS (fun q _ h => hF q h) hF (fun r u t H1 locs1 ht hvm hw hB hz1 hk1 hS1 => ?_)
  have h2 : va_P (dC, dI) vwCl (rW cr br u) t.heap := hB
  rw [ht] at h2
  exact kk r u H1 locs1 hw ⟨h2, ly_q hQX hQ hk1⟩ (ly_k hW hP1 hk1) hS1
theorem ly_l {post : Int64 → RS → Prop} (hW : LWD s dC dI G cs cr br adK adV) (hQX : QXD s G br bq) (hP1 : va_P (dC, dI) vwCl (va_pl (gL G) f) H) (hQ : va_P (dC, dI) vwCl (qV cs bq v) H) (hS : va_S (AL s) s.heap H locs) (hr : va_Run p l e R s m args below meth c H locs cells slots 0 0 (F0 m pc ls st0) rest (va_Ql post (BR dC dI cr br) (AR br H.size) ar) (AR br H.size))
    (kk : ∀ (r : Int64) (u' : RS) (H1 : Heap) (locs1 : List Loc), post r u' → KP dC dI cr br u' cs bq v H1 → va_P (dC, dI) vwCl (va_pl (gL G) f) H1 → va_S (AL s) s.heap H1 locs1 → W p l e R s m args below meth c H1 locs1 cells slots Q (F0 m (pc + 3) ls (.long r :: rest))) : W p l e R s m args below meth c H locs cells slots Q (F0 m pc ls st0) := by
  have hF := ly_F hW hS
  refine va_calll hr hS (fun q _ h => hF q h) hF (fun r u t H1 locs1 ht hvm hw hB hz1 hk1 hS1 => ?_)
  have h2 : va_P (dC, dI) vwCl (rW cr br u) t.heap := hB
  rw [ht] at h2
  exact kk r u H1 locs1 hw ⟨h2, ly_q hQX hQ hk1⟩ (ly_k hW hP1 hk1) hS1
theorem ly_preX {av : List Value} (hW : LWD s dC dI G cs cr br adK adV) (hP : va_P (dC, dI) vwCl (rW cr br u) H) (hS : va_S (AL s) s.heap H locs) : ∀ U : State, U.heap = H → s.WarmedH U.vm → PRX av H.size dC dI cr br u adK adV av.toArray U := fun U hU hw =>
  ⟨rfl, by rw [hU], by rw [hU]; exact hP, va_K.moved hw.alike hW.2.1, hW.2.2.2.2.1, hW.2.2.2.2.2.1.warm hw, by rw [hU]; exact ((hW.2.2.2.2.2.2.2.2.2.1.kept hS.2.1).narrow (ly_F hW hS)).moved hw.alike, hW.2.2.2.2.2.2.2.2.2.2.2.2.2.warm hw⟩
theorem lz_F (hQX : QXD s G br bq) (hS : va_S (AL s) s.heap H locs) : ∀ q, AQ bq H.size q → AL s q := fun q h => h.elim (fun ⟨i, hi, hq⟩ => by rw [hq]; exact hQX.2.1 i hi) (fun h => Nat.le_trans hS.1 h)
theorem lz_r (hQX : QXD s G br bq) {H1 : Heap} (hP2 : va_P (dC, dI) vwCl (rW cr br u) H) (hk : ∀ i, i < 108 → br i < H.size → H1[br i]? = H[br i]?) : va_P (dC, dI) vwCl (rW cr br u) H1 := by
  refine pl_keep hP2 (fun k q hq hlt => ?_)
  have h1 : k < 108 := by have := (List.getElem?_eq_some_iff.mp hq).1; rw [rW_len] at this; exact this
  rw [rW_at h1] at hq
  cases hq
  exact hk k h1 hlt
theorem lz_i {post : Int32 → RS → Prop} (hW : LWD s dC dI G cs cr br adK adV) (hQX : QXD s G br bq) (hP2 : va_P (dC, dI) vwCl (rW cr br u) H) (hS : va_S (AL s) s.heap H locs) (hr : va_Run p l e R s m args below meth c H locs cells slots 0 0 (F0 m pc ls st0) rest (va_Qi post (BQ dC dI cs bq) (AQ bq H.size) ar) (AQ bq H.size))
    (kk : ∀ (r : Int32) (w : RS) (H1 : Heap) (locs1 : List Loc), post r w → va_P (dC, dI) vwCl (qW cs bq w) H1 → (∀ a, a ∈ gL G → a ≠ bq 11 → a < H.size → H1[a]? = H[a]?) → va_P (dC, dI) vwCl (rW cr br u) H1 → va_S (AL s) s.heap H1 locs1 → W p l e R s m args below meth c H1 locs1 cells slots Q (F0 m (pc + 3) ls (.int r :: rest))) : W p l e R s m args below meth c H locs cells slots Q (F0 m pc ls st0) := by
  have hF := lz_F hQX hS
  refine va_calli hr hS (fun q _ h => hF q h) hF (fun r w t H1 locs1 ht hvm hw hB hz1 hk1 hS1 => ?_)
  have h2 : va_P (dC, dI) vwCl (qW cs bq w) t.heap := hB
  rw [ht] at h2
  refine kk r w H1 locs1 hw h2 (fun a ha hne hlt => hk1 a hlt (fun h => ?_)) (lz_r hQX hP2 (fun i hi hlt => hk1 _ hlt (fun h => ?_))) hS1
  · rcases h with ⟨i, hi, h⟩ | h
    · by_cases e : i = 11
      · rw [e] at h; exact hne h
      · rw [h] at ha; exact hQX.2.2.1 i (by omega) ha
    · exact absurd hlt (Nat.not_lt.mpr h)
  · rcases h with ⟨j, hj, h⟩ | h
    · exact hQX.2.2.2.1 i hi j hj h
    · exact absurd hlt (Nat.not_lt.mpr h)
theorem lzz_F (hW : LWD s dC dI G cs cr br adK adV) (hQX : QXD s G br bq) (hS : va_S (AL s) s.heap H locs) : ∀ q, AZ (gM G (bq 11)) bq H.size q → AL s q := fun q h => by
  rcases h with h | ⟨i, hi, h⟩ | h
  · exact hW.2.2.2.2.2.2.1 q (gM_mem.mp h).1
  · rw [h]; exact hQX.2.1 i hi
  · exact Nat.le_trans hS.1 h
theorem lzz_i {post : Int32 → RS → Prop} {t0 m0 : Nat} (hW : LWD s dC dI G cs cr br adK adV) (hQX : QXD s G br bq) (hP2 : va_P (dC, dI) vwCl (rW cr br u) H) (hS : va_S (AL s) s.heap H locs) (hr : va_Run p l e R s m args below meth c H locs cells slots 0 0 (F0 m pc ls st0) rest (va_Qi post (BZ dC dI cs bq (gM G (bq 11)) cs t0 m0) (AZ (gM G (bq 11)) bq H.size) ar) (AZ (gM G (bq 11)) bq H.size))
    (kk : ∀ (r : Int32) (w : RS) (H1 : Heap) (locs1 : List Loc), post r w → va_P (dC, dI) vwCl (qW cs bq w) H1 → (∃ f, OKT (gM G (bq 11)) cs t0 m0 f ∧ va_P (dC, dI) vwCl (va_pl (gL (gM G (bq 11))) f) H1) → va_P (dC, dI) vwCl (rW cr br u) H1 → va_S (AL s) s.heap H1 locs1 → W p l e R s m args below meth c H1 locs1 cells slots Q (F0 m (pc + 3) ls (.int r :: rest))) : W p l e R s m args below meth c H locs cells slots Q (F0 m pc ls st0) := by
  have hF := lzz_F hW hQX hS
  refine va_calli hr hS (fun q _ h => hF q h) hF (fun r w t H1 locs1 ht hvm hw hB hz1 hk1 hS1 => ?_)
  obtain ⟨h2, f, h3, h4⟩ := hB
  rw [ht] at h2 h4
  refine kk r w H1 locs1 hw h2 ⟨f, h3, h4⟩ (lz_r hQX hP2 (fun i hi hlt => hk1 _ hlt (fun h => ?_))) hS1
  rcases h with h | ⟨j, hj, h⟩ | h
  · exact hW.2.2.2.2.2.2.2.2.1 i hi (gM_mem.mp h).1
  · exact hQX.2.2.2.1 i hi j hj h
  · exact absurd hlt (Nat.not_lt.mpr h)
theorem lzz_pre {av : List Value} {tt mm : Nat} {w : RS} (hW : LWD s dC dI G cs cr br adK adV) (hQX : QXD s G br bq) (hw : va_P (dC, dI) vwCl (qW cs bq w) H) (hP : va_P (dC, dI) vwCl (va_pl (gL G) f) H) (hok : OKT G cs tt mm f) (hS : va_S (AL s) s.heap H locs) : ∀ U : State, U.heap = H → s.WarmedH U.vm → PZ av H.size dC dI cs bq w adK adV (gM G (bq 11)) cs tt mm av.toArray U := fun U hU hw9 =>
  ⟨rfl, by rw [hU], by rw [hU]; exact hw, va_K.moved hw9.alike (hW.1.sub [0, 1] rfl), hQX.1, hW.2.2.2.2.2.1.warm hw9, by rw [hU]; exact ((hW.2.2.2.2.2.2.2.2.2.1.kept hS.2.1).narrow (lzz_F hW hQX hS)).moved hw9.alike, hW.2.2.2.2.2.2.2.2.2.2.1.warm hw9, hW.2.2.2.2.2.2.2.2.2.2.2.1.warm hw9, hW.2.2.2.2.2.2.2.2.2.2.2.2.1.warm hw9,
    ⟨f, gM_ok hQX.2.2.2.2.1.2 hok, by rw [hU]; exact gM_P hP⟩, va_K.moved hw9.alike hW.1, gM_nd hW.2.2.1, gM_WT hW.2.2.2.1 hQX.2.2.2.2.1, fun i hi h => by
      by_cases e : i = 11
      · rw [e] at h; exact (gM_mem.mp h).2 rfl
      · exact hQX.2.2.1 i (by omega) (gM_mem.mp h).1⟩
end LAWC
