/-! the class's reader, exact: Reader, Tokens, their rows, the tape, the draft, the walk, each by its place; fields by their object's base (0, 10, 20) and number -/
abbrev QTY (cs : Nat → ClassId) : List (ClassId × FieldType) := [(cs 0, .int), (cs 1, .byte)]
def qR (b : Nat → Nat) (u : RS) : List Value := [.ref (b 1), .ref (b 6), .ref (b 8), .int (rF u 3), .int (rF u 4), .int (rF u 5), .int (rF u 6), .int (rF u 7), .int (rF u 8), .int (rF u 9)]
def qT (b : Nat → Nat) (u : RS) : List Value := [.ref (b 2), .ref (b 3), .ref (b 4), .int (rF u 13), .ref (if rF u 14 = 1 then b 5 else b 12), .int (rF u 15)]
def qK (b : Nat → Nat) (u : RS) : List Value := [.ref (b 9), .ref (b 10), .int (rF u 22), .int (rF u 23)]
def qG (b : Nat → Nat) (u : RS) : List Value := [.ref (b 20), .ref (b 21), .ref (b 22), .ref (b 23), .int (rF u 34), .int (rF u 35), .ref (b 5), .int (rF u 37), .ref (b 0), .ref (b 29), .ref (b 30), .ref (b 31), .ref (b 32), .ref (b 33), .ref (b 34), .ref (b 35), .ref (b 36), .ref (b 37), .ref (b 38)]
def qE (cs : Nat → ClassId) (b : Nat → Nat) (u : RS) (i : Nat) : va_E :=
  if i = 0 then .inr (4, qR b u)
  else if i = 1 then .inr (8, qT b u)
  else if i < 5 then .inl (cs 0, 701, .inl (rA u i))
  else if i = 5 then .inl (cs 1, 700, .inl (rA u i))
  else if i = 6 then .inr (6, [.ref (b 7)])
  else if i = 7 then .inl (cs 0, 543, .inl (rA u i))
  else if i = 8 then .inr (9, qK b u)
  else if i = 9 then .inl (cs 0, 73, .inl (rA u i))
  else if i = 10 then .inl (cs 0, 72, .inl (rA u i))
  else if i = 11 then .inr (10, qG b u)
  else .inr (0, [])
theorem qE_congr {cs : Nat → ClassId} {b : Nat → Nat} {u u' : RS} {q : Nat} (hF : ∀ k, rF u' k = rF u k) (hA : rA u' q = rA u q) : qE cs b u' q = qE cs b u q := by
  unfold qE qR qT qK qG
  simp only [hF, hA]
/-- a field of one object leaves the others as they are -/
theorem qE_put0 {cs : Nat → ClassId} {b : Nat → Nat} {u : RS} {K : Nat} {v : Int32} (hK : K ≤ 9) (q : Nat) (h : q ≠ 0) : qE cs b (sF u K v) q = qE cs b u q := by
  unfold qE qT qK qG
  rw [if_neg h, if_neg h, rF_ne (show 13 ≠ K by omega), rF_ne (show 14 ≠ K by omega), rF_ne (show 15 ≠ K by omega), rF_ne (show 22 ≠ K by omega), rF_ne (show 23 ≠ K by omega), rF_ne (show 34 ≠ K by omega), rF_ne (show 35 ≠ K by omega), rF_ne (show 37 ≠ K by omega)]
  rfl
theorem qE_put1 {cs : Nat → ClassId} {b : Nat → Nat} {u : RS} {K : Nat} {v : Int32} (h1 : 10 ≤ K) (h2 : K ≤ 19) (q : Nat) (h : q ≠ 1) : qE cs b (sF u K v) q = qE cs b u q := by
  unfold qE qR qK qG
  rw [if_neg h, if_neg h, rF_ne (show 3 ≠ K by omega), rF_ne (show 4 ≠ K by omega), rF_ne (show 5 ≠ K by omega), rF_ne (show 6 ≠ K by omega), rF_ne (show 7 ≠ K by omega), rF_ne (show 8 ≠ K by omega), rF_ne (show 9 ≠ K by omega), rF_ne (show 22 ≠ K by omega), rF_ne (show 23 ≠ K by omega), rF_ne (show 34 ≠ K by omega), rF_ne (show 35 ≠ K by omega), rF_ne (show 37 ≠ K by omega)]
  rfl
theorem qE_put8 {cs : Nat → ClassId} {b : Nat → Nat} {u : RS} {K : Nat} {v : Int32} (h1 : 20 ≤ K) (h2 : K ≤ 29) (q : Nat) (h : q ≠ 8) : qE cs b (sF u K v) q = qE cs b u q := by
  unfold qE qR qT qG
  rw [rF_ne (show 3 ≠ K by omega), rF_ne (show 4 ≠ K by omega), rF_ne (show 5 ≠ K by omega), rF_ne (show 6 ≠ K by omega), rF_ne (show 7 ≠ K by omega), rF_ne (show 8 ≠ K by omega), rF_ne (show 9 ≠ K by omega), rF_ne (show 13 ≠ K by omega), rF_ne (show 14 ≠ K by omega), rF_ne (show 15 ≠ K by omega), rF_ne (show 34 ≠ K by omega), rF_ne (show 35 ≠ K by omega), rF_ne (show 37 ≠ K by omega), if_neg h, if_neg h]
  rfl
theorem qE_put11 {cs : Nat → ClassId} {b : Nat → Nat} {u : RS} {K : Nat} {v : Int32} (h1 : 30 ≤ K) (q : Nat) (h : q ≠ 11) : qE cs b (sF u K v) q = qE cs b u q := by
  unfold qE qR qT qK
  rw [rF_ne (show 3 ≠ K by omega), rF_ne (show 4 ≠ K by omega), rF_ne (show 5 ≠ K by omega), rF_ne (show 6 ≠ K by omega), rF_ne (show 7 ≠ K by omega), rF_ne (show 8 ≠ K by omega), rF_ne (show 9 ≠ K by omega), rF_ne (show 13 ≠ K by omega), rF_ne (show 14 ≠ K by omega), rF_ne (show 15 ≠ K by omega), rF_ne (show 22 ≠ K by omega), rF_ne (show 23 ≠ K by omega), if_neg h, if_neg h]
  rfl
def qW (cs : Nat → ClassId) (b : Nat → Nat) (u : RS) : va_W := (List.range 12).map (fun i => (b i, qE cs b u i))
theorem qW_at {cs : Nat → ClassId} {b : Nat → Nat} {u : RS} {i : Nat} (hi : i < 12) : (qW cs b u)[i]? = some (b i, qE cs b u i) := by
  unfold qW
  rw [List.getElem?_map, List.getElem?_range hi]
  rfl
theorem qW_len {cs : Nat → ClassId} {b : Nat → Nat} {u : RS} : (qW cs b u).length = 12 := by
  unfold qW
  rw [List.length_map, List.length_range]
theorem qW_set {cs : Nat → ClassId} {b : Nat → Nat} {u u' : RS} {i : Nat} (hi : i < 12) {x : va_E} (hx : qE cs b u' i = x) (ho : ∀ q, q < 12 → q ≠ i → qE cs b u' q = qE cs b u q) : (qW cs b u).set i (b i, x) = qW cs b u' := by
  apply List.ext_getElem?
  intro k
  rw [List.getElem?_set]
  by_cases hk : k < 12
  · rw [qW_at hk, qW_at hk, qW_len]
    by_cases h : i = k
    · subst h
      rw [if_pos rfl, if_pos hi, hx]
    · rw [if_neg h, ho k hk (fun e => h e.symm)]
  · rw [if_neg (by omega), List.getElem?_eq_none (by rw [qW_len]; omega), List.getElem?_eq_none (by rw [qW_len]; omega)]
def QJ (b : Nat → Nat) : Prop := ∀ i j, i < 12 → j < 12 → b i = b j → i = j
def AQ (b : Nat → Nat) (sz : Nat) : Nat → Prop := fun q => (∃ i, i < 12 ∧ q = b i) ∨ sz ≤ q
def PQ (av : List Value) (sz : Nat) (dC : Nat → ClassId) (dI : Nat → Nat → Nat) (cs : Nat → ClassId) (b : Nat → Nat) (u : RS) : Array Value → State → Prop :=
  va_Pc av (fun U => U.heap.size = sz ∧ va_P (dC, dI) vwCl (qW cs b u) U.heap ∧ va_K (dC, dI) vwCl (QTY cs) U ∧ QJ b ∧ EX U)
theorem PQ.blind {av : List Value} {sz : Nat} {dC : Nat → ClassId} {dI : Nat → Nat → Nat} {cs : Nat → ClassId} {b : Nat → Nat} {u : RS} : FrameBlind (PQ av sz dC dI cs b u) := fun a U g mk q => by
  obtain ⟨q0, q1, qP, qK, qD, qE⟩ := q
  exact ⟨q0, q1, qP, va_K.moved (u := U) (U := U.calling g mk a) (Vm.Alike.refl U.vm) qK, qD, qE.blind⟩
def BQ (dC : Nat → ClassId) (dI : Nat → Nat → Nat) (cs : Nat → ClassId) (b : Nat → Nat) : RS → State → Prop := fun u t => va_P (dC, dI) vwCl (qW cs b u) t.heap
section QTH
variable {p : Program} {l : Launch} {e : Env} {R : Room} {s : State} {m : MethodId} {args : Array Value} {below : List Frame} {meth : Method} {c : Code} {H : Heap} {locs : List Loc} {cells slots : Nat} {Q : State → Prop}
variable {cc : ByteArray} {pc : Nat} {ls : Array Slot} {rest st0 : List Value} {A : Nat → Prop} {a : Nat} {H0 : Heap} {ar : Array Value}
variable {dC : Nat → ClassId} {dI : Nat → Nat → Nat} {cs : Nat → ClassId} {b : Nat → Nat} {u : RS} {tys : List (ClassId × FieldType)}
theorem q_D (hJ : QJ b) (hAL : ∀ i, i < 12 → A (b i)) : va_D A (qW cs b u) := by
  refine ⟨fun i j x y hi hj hxy => ?_, fun k x hk => ?_⟩
  · have h1 : i < 12 := by have := (List.getElem?_eq_some_iff.mp hi).1; rw [qW_len] at this; exact this
    have h2 : j < 12 := by have := (List.getElem?_eq_some_iff.mp hj).1; rw [qW_len] at this; exact this
    rw [qW_at h1] at hi
    rw [qW_at h2] at hj
    cases hi
    cases hj
    exact hJ i j h1 h2 hxy
  · have h1 : k < 12 := by have := (List.getElem?_eq_some_iff.mp hk).1; rw [qW_len] at this; exact this
    rw [qW_at h1] at hk
    cases hk
    exact hAL k h1
/-- a field of the object at j -/
theorem q_get (hexec : p.tables.exec = Jvm.exec) (hb : c.code = cc) {own ref C : String} {T : u_T} {N index ci : Nat} {vs : List Value} (j : Nat) (hj : j < 12) (he : qE cs b u j = .inr (ci, vs)) (hlay : ∀ w ∈ u_ws C T N, w.before args s = true) (hown : s.vm.findClass own = some m.cls) (hK : va_K (dC, dI) vwCl (QTY cs) s) (hP : va_P (dC, dI) vwCl (qW cs b u) H) (hc : vwCl[ci]? = some (C, T, N)) (k : Nat) (hk : k < N) (hlink : (Cond.fieldLink own index ref (T k).2.1 (T k).2.2.1).before args s = true) (hsame : ∀ x, s.fieldFound? (T k).1 (T k).2.1 (T k).2.2.1 = some x → s.fieldFound? ref (T k).2.1 (T k).2.2.1 = some x) {v : Value} (hv : vs[k]? = some v) (hdg : decode cc pc = .ok (.getfield index, 3))
    (kk : W p l e R s m args below meth c H locs cells slots Q (F0 m (pc + 3) ls (v :: rest))) : W p l e R s m args below meth c H locs cells slots Q (F0 m pc ls (.ref (b j) :: rest)) :=
  va_get hexec hb hlay (fun _ h => h) hown hK hP j (by rw [qW_at hj, he]) hc k hk hlink hsame hv hdg kk
/-- an int or a truth value into a field: K is its number among all -/
theorem q_put (hexec : p.tables.exec = Jvm.exec) (hb : c.code = cc) {own ref C : String} {T : u_T} {N index ci : Nat} {vs : List Value} {ty : FieldType} (j K : Nat) (hj : j < 12) (hlay : ∀ w ∈ u_ws C T N, w.before args s = true) (ty0 : Nat → FieldType) (hty : ∀ k, k < N → parseFieldDescriptor (T k).2.2.1 = some (ty0 k)) (hnm : ∀ a, a < N → ∀ b, b < N → a ≠ b → (T a).2.1 ≠ (T b).2.1) (hown : s.vm.findClass own = some m.cls) (hK : va_K (dC, dI) vwCl (QTY cs) s) (hP : va_P (dC, dI) vwCl (qW cs b u) H) (hJ : QJ b) (hAL : ∀ i, i < 12 → A (b i)) (hS : va_S A H0 H locs) (hc : vwCl[ci]? = some (C, T, N)) (k : Nat) (hk : k < N) (hlink : (Cond.fieldLink own index ref (T k).2.1 (T k).2.2.1).before args s = true) (hsame : ∀ x, s.fieldFound? (T k).1 (T k).2.1 (T k).2.2.1 = some x → s.fieldFound? ref (T k).2.1 (T k).2.2.1 = some x) (hfin : (T k).2.2.2 = false) {v : Int32} (hd : parseFieldDescriptor (T k).2.2.1 = some ty) (hfit : fits ty (.int v) = true) (hnar : narrow ty (.int v) = .int v) (he : qE cs b u j = .inr (ci, vs)) (he2 : qE cs b (sF u K v) j = .inr (ci, vs.set k (.int v))) (ho : ∀ q, q ≠ j → qE cs b (sF u K v) q = qE cs b u q) (hl : k < vs.length) (hdg : decode cc pc = .ok (.putfield index, 3))
    (kk : ∀ (u1 : RS) (H1 : Heap) (locs1 : List Loc), rF u1 K = v → FR [] [K] false u u1 → va_P (dC, dI) vwCl (qW cs b u1) H1 → va_S A H0 H1 locs1 → W p l e R s m args below meth c H1 locs1 cells slots Q (F0 m (pc + 3) ls rest)) : W p l e R s m args below meth c H locs cells slots Q (F0 m pc ls (.int v :: .ref (b j) :: rest)) := by
  refine va_put hexec hb hlay (fun _ h => h) ty0 hty hnm hown hK hP (q_D hJ hAL) hS j (by rw [qW_at hj, he]) hc k hk hlink hsame hfin hd hnar hfit hl hdg (fun H1 locs1 hP1 hD1 hS1 => ?_)
  rw [qW_set (cs := cs) (b := b) (u := u) (u' := sF u K v) hj he2 (fun q _ hq => ho q hq)] at hP1
  exact kk _ H1 locs1 rF_self ⟨fun _ _ => rfl, fun q hq => rF_ne (fun h => hq (by rw [h]; exact List.mem_singleton.mpr rfl)), fun _ _ => rfl⟩ hP1 hS1
/-- the tape becomes the text -/
theorem q_text (hexec : p.tables.exec = Jvm.exec) (hb : c.code = cc) {own ref C : String} {T : u_T} {N index : Nat} {ty : FieldType} (hlay : ∀ w ∈ u_ws C T N, w.before args s = true) (ty0 : Nat → FieldType) (hty : ∀ k, k < N → parseFieldDescriptor (T k).2.2.1 = some (ty0 k)) (hnm : ∀ a, a < N → ∀ b, b < N → a ≠ b → (T a).2.1 ≠ (T b).2.1) (hown : s.vm.findClass own = some m.cls) (hK : va_K (dC, dI) vwCl (QTY cs) s) (hP : va_P (dC, dI) vwCl (qW cs b u) H) (hJ : QJ b) (hAL : ∀ i, i < 12 → A (b i)) (hS : va_S A H0 H locs) (hc : vwCl[8]? = some (C, T, N)) (hk : 4 < N) (hlink : (Cond.fieldLink own index ref (T 4).2.1 (T 4).2.2.1).before args s = true) (hsame : ∀ x, s.fieldFound? (T 4).1 (T 4).2.1 (T 4).2.2.1 = some x → s.fieldFound? ref (T 4).2.1 (T 4).2.2.1 = some x) (hfin : (T 4).2.2.2 = false) (hd : parseFieldDescriptor (T 4).2.2.1 = some ty) (hnar : narrow ty (.ref (b 5)) = .ref (b 5)) (hfit : fits ty (.ref (b 5)) = true) (hdg : decode cc pc = .ok (.putfield index, 3))
    (kk : ∀ (u1 : RS) (H1 : Heap) (locs1 : List Loc), rF u1 14 = 1 → FR [] [14] false u u1 → va_P (dC, dI) vwCl (qW cs b u1) H1 → va_S A H0 H1 locs1 → W p l e R s m args below meth c H1 locs1 cells slots Q (F0 m (pc + 3) ls rest)) : W p l e R s m args below meth c H locs cells slots Q (F0 m pc ls (.ref (b 5) :: .ref (b 1) :: rest)) := by
  refine va_put hexec hb hlay (fun _ h => h) ty0 hty hnm hown hK hP (q_D hJ hAL) hS 1 (qW_at (by decide)) hc 4 hk hlink hsame hfin hd hnar hfit (show 4 < (qT b u).length from Nat.le_of_ble_eq_true rfl) hdg (fun H1 locs1 hP1 hD1 hS1 => ?_)
  rw [qW_set (cs := cs) (b := b) (u := u) (u' := sF u 14 1) (x := .inr (8, (qT b u).set 4 (.ref (b 5)))) (by decide) rfl (fun q _ hq => qE_put1 (by decide) (by decide) q hq)] at hP1
  exact kk _ H1 locs1 rF_self ⟨fun _ _ => rfl, fun q hq => rF_ne (fun h => hq (by rw [h]; exact List.mem_singleton.mpr rfl)), fun _ _ => rfl⟩ hP1 hS1
/-- an element of a row of ints -/
theorem q_iald (hexec : p.tables.exec = Jvm.exec) (hb : c.code = cc) (hK : va_K (dC, dI) vwCl (QTY cs) s) (hP : va_P (dC, dI) vwCl (qW cs b u) H) {j n k : Nat} {x : Int32} (hj : j < 12) (he : qE cs b u j = .inl (cs 0, n, .inl (rA u j))) (hk : k < n) (hn : n < 2 ^ 31) (hv : rA u j k = x) (hdg : decode cc pc = .ok (.iaload, 1))
    (kk : W p l e R s m args below meth c H locs cells slots Q (F0 m (pc + 1) ls (.int x :: rest))) : W p l e R s m args below meth c H locs cells slots Q (F0 m pc ls (.int (nI k) :: .ref (b j) :: rest)) := by
  have hq : (qW cs b u)[j]? = some (b j, .inl (cs 0, n, .inl (rA u j))) := by rw [qW_at hj, he]
  refine va_iald hexec hb hK hP j 0 hq rfl (vp_in_nI hk hn) hdg ?_
  rw [nI_clamp (Nat.lt_trans hk hn), hv]
  exact kk
theorem q_bald (hexec : p.tables.exec = Jvm.exec) (hb : c.code = cc) (hK : va_K (dC, dI) vwCl (QTY cs) s) (hP : va_P (dC, dI) vwCl (qW cs b u) H) {j n k : Nat} {x : Int32} (hj : j < 12) (he : qE cs b u j = .inl (cs 1, n, .inl (rA u j))) (hk : k < n) (hn : n < 2 ^ 31) (hv : rA u j k = x) (hdg : decode cc pc = .ok (.baload, 1))
    (kk : W p l e R s m args below meth c H locs cells slots Q (F0 m (pc + 1) ls (.int x :: rest))) : W p l e R s m args below meth c H locs cells slots Q (F0 m pc ls (.int (nI k) :: .ref (b j) :: rest)) := by
  have hq : (qW cs b u)[j]? = some (b j, .inl (cs 1, n, .inl (rA u j))) := by rw [qW_at hj, he]
  refine va_bald hexec hb hK hP j 1 hq rfl (vp_in_nI hk hn) hdg ?_
  rw [nI_clamp (Nat.lt_trans hk hn), hv]
  exact kk
theorem q_alen {x : vp_A} {cA : ClassId} {ty : FieldType} {j t0 : Nat} {v : Int32} (hexec : p.tables.exec = Jvm.exec) (hb : c.code = cc) (hK : va_K (dC, dI) vwCl (QTY cs) s) (hP : va_P (dC, dI) vwCl (qW cs b u) H) (hj : j < 12) (he : qE cs b u j = .inl (cA, x)) (ht : (QTY cs)[t0]? = some (cA, ty)) (hv : nI x.1 = v) (hdg : decode cc pc = .ok (.arraylength, 1))
    (kk : W p l e R s m args below meth c H locs cells slots Q (F0 m (pc + 1) ls (.int v :: rest))) : W p l e R s m args below meth c H locs cells slots Q (F0 m pc ls (.ref (b j) :: rest)) :=
  va_alen hexec hb hK hP j t0 (by rw [qW_at hj, he]) ht hv hdg kk
theorem q_iast (hexec : p.tables.exec = Jvm.exec) (hb : c.code = cc) (hK : va_K (dC, dI) vwCl (QTY cs) s) (hP : va_P (dC, dI) vwCl (qW cs b u) H) (hJ : QJ b) (hAL : ∀ i, i < 12 → A (b i)) (hS : va_S A H0 H locs) {j n k : Nat} {x : Int32} {w : Nat → Int32} (hj : j < 12) (he : ∀ u : RS, qE cs b u j = .inl (cs 0, n, .inl (rA u j))) (hA : rA u j = w) (hk : k < n) (hn : n < 2 ^ 31) (hdg : decode cc pc = .ok (.iastore, 1))
    (kk : ∀ (u1 : RS) (H1 : Heap) (locs1 : List Loc), rA u1 j = upd w k x → FR [j] [] false u u1 → va_P (dC, dI) vwCl (qW cs b u1) H1 → va_S A H0 H1 locs1 → W p l e R s m args below meth c H1 locs1 cells slots Q (F0 m (pc + 1) ls rest)) : W p l e R s m args below meth c H locs cells slots Q (F0 m pc ls (.int x :: .int (nI k) :: .ref (b j) :: rest)) := by
  have hq : (qW cs b u)[j]? = some (b j, .inl (cs 0, n, .inl (rA u j))) := by rw [qW_at hj, he]
  refine va_iast hexec hb hK hP (q_D hJ hAL) hS j 0 hq rfl (vp_in_nI hk hn) hdg (fun H1 locs1 hP1 hD1 hS1 => ?_)
  rw [nI_clamp (Nat.lt_trans hk hn), hA, qW_set (cs := cs) (b := b) (u := u) (u' := sA u j (upd w k x)) hj (by rw [he, rA_self]) (fun q _ hq => qE_congr (fun _ => rfl) (rA_ne hq))] at hP1
  exact kk _ H1 locs1 rA_self ⟨fun q hq => rA_ne (fun h => hq (by rw [h]; exact List.mem_singleton.mpr rfl)), fun _ _ => rfl, fun _ _ => rfl⟩ hP1 hS1
theorem q_bast (hexec : p.tables.exec = Jvm.exec) (hb : c.code = cc) (hK : va_K (dC, dI) vwCl (QTY cs) s) (hP : va_P (dC, dI) vwCl (qW cs b u) H) (hJ : QJ b) (hAL : ∀ i, i < 12 → A (b i)) (hS : va_S A H0 H locs) {j n k : Nat} {x : Int32} {w : Nat → Int32} (hj : j < 12) (he : ∀ u : RS, qE cs b u j = .inl (cs 1, n, .inl (rA u j))) (hA : rA u j = w) (hk : k < n) (hn : n < 2 ^ 31) (hdg : decode cc pc = .ok (.bastore, 1))
    (kk : ∀ (u1 : RS) (H1 : Heap) (locs1 : List Loc), rA u1 j = upd w k (vp_nar .byte x) → FR [j] [] false u u1 → va_P (dC, dI) vwCl (qW cs b u1) H1 → va_S A H0 H1 locs1 → W p l e R s m args below meth c H1 locs1 cells slots Q (F0 m (pc + 1) ls rest)) : W p l e R s m args below meth c H locs cells slots Q (F0 m pc ls (.int x :: .int (nI k) :: .ref (b j) :: rest)) := by
  have hq : (qW cs b u)[j]? = some (b j, .inl (cs 1, n, .inl (rA u j))) := by rw [qW_at hj, he]
  refine va_bast hexec hb hK hP (q_D hJ hAL) hS j 1 hq rfl (vp_in_nI hk hn) hdg (fun H1 locs1 hP1 hD1 hS1 => ?_)
  rw [nI_clamp (Nat.lt_trans hk hn), hA, qW_set (cs := cs) (b := b) (u := u) (u' := sA u j (upd w k (vp_nar .byte x))) hj (by rw [he, rA_self]) (fun q _ hq => qE_congr (fun _ => rfl) (rA_ne hq))] at hP1
  exact kk _ H1 locs1 rA_self ⟨fun q hq => rA_ne (fun h => hq (by rw [h]; exact List.mem_singleton.mpr rfl)), fun _ _ => rfl, fun _ _ => rfl⟩ hP1 hS1
theorem q_recv {q : vw_C} {ci : Nat} {vs : List Value} (j : Nat) (hj : j < 12) (he : qE cs b u j = .inr (ci, vs)) (hK : va_K (dC, dI) vwCl tys s) (hP : va_P (dC, dI) vwCl (qW cs b u) H) (hc : vwCl[ci]? = some q) : ∃ cell : Cell, H[b j]? = some cell ∧ cell.vm.isStatics = false ∧ s.vm.findClass q.1 = some cell.cls :=
  va_recv (q0 := j) hK hP hc (by rw [qW_at hj, he])
theorem q_pre {av : List Value} (hK : va_K (dC, dI) vwCl (QTY cs) s) (hP : va_P (dC, dI) vwCl (qW cs b u) H) (hJ : QJ b) (hE : EX s) : ∀ U : State, U.heap = H → s.WarmedH U.vm → PQ av H.size dC dI cs b u av.toArray U := fun U hU hw =>
  ⟨rfl, by rw [hU], by rw [hU]; exact hP, va_K.moved hw.alike hK, hJ, hE.warm hw⟩
theorem q_free (hAL : ∀ i, i < 12 → A (b i)) (hS : va_S A H0 H locs) (hA : ∀ q, H0.size ≤ q → A q) : ∀ q, AQ b H.size q → A q := fun q h => h.elim (fun ⟨i, hi, hq⟩ => by rw [hq]; exact hAL i hi) (fun h => hA q (Nat.le_trans hS.1 h))
theorem qc_i {post : Int32 → RS → Prop} (hAL : ∀ i, i < 12 → A (b i)) (hS : va_S A H0 H locs) (hA : ∀ q, H0.size ≤ q → A q) (hr : va_Run p l e R s m args below meth c H locs cells slots 0 0 (F0 m pc ls st0) rest (va_Qi post (BQ dC dI cs b) (AQ b H.size) ar) (AQ b H.size))
    (kk : ∀ (r : Int32) (u' : RS) (H1 : Heap) (locs1 : List Loc), post r u' → va_P (dC, dI) vwCl (qW cs b u') H1 → va_S A H0 H1 locs1 → W p l e R s m args below meth c H1 locs1 cells slots Q (F0 m (pc + 3) ls (.int r :: rest))) : W p l e R s m args below meth c H locs cells slots Q (F0 m pc ls st0) := by
  have hF := q_free hAL hS hA
  refine va_calli hr hS (fun q _ h => hF q h) hF (fun r u t H1 locs1 ht hvm hw hB hz1 hk1 hS1 => ?_)
  have h2 : va_P (dC, dI) vwCl (qW cs b u) t.heap := hB
  rw [ht] at h2
  exact kk r u H1 locs1 hw h2 hS1
theorem qc_l {post : Int64 → RS → Prop} (hAL : ∀ i, i < 12 → A (b i)) (hS : va_S A H0 H locs) (hA : ∀ q, H0.size ≤ q → A q) (hr : va_Run p l e R s m args below meth c H locs cells slots 0 0 (F0 m pc ls st0) rest (va_Ql post (BQ dC dI cs b) (AQ b H.size) ar) (AQ b H.size))
    (kk : ∀ (r : Int64) (u' : RS) (H1 : Heap) (locs1 : List Loc), post r u' → va_P (dC, dI) vwCl (qW cs b u') H1 → va_S A H0 H1 locs1 → W p l e R s m args below meth c H1 locs1 cells slots Q (F0 m (pc + 3) ls (.long r :: rest))) : W p l e R s m args below meth c H locs cells slots Q (F0 m pc ls st0) := by
  have hF := q_free hAL hS hA
  refine va_calll hr hS (fun q _ h => hF q h) hF (fun r u t H1 locs1 ht hvm hw hB hz1 hk1 hS1 => ?_)
  have h2 : va_P (dC, dI) vwCl (qW cs b u) t.heap := hB
  rw [ht] at h2
  exact kk r u H1 locs1 hw h2 hS1
theorem qc_v {post : RS → Prop} (hAL : ∀ i, i < 12 → A (b i)) (hS : va_S A H0 H locs) (hA : ∀ q, H0.size ≤ q → A q) (hr : va_Run p l e R s m args below meth c H locs cells slots 0 0 (F0 m pc ls st0) rest (va_Qv post (BQ dC dI cs b) (AQ b H.size) ar) (AQ b H.size))
    (kk : ∀ (u' : RS) (H1 : Heap) (locs1 : List Loc), post u' → va_P (dC, dI) vwCl (qW cs b u') H1 → va_S A H0 H1 locs1 → W p l e R s m args below meth c H1 locs1 cells slots Q (F0 m (pc + 3) ls rest)) : W p l e R s m args below meth c H locs cells slots Q (F0 m pc ls st0) := by
  have hF := q_free hAL hS hA
  refine va_callv hr hS (fun q _ h => hF q h) hF (fun u t H1 locs1 ht hvm hw hB hz1 hk1 hS1 => ?_)
  have h2 : va_P (dC, dI) vwCl (qW cs b u) t.heap := hB
  rw [ht] at h2
  exact kk u H1 locs1 hw h2 hS1
/-- a loop over the reference's world -/
theorem q_ind {I : Nat → RS → Heap → List Loc → Array Slot → Prop}
    (step : ∀ (n : Nat) (u : RS) (H : Heap) (locs : List Loc) (ls : Array Slot), I n u H locs ls → (∀ (n' : Nat) (u' : RS) (H' : Heap) (locs' : List Loc) (ls' : Array Slot), n' < n → I n' u' H' locs' ls' → W p l e R s m args below meth c H' locs' cells slots Q (F0 m pc ls' [])) → W p l e R s m args below meth c H locs cells slots Q (F0 m pc ls [])) :
    ∀ (n : Nat) (u : RS) (H : Heap) (locs : List Loc) (ls : Array Slot), I n u H locs ls → W p l e R s m args below meth c H locs cells slots Q (F0 m pc ls []) := by
  intro n
  induction n using Nat.strongRecOn with
  | ind n ih => intro u H locs ls hI; exact step n u H locs ls hI (fun n' u' H' locs' ls' hn hI' => ih n' hn u' H' locs' ls' hI')
end QTH
