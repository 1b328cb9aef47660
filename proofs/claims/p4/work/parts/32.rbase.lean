/-! the reference's world: its fields, its rows of ints and of longs, each by its place in one list of cells -/
abbrev RS : Type := (Nat → Int32) × (Nat → Nat → Int32) × (Nat → Nat → Int64)
def rF (u : RS) (k : Nat) : Int32 := u.1 k
def rA (u : RS) (j : Nat) : Nat → Int32 := u.2.1 j
def rL (u : RS) (j : Nat) : Nat → Int64 := u.2.2 j
def sF (u : RS) (k : Nat) (v : Int32) : RS := (upd u.1 k v, u.2)
def sA (u : RS) (j : Nat) (g : Nat → Int32) : RS := (u.1, va_up u.2.1 j g, u.2.2)
def sL (u : RS) (j : Nat) (g : Nat → Int64) : RS := (u.1, u.2.1, va_up u.2.2 j g)
theorem rF_self {u : RS} {k : Nat} {v : Int32} : rF (sF u k v) k = v := pk_us
theorem rF_ne {u : RS} {k q : Nat} {v : Int32} (h : q ≠ k) : rF (sF u k v) q = rF u q := pk_un h
theorem rA_self {u : RS} {j : Nat} {g : Nat → Int32} : rA (sA u j g) j = g := va_up_self _ _ _
theorem rA_ne {u : RS} {j q : Nat} {g : Nat → Int32} (h : q ≠ j) : rA (sA u j g) q = rA u q := va_up_ne _ _ h
theorem rL_self {u : RS} {j : Nat} {g : Nat → Int64} : rL (sL u j g) j = g := va_up_self _ _ _
theorem rL_ne {u : RS} {j q : Nat} {g : Nat → Int64} (h : q ≠ j) : rL (sL u j g) q = rL u q := va_up_ne _ _ h
abbrev RTY (cs : Nat → ClassId) : List (ClassId × FieldType) := [(cs 0, .int), (cs 1, .byte), (cs 2, .long), (cs 3, .boolean), (cs 4, .array .int), (cs 5, .array (.array .long)), (cs 6, .array .long)]
def rO (b : Nat → Nat) (u : RS) : List Value := [.ref (b 1), .int (rF u 1), .int (rF u 2), .int (rF u 3), .ref (b 2), .int (rF u 5), .ref (b 13), .ref (b 14), .ref (b 15), .ref (b 16), .int (rF u 10), .int (rF u 11), .int (rF u 12), .int (rF u 13), .int (rF u 14), .int (rF u 15), .int (rF u 16), .int (rF u 17), .int (rF u 18), .int (rF u 19), .int (rF u 20), .int (rF u 21), .int (rF u 22), .ref (b 17), .ref (b 18), .ref (b 19), .ref (b 20), .ref (b 21), .ref (b 106), .ref (b 107), .int (rF u 30)]
def rE (cs : Nat → ClassId) (b : Nat → Nat) (u : RS) (i : Nat) : va_E :=
  if i = 0 then .inr (11, rO b u)
  else if i = 1 then .inl (cs 0, 7202, .inl (rA u i))
  else if i = 2 then .inl (cs 4, 10, .inr (.inr (.inr (.inr (fun k => some (b (3 + k)))))))
  else if i < 15 then .inl (cs 0, 200, .inl (rA u i))
  else if i < 17 then .inl (cs 1, 700, .inl (rA u i))
  else if i < 19 then .inl (cs 0, 400, .inl (rA u i))
  else if i = 19 then .inl (cs 3, 400, .inl (rA u i))
  else if i = 20 then .inl (cs 0, 6, .inl (rA u i))
  else if i = 21 then .inl (cs 5, 6, .inr (.inr (.inr (.inr (fun k => some (b (22 + k)))))))
  else if i < 28 then .inl (cs 6, 13, .inr (.inr (.inr (.inr (fun k => some (b (28 + 13 * (i - 22) + k)))))))
  else if i < 106 then .inl (cs 2, 13, .inr (.inl (rL u i)))
  else if i = 106 then .inl (cs 2, 60840, .inr (.inl (rL u i)))
  else .inl (cs 1, 400, .inl (rA u i))
def rW (cs : Nat → ClassId) (b : Nat → Nat) (u : RS) : va_W := (List.range 108).map (fun i => (b i, rE cs b u i))
theorem rW_at {cs : Nat → ClassId} {b : Nat → Nat} {u : RS} {i : Nat} (hi : i < 108) : (rW cs b u)[i]? = some (b i, rE cs b u i) := by
  unfold rW
  rw [List.getElem?_map, List.getElem?_range hi]
  rfl
theorem rW_len {cs : Nat → ClassId} {b : Nat → Nat} {u : RS} : (rW cs b u).length = 108 := by
  unfold rW
  rw [List.length_map, List.length_range]
theorem rW_set {cs : Nat → ClassId} {b : Nat → Nat} {u u' : RS} {i : Nat} (hi : i < 108) {x : va_E} (hx : rE cs b u' i = x) (ho : ∀ q, q < 108 → q ≠ i → rE cs b u' q = rE cs b u q) : (rW cs b u).set i (b i, x) = rW cs b u' := by
  apply List.ext_getElem?
  intro k
  rw [List.getElem?_set]
  by_cases hk : k < 108
  · rw [rW_at hk, rW_at hk, rW_len]
    by_cases h : i = k
    · subst h
      rw [if_pos rfl, if_pos hi, hx]
    · rw [if_neg h, ho k hk (fun e => h e.symm)]
  · rw [if_neg (by omega), List.getElem?_eq_none (by rw [rW_len]; omega), List.getElem?_eq_none (by rw [rW_len]; omega)]
theorem rE_congr {cs : Nat → ClassId} {b : Nat → Nat} {u u' : RS} {q : Nat} (hF : q = 0 → rO b u' = rO b u) (hA : rA u' q = rA u q) (hL : rL u' q = rL u q) : rE cs b u' q = rE cs b u q := by
  unfold rE
  rw [hA, hL]
  by_cases h : q = 0
  · rw [if_pos h, if_pos h, hF h]
  · rw [if_neg h, if_neg h]
theorem rO_congr {b : Nat → Nat} {u u' : RS} (h : ∀ k, rF u' k = rF u k) : rO b u' = rO b u := by
  unfold rO
  simp only [h]
/-- what each cell is -/
theorem rE_row {cs : Nat → ClassId} {b : Nat → Nat} {u : RS} {j : Nat} (h : 3 ≤ j ∧ j ≤ 14) : rE cs b u j = .inl (cs 0, 200, .inl (rA u j)) := by
  unfold rE
  rw [if_neg (by omega), if_neg (by omega), if_neg (by omega), if_pos (by omega)]
theorem rE_home1 {cs : Nat → ClassId} {b : Nat → Nat} {u : RS} {j : Nat} (h : 22 ≤ j ∧ j ≤ 27) : rE cs b u j = .inl (cs 6, 13, .inr (.inr (.inr (.inr (fun k => some (b (28 + 13 * (j - 22) + k))))))) := by
  unfold rE
  rw [if_neg (by omega), if_neg (by omega), if_neg (by omega), if_neg (by omega), if_neg (by omega), if_neg (by omega), if_neg (by omega), if_neg (by omega), if_neg (by omega), if_pos (by omega)]
theorem rE_home2 {cs : Nat → ClassId} {b : Nat → Nat} {u : RS} {j : Nat} (h : 28 ≤ j ∧ j ≤ 105) : rE cs b u j = .inl (cs 2, 13, .inr (.inl (rL u j))) := by
  unfold rE
  rw [if_neg (by omega), if_neg (by omega), if_neg (by omega), if_neg (by omega), if_neg (by omega), if_neg (by omega), if_neg (by omega), if_neg (by omega), if_neg (by omega), if_neg (by omega), if_pos (by omega)]
/-- which rows, fields and longs may have changed -/
def FR (js ks : List Nat) (lb : Bool) (u u' : RS) : Prop := (∀ q, q ∉ js → rA u' q = rA u q) ∧ (∀ k, k ∉ ks → rF u' k = rF u k) ∧ (lb = false → ∀ q, rL u' q = rL u q)
theorem FR.refl {js ks : List Nat} {lb : Bool} {u : RS} : FR js ks lb u u := ⟨fun _ _ => rfl, fun _ _ => rfl, fun _ _ => rfl⟩
theorem FR.step {js ks js' ks' : List Nat} {lb lb' : Bool} {u u1 u2 : RS} (h : FR js ks lb u u1) (h2 : FR js' ks' lb' u1 u2) (hj : ∀ q ∈ js', q ∈ js) (hk : ∀ q ∈ ks', q ∈ ks) (hl : lb = false → lb' = false) : FR js ks lb u u2 :=
  ⟨fun q hq => (h2.1 q (fun m => hq (hj q m))).trans (h.1 q hq), fun q hq => (h2.2.1 q (fun m => hq (hk q m))).trans (h.2.1 q hq), fun e q => (h2.2.2 (hl e) q).trans (h.2.2 e q)⟩
def RJ (b : Nat → Nat) : Prop := ∀ i j, i < 108 → j < 108 → b i = b j → i = j
def AR (b : Nat → Nat) (sz : Nat) : Nat → Prop := fun q => (∃ i, i < 108 ∧ q = b i) ∨ sz ≤ q
def PR (av : List Value) (sz : Nat) (dC : Nat → ClassId) (dI : Nat → Nat → Nat) (cs : Nat → ClassId) (b : Nat → Nat) (u : RS) : Array Value → State → Prop :=
  va_Pc av (fun U => U.heap.size = sz ∧ va_P (dC, dI) vwCl (rW cs b u) U.heap ∧ va_K (dC, dI) vwCl (RTY cs) U ∧ RJ b ∧ EX U)
theorem PR.blind {av : List Value} {sz : Nat} {dC : Nat → ClassId} {dI : Nat → Nat → Nat} {cs : Nat → ClassId} {b : Nat → Nat} {u : RS} : FrameBlind (PR av sz dC dI cs b u) := fun a U g mk q => by
  obtain ⟨q0, q1, qP, qK, qD, qE⟩ := q
  exact ⟨q0, q1, qP, va_K.moved (u := U) (U := U.calling g mk a) (Vm.Alike.refl U.vm) qK, qD, qE.blind⟩
def BR (dC : Nat → ClassId) (dI : Nat → Nat → Nat) (cs : Nat → ClassId) (b : Nat → Nat) : RS → State → Prop := fun u t => va_P (dC, dI) vwCl (rW cs b u) t.heap
section RTH
variable {p : Program} {l : Launch} {e : Env} {R : Room} {s : State} {m : MethodId} {args : Array Value} {below : List Frame} {meth : Method} {c : Code} {H : Heap} {locs : List Loc} {cells slots : Nat} {Q : State → Prop}
variable {cc : ByteArray} {pc : Nat} {ls : Array Slot} {rest st0 : List Value} {A : Nat → Prop} {a : Nat} {H0 : Heap} {ar : Array Value}
variable {dC : Nat → ClassId} {dI : Nat → Nat → Nat} {cs : Nat → ClassId} {b : Nat → Nat} {u : RS} {tys : List (ClassId × FieldType)}
theorem r_D (hJ : RJ b) (hAL : ∀ i, i < 108 → A (b i)) : va_D A (rW cs b u) := by
  refine ⟨fun i j x y hi hj hxy => ?_, fun k x hk => ?_⟩
  · have h1 : i < 108 := by have := (List.getElem?_eq_some_iff.mp hi).1; rw [rW_len] at this; exact this
    have h2 : j < 108 := by have := (List.getElem?_eq_some_iff.mp hj).1; rw [rW_len] at this; exact this
    rw [rW_at h1] at hi
    rw [rW_at h2] at hj
    cases hi
    cases hj
    exact hJ i j h1 h2 hxy
  · have h1 : k < 108 := by have := (List.getElem?_eq_some_iff.mp hk).1; rw [rW_len] at this; exact this
    rw [rW_at h1] at hk
    cases hk
    exact hAL k h1
/-- a field -/
theorem r_get (hexec : p.tables.exec = Jvm.exec) (hb : c.code = cc) {own ref C : String} {T : u_T} {N index : Nat} (hlay : ∀ w ∈ u_ws C T N, w.before args s = true) (hown : s.vm.findClass own = some m.cls) (hK : va_K (dC, dI) vwCl (RTY cs) s) (hP : va_P (dC, dI) vwCl (rW cs b u) H) (hc : vwCl[11]? = some (C, T, N)) (k : Nat) (hk : k < N) (hlink : (Cond.fieldLink own index ref (T k).2.1 (T k).2.2.1).before args s = true) (hsame : ∀ x, s.fieldFound? (T k).1 (T k).2.1 (T k).2.2.1 = some x → s.fieldFound? ref (T k).2.1 (T k).2.2.1 = some x) {v : Value} (hv : (rO b u)[k]? = some v) (hdg : decode cc pc = .ok (.getfield index, 3))
    (kk : W p l e R s m args below meth c H locs cells slots Q (F0 m (pc + 3) ls (v :: rest))) : W p l e R s m args below meth c H locs cells slots Q (F0 m pc ls (.ref (b 0) :: rest)) :=
  va_get hexec hb hlay (fun _ h => h) hown hK hP 0 (rW_at (by decide)) hc k hk hlink hsame hv hdg kk
theorem r_put (hexec : p.tables.exec = Jvm.exec) (hb : c.code = cc) {own ref C : String} {T : u_T} {N index : Nat} (hlay : ∀ w ∈ u_ws C T N, w.before args s = true) (ty0 : Nat → FieldType) (hty : ∀ k, k < N → parseFieldDescriptor (T k).2.2.1 = some (ty0 k)) (hnm : ∀ a, a < N → ∀ b, b < N → a ≠ b → (T a).2.1 ≠ (T b).2.1) (hown : s.vm.findClass own = some m.cls) (hK : va_K (dC, dI) vwCl (RTY cs) s) (hP : va_P (dC, dI) vwCl (rW cs b u) H) (hJ : RJ b) (hAL : ∀ i, i < 108 → A (b i)) (hS : va_S A H0 H locs) (hc : vwCl[11]? = some (C, T, N)) (k : Nat) (hk : k < N) (hlink : (Cond.fieldLink own index ref (T k).2.1 (T k).2.2.1).before args s = true) (hsame : ∀ x, s.fieldFound? (T k).1 (T k).2.1 (T k).2.2.1 = some x → s.fieldFound? ref (T k).2.1 (T k).2.2.1 = some x) (hfin : (T k).2.2.2 = false) {v : Int32} (hd : parseFieldDescriptor (T k).2.2.1 = some .int) (hset : (rO b u).set k (.int v) = rO b (sF u k v)) (hl : k < 31) (hdg : decode cc pc = .ok (.putfield index, 3))
    (kk : ∀ (u1 : RS) (H1 : Heap) (locs1 : List Loc), rF u1 k = v → FR [] [k] false u u1 → va_P (dC, dI) vwCl (rW cs b u1) H1 → va_S A H0 H1 locs1 → W p l e R s m args below meth c H1 locs1 cells slots Q (F0 m (pc + 3) ls rest)) : W p l e R s m args below meth c H locs cells slots Q (F0 m pc ls (.int v :: .ref (b 0) :: rest)) := by
  refine va_put hexec hb hlay (fun _ h => h) ty0 hty hnm hown hK hP (r_D hJ hAL) hS 0 (rW_at (by decide)) hc k hk hlink hsame hfin hd rfl rfl hl hdg (fun H1 locs1 hP1 hD1 hS1 => ?_)
  rw [hset, rW_set (cs := cs) (b := b) (u := u) (u' := sF u k v) (x := .inr (11, rO b (sF u k v))) (by decide) rfl (fun q _ hq => rE_congr (fun h => absurd h hq) rfl rfl)] at hP1
  exact kk _ H1 locs1 rF_self ⟨fun _ _ => rfl, fun q hq => rF_ne (fun h => hq (by rw [h]; exact List.mem_singleton.mpr rfl)), fun _ _ => rfl⟩ hP1 hS1
/-- an element of a row of ints -/
theorem r_iald (hexec : p.tables.exec = Jvm.exec) (hb : c.code = cc) (hK : va_K (dC, dI) vwCl (RTY cs) s) (hP : va_P (dC, dI) vwCl (rW cs b u) H) {j n k : Nat} {x : Int32} (hj : j < 108) (he : rE cs b u j = .inl (cs 0, n, .inl (rA u j))) (hk : k < n) (hn : n < 2 ^ 31) (hv : rA u j k = x) (hdg : decode cc pc = .ok (.iaload, 1))
    (kk : W p l e R s m args below meth c H locs cells slots Q (F0 m (pc + 1) ls (.int x :: rest))) : W p l e R s m args below meth c H locs cells slots Q (F0 m pc ls (.int (nI k) :: .ref (b j) :: rest)) := by
  have hq : (rW cs b u)[j]? = some (b j, .inl (cs 0, n, .inl (rA u j))) := by rw [rW_at hj, he]
  refine va_iald hexec hb hK hP j 0 hq rfl (vp_in_nI hk hn) hdg ?_
  rw [nI_clamp (Nat.lt_trans hk hn), hv]
  exact kk
theorem r_bald (hexec : p.tables.exec = Jvm.exec) (hb : c.code = cc) (hK : va_K (dC, dI) vwCl (RTY cs) s) (hP : va_P (dC, dI) vwCl (rW cs b u) H) {j n k : Nat} {x : Int32} (hj : j < 108) (he : rE cs b u j = .inl (cs 1, n, .inl (rA u j))) (hk : k < n) (hn : n < 2 ^ 31) (hv : rA u j k = x) (hdg : decode cc pc = .ok (.baload, 1))
    (kk : W p l e R s m args below meth c H locs cells slots Q (F0 m (pc + 1) ls (.int x :: rest))) : W p l e R s m args below meth c H locs cells slots Q (F0 m pc ls (.int (nI k) :: .ref (b j) :: rest)) := by
  have hq : (rW cs b u)[j]? = some (b j, .inl (cs 1, n, .inl (rA u j))) := by rw [rW_at hj, he]
  refine va_bald hexec hb hK hP j 1 hq rfl (vp_in_nI hk hn) hdg ?_
  rw [nI_clamp (Nat.lt_trans hk hn), hv]
  exact kk
theorem r_zald (hexec : p.tables.exec = Jvm.exec) (hb : c.code = cc) (hK : va_K (dC, dI) vwCl (RTY cs) s) (hP : va_P (dC, dI) vwCl (rW cs b u) H) {j n k : Nat} {x : Int32} (hj : j < 108) (he : rE cs b u j = .inl (cs 3, n, .inl (rA u j))) (hk : k < n) (hn : n < 2 ^ 31) (hv : rA u j k = x) (hdg : decode cc pc = .ok (.baload, 1))
    (kk : W p l e R s m args below meth c H locs cells slots Q (F0 m (pc + 1) ls (.int x :: rest))) : W p l e R s m args below meth c H locs cells slots Q (F0 m pc ls (.int (nI k) :: .ref (b j) :: rest)) := by
  have hq : (rW cs b u)[j]? = some (b j, .inl (cs 3, n, .inl (rA u j))) := by rw [rW_at hj, he]
  refine va_zald hexec hb hK hP j 3 hq rfl (vp_in_nI hk hn) hdg ?_
  rw [nI_clamp (Nat.lt_trans hk hn), hv]
  exact kk
theorem r_lald (hexec : p.tables.exec = Jvm.exec) (hb : c.code = cc) (hK : va_K (dC, dI) vwCl (RTY cs) s) (hP : va_P (dC, dI) vwCl (rW cs b u) H) {j n k : Nat} {x : Int64} (hj : j < 108) (he : rE cs b u j = .inl (cs 2, n, .inr (.inl (rL u j)))) (hk : k < n) (hn : n < 2 ^ 31) (hv : rL u j k = x) (hdg : decode cc pc = .ok (.laload, 1))
    (kk : W p l e R s m args below meth c H locs cells slots Q (F0 m (pc + 1) ls (.long x :: rest))) : W p l e R s m args below meth c H locs cells slots Q (F0 m pc ls (.int (nI k) :: .ref (b j) :: rest)) := by
  have hq : (rW cs b u)[j]? = some (b j, .inl (cs 2, n, .inr (.inl (rL u j)))) := by rw [rW_at hj, he]
  refine va_lald hexec hb hK hP j 2 hq rfl (vp_in_nI hk hn) hdg ?_
  rw [nI_clamp (Nat.lt_trans hk hn), hv]
  exact kk
/-- a row out of a row of rows -/
theorem r_aald (hexec : p.tables.exec = Jvm.exec) (hb : c.code = cc) (hK : va_K (dC, dI) vwCl (RTY cs) s) (hP : va_P (dC, dI) vwCl (rW cs b u) H) {j n k t0 j2 : Nat} {ty : FieldType} {cA : ClassId} {g : Nat → Option Nat} (hj : j < 108) (he : rE cs b u j = .inl (cA, n, .inr (.inr (.inr (.inr g))))) (ht : (RTY cs)[t0]? = some (cA, .array ty)) (hk : k < n) (hn : n < 2 ^ 31) (hg : g k = some (b j2)) (hdg : decode cc pc = .ok (.aaload, 1))
    (kk : W p l e R s m args below meth c H locs cells slots Q (F0 m (pc + 1) ls (.ref (b j2) :: rest))) : W p l e R s m args below meth c H locs cells slots Q (F0 m pc ls (.int (nI k) :: .ref (b j) :: rest)) := by
  have hq : (rW cs b u)[j]? = some (b j, .inl (cA, n, .inr (.inr (.inr (.inr g))))) := by rw [rW_at hj, he]
  have hin : vp_in (nI k) n := vp_in_nI hk hn
  refine W.aald (v := va_rf (g k)) (ty := .array ty) hexec hb (hP j _ hq) ((hK.2 t0 _ ht).1 n (fun j => va_rf (g j))) rfl (fun q => by cases q) (by show ¬ (nI k < 0 ∨ (arrV _ _ _).slots.size ≤ _); rw [arrV_size]; exact hin) (by show (arrV _ _ _).slots[_]? = _; rw [nI_clamp (Nat.lt_trans hk hn), arrV_read _ _ hk]) rfl rfl hdg ?_
  rw [hg]
  exact kk
theorem r_alen {x : vp_A} {cA : ClassId} {ty : FieldType} {j t0 : Nat} {v : Int32} (hexec : p.tables.exec = Jvm.exec) (hb : c.code = cc) (hK : va_K (dC, dI) vwCl (RTY cs) s) (hP : va_P (dC, dI) vwCl (rW cs b u) H) (hj : j < 108) (he : rE cs b u j = .inl (cA, x)) (ht : (RTY cs)[t0]? = some (cA, ty)) (hv : nI x.1 = v) (hdg : decode cc pc = .ok (.arraylength, 1))
    (kk : W p l e R s m args below meth c H locs cells slots Q (F0 m (pc + 1) ls (.int v :: rest))) : W p l e R s m args below meth c H locs cells slots Q (F0 m pc ls (.ref (b j) :: rest)) :=
  va_alen hexec hb hK hP j t0 (by rw [rW_at hj, he]) ht hv hdg kk
theorem r_iast (hexec : p.tables.exec = Jvm.exec) (hb : c.code = cc) (hK : va_K (dC, dI) vwCl (RTY cs) s) (hP : va_P (dC, dI) vwCl (rW cs b u) H) (hJ : RJ b) (hAL : ∀ i, i < 108 → A (b i)) (hS : va_S A H0 H locs) {j n k : Nat} {x : Int32} {w : Nat → Int32} (hj : j < 108) (he : ∀ u : RS, rE cs b u j = .inl (cs 0, n, .inl (rA u j))) (hA : rA u j = w) (hk : k < n) (hn : n < 2 ^ 31) (hdg : decode cc pc = .ok (.iastore, 1))
    (kk : ∀ (u1 : RS) (H1 : Heap) (locs1 : List Loc), rA u1 j = upd w k x → FR [j] [] false u u1 → va_P (dC, dI) vwCl (rW cs b u1) H1 → va_S A H0 H1 locs1 → W p l e R s m args below meth c H1 locs1 cells slots Q (F0 m (pc + 1) ls rest)) : W p l e R s m args below meth c H locs cells slots Q (F0 m pc ls (.int x :: .int (nI k) :: .ref (b j) :: rest)) := by
  have hq : (rW cs b u)[j]? = some (b j, .inl (cs 0, n, .inl (rA u j))) := by rw [rW_at hj, he]
  refine va_iast hexec hb hK hP (r_D hJ hAL) hS j 0 hq rfl (vp_in_nI hk hn) hdg (fun H1 locs1 hP1 hD1 hS1 => ?_)
  rw [nI_clamp (Nat.lt_trans hk hn), hA, rW_set (cs := cs) (b := b) (u := u) (u' := sA u j (upd w k x)) hj (by rw [he, rA_self]) (fun q _ hq => rE_congr (fun _ => rfl) (rA_ne hq) rfl)] at hP1
  exact kk _ H1 locs1 rA_self ⟨fun q hq => rA_ne (fun h => hq (by rw [h]; exact List.mem_singleton.mpr rfl)), fun _ _ => rfl, fun _ _ => rfl⟩ hP1 hS1
theorem r_bast (hexec : p.tables.exec = Jvm.exec) (hb : c.code = cc) (hK : va_K (dC, dI) vwCl (RTY cs) s) (hP : va_P (dC, dI) vwCl (rW cs b u) H) (hJ : RJ b) (hAL : ∀ i, i < 108 → A (b i)) (hS : va_S A H0 H locs) {j n k : Nat} {x : Int32} {w : Nat → Int32} (hj : j < 108) (he : ∀ u : RS, rE cs b u j = .inl (cs 1, n, .inl (rA u j))) (hA : rA u j = w) (hk : k < n) (hn : n < 2 ^ 31) (hdg : decode cc pc = .ok (.bastore, 1))
    (kk : ∀ (u1 : RS) (H1 : Heap) (locs1 : List Loc), rA u1 j = upd w k (vp_nar .byte x) → FR [j] [] false u u1 → va_P (dC, dI) vwCl (rW cs b u1) H1 → va_S A H0 H1 locs1 → W p l e R s m args below meth c H1 locs1 cells slots Q (F0 m (pc + 1) ls rest)) : W p l e R s m args below meth c H locs cells slots Q (F0 m pc ls (.int x :: .int (nI k) :: .ref (b j) :: rest)) := by
  have hq : (rW cs b u)[j]? = some (b j, .inl (cs 1, n, .inl (rA u j))) := by rw [rW_at hj, he]
  refine va_bast hexec hb hK hP (r_D hJ hAL) hS j 1 hq rfl (vp_in_nI hk hn) hdg (fun H1 locs1 hP1 hD1 hS1 => ?_)
  rw [nI_clamp (Nat.lt_trans hk hn), hA, rW_set (cs := cs) (b := b) (u := u) (u' := sA u j (upd w k (vp_nar .byte x))) hj (by rw [he, rA_self]) (fun q _ hq => rE_congr (fun _ => rfl) (rA_ne hq) rfl)] at hP1
  exact kk _ H1 locs1 rA_self ⟨fun q hq => rA_ne (fun h => hq (by rw [h]; exact List.mem_singleton.mpr rfl)), fun _ _ => rfl, fun _ _ => rfl⟩ hP1 hS1
theorem r_zast (hexec : p.tables.exec = Jvm.exec) (hb : c.code = cc) (hK : va_K (dC, dI) vwCl (RTY cs) s) (hP : va_P (dC, dI) vwCl (rW cs b u) H) (hJ : RJ b) (hAL : ∀ i, i < 108 → A (b i)) (hS : va_S A H0 H locs) {j n k : Nat} {x : Int32} {w : Nat → Int32} (hj : j < 108) (he : ∀ u : RS, rE cs b u j = .inl (cs 3, n, .inl (rA u j))) (hA : rA u j = w) (hk : k < n) (hn : n < 2 ^ 31) (hdg : decode cc pc = .ok (.bastore, 1))
    (kk : ∀ (u1 : RS) (H1 : Heap) (locs1 : List Loc), rA u1 j = upd w k (vp_nar .boolean x) → FR [j] [] false u u1 → va_P (dC, dI) vwCl (rW cs b u1) H1 → va_S A H0 H1 locs1 → W p l e R s m args below meth c H1 locs1 cells slots Q (F0 m (pc + 1) ls rest)) : W p l e R s m args below meth c H locs cells slots Q (F0 m pc ls (.int x :: .int (nI k) :: .ref (b j) :: rest)) := by
  have hq : (rW cs b u)[j]? = some (b j, .inl (cs 3, n, .inl (rA u j))) := by rw [rW_at hj, he]
  refine va_zast hexec hb hK hP (r_D hJ hAL) hS j 3 hq rfl (vp_in_nI hk hn) hdg (fun H1 locs1 hP1 hD1 hS1 => ?_)
  rw [nI_clamp (Nat.lt_trans hk hn), hA, rW_set (cs := cs) (b := b) (u := u) (u' := sA u j (upd w k (vp_nar .boolean x))) hj (by rw [he, rA_self]) (fun q _ hq => rE_congr (fun _ => rfl) (rA_ne hq) rfl)] at hP1
  exact kk _ H1 locs1 rA_self ⟨fun q hq => rA_ne (fun h => hq (by rw [h]; exact List.mem_singleton.mpr rfl)), fun _ _ => rfl, fun _ _ => rfl⟩ hP1 hS1
theorem r_last (hexec : p.tables.exec = Jvm.exec) (hb : c.code = cc) (hK : va_K (dC, dI) vwCl (RTY cs) s) (hP : va_P (dC, dI) vwCl (rW cs b u) H) (hJ : RJ b) (hAL : ∀ i, i < 108 → A (b i)) (hS : va_S A H0 H locs) {j n k : Nat} {x : Int64} (hj : j < 108) (he : ∀ u : RS, rE cs b u j = .inl (cs 2, n, .inr (.inl (rL u j)))) (hk : k < n) (hn : n < 2 ^ 31) (hdg : decode cc pc = .ok (.lastore, 1))
    (kk : ∀ (u1 : RS) (H1 : Heap) (locs1 : List Loc), rL u1 j = vp_updL (rL u j) k x → (∀ q, q ≠ j → rL u1 q = rL u q) → FR [] [] true u u1 → va_P (dC, dI) vwCl (rW cs b u1) H1 → va_S A H0 H1 locs1 → W p l e R s m args below meth c H1 locs1 cells slots Q (F0 m (pc + 1) ls rest)) : W p l e R s m args below meth c H locs cells slots Q (F0 m pc ls (.long x :: .int (nI k) :: .ref (b j) :: rest)) := by
  have hq : (rW cs b u)[j]? = some (b j, .inl (cs 2, n, .inr (.inl (rL u j)))) := by rw [rW_at hj, he]
  refine va_last hexec hb hK hP (r_D hJ hAL) hS j 2 hq rfl (vp_in_nI hk hn) hdg (fun H1 locs1 hP1 hD1 hS1 => ?_)
  rw [nI_clamp (Nat.lt_trans hk hn), rW_set (cs := cs) (b := b) (u := u) (u' := sL u j (vp_updL (rL u j) k x)) hj (by rw [he, rL_self]) (fun q _ hq => rE_congr (fun _ => rfl) rfl (rL_ne hq))] at hP1
  exact kk _ H1 locs1 rL_self (fun q hq => rL_ne hq) ⟨fun _ _ => rfl, fun _ _ => rfl, fun h => absurd h (by decide)⟩ hP1 hS1
theorem r_recv {q : vw_C} (hK : va_K (dC, dI) vwCl tys s) (hP : va_P (dC, dI) vwCl (rW cs b u) H) (hc : vwCl[11]? = some q) : ∃ cell : Cell, H[b 0]? = some cell ∧ cell.vm.isStatics = false ∧ s.vm.findClass q.1 = some cell.cls :=
  va_recv hK hP hc (rW_at (i := 0) (by decide))
theorem r_pre {av : List Value} (hK : va_K (dC, dI) vwCl (RTY cs) s) (hP : va_P (dC, dI) vwCl (rW cs b u) H) (hJ : RJ b) (hE : EX s) : ∀ U : State, U.heap = H → s.WarmedH U.vm → PR av H.size dC dI cs b u av.toArray U := fun U hU hw =>
  ⟨rfl, by rw [hU], by rw [hU]; exact hP, va_K.moved hw.alike hK, hJ, hE.warm hw⟩
theorem r_free (hAL : ∀ i, i < 108 → A (b i)) (hS : va_S A H0 H locs) (hA : ∀ q, H0.size ≤ q → A q) : ∀ q, AR b H.size q → A q := fun q h => h.elim (fun ⟨i, hi, hq⟩ => by rw [hq]; exact hAL i hi) (fun h => hA q (Nat.le_trans hS.1 h))
theorem rc_i {post : Int32 → RS → Prop} (hAL : ∀ i, i < 108 → A (b i)) (hS : va_S A H0 H locs) (hA : ∀ q, H0.size ≤ q → A q) (hr : va_Run p l e R s m args below meth c H locs cells slots 0 0 (F0 m pc ls st0) rest (va_Qi post (BR dC dI cs b) (AR b H.size) ar) (AR b H.size))
    (kk : ∀ (r : Int32) (u' : RS) (H1 : Heap) (locs1 : List Loc), post r u' → va_P (dC, dI) vwCl (rW cs b u') H1 → va_S A H0 H1 locs1 → W p l e R s m args below meth c H1 locs1 cells slots Q (F0 m (pc + 3) ls (.int r :: rest))) : W p l e R s m args below meth c H locs cells slots Q (F0 m pc ls st0) := by
  have hF := r_free hAL hS hA
  refine va_calli hr hS (fun q _ h => hF q h) hF (fun r u t H1 locs1 ht hvm hw hB hz1 hk1 hS1 => ?_)
  have h2 : va_P (dC, dI) vwCl (rW cs b u) t.heap := hB
  rw [ht] at h2
  exact kk r u H1 locs1 hw h2 hS1
theorem rc_l {post : Int64 → RS → Prop} (hAL : ∀ i, i < 108 → A (b i)) (hS : va_S A H0 H locs) (hA : ∀ q, H0.size ≤ q → A q) (hr : va_Run p l e R s m args below meth c H locs cells slots 0 0 (F0 m pc ls st0) rest (va_Ql post (BR dC dI cs b) (AR b H.size) ar) (AR b H.size))
    (kk : ∀ (r : Int64) (u' : RS) (H1 : Heap) (locs1 : List Loc), post r u' → va_P (dC, dI) vwCl (rW cs b u') H1 → va_S A H0 H1 locs1 → W p l e R s m args below meth c H1 locs1 cells slots Q (F0 m (pc + 3) ls (.long r :: rest))) : W p l e R s m args below meth c H locs cells slots Q (F0 m pc ls st0) := by
  have hF := r_free hAL hS hA
  refine va_calll hr hS (fun q _ h => hF q h) hF (fun r u t H1 locs1 ht hvm hw hB hz1 hk1 hS1 => ?_)
  have h2 : va_P (dC, dI) vwCl (rW cs b u) t.heap := hB
  rw [ht] at h2
  exact kk r u H1 locs1 hw h2 hS1
theorem rc_v {post : RS → Prop} (hAL : ∀ i, i < 108 → A (b i)) (hS : va_S A H0 H locs) (hA : ∀ q, H0.size ≤ q → A q) (hr : va_Run p l e R s m args below meth c H locs cells slots 0 0 (F0 m pc ls st0) rest (va_Qv post (BR dC dI cs b) (AR b H.size) ar) (AR b H.size))
    (kk : ∀ (u' : RS) (H1 : Heap) (locs1 : List Loc), post u' → va_P (dC, dI) vwCl (rW cs b u') H1 → va_S A H0 H1 locs1 → W p l e R s m args below meth c H1 locs1 cells slots Q (F0 m (pc + 3) ls rest)) : W p l e R s m args below meth c H locs cells slots Q (F0 m pc ls st0) := by
  have hF := r_free hAL hS hA
  refine va_callv hr hS (fun q _ h => hF q h) hF (fun u t H1 locs1 ht hvm hw hB hz1 hk1 hS1 => ?_)
  have h2 : va_P (dC, dI) vwCl (rW cs b u) t.heap := hB
  rw [ht] at h2
  exact kk u H1 locs1 hw h2 hS1
/-- a loop over the reference's world -/
theorem r_ind {I : Nat → RS → Heap → List Loc → Array Slot → Prop}
    (step : ∀ (n : Nat) (u : RS) (H : Heap) (locs : List Loc) (ls : Array Slot), I n u H locs ls → (∀ (n' : Nat) (u' : RS) (H' : Heap) (locs' : List Loc) (ls' : Array Slot), n' < n → I n' u' H' locs' ls' → W p l e R s m args below meth c H' locs' cells slots Q (F0 m pc ls' [])) → W p l e R s m args below meth c H locs cells slots Q (F0 m pc ls [])) :
    ∀ (n : Nat) (u : RS) (H : Heap) (locs : List Loc) (ls : Array Slot), I n u H locs ls → W p l e R s m args below meth c H locs cells slots Q (F0 m pc ls []) := by
  intro n
  induction n using Nat.strongRecOn with
  | ind n ih => intro u H locs ls hI; exact step n u H locs ls hI (fun n' u' H' locs' ls' hn hI' => ih n' hn u' H' locs' ls' hI')
theorem r_indP {I : Nat → Array Slot → Prop}
    (step : ∀ (n : Nat) (ls : Array Slot), I n ls → (∀ (n' : Nat) (ls' : Array Slot), n' < n → I n' ls' → W p l e R s m args below meth c H locs cells slots Q (F0 m pc ls' [])) → W p l e R s m args below meth c H locs cells slots Q (F0 m pc ls [])) :
    ∀ (n : Nat) (ls : Array Slot), I n ls → W p l e R s m args below meth c H locs cells slots Q (F0 m pc ls []) := by
  intro n
  induction n using Nat.strongRecOn with
  | ind n ih => intro ls hI; exact step n ls hI (fun n' ls' hn hI' => ih n' hn ls' hI')
end RTH
/-! comparisons, by what the ints are worth -/
theorem b_lt {x y : Int32} {X Y : Int} (ex : x.toInt = X) (ey : y.toInt = Y) : x < y ↔ X < Y := by rw [Int32.lt_iff_toInt_lt, ex, ey]
theorem b_le {x y : Int32} {X Y : Int} (ex : x.toInt = X) (ey : y.toInt = Y) : x ≤ y ↔ X ≤ Y := by rw [Int32.le_iff_toInt_le, ex, ey]
theorem b_eq {x y : Int32} {X Y : Int} (ex : x.toInt = X) (ey : y.toInt = Y) : x = y ↔ X = Y := by rw [← Int32.toInt_inj, ex, ey]
theorem z_rng (x : Int32) : -2147483648 ≤ x.toInt ∧ x.toInt ≤ 2147483647 := by
  have h1 := Int32.le_toInt x
  have h2 := Int32.toInt_lt x
  constructor <;> omega
theorem z_add {x y : Int32} {X Y : Int} (ex : x.toInt = X) (ey : y.toInt = Y) (h : -2147483648 ≤ X + Y) (h2 : X + Y ≤ 2147483647) : (x + y).toInt = X + Y := by
  rw [Int32.toInt_add, ex, ey]
  unfold Int.bmod
  dsimp only
  split <;> omega
theorem z_sub {x y : Int32} {X Y : Int} (ex : x.toInt = X) (ey : y.toInt = Y) (h : -2147483648 ≤ X - Y) (h2 : X - Y ≤ 2147483647) : (x - y).toInt = X - Y := by
  rw [Int32.toInt_sub, ex, ey]
  unfold Int.bmod
  dsimp only
  split <;> omega
theorem z_nat {x : Int32} {X : Int} {j : Nat} (ex : x.toInt = X) (h : X = (j : Int)) : x = nI j := by
  have hr := z_rng x
  have h3 : j < 2 ^ 31 := by omega
  rw [← Int32.toInt_inj, nI_toInt h3, ex, h]
theorem z_ex {x : Int32} {n : Nat} (h0 : 0 ≤ x.toInt) (h1 : x.toInt < (n : Int)) : ∃ k : Nat, x = nI k ∧ k < n := by
  obtain ⟨j, hj⟩ : ∃ j : Nat, x.toInt = (j : Int) := ⟨x.toInt.toNat, by omega⟩
  exact ⟨j, z_nat rfl hj, by omega⟩
theorem z_rem {x y : Int32} {o : Nat} (hy : y = nI o) (h1 : 1 ≤ o) (h2 : o < 2147483648) : -(o : Int) < (x - x / y * y).toInt ∧ (x - x / y * y).toInt < o := by
  have e : y.toInt = (o : Int) := by rw [hy, nI_toInt (by omega)]
  have := i_rem (x := x) (y := y) (by omega)
  rw [e] at this
  exact this
theorem l_ne0 {n : Nat} (h0 : 0 < n) (h : n < 2 ^ 63) : ¬ lN n = 0 := fun e => by
  have := pk_lT h
  rw [e] at this
  have h3 : (0 : Int64).toInt = 0 := rfl
  omega
theorem upd_lt {g g1 R : Nat → Int32} {k : Nat} {x : Int32} (h : g = upd g1 k x) (hx : x = R k) (ih : ∀ q, q < k → g1 q = R q) : ∀ q, q < k + 1 → g q = R q := fun q hq => by
  by_cases e : q = k
  · subst e
    rw [h, ← hx]
    exact pk_us
  · rw [h, pk_un e]
    exact ih q (by omega)
theorem upd_at {g g1 R : Nat → Int32} {o k : Nat} {x : Int32} (h : g = upd g1 (o + k) x) (hx : x = R k) (ih : ∀ q, q < k → g1 (o + q) = R q) : ∀ q, q < k + 1 → g (o + q) = R q := fun q hq => by
  by_cases e : q = k
  · subst e
    rw [h, ← hx]
    exact pk_us
  · rw [h, pk_un (by omega)]
    exact ih q (by omega)
theorem z_neg {x : Int32} {X : Int} (ex : x.toInt = X) (h : -2147483648 < X) : (-x).toInt = -X := by
  have hr := z_rng x
  rw [Int32.toInt_neg, ex]
  unfold Int.bmod
  dsimp only
  split <;> omega
