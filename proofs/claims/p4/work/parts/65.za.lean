/-! the reader's world and the typed heap side by side: load -/
theorem z_keep {D : va_G} {cl : List vw_C} {ws : va_W} {H H1 : Heap} (h : va_P D cl ws H) (hk : ∀ (k : Nat) (q : Nat × va_E), ws[k]? = some q → q.1 < H.size → H1[q.1]? = H[q.1]?) : va_P D cl ws H1 := fun k q hq => (h k q hq).kept (hk k q hq (h k q hq).lt)
def AZ (G : GT) (b : Nat → Nat) (sz : Nat) : Nat → Prop := fun q => q ∈ gL G ∨ (∃ i, i < 12 ∧ q = b i) ∨ sz ≤ q
def ZT (dC : Nat → ClassId) (dI : Nat → Nat → Nat) (b : Nat → Nat) (G : GT) (ct : Nat → ClassId) (t0 m0 : Nat) (U : State) : Prop := (∃ f, OKT G ct t0 m0 f ∧ va_P (dC, dI) vwCl (va_pl (gL G) f) U.heap) ∧ va_K (dC, dI) vwCl (TYS ct) U ∧ (gL G).Nodup ∧ WT G ∧ ∀ i, i < 12 → b i ∉ gL G
def PZ (av : List Value) (sz : Nat) (dC : Nat → ClassId) (dI : Nat → Nat → Nat) (cs : Nat → ClassId) (b : Nat → Nat) (u : RS) (adK adV : Nat → Nat) (G : GT) (ct : Nat → ClassId) (t0 m0 : Nat) : Array Value → State → Prop :=
  va_Pc av (fun U => U.heap.size = sz ∧ va_P (dC, dI) vwCl (qW cs b u) U.heap ∧ va_K (dC, dI) vwCl (QTY cs) U ∧ QJ b ∧ EX U ∧ SX adK adV (AZ G b sz) U U.heap ∧ vk_R "GluedWords$Tokens" 68 "vertex" (adK 0) U ∧ vk_R "GluedWords$Tokens" 74 "edge" (adK 1) U ∧ vk_R "GluedWords$Tokens" 76 "word" (adK 2) U ∧ ZT dC dI b G ct t0 m0 U)
theorem PZ.blind {av : List Value} {sz : Nat} {dC : Nat → ClassId} {dI : Nat → Nat → Nat} {cs : Nat → ClassId} {b : Nat → Nat} {u : RS} {adK adV : Nat → Nat} {G : GT} {ct : Nat → ClassId} {t0 m0 : Nat} : FrameBlind (PZ av sz dC dI cs b u adK adV G ct t0 m0) := fun a U g mk q => by
  obtain ⟨q0, q1, qP, qK, qD, qE, qX, z0, z1, z2, zt, zk, zn⟩ := q
  exact ⟨q0, q1, qP, va_K.moved (u := U) (U := U.calling g mk a) (Vm.Alike.refl U.vm) qK, qD, qE.blind, SX.moved (u := U) (U := U.calling g mk a) (Vm.Alike.refl U.vm) qX, vk_R.same (u := U) (U := U.calling g mk a) rfl z0, vk_R.same (u := U) (U := U.calling g mk a) rfl z1, vk_R.same (u := U) (U := U.calling g mk a) rfl z2, zt, va_K.moved (u := U) (U := U.calling g mk a) (Vm.Alike.refl U.vm) zk, zn⟩
def BZ (dC : Nat → ClassId) (dI : Nat → Nat → Nat) (cs : Nat → ClassId) (b : Nat → Nat) (G : GT) (ct : Nat → ClassId) (t0 m0 : Nat) : RS → State → Prop := fun u t => va_P (dC, dI) vwCl (qW cs b u) t.heap ∧ ∃ f, OKT G ct t0 m0 f ∧ va_P (dC, dI) vwCl (va_pl (gL G) f) t.heap
def PW (av : List Value) (sz : Nat) (dC : Nat → ClassId) (dI : Nat → Nat → Nat) (tys : List (ClassId × FieldType)) (ws : va_W) : Array Value → State → Prop :=
  va_Pc av (fun U => U.heap.size = sz ∧ va_P (dC, dI) vwCl ws U.heap ∧ va_K (dC, dI) vwCl tys U ∧ EX U)
theorem PW.blind {av : List Value} {sz : Nat} {dC : Nat → ClassId} {dI : Nat → Nat → Nat} {tys : List (ClassId × FieldType)} {ws : va_W} : FrameBlind (PW av sz dC dI tys ws) := fun a U g mk q => by
  obtain ⟨q0, q1, qP, qK, qE⟩ := q
  exact ⟨q0, q1, qP, va_K.moved (u := U) (U := U.calling g mk a) (Vm.Alike.refl U.vm) qK, qE.blind⟩
section ZTH
variable {p : Program} {l : Launch} {e : Env} {R : Room} {s : State} {m : MethodId} {args : Array Value} {below : List Frame} {meth : Method} {c : Code} {H : Heap} {locs : List Loc} {cells slots : Nat} {Q : State → Prop}
variable {cc : ByteArray} {pc : Nat} {ls : Array Slot} {rest st0 : List Value} {A : Nat → Prop} {a : Nat} {H0 : Heap} {ar : Array Value}
variable {dC : Nat → ClassId} {dI : Nat → Nat → Nat} {cs : Nat → ClassId} {b : Nat → Nat} {u : RS} {G : GT} {ct : Nat → ClassId} {t0 m0 t2 m2 : Nat} {f : Nat → va_E} {tys : List (ClassId × FieldType)} {ws : va_W}
theorem z_pl {k : Nat} {q : Nat × va_E} (hq : (va_pl (gL G) f)[k]? = some q) : q.1 ∈ gL G ∧ q.2 = f q.1 := by
  simp only [va_pl, List.getElem?_map, Option.map_eq_some_iff] at hq
  obtain ⟨z, hz, rfl⟩ := hq
  exact ⟨List.mem_of_getElem? hz, rfl⟩
theorem z_qw {k : Nat} {q : Nat × va_E} (hq : (qW cs b u)[k]? = some q) : k < 12 ∧ q = (b k, qE cs b u k) := by
  have h1 : k < 12 := by have := (List.getElem?_eq_some_iff.mp hq).1; rw [qW_len] at this; exact this
  rw [qW_at h1] at hq
  cases hq
  exact ⟨h1, rfl⟩
/-- a typed call leaves the reader's world -/
theorem zt_k {H1 : Heap} (hDJ : ∀ i, i < 12 → b i ∉ gL G) (hP : va_P (dC, dI) vwCl (qW cs b u) H) (hk : ∀ q : Nat, q < H.size → ¬ AT G H.size q → H1[q]? = H[q]?) : va_P (dC, dI) vwCl (qW cs b u) H1 := by
  refine z_keep hP (fun k q hq hlt => hk _ hlt (fun h => ?_))
  obtain ⟨h1, rfl⟩ := z_qw hq
  rcases h with h | h
  · exact hDJ k h1 h
  · exact absurd hlt (Nat.not_lt.mpr h)
/-- a call of the reader's leaves the typed heap -/
theorem zq_k {H1 : Heap} (hDJ : ∀ i, i < 12 → b i ∉ gL G) (hP1 : va_P (dC, dI) vwCl (va_pl (gL G) f) H) (hk : ∀ q : Nat, q < H.size → ¬ AQ b H.size q → H1[q]? = H[q]?) : va_P (dC, dI) vwCl (va_pl (gL G) f) H1 := by
  refine z_keep hP1 (fun k q hq hlt => hk _ hlt (fun h => ?_))
  have hm := (z_pl hq).1
  rcases h with ⟨i, hi, h⟩ | h
  · rw [h] at hm
    exact hDJ i hi hm
  · exact absurd hlt (Nat.not_lt.mpr h)
theorem zc_i {post : Int32 → RS → Prop} (hDJ : ∀ i, i < 12 → b i ∉ gL G) (hP1 : va_P (dC, dI) vwCl (va_pl (gL G) f) H) (hAL : ∀ i, i < 12 → A (b i)) (hS : va_S A H0 H locs) (hA : ∀ q, H0.size ≤ q → A q) (hr : va_Run p l e R s m args below meth c H locs cells slots 0 0 (F0 m pc ls st0) rest (va_Qi post (BQ dC dI cs b) (AQ b H.size) ar) (AQ b H.size))
    (kk : ∀ (r : Int32) (u' : RS) (H1 : Heap) (locs1 : List Loc), post r u' → va_P (dC, dI) vwCl (qW cs b u') H1 → va_P (dC, dI) vwCl (va_pl (gL G) f) H1 → va_S A H0 H1 locs1 → W p l e R s m args below meth c H1 locs1 cells slots Q (F0 m (pc + 3) ls (.int r :: rest))) : W p l e R s m args below meth c H locs cells slots Q (F0 m pc ls st0) := by
  have hF := q_free hAL hS hA
  refine va_calli hr hS (fun q _ h => hF q h) hF (fun r u t H1 locs1 ht hvm hw hB hz1 hk1 hS1 => ?_)
  have h2 : va_P (dC, dI) vwCl (qW cs b u) t.heap := hB
  rw [ht] at h2
  exact kk r u H1 locs1 hw h2 (zq_k hDJ hP1 hk1) hS1
theorem zt_v {post : (Nat → va_E) → Prop} (hDJ : ∀ i, i < 12 → b i ∉ gL G) (hP : va_P (dC, dI) vwCl (qW cs b u) H) (hAT : ∀ a, a ∈ gL G → A a) (hS : va_S A H0 H locs) (hA : ∀ q, H0.size ≤ q → A q) (hr : va_Run p l e R s m args below meth c H locs cells slots 0 0 (F0 m pc ls st0) rest (va_Qv post (BT dC dI G ct t2 m2) (AT G H.size) ar) (AT G H.size))
    (kk : ∀ (f' : Nat → va_E) (H1 : Heap) (locs1 : List Loc), post f' → OKT G ct t2 m2 f' → va_P (dC, dI) vwCl (va_pl (gL G) f') H1 → va_P (dC, dI) vwCl (qW cs b u) H1 → va_S A H0 H1 locs1 → W p l e R s m args below meth c H1 locs1 cells slots Q (F0 m (pc + 3) ls rest)) : W p l e R s m args below meth c H locs cells slots Q (F0 m pc ls st0) := by
  have hF := th_free hAT hS hA
  refine va_callv hr hS (fun q _ h => hF q h) hF (fun u t H1 locs1 ht hvm hw hB hz1 hk1 hS1 => ?_)
  obtain ⟨h1, h2⟩ := hB
  rw [ht] at h2
  exact kk u H1 locs1 hw h1 h2 (zt_k hDJ hP hk1) hS1
theorem z_DD (hJ : QJ b) (hAL : ∀ i, i < 12 → A (b i)) (hnd : (gL G).Nodup) (hAT : ∀ a, a ∈ gL G → A a) (hDJ : ∀ i, i < 12 → b i ∉ gL G) : va_D A (qW cs b u ++ va_pl (gL G) f) := by
  refine va_D.app (q_D hJ hAL) (th_D hnd hAT) (fun i j x y hx hy hxy => ?_)
  obtain ⟨h1, rfl⟩ := z_qw hx
  have h2 := (z_pl hy).1
  rw [← hxy] at h2
  exact hDJ i h1 h2
theorem z_sp {w1 w2 : va_W} {D : va_G} {cl : List vw_C} (h : va_P D cl (w1 ++ w2) H) : va_P D cl w1 H ∧ va_P D cl w2 H := by
  refine ⟨fun k q hq => h k q ?_, fun k q hq => h (w1.length + k) q ?_⟩
  · rw [List.getElem?_append_left (List.getElem?_eq_some_iff.mp hq).1]; exact hq
  · rw [List.getElem?_append_right (Nat.le_add_right _ _), Nat.add_sub_cancel_left]; exact hq
theorem zq_put (hP1 : va_P (dC, dI) vwCl (va_pl (gL G) f) H) (hnd : (gL G).Nodup) (hDJ : ∀ i, i < 12 → b i ∉ gL G) (hAT : ∀ a, a ∈ gL G → A a) (hexec : p.tables.exec = Jvm.exec) (hb : c.code = cc) {own ref C : String} {T : u_T} {N index ci : Nat} {vs : List Value} {ty : FieldType} (j K : Nat) (hj : j < 12) (hlay : ∀ w ∈ u_ws C T N, w.before args s = true) (ty0 : Nat → FieldType) (hty : ∀ k, k < N → parseFieldDescriptor (T k).2.2.1 = some (ty0 k)) (hnm : ∀ a, a < N → ∀ b, b < N → a ≠ b → (T a).2.1 ≠ (T b).2.1) (hown : s.vm.findClass own = some m.cls) (hK : va_K (dC, dI) vwCl (QTY cs) s) (hP : va_P (dC, dI) vwCl (qW cs b u) H) (hJ : QJ b) (hAL : ∀ i, i < 12 → A (b i)) (hS : va_S A H0 H locs) (hc : vwCl[ci]? = some (C, T, N)) (k : Nat) (hk : k < N) (hlink : (Cond.fieldLink own index ref (T k).2.1 (T k).2.2.1).before args s = true) (hsame : ∀ x, s.fieldFound? (T k).1 (T k).2.1 (T k).2.2.1 = some x → s.fieldFound? ref (T k).2.1 (T k).2.2.1 = some x) (hfin : (T k).2.2.2 = false) {v : Int32} (hd : parseFieldDescriptor (T k).2.2.1 = some ty) (hfit : fits ty (.int v) = true) (hnar : narrow ty (.int v) = .int v) (he : qE cs b u j = .inr (ci, vs)) (he2 : qE cs b (sF u K v) j = .inr (ci, vs.set k (.int v))) (ho : ∀ q, q ≠ j → qE cs b (sF u K v) q = qE cs b u q) (hl : k < vs.length) (hdg : decode cc pc = .ok (.putfield index, 3))
    (kk : ∀ (u1 : RS) (H1 : Heap) (locs1 : List Loc), rF u1 K = v → FR [] [K] false u u1 → va_P (dC, dI) vwCl (qW cs b u1) H1 → va_P (dC, dI) vwCl (va_pl (gL G) f) H1 → va_S A H0 H1 locs1 → W p l e R s m args below meth c H1 locs1 cells slots Q (F0 m (pc + 3) ls rest)) : W p l e R s m args below meth c H locs cells slots Q (F0 m pc ls (.int v :: .ref (b j) :: rest)) := by
  refine va_put hexec hb hlay (fun _ h => h) ty0 hty hnm hown hK (va_P.app hP hP1) (z_DD hJ hAL hnd hAT hDJ) hS j (by rw [List.getElem?_append_left (by rw [qW_len]; exact hj), qW_at hj, he]) hc k hk hlink hsame hfin hd hnar hfit hl hdg (fun H1 locs1 hP9 hD1 hS1 => ?_)
  rw [List.set_append_left _ _ (by rw [qW_len]; exact hj), qW_set (cs := cs) (b := b) (u := u) (u' := sF u K v) hj he2 (fun q _ hq => ho q hq)] at hP9
  exact kk _ H1 locs1 rF_self ⟨fun _ _ => rfl, fun q hq => rF_ne (fun h => hq (by rw [h]; exact List.mem_singleton.mpr rfl)), fun _ _ => rfl⟩ (z_sp hP9).1 (z_sp hP9).2 hS1
theorem zx_pre {av : List Value} {adK adV : Nat → Nat} (hK : va_K (dC, dI) vwCl (QTY cs) s) (hP : va_P (dC, dI) vwCl (qW cs b u) H) (hJ : QJ b) (hE : EX s) (hX : SX adK adV (AZ G b s.heap.size) s s.heap) (z0 : vk_R "GluedWords$Tokens" 68 "vertex" (adK 0) s) (z1 : vk_R "GluedWords$Tokens" 74 "edge" (adK 1) s) (z2 : vk_R "GluedWords$Tokens" 76 "word" (adK 2) s) (hS : va_S (AZ G b s.heap.size) s.heap H locs) : ∀ U : State, U.heap = H → s.WarmedH U.vm → PQX av H.size dC dI cs b u adK adV av.toArray U := fun U hU hw =>
  ⟨rfl, by rw [hU], by rw [hU]; exact hP, va_K.moved hw.alike hK, hJ, hE.warm hw, by rw [hU]; exact ((hX.kept hS.2.1).narrow (fun q h => h.elim (fun h => Or.inr (Or.inl h)) (fun h => Or.inr (Or.inr (Nat.le_trans hS.1 h))))).moved hw.alike, z0.warm hw, z1.warm hw, z2.warm hw⟩
theorem pw_pre {av : List Value} (hK : va_K (dC, dI) vwCl tys s) (hP : va_P (dC, dI) vwCl ws H) (hE : EX s) : ∀ U : State, U.heap = H → s.WarmedH U.vm → PW av H.size dC dI tys ws av.toArray U := fun U hU hw =>
  ⟨rfl, by rw [hU], by rw [hU]; exact hP, va_K.moved hw.alike hK, hE.warm hw⟩
theorem pw_1 {q : Nat × va_E} {D : va_G} {cl : List vw_C} (h : va_at D cl q H) : va_P D cl [q] H := fun k x hx => by
  match k, hx with
  | 0, hx => cases hx; exact h
  | k + 1, hx => cases hx
theorem pw_c {q : Nat × va_E} {D : va_G} {cl : List vw_C} (h : va_at D cl q H) (h2 : va_P D cl ws H) : va_P D cl (q :: ws) H := va_P.app (w1 := [q]) (pw_1 h) h2
theorem z_at {x : va_E} (hP1 : va_P (dC, dI) vwCl (va_pl (gL G) f) H) (ha : a ∈ gL G) (he : f a = x) : va_at (dC, dI) vwCl (a, x) H := by
  obtain ⟨k, hk⟩ := th_place ha he
  exact hP1 k _ hk
theorem z_aq {i : Nat} {x : va_E} (hP : va_P (dC, dI) vwCl (qW cs b u) H) (hi : i < 12) (he : qE cs b u i = x) : va_at (dC, dI) vwCl (b i, x) H := hP i _ (by rw [qW_at hi, he])
/-- the copy: one row of the typed heap takes what the draft's has -/
theorem z_copy {dc : Nat} {h w : Nat → Int32} (hJ : QJ b) (hDJ : ∀ i, i < 12 → b i ∉ gL G) (hP : va_P (dC, dI) vwCl (qW cs b u) H) (hP1 : va_P (dC, dI) vwCl (va_pl (gL G) f) H) (hok : OKT G ct t0 m0 f) (hdc : Ty G dc 21) (hn : gN G dc = 543) (hd : rA u 7 = h) (hAL : ∀ i, i < 12 → A (b i)) (hAT : ∀ a, a ∈ gL G → A a) (hS : va_S A H0 H locs) (hA : ∀ q, H0.size ≤ q → A q)
    (hr : va_Run p l e R s m args below meth c H locs cells slots 0 0 (F0 m pc ls st0) rest (va_Qv (fun (_ : Unit) => True) (fun _ t => va_P (dC, dI) vwCl [(dc, .inl (ct 0, 543, .inl w)), (b 7, .inl (cs 0, 543, .inl h))] t.heap) (fun q => q = dc ∨ q = b 7 ∨ H.size ≤ q) ar) (fun q => q = dc ∨ q = b 7 ∨ H.size ≤ q))
    (kk : ∀ (f' : Nat → va_E) (H1 : Heap) (locs1 : List Loc), f' dc = .inl (ct 0, 543, .inl w) → (∀ q, q ≠ dc → f' q = f q) → OKT G ct t0 m0 f' → va_P (dC, dI) vwCl (va_pl (gL G) f') H1 → va_P (dC, dI) vwCl (qW cs b u) H1 → va_S A H0 H1 locs1 → W p l e R s m args below meth c H1 locs1 cells slots Q (F0 m (pc + 3) ls rest)) : W p l e R s m args below meth c H locs cells slots Q (F0 m pc ls st0) := by
  have hF : ∀ q, (q = dc ∨ q = b 7 ∨ H.size ≤ q) → A q := fun q h => by
    rcases h with h | h | h
    · rw [h]; exact hAT _ hdc.1
    · rw [h]; exact hAL 7 (by decide)
    · exact hA q (Nat.le_trans hS.1 h)
  refine va_callv hr hS (fun q _ h => hF q h) hF (fun _ t H1 locs1 ht hvm hw hB hz1 hk1 hS1 => ?_)
  have hB : va_P (dC, dI) vwCl [(dc, .inl (ct 0, 543, .inl w)), (b 7, .inl (cs 0, 543, .inl h))] t.heap := hB
  rw [ht] at hB
  refine kk (va_up f dc (.inl (ct 0, 543, .inl w))) H1 locs1 (va_up_self _ _ _) (fun q hq => va_up_ne _ _ hq) (up_21 hok hdc ⟨w, by rw [hn]⟩) (fun k q hq => ?_) (fun k q hq => ?_) hS1
  · obtain ⟨h1, h2⟩ := z_pl hq
    obtain ⟨qa, qe⟩ := q
    have h1 : qa ∈ gL G := h1
    have h2 : qe = va_up f dc (.inl (ct 0, 543, .inl w)) qa := h2
    subst h2
    by_cases e : qa = dc
    · subst e
      rw [va_up_self]
      exact hB 0 _ rfl
    · rw [va_up_ne _ _ e]
      have h3 := z_at hP1 h1 rfl
      refine h3.kept (hk1 qa h3.lt (fun h => ?_))
      rcases h with h | h | h
      · exact e h
      · rw [h] at h1; exact hDJ 7 (by decide) h1
      · exact absurd h3.lt (Nat.not_lt.mpr h)
  · have h0 := hP k q hq
    obtain ⟨h1, rfl⟩ := z_qw hq
    by_cases e : b k = b 7
    · have e7 := hJ k 7 h1 (by decide) e
      subst e7
      have h9 := hB 1 _ rfl
      show va_at (dC, dI) vwCl (b 7, qE cs b u 7) H1
      rw [show qE cs b u 7 = .inl (cs 0, 543, .inl (rA u 7)) from rfl, hd]
      exact h9
    · refine h0.kept (hk1 _ h0.lt (fun h => ?_))
      rcases h with h | h | h
      · have h : b k = dc := h
        rw [← h] at hdc
        exact hDJ k h1 hdc.1
      · exact e h
      · exact absurd h0.lt (Nat.not_lt.mpr h)
end ZTH
set_option maxHeartbeats 4000000 in
set_option maxRecDepth 100000 in
theorem e_X7_words (l : Launch) (dC : Nat → ClassId) (dI : Nat → Nat → Nat) (sz : Nat) (c0 : ClassId) (d dc : Nat) (g : Nat → Int32) : Met l yX7_words [.code yX7_words cX7_words 1 (some .int)] ({ frames := 0, cells := 0, slots := 0, locals := 0 }) (PW [.ref d] sz dC dI [(c0, .int)] [(d, .inr (6, [.ref dc])), (dc, .inl (c0, 543, .inl g))]) (vp_Si (fun (r : Int32) => r = g 2)) 0 0 (fun _ => False) := by
  refine Met.ofW (cc := cX7_words) (maxL := 1) (ret := (some .int)) (by decide) rfl ?_
  intro p e s m args below meth c s₁ B hml hv
  obtain ⟨rfl, hsz, hP, hK, hE⟩ := hv
  have hx := B.exec
  have hb := B.bytes
  have hr := B.returns
  have hown : s.vm.findClass RX7 = some m.cls := findClass_of_methodNamed B.named
  have hlocks := B.notSynchronized
  subst hsz
  have hl := lv_entry ([.ref d]) (n := 1) (Nat.le_of_ble_eq_true rfl)
  rw [lg_entry_eq]
  generalize (lg_sl ([.ref d]) ++ List.replicate (1 - (lg_sl ([.ref d])).length) Slot.unset).toArray = ls at hl ⊢
  have hl : lv_has ls 1 [(0, .ref d)] := hl
  refine lv_aload_n hx hb dX7_words_0 rfl (lv_at hl 0 rfl) ?_
  refine va_get hx hb (ly_X7 hE) (fun _ h => h) hown hK hP 0 rfl rfl 0 (by decide) (wd_149 hE) (fun _ h9 => h9) (v := .ref dc) rfl dX7_words_1 ?_
  refine lv_iconst (v := 2) hx hb dX7_words_4 (by decide) ?_
  refine va_iald hx hb hK hP 1 0 (i := nI 2) (a := dc) (f := g) rfl rfl (vp_in_nI (by decide) (by decide)) dX7_words_5 ?_
  exact W.iret (v := g 2) hx hb hr (fun t ht hW => ⟨g 2, rfl, rfl, ht⟩) (fun _ h => absurd h List.not_mem_nil) dX7_words_6

set_option maxHeartbeats 4000000 in
set_option maxRecDepth 100000 in
theorem e_X7_copyFrom (l : Launch) (dC : Nat → ClassId) (dI : Nat → Nat → Nat) (sz : Nat) (c0 c1 : ClassId) (d dc s9 sc : Nat) (g h : Nat → Int32) (hne : dc ≠ sc) : Met l yX7_copyFrom [.code yX7_copyFrom cX7_copyFrom 2 none] ({ frames := 1, cells := 0, slots := 0, locals := 40 }) (PW [.ref d, .ref s9] sz dC dI [(c0, .int), (c1, .int)] ((d, .inr (6, [.ref dc])) :: (s9, .inr (6, [.ref sc])) :: [(dc, .inl (c0, 543, .inl g)), (sc, .inl (c1, 543, .inl h))])) (va_Qv (fun (_ : Unit) => True) (fun _ t => va_P (dC, dI) vwCl [(dc, .inl (c0, 543, .inl (va_cpy h g 0 0 543))), (sc, .inl (c1, 543, .inl h))] t.heap) (fun q => q = dc ∨ q = sc ∨ sz ≤ q)) 0 0 (fun q => q = dc ∨ q = sc ∨ sz ≤ q) := by
  refine Met.ofW (cc := cX7_copyFrom) (maxL := 2) (ret := none) (by decide) rfl ?_
  intro p e s m args below meth c s₁ B hml hv
  obtain ⟨rfl, hsz, hP, hK, hE⟩ := hv
  have hx := B.exec
  have hb := B.bytes
  have hr := B.returns
  have hown : s.vm.findClass RX7 = some m.cls := findClass_of_methodNamed B.named
  have hlocks := B.notSynchronized
  subst hsz
  have hl := lv_entry ([.ref d, .ref s9]) (n := 2) (Nat.le_of_ble_eq_true rfl)
  rw [lg_entry_eq]
  generalize (lg_sl ([.ref d, .ref s9]) ++ List.replicate (2 - (lg_sl ([.ref d, .ref s9])).length) Slot.unset).toArray = ls at hl ⊢
  have hl : lv_has ls 2 [(0, .ref d), (1, .ref s9)] := hl
  have hS : va_S (fun q => q = dc ∨ q = sc ∨ s.heap.size ≤ q) s.heap s.heap [] := va_S.rf
  refine lv_aload_n hx hb dX7_copyFrom_0 rfl (lv_at hl 1 rfl) ?_
  refine va_get hx hb (ly_X7 hE) (fun _ h => h) hown hK hP 1 rfl rfl 0 (by decide) (wd_149 hE) (fun _ h9 => h9) (v := .ref sc) rfl dX7_copyFrom_1 ?_
  refine lv_iconst (v := 0) hx hb dX7_copyFrom_4 (by decide) ?_
  refine lv_aload_n hx hb dX7_copyFrom_5 rfl (lv_at hl 0 rfl) ?_
  refine va_get hx hb (ly_X7 hE) (fun _ h => h) hown hK hP 0 rfl rfl 0 (by decide) (wd_149 hE) (fun _ h9 => h9) (v := .ref dc) rfl dX7_copyFrom_6 ?_
  refine lv_iconst (v := 0) hx hb dX7_copyFrom_9 (by decide) ?_
  refine lv_aload_n hx hb dX7_copyFrom_10 rfl (lv_at hl 1 rfl) ?_
  refine va_get hx hb (ly_X7 hE) (fun _ h => h) hown hK hP 1 rfl rfl 0 (by decide) (wd_149 hE) (fun _ h9 => h9) (v := .ref sc) rfl dX7_copyFrom_11 ?_
  refine va_alen hx hb hK hP 3 1 rfl rfl (v := 543) rfl dX7_copyFrom_14 ?_
  refine lv_aload_n hx hb dX7_copyFrom_15 rfl (lv_at hl 0 rfl) ?_
  refine va_get hx hb (ly_X7 hE) (fun _ h => h) hown hK hP 0 rfl rfl 0 (by decide) (wd_149 hE) (fun _ h9 => h9) (v := .ref dc) rfl dX7_copyFrom_16 ?_
  refine va_alen hx hb hK hP 2 0 rfl rfl (v := 543) rfl dX7_copyFrom_19 ?_
  refine va_mmin hx hb (by rw [hml]; exact hl.1.symm) hown (wd_735 hE) (wd_453 hE) (wd_128 hE) (wd_454 hE) (Nat.le_of_ble_eq_true rfl) (Nat.le_of_ble_eq_true rfl) (Nat.le_of_ble_eq_true rfl) (Nat.le_of_ble_eq_true rfl) dX7_copyFrom_20 ?_
  refine W.eq (g2 := F0 m 23 ls [.int 543, .int 0, .ref dc, .int 0, .ref sc]) rfl ?_
  have hP2 : va_P (dC, dI) vwCl [(dc, .inl (c0, 543, .inl g)), (sc, .inl (c1, 543, .inl h))] s.heap := hP.sub [2, 3] rfl
  have hD : va_D (fun q => q = dc ∨ q = sc ∨ s.heap.size ≤ q) [(dc, .inl (c0, 543, .inl g)), (sc, .inl (c1, 543, .inl h))] := by
    refine ⟨fun i j x y hi hj hxy => ?_, fun k x hk => ?_⟩
    · match i, j, hi, hj with
      | 0, 0, _, _ => rfl
      | 1, 1, _, _ => rfl
      | 0, 1, hi, hj => cases hi; cases hj; exact absurd hxy hne
      | 1, 0, hi, hj => cases hi; cases hj; exact absurd hxy.symm hne
      | _ + 2, _, hi, _ => cases hi
      | 0, _ + 2, _, hj => cases hj
      | 1, _ + 2, _, hj => cases hj
    · match k, hk with
      | 0, hk => cases hk; exact Or.inl rfl
      | 1, hk => cases hk; exact Or.inr (Or.inl rfl)
      | _ + 2, hk => cases hk
  refine va_copyi (ty := .int) hx hb (by rw [hml]; exact hl.1.symm) hown (wd_736 hE) (wd_738 hE) (wd_737 hE) (wd_133 hE) hK hP2 hD hS 1 0 1 0 rfl rfl rfl rfl rfl (by decide) (by decide) (by decide) (by decide) (by decide) (fun _ _ => rfl) (Nat.le_of_ble_eq_true rfl) (Nat.le_of_ble_eq_true rfl) dX7_copyFrom_23 (fun H1 locs1 hP9 hD9 hS9 => ?_)
  exact W.vret hx hb hr (fun t ht hW => ⟨⟨(), rfl, trivial, by show va_P (dC, dI) vwCl [(dc, .inl (c0, 543, .inl (va_cpy h g 0 0 543))), (sc, .inl (c1, 543, .inl h))] t.heap; rw [ht]; exact hP9⟩, hS9.F ht⟩) hS9.2.2 dX7_copyFrom_26

set_option maxHeartbeats 4000000 in
set_option maxRecDepth 100000 in
theorem q_X5_result (l : Launch) (dC : Nat → ClassId) (dI : Nat → Nat → Nat) (sz : Nat) (cs : Nat → ClassId) (b : Nat → Nat) (u : RS) : Met l yX5_result [.code yX5_result cX5_result 1 (some (.object "GluedWords$Store"))] ({ frames := 0, cells := 0, slots := 0, locals := 0 }) (PQ [.ref (b 0)] sz dC dI cs b u) (va_Sq (fun (r : Option Nat) => r = some (b 6))) 0 0 (fun _ => False) := by
  refine Met.ofW (cc := cX5_result) (maxL := 1) (ret := (some (.object "GluedWords$Store"))) (by decide) rfl ?_
  intro p e s m args below meth c s₁ B hml hv
  obtain ⟨rfl, hsz, hP, hK, hJ, hE⟩ := hv
  have hx := B.exec
  have hb := B.bytes
  have hr := B.returns
  have hown : s.vm.findClass RX5 = some m.cls := findClass_of_methodNamed B.named
  have hlocks := B.notSynchronized
  subst hsz
  have hl := lv_entry ([.ref (b 0)]) (n := 1) (Nat.le_of_ble_eq_true rfl)
  rw [lg_entry_eq]
  generalize (lg_sl ([.ref (b 0)]) ++ List.replicate (1 - (lg_sl ([.ref (b 0)])).length) Slot.unset).toArray = ls at hl ⊢
  have hl : lv_has ls 1 [(0, .ref (b 0))] := hl
  refine lv_aload_n hx hb dX5_result_0 rfl (lv_at hl 0 rfl) ?_
  refine q_get (v := .ref (b 6)) hx hb 0 (by decide) rfl (ly_X5 hE) hown hK hP rfl 1 (by decide) (wd_228 hE) (fun _ h9 => h9) rfl dX5_result_1 ?_
  exact W.aret (v := .ref (b 6)) hx hb hr (Or.inl ⟨_, rfl⟩) (Or.inr ⟨_, rfl⟩) (fun t ht hW => ⟨some (b 6), rfl, rfl, ht⟩) (fun _ h => absurd h List.not_mem_nil) dX5_result_4
/-! the typed heap without its root -/
def gM (G : GT) (r : Nat) : GT := (G.1, G.2.1, G.2.2.1, (gL G).filter (fun a => decide (a ≠ r)))
section GMS
variable {G : GT} {r a c : Nat} {cs : Nat → ClassId} {tt mm : Nat} {f : Nat → va_E} {D : va_G} {cl : List vw_C} {H : Heap}
theorem gM_mem : a ∈ gL (gM G r) ↔ a ∈ gL G ∧ a ≠ r := by
  show a ∈ (gL G).filter _ ↔ _
  rw [List.mem_filter, decide_eq_true_iff]
theorem gM_lo (h : Ty (gM G r) a c) : Ty G a c := ⟨(gM_mem.mp h.1).1, h.2⟩
theorem gM_up (hr : gK G r = 11) (h : Ty G a c) (hc : c ≠ 11) : Ty (gM G r) a c := ⟨gM_mem.mpr ⟨h.1, fun e => hc (by rw [← h.2, e]; exact hr)⟩, h.2⟩
theorem gM_no (hw : WT G) (hr : Ty G r 11) (h : Ty (gM G r) a 11) : False := (gM_mem.mp h.1).2 (wt_one hw (gM_lo h) hr)
theorem gM_nd (h : (gL G).Nodup) : (gL (gM G r)).Nodup := List.Pairwise.filter _ h
theorem gM_P (h : va_P D cl (va_pl (gL G) f) H) : va_P D cl (va_pl (gL (gM G r)) f) H := fun k q hq => by
  simp only [va_pl, List.getElem?_map, Option.map_eq_some_iff] at hq
  obtain ⟨z, hz, rfl⟩ := hq
  obtain ⟨j, hj⟩ := th_place (f := f) (gM_mem.mp (List.mem_of_getElem? hz)).1 rfl
  exact h j _ hj
theorem gM_WT (hw : WT G) (hr : Ty G r 11) : WT (gM G r) := ⟨fun a t => ⟨gM_up hr.2 (hw.1 a (gM_lo t)).1 (by decide), (hw.1 a (gM_lo t)).2⟩,
  fun a t => ⟨gM_up hr.2 (hw.2.1 a (gM_lo t)).1 (by decide), (hw.2.1 a (gM_lo t)).2⟩,
  fun a t => ⟨gM_up hr.2 (hw.2.2.1 a (gM_lo t)).1 (by decide), (hw.2.2.1 a (gM_lo t)).2⟩,
  fun a t => gM_up hr.2 (hw.2.2.2.1 a (gM_lo t)) (by decide),
  fun a t => ⟨gM_up hr.2 (hw.2.2.2.2.1 a (gM_lo t)).1 (by decide), (hw.2.2.2.2.1 a (gM_lo t)).2⟩,
  fun a t => ⟨gM_up hr.2 (hw.2.2.2.2.2.1 a (gM_lo t)).1 (by decide), (hw.2.2.2.2.2.1 a (gM_lo t)).2⟩,
  fun a t => gM_up hr.2 (hw.2.2.2.2.2.2.1 a (gM_lo t)) (by decide),
  fun a t => gM_up hr.2 (hw.2.2.2.2.2.2.2.1 a (gM_lo t)) (by decide),
  fun a t => gM_up hr.2 (hw.2.2.2.2.2.2.2.2.1 a (gM_lo t)) (by decide),
  fun a t => gM_up hr.2 (hw.2.2.2.2.2.2.2.2.2.1 a (gM_lo t)) (by decide),
  fun a t => gM_up hr.2 (hw.2.2.2.2.2.2.2.2.2.2.1 a (gM_lo t)) (by decide),
  fun a t => ⟨gM_up hr.2 (hw.2.2.2.2.2.2.2.2.2.2.2.1 a (gM_lo t)).1 (by decide), (hw.2.2.2.2.2.2.2.2.2.2.2.1 a (gM_lo t)).2⟩,
  fun a t => gM_up hr.2 (hw.2.2.2.2.2.2.2.2.2.2.2.2.1 a (gM_lo t)) (by decide),
  fun a t => gM_up hr.2 (hw.2.2.2.2.2.2.2.2.2.2.2.2.2.1 a (gM_lo t)) (by decide),
  fun a t => gM_up hr.2 (hw.2.2.2.2.2.2.2.2.2.2.2.2.2.2.1 a (gM_lo t)) (by decide),
  fun a t => ⟨gM_up hr.2 (hw.2.2.2.2.2.2.2.2.2.2.2.2.2.2.2.1 a (gM_lo t)).1 (by decide), (hw.2.2.2.2.2.2.2.2.2.2.2.2.2.2.2.1 a (gM_lo t)).2⟩,
  fun a t => ⟨gM_up hr.2 (hw.2.2.2.2.2.2.2.2.2.2.2.2.2.2.2.2.1 a (gM_lo t)).1 (by decide), (hw.2.2.2.2.2.2.2.2.2.2.2.2.2.2.2.2.1 a (gM_lo t)).2⟩,
  fun a t => ⟨gM_up hr.2 (hw.2.2.2.2.2.2.2.2.2.2.2.2.2.2.2.2.2.1 a (gM_lo t)).1 (by decide), (hw.2.2.2.2.2.2.2.2.2.2.2.2.2.2.2.2.2.1 a (gM_lo t)).2⟩,
  fun a t => ⟨gM_up hr.2 (hw.2.2.2.2.2.2.2.2.2.2.2.2.2.2.2.2.2.2.1 a (gM_lo t)).1 (by decide), (hw.2.2.2.2.2.2.2.2.2.2.2.2.2.2.2.2.2.2.1 a (gM_lo t)).2⟩,
  fun a t => ⟨gM_up hr.2 (hw.2.2.2.2.2.2.2.2.2.2.2.2.2.2.2.2.2.2.2.1 a (gM_lo t)).1 (by decide), (hw.2.2.2.2.2.2.2.2.2.2.2.2.2.2.2.2.2.2.2.1 a (gM_lo t)).2⟩,
  fun a t => ⟨gM_up hr.2 (hw.2.2.2.2.2.2.2.2.2.2.2.2.2.2.2.2.2.2.2.2.1 a (gM_lo t)).1 (by decide), (hw.2.2.2.2.2.2.2.2.2.2.2.2.2.2.2.2.2.2.2.2.1 a (gM_lo t)).2⟩,
  fun a t => ⟨gM_up hr.2 (hw.2.2.2.2.2.2.2.2.2.2.2.2.2.2.2.2.2.2.2.2.2.1 a (gM_lo t)).1 (by decide), (hw.2.2.2.2.2.2.2.2.2.2.2.2.2.2.2.2.2.2.2.2.2.1 a (gM_lo t)).2⟩,
  fun a t => ⟨gM_up hr.2 (hw.2.2.2.2.2.2.2.2.2.2.2.2.2.2.2.2.2.2.2.2.2.2.1 a (gM_lo t)).1 (by decide), (hw.2.2.2.2.2.2.2.2.2.2.2.2.2.2.2.2.2.2.2.2.2.2.1 a (gM_lo t)).2⟩,
  fun a t => (gM_no hw hr t).elim,
  fun a t => (gM_no hw hr t).elim,
  fun a t => (gM_no hw hr t).elim,
  fun a t => (gM_no hw hr t).elim,
  fun a t => (gM_no hw hr t).elim,
  fun a t => (gM_no hw hr t).elim,
  fun a t => (gM_no hw hr t).elim,
  fun a t => (gM_no hw hr t).elim,
  fun a t => (gM_no hw hr t).elim,
  fun a t => (gM_no hw hr t).elim,
  fun a t => (gM_no hw hr t).elim,
  fun a t => (gM_no hw hr t).elim,
  fun a t => (gM_no hw hr t).elim,
  fun a t => (gM_no hw hr t).elim,
  fun a t => hw.2.2.2.2.2.2.2.2.2.2.2.2.2.2.2.2.2.2.2.2.2.2.2.2.2.2.2.2.2.2.2.2.2.2.2.2.2.1 a (gM_lo t),
  fun a i t hi => gM_up hr.2 (hw.2.2.2.2.2.2.2.2.2.2.2.2.2.2.2.2.2.2.2.2.2.2.2.2.2.2.2.2.2.2.2.2.2.2.2.2.2.2.1 a i (gM_lo t) hi) (by decide),
  fun a i t hi => gM_up hr.2 (hw.2.2.2.2.2.2.2.2.2.2.2.2.2.2.2.2.2.2.2.2.2.2.2.2.2.2.2.2.2.2.2.2.2.2.2.2.2.2.2.1 a i (gM_lo t) hi) (by decide),
  fun a b t u => (gM_no hw hr t).elim⟩
theorem gM_ok (hr : gK G r = 11) (h : OKT G cs tt mm f) : OKT (gM G r) cs tt mm f := fun a ha => by
  obtain ⟨o0, o1, o2, o3, o4, o5, o6, o7, o8, o9, o10, o11, o12, o13, o14, o15⟩ := h a (gM_mem.mp ha).1
  exact ⟨(fun q => by obtain ⟨y4, hy4, he⟩ := o0 q; exact ⟨y4, gM_up hr hy4 (by decide), he⟩), o1, o2, o3, o4, o5, o6, o7, (fun q => by obtain ⟨y3, y4, y5, hy4, he⟩ := o8 q; exact ⟨y3, y4, y5, gM_up hr hy4 (by decide), he⟩), o9, o10, o11, o12, o13, o14, o15⟩
theorem gM_back (hw : WT G) (hr : Ty G r 11) {t2 m2 : Nat} (h : OKT (gM G r) cs tt mm f) {e : va_E} (hn : ∃ (y5 : Int32), m2 ≤ 3 ∧ t2 ≤ 700 ∧ e = .inr (10, [.ref (gR G r 0), .ref (gR G r 1), .ref (gR G r 2), .ref (gR G r 3), .int (nI m2), .int y5, .ref (gR G r 6), .int (nI t2), .ref (gR G r 8), .ref (gR G r 9), .ref (gR G r 10), .ref (gR G r 11), .ref (gR G r 12), .ref (gR G r 13), .ref (gR G r 14), .ref (gR G r 15), .ref (gR G r 16), .ref (gR G r 17), .ref (gR G r 18)])) : OKT G cs t2 m2 (va_up f r e) := fun a ha => by
  by_cases q : a = r
  · subst q
    rw [va_up_self]
    exact ⟨fun q => absurd (hr.2.symm.trans q) (by decide), fun q => absurd (hr.2.symm.trans q) (by decide), fun q => absurd (hr.2.symm.trans q) (by decide), fun q => absurd (hr.2.symm.trans q) (by decide), fun q => absurd (hr.2.symm.trans q) (by decide), fun q => absurd (hr.2.symm.trans q) (by decide), fun q => absurd (hr.2.symm.trans q) (by decide), fun q => absurd (hr.2.symm.trans q) (by decide), fun q => absurd (hr.2.symm.trans q) (by decide), fun q => absurd (hr.2.symm.trans q) (by decide), fun _ => hn, fun q => absurd (hr.2.symm.trans q) (by decide), fun q => absurd (hr.2.symm.trans q) (by decide), fun q => absurd (hr.2.symm.trans q) (by decide), fun q => absurd (hr.2.symm.trans q) (by decide), fun q => absurd (hr.2.symm.trans q) (by decide)⟩
  · rw [va_up_ne f e q]
    obtain ⟨o0, o1, o2, o3, o4, o5, o6, o7, o8, o9, o10, o11, o12, o13, o14, o15⟩ := h a (gM_mem.mpr ⟨ha, q⟩)
    exact ⟨(fun q => by obtain ⟨y4, hy4, he⟩ := o0 q; exact ⟨y4, gM_lo hy4, he⟩), o1, o2, o3, o4, o5, o6, o7, (fun q => by obtain ⟨y3, y4, y5, hy4, he⟩ := o8 q; exact ⟨y3, y4, y5, gM_lo hy4, he⟩), o9, (fun w => absurd (wt_one hw ⟨ha, w⟩ hr) q), o11, o12, o13, o14, o15⟩
end GMS
def RVL (G : GT) (a : Nat) (x4 x5 x7 : Int32) : List Value := [.ref (gR G a 0), .ref (gR G a 1), .ref (gR G a 2), .ref (gR G a 3), .int x4, .int x5, .ref (gR G a 6), .int x7, .ref (gR G a 8), .ref (gR G a 9), .ref (gR G a 10), .ref (gR G a 11), .ref (gR G a 12), .ref (gR G a 13), .ref (gR G a 14), .ref (gR G a 15), .ref (gR G a 16), .ref (gR G a 17), .ref (gR G a 18)]
/-! the reader's world without the root, and with it -/
def qV (cs : Nat → ClassId) (b : Nat → Nat) (u : RS) : va_W := (List.range 11).map (fun i => (b i, qE cs b u i))
section QVS
variable {cs : Nat → ClassId} {b : Nat → Nat} {u v w : RS} {i k : Nat} {q : Nat × va_E} {H H1 : Heap} {dC : Nat → ClassId} {dI : Nat → Nat → Nat} {G : GT} {tt mm t0 m0 t2 : Nat} {f : Nat → va_E}
theorem qV_at (hi : i < 11) : (qV cs b u)[i]? = some (b i, qE cs b u i) := by
  unfold qV
  rw [List.getElem?_map, List.getElem?_range hi]
  rfl
theorem z_qv (hq : (qV cs b u)[k]? = some q) : k < 11 ∧ q = (b k, qE cs b u k) := by
  have h1 : k < 11 := by
    have h := (List.getElem?_eq_some_iff.mp hq).1
    unfold qV at h
    rw [List.length_map, List.length_range] at h
    exact h
  rw [qV_at h1] at hq
  cases hq
  exact ⟨h1, rfl⟩
theorem qv_of (h : va_P (dC, dI) vwCl (qW cs b w) H) : va_P (dC, dI) vwCl (qV cs b w) H := fun k q hq => by
  obtain ⟨h1, rfl⟩ := z_qv hq
  exact h k _ (qW_at (by omega))
theorem qE_cg (hi : i < 11) (hF : ∀ k, k < 30 → rF w k = rF v k) (hA : ∀ j, rA w j = rA v j) : qE cs b w i = qE cs b v i := by
  unfold qE qR qT qK
  rw [hF 3 (by decide), hF 4 (by decide), hF 5 (by decide), hF 6 (by decide), hF 7 (by decide), hF 8 (by decide), hF 9 (by decide), hF 13 (by decide), hF 14 (by decide), hF 15 (by decide), hF 22 (by decide), hF 23 (by decide), hA i, if_neg (show ¬ i = 11 by omega), if_neg (show ¬ i = 11 by omega)]
theorem z12 (hlk : ∀ w : RS, RVL G (b 11) (rF w 34) (rF w 35) (rF w 37) = qG b w) (hT : Ty G (b 11) 11) (hok : OKT G cs tt mm f) (hP : va_P (dC, dI) vwCl (va_pl (gL G) f) H) (hQ : va_P (dC, dI) vwCl (qV cs b v) H) : ∃ w : RS, (∀ j, rA w j = rA v j) ∧ (∀ k, k < 30 → rF w k = rF v k) ∧ rF w 34 = nI mm ∧ rF w 37 = nI tt ∧ va_P (dC, dI) vwCl (qW cs b w) H := by
  obtain ⟨y5, h4, h7, he⟩ := ok_X11 hok hT
  have hF : ∀ k, k < 30 → rF (sF (sF (sF v 34 (nI mm)) 35 y5) 37 (nI tt)) k = rF v k := fun k hk => by rw [rF_ne (by omega), rF_ne (by omega), rF_ne (by omega)]
  have e34 : rF (sF (sF (sF v 34 (nI mm)) 35 y5) 37 (nI tt)) 34 = nI mm := by rw [rF_ne (by decide), rF_ne (by decide), rF_self]
  have e35 : rF (sF (sF (sF v 34 (nI mm)) 35 y5) 37 (nI tt)) 35 = y5 := by rw [rF_ne (by decide), rF_self]
  have e37 : rF (sF (sF (sF v 34 (nI mm)) 35 y5) 37 (nI tt)) 37 = nI tt := rF_self
  refine ⟨sF (sF (sF v 34 (nI mm)) 35 y5) 37 (nI tt), fun _ => rfl, hF, e34, e37, fun k q hq => ?_⟩
  obtain ⟨h1, rfl⟩ := z_qw hq
  by_cases e : k = 11
  · subst e
    show va_at (dC, dI) vwCl (b 11, .inr (10, qG b _)) H
    rw [← hlk, e34, e35, e37]
    exact z_at hP hT.1 he
  · rw [qE_cg (by omega) hF (fun _ => rfl)]
    exact hQ k _ (qV_at (by omega))
theorem z21 (hw : WT G) (hT : Ty G (b 11) 11) (hlk : ∀ w : RS, RVL G (b 11) (rF w 34) (rF w 35) (rF w 37) = qG b w) (hok : OKT G cs tt mm f) (hP : va_P (dC, dI) vwCl (va_pl (gL G) f) H) (hk : ∀ a, a ∈ gL G → a ≠ b 11 → a < H.size → H1[a]? = H[a]?) (hW1 : va_P (dC, dI) vwCl (qW cs b w) H1) (h34 : rF w 34 = nI mm) (h37 : rF w 37 = nI t2) (ht2 : t2 ≤ 700) (hm : mm ≤ 3) : ∃ f', OKT G cs t2 mm f' ∧ va_P (dC, dI) vwCl (va_pl (gL G) f') H1 := by
  refine ⟨va_up f (b 11) (.inr (10, qG b w)), up_tm hw hok hT ⟨rF w 35, hm, ht2, by rw [← hlk w, h34, h37]; rfl⟩, fun k q hq => ?_⟩
  obtain ⟨h1, h2⟩ := z_pl hq
  obtain ⟨qa, qe⟩ := q
  have h1 : qa ∈ gL G := h1
  have h2 : qe = va_up f (b 11) (.inr (10, qG b w)) qa := h2
  subst h2
  by_cases e : qa = b 11
  · subst e
    rw [va_up_self]
    exact z_aq hW1 (show 11 < 12 by decide) rfl
  · rw [va_up_ne _ _ e]
    have h3 := z_at hP h1 rfl
    exact h3.kept (hk qa h1 e h3.lt)
theorem z21b (hw : WT G) (hT : Ty G (b 11) 11) (hlk : ∀ w : RS, RVL G (b 11) (rF w 34) (rF w 35) (rF w 37) = qG b w) (hF : ∃ f, OKT (gM G (b 11)) cs t0 m0 f ∧ va_P (dC, dI) vwCl (va_pl (gL (gM G (b 11))) f) H1) (hW1 : va_P (dC, dI) vwCl (qW cs b w) H1) (h34 : rF w 34 = nI mm) (h37 : rF w 37 = nI t2) (ht2 : t2 ≤ 700) (hm : mm ≤ 3) : ∃ f', OKT G cs t2 mm f' ∧ va_P (dC, dI) vwCl (va_pl (gL G) f') H1 := by
  obtain ⟨f, hok, hP⟩ := hF
  refine ⟨va_up f (b 11) (.inr (10, qG b w)), gM_back hw hT hok ⟨rF w 35, hm, ht2, by rw [← hlk w, h34, h37]; rfl⟩, fun k q hq => ?_⟩
  obtain ⟨h1, h2⟩ := z_pl hq
  obtain ⟨qa, qe⟩ := q
  have h1 : qa ∈ gL G := h1
  have h2 : qe = va_up f (b 11) (.inr (10, qG b w)) qa := h2
  subst h2
  by_cases e : qa = b 11
  · subst e
    rw [va_up_self]
    exact z_aq hW1 (show 11 < 12 by decide) rfl
  · rw [va_up_ne _ _ e]
    exact z_at hP (gM_mem.mpr ⟨h1, e⟩) rfl
end QVS
