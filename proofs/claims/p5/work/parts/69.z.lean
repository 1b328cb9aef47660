/-! the reader's world and the typed heap side by side: load -/
theorem z_keep {D : va_G} {cl : List vw_C} {ws : va_W} {H H1 : Heap} (h : va_P D cl ws H) (hk : ∀ (k : Nat) (q : Nat × va_E), ws[k]? = some q → q.1 < H.size → H1[q.1]? = H[q.1]?) : va_P D cl ws H1 := fun k q hq => (h k q hq).kept (hk k q hq (h k q hq).lt)
def AZ (G : GT) (b : Nat → Nat) (sz : Nat) : Nat → Prop := fun q => q ∈ gL G ∨ (∃ i, i < 12 ∧ q = b i) ∨ sz ≤ q
def ZT (dC : Nat → ClassId) (dI : Nat → Nat → Nat) (b : Nat → Nat) (G : GT) (ct : Nat → ClassId) (t0 m0 : Nat) (U : State) : Prop := (∃ f, OKT G ct t0 m0 f ∧ va_P (dC, dI) vwCl (va_pl (gL G) f) U.heap) ∧ va_K (dC, dI) vwCl (TYS ct) U ∧ (gL G).Nodup ∧ WT G ∧ ∀ i, i < 12 → b i ∉ gL G
def PZ (av : List Value) (sz : Nat) (dC : Nat → ClassId) (dI : Nat → Nat → Nat) (cs : Nat → ClassId) (b : Nat → Nat) (u : RS) (adK adV : Nat → Nat) (G : GT) (ct : Nat → ClassId) (t0 m0 : Nat) : Array Value → State → Prop :=
  va_Pc av (fun U => U.heap.size = sz ∧ va_P (dC, dI) vwCl (qW cs b u) U.heap ∧ va_K (dC, dI) vwCl (QTY cs) U ∧ QJ b ∧ EX U ∧ SX adK adV (AZ G b sz) U U.heap ∧ vk_R "GluedWords$Tokens" 68 "vertex" (adK 0) U ∧ vk_R "GluedWords$Tokens" 74 "edge" (adK 1) U ∧ vk_R "GluedWords$Tokens" 76 "word" (adK 2) U ∧ ZT dC dI b G ct t0 m0 U)
theorem PZ.blind {av : List Value} {sz : Nat} {dC : Nat → ClassId} {dI : Nat → Nat → Nat} {cs : Nat → ClassId} {b : Nat → Nat} {u : RS} {adK adV : Nat → Nat} {G : GT} {ct : Nat → ClassId} {t0 m0 : Nat} : FrameBlind (PZ av sz dC dI cs b u adK adV G ct t0 m0) := fun a U g mk q => by
  obtain ⟨q0, q1, qP, qK, qD, qE, qX, z0, z1, z2, zt, zk, zn⟩ := q
  exact ⟨q0, q1, qP, va_K.moved (u := U) (U := U.calling g mk a) (Vm.Alike.refl U.vm) qK, qD, qE.blind, SX.moved (u := U) (U := U.calling g mk a) (Vm.Alike.refl U.vm) qX, vk_R.same (u := U) (U := U.calling g mk a) rfl z0, vk_R.same (u := U) (U := U.calling g mk a) rfl z1, vk_R.same (u := U) (U := U.calling g mk a) rfl z2, zt, va_K.moved (u := U) (U := U.calling g mk a) (Vm.Alike.refl U.vm) zk, zn⟩
def BZ (dC : Nat → ClassId) (dI : Nat → Nat → Nat) (cs : Nat → ClassId) (b : Nat → Nat) (G : GT) (ct : Nat → ClassId) (t0 m0 : Nat) : RS → State → Prop := fun u t => va_P (dC, dI) vwCl (qW cs b u) t.heap ∧ ∃ f, OKT G ct t0 m0 f ∧ va_P (dC, dI) vwCl (va_pl (gL G) f) t.heap
def PW (av : List Value) (sz : Nat) (dC : Nat → ClassId) (dI : Nat → Nat → Nat) (tys : List (ClassId × FieldType)) (ws : va_W) : Array Value → State → Prop :=
  va_Pc av (fun U => U.heap.size = sz ∧ va_P (dC, dI) vwCl ws U.heap ∧ va_K (dC, dI) vwCl tys U ∧ EX U)
theorem PW.blind {av : List Value} {sz : Nat} {dC : Nat → ClassId} {dI : Nat → Nat → Nat} {tys : List (ClassId × FieldType)} {ws : va_W} : FrameBlind (PW av sz dC dI tys ws) := fun a U g mk q => by
  obtain ⟨q0, q1, qP, qK, qE⟩ := q
  exact ⟨q0, q1, qP, va_K.moved (u := U) (U := U.calling g mk a) (Vm.Alike.refl U.vm) qK, qE.blind⟩
section ZTH
variable {p : Program} {l : Launch} {e : Env} {R : Room} {s : State} {m : MethodId} {args : Array Value} {below : List Frame} {meth : Method} {c : Code} {H : Heap} {locs : List Loc} {cells slots : Nat} {Q : State → Prop}
variable {cc : ByteArray} {pc : Nat} {ls : Array Slot} {rest st0 : List Value} {A : Nat → Prop} {a : Nat} {H0 : Heap} {ar : Array Value}
variable {dC : Nat → ClassId} {dI : Nat → Nat → Nat} {cs : Nat → ClassId} {b : Nat → Nat} {u : RS} {G : GT} {ct : Nat → ClassId} {t0 m0 t2 m2 : Nat} {f : Nat → va_E} {tys : List (ClassId × FieldType)} {ws : va_W}
theorem z_pl {k : Nat} {q : Nat × va_E} (hq : (va_pl (gL G) f)[k]? = some q) : q.1 ∈ gL G ∧ q.2 = f q.1 := by
  simp only [va_pl, List.getElem?_map, Option.map_eq_some_iff] at hq
  obtain ⟨z, hz, rfl⟩ := hq
  exact ⟨List.mem_of_getElem? hz, rfl⟩
theorem z_qw {k : Nat} {q : Nat × va_E} (hq : (qW cs b u)[k]? = some q) : k < 12 ∧ q = (b k, qE cs b u k) := by
  have h1 : k < 12 := by have := (List.getElem?_eq_some_iff.mp hq).1; rw [qW_len] at this; exact this
  rw [qW_at h1] at hq
  cases hq
  exact ⟨h1, rfl⟩
/-- a typed call leaves the reader's world -/
theorem zt_k {H1 : Heap} (hDJ : ∀ i, i < 12 → b i ∉ gL G) (hP : va_P (dC, dI) vwCl (qW cs b u) H) (hk : ∀ q : Nat, q < H.size → ¬ AT G H.size q → H1[q]? = H[q]?) : va_P (dC, dI) vwCl (qW cs b u) H1 := by
  refine z_keep hP (fun k q hq hlt => hk _ hlt (fun h => ?_))
  obtain ⟨h1, rfl⟩ := z_qw hq
  rcases h with h | h
  · exact hDJ k h1 h
  · exact absurd hlt (Nat.not_lt.mpr h)
/-- a call of the reader's leaves the typed heap -/
theorem zq_k {H1 : Heap} (hDJ : ∀ i, i < 12 → b i ∉ gL G) (hP1 : va_P (dC, dI) vwCl (va_pl (gL G) f) H) (hk : ∀ q : Nat, q < H.size → ¬ AQ b H.size q → H1[q]? = H[q]?) : va_P (dC, dI) vwCl (va_pl (gL G) f) H1 := by
  refine z_keep hP1 (fun k q hq hlt => hk _ hlt (fun h => ?_))
  have hm := (z_pl hq).1
  rcases h with ⟨i, hi, h⟩ | h
  · rw [h] at hm
    exact hDJ i hi hm
  · exact absurd hlt (Nat.not_lt.mpr h)
theorem zc_i {post : Int32 → RS → Prop} (hDJ : ∀ i, i < 12 → b i ∉ gL G) (hP1 : va_P (dC, dI) vwCl (va_pl (gL G) f) H) (hAL : ∀ i, i < 12 → A (b i)) (hS : va_S A H0 H locs) (hA : ∀ q, H0.size ≤ q → A q) (hr : va_Run p l e R s m args below meth c H locs cells slots 0 0 (F0 m pc ls st0) rest (va_Qi post (BQ dC dI cs b) (AQ b H.size) ar) (AQ b H.size))
    (kk : ∀ (r : Int32) (u' : RS) (H1 : Heap) (locs1 : List Loc), post r u' → va_P (dC, dI) vwCl (qW cs b u') H1 → va_P (dC, dI) vwCl (va_pl (gL G) f) H1 → va_S A H0 H1 locs1 → W p l e R s m args below meth c H1 locs1 cells slots Q (F0 m (pc + 3) ls (.int r :: rest))) : W p l e R s m args below meth c H locs cells slots Q (F0 m pc ls st0) := by
  have hF := q_free hAL hS hA
  refine va_calli hr hS (fun q _ h => hF q h) hF (fun r u t H1 locs1 ht hvm hw hB hz1 hk1 hS1 => ?_)
  have h2 : va_P (dC, dI) vwCl (qW cs b u) t.heap := hB
  rw [ht] at h2
  exact kk r u H1 locs1 hw h2 (zq_k hDJ hP1 hk1) hS1
theorem zt_v {post : (Nat → va_E) → Prop} (hDJ : ∀ i, i < 12 → b i ∉ gL G) (hP : va_P (dC, dI) vwCl (qW cs b u) H) (hAT : ∀ a, a ∈ gL G → A a) (hS : va_S A H0 H locs) (hA : ∀ q, H0.size ≤ q → A q) (hr : va_Run p l e R s m args below meth c H locs cells slots 0 0 (F0 m pc ls st0) rest (va_Qv post (BT dC dI G ct t2 m2) (AT G H.size) ar) (AT G H.size))
    (kk : ∀ (f' : Nat → va_E) (H1 : Heap) (locs1 : List Loc), post f' → OKT G ct t2 m2 f' → va_P (dC, dI) vwCl (va_pl (gL G) f') H1 → va_P (dC, dI) vwCl (qW cs b u) H1 → va_S A H0 H1 locs1 → W p l e R s m args below meth c H1 locs1 cells slots Q (F0 m (pc + 3) ls rest)) : W p l e R s m args below meth c H locs cells slots Q (F0 m pc ls st0) := by
  have hF := th_free hAT hS hA
  refine va_callv hr hS (fun q _ h => hF q h) hF (fun u t H1 locs1 ht hvm hw hB hz1 hk1 hS1 => ?_)
  obtain ⟨h1, h2⟩ := hB
  rw [ht] at h2
  exact kk u H1 locs1 hw h1 h2 (zt_k hDJ hP hk1) hS1
theorem z_DD (hJ : QJ b) (hAL : ∀ i, i < 12 → A (b i)) (hnd : (gL G).Nodup) (hAT : ∀ a, a ∈ gL G → A a) (hDJ : ∀ i, i < 12 → b i ∉ gL G) : va_D A (qW cs b u ++ va_pl (gL G) f) := by
  refine va_D.app (q_D hJ hAL) (th_D hnd hAT) (fun i j x y hx hy hxy => ?_)
  obtain ⟨h1, rfl⟩ := z_qw hx
  have h2 := (z_pl hy).1
  rw [← hxy] at h2
  exact hDJ i h1 h2
theorem z_sp {w1 w2 : va_W} {D : va_G} {cl : List vw_C} (h : va_P D cl (w1 ++ w2) H) : va_P D cl w1 H ∧ va_P D cl w2 H := by
  refine ⟨fun k q hq => h k q ?_, fun k q hq => h (w1.length + k) q ?_⟩
  · rw [List.getElem?_append_left (List.getElem?_eq_some_iff.mp hq).1]; exact hq
  · rw [List.getElem?_append_right (Nat.le_add_right _ _), Nat.add_sub_cancel_left]; exact hq
theorem zq_put (hP1 : va_P (dC, dI) vwCl (va_pl (gL G) f) H) (hnd : (gL G).Nodup) (hDJ : ∀ i, i < 12 → b i ∉ gL G) (hAT : ∀ a, a ∈ gL G → A a) (hexec : p.tables.exec = Jvm.exec) (hb : c.code = cc) {own ref C : String} {T : u_T} {N index ci : Nat} {vs : List Value} {ty : FieldType} (j K : Nat) (hj : j < 12) (hlay : ∀ w ∈ u_ws C T N, w.before args s = true) (ty0 : Nat → FieldType) (hty : ∀ k, k < N → parseFieldDescriptor (T k).2.2.1 = some (ty0 k)) (hnm : ∀ a, a < N → ∀ b, b < N → a ≠ b → (T a).2.1 ≠ (T b).2.1) (hown : s.vm.findClass own = some m.cls) (hK : va_K (dC, dI) vwCl (QTY cs) s) (hP : va_P (dC, dI) vwCl (qW cs b u) H) (hJ : QJ b) (hAL : ∀ i, i < 12 → A (b i)) (hS : va_S A H0 H locs) (hc : vwCl[ci]? = some (C, T, N)) (k : Nat) (hk : k < N) (hlink : (Cond.fieldLink own index ref (T k).2.1 (T k).2.2.1).before args s = true) (hsame : ∀ x, s.fieldFound? (T k).1 (T k).2.1 (T k).2.2.1 = some x → s.fieldFound? ref (T k).2.1 (T k).2.2.1 = some x) (hfin : (T k).2.2.2 = false) {v : Int32} (hd : parseFieldDescriptor (T k).2.2.1 = some ty) (hfit : fits ty (.int v) = true) (hnar : narrow ty (.int v) = .int v) (he : qE cs b u j = .inr (ci, vs)) (he2 : qE cs b (sF u K v) j = .inr (ci, vs.set k (.int v))) (ho : ∀ q, q ≠ j → qE cs b (sF u K v) q = qE cs b u q) (hl : k < vs.length) (hdg : decode cc pc = .ok (.putfield index, 3))
    (kk : ∀ (u1 : RS) (H1 : Heap) (locs1 : List Loc), rF u1 K = v → FR [] [K] false u u1 → va_P (dC, dI) vwCl (qW cs b u1) H1 → va_P (dC, dI) vwCl (va_pl (gL G) f) H1 → va_S A H0 H1 locs1 → W p l e R s m args below meth c H1 locs1 cells slots Q (F0 m (pc + 3) ls rest)) : W p l e R s m args below meth c H locs cells slots Q (F0 m pc ls (.int v :: .ref (b j) :: rest)) := by
  refine va_put hexec hb hlay (fun _ h => h) ty0 hty hnm hown hK (va_P.app hP hP1) (z_DD hJ hAL hnd hAT hDJ) hS j (by rw [List.getElem?_append_left (by rw [qW_len]; exact hj), qW_at hj, he]) hc k hk hlink hsame hfin hd hnar hfit hl hdg (fun H1 locs1 hP9 hD1 hS1 => ?_)
  rw [List.set_append_left _ _ (by rw [qW_len]; exact hj), qW_set (cs := cs) (b := b) (u := u) (u' := sF u K v) hj he2 (fun q _ hq => ho q hq)] at hP9
  exact kk _ H1 locs1 rF_self ⟨fun _ _ => rfl, fun q hq => rF_ne (fun h => hq (by rw [h]; exact List.mem_singleton.mpr rfl)), fun _ _ => rfl⟩ (z_sp hP9).1 (z_sp hP9).2 hS1
theorem zx_pre {av : List Value} {adK adV : Nat → Nat} (hK : va_K (dC, dI) vwCl (QTY cs) s) (hP : va_P (dC, dI) vwCl (qW cs b u) H) (hJ : QJ b) (hE : EX s) (hX : SX adK adV (AZ G b s.heap.size) s s.heap) (z0 : vk_R "GluedWords$Tokens" 68 "vertex" (adK 0) s) (z1 : vk_R "GluedWords$Tokens" 74 "edge" (adK 1) s) (z2 : vk_R "GluedWords$Tokens" 76 "word" (adK 2) s) (hS : va_S (AZ G b s.heap.size) s.heap H locs) : ∀ U : State, U.heap = H → s.WarmedH U.vm → PQX av H.size dC dI cs b u adK adV av.toArray U := fun U hU hw =>
  ⟨rfl, by rw [hU], by rw [hU]; exact hP, va_K.moved hw.alike hK, hJ, hE.warm hw, by rw [hU]; exact ((hX.kept hS.2.1).narrow (fun q h => h.elim (fun h => Or.inr (Or.inl h)) (fun h => Or.inr (Or.inr (Nat.le_trans hS.1 h))))).moved hw.alike, z0.warm hw, z1.warm hw, z2.warm hw⟩
theorem pw_pre {av : List Value} (hK : va_K (dC, dI) vwCl tys s) (hP : va_P (dC, dI) vwCl ws H) (hE : EX s) : ∀ U : State, U.heap = H → s.WarmedH U.vm → PW av H.size dC dI tys ws av.toArray U := fun U hU hw =>
  ⟨rfl, by rw [hU], by rw [hU]; exact hP, va_K.moved hw.alike hK, hE.warm hw⟩
theorem pw_1 {q : Nat × va_E} {D : va_G} {cl : List vw_C} (h : va_at D cl q H) : va_P D cl [q] H := fun k x hx => by
  match k, hx with
  | 0, hx => cases hx; exact h
  | k + 1, hx => cases hx
theorem pw_c {q : Nat × va_E} {D : va_G} {cl : List vw_C} (h : va_at D cl q H) (h2 : va_P D cl ws H) : va_P D cl (q :: ws) H := va_P.app (w1 := [q]) (pw_1 h) h2
theorem z_at {x : va_E} (hP1 : va_P (dC, dI) vwCl (va_pl (gL G) f) H) (ha : a ∈ gL G) (he : f a = x) : va_at (dC, dI) vwCl (a, x) H := by
  obtain ⟨k, hk⟩ := th_place ha he
  exact hP1 k _ hk
theorem z_aq {i : Nat} {x : va_E} (hP : va_P (dC, dI) vwCl (qW cs b u) H) (hi : i < 12) (he : qE cs b u i = x) : va_at (dC, dI) vwCl (b i, x) H := hP i _ (by rw [qW_at hi, he])
/-- the copy: one row of the typed heap takes what the draft's has -/
theorem z_copy {dc : Nat} {h w : Nat → Int32} (hJ : QJ b) (hDJ : ∀ i, i < 12 → b i ∉ gL G) (hP : va_P (dC, dI) vwCl (qW cs b u) H) (hP1 : va_P (dC, dI) vwCl (va_pl (gL G) f) H) (hok : OKT G ct t0 m0 f) (hdc : Ty G dc 21) (hn : gN G dc = 543) (hd : rA u 7 = h) (hAL : ∀ i, i < 12 → A (b i)) (hAT : ∀ a, a ∈ gL G → A a) (hS : va_S A H0 H locs) (hA : ∀ q, H0.size ≤ q → A q)
    (hr : va_Run p l e R s m args below meth c H locs cells slots 0 0 (F0 m pc ls st0) rest (va_Qv (fun (_ : Unit) => True) (fun _ t => va_P (dC, dI) vwCl [(dc, .inl (ct 0, 543, .inl w)), (b 7, .inl (cs 0, 543, .inl h))] t.heap) (fun q => q = dc ∨ q = b 7 ∨ H.size ≤ q) ar) (fun q => q = dc ∨ q = b 7 ∨ H.size ≤ q))
    (kk : ∀ (f' : Nat → va_E) (H1 : Heap) (locs1 : List Loc), f' dc = .inl (ct 0, 543, .inl w) → (∀ q, q ≠ dc → f' q = f q) → OKT G ct t0 m0 f' → va_P (dC, dI) vwCl (va_pl (gL G) f') H1 → va_P (dC, dI) vwCl (qW cs b u) H1 → va_S A H0 H1 locs1 → W p l e R s m args below meth c H1 locs1 cells slots Q (F0 m (pc + 3) ls rest)) : W p l e R s m args below meth c H locs cells slots Q (F0 m pc ls st0) := by
  have hF : ∀ q, (q = dc ∨ q = b 7 ∨ H.size ≤ q) → A q := fun q h => by
    rcases h with h | h | h
    · rw [h]; exact hAT _ hdc.1
    · rw [h]; exact hAL 7 (by decide)
    · exact hA q (Nat.le_trans hS.1 h)
  refine va_callv hr hS (fun q _ h => hF q h) hF (fun _ t H1 locs1 ht hvm hw hB hz1 hk1 hS1 => ?_)
  have hB : va_P (dC, dI) vwCl [(dc, .inl (ct 0, 543, .inl w)), (b 7, .inl (cs 0, 543, .inl h))] t.heap := hB
  rw [ht] at hB
  refine kk (va_up f dc (.inl (ct 0, 543, .inl w))) H1 locs1 (va_up_self _ _ _) (fun q hq => va_up_ne _ _ hq) (up_21 hok hdc ⟨w, by rw [hn]⟩) (fun k q hq => ?_) (fun k q hq => ?_) hS1
  · obtain ⟨h1, h2⟩ := z_pl hq
    obtain ⟨qa, qe⟩ := q
    have h1 : qa ∈ gL G := h1
    have h2 : qe = va_up f dc (.inl (ct 0, 543, .inl w)) qa := h2
    subst h2
    by_cases e : qa = dc
    · subst e
      rw [va_up_self]
      exact hB 0 _ rfl
    · rw [va_up_ne _ _ e]
      have h3 := z_at hP1 h1 rfl
      refine h3.kept (hk1 qa h3.lt (fun h => ?_))
      rcases h with h | h | h
      · exact e h
      · rw [h] at h1; exact hDJ 7 (by decide) h1
      · exact absurd h3.lt (Nat.not_lt.mpr h)
  · have h0 := hP k q hq
    obtain ⟨h1, rfl⟩ := z_qw hq
    by_cases e : b k = b 7
    · have e7 := hJ k 7 h1 (by decide) e
      subst e7
      have h9 := hB 1 _ rfl
      show va_at (dC, dI) vwCl (b 7, qE cs b u 7) H1
      rw [show qE cs b u 7 = .inl (cs 0, 543, .inl (rA u 7)) from rfl, hd]
      exact h9
    · refine h0.kept (hk1 _ h0.lt (fun h => ?_))
      rcases h with h | h | h
      · have h : b k = dc := h
        rw [← h] at hdc
        exact hDJ k h1 hdc.1
      · exact e h
      · exact absurd h0.lt (Nat.not_lt.mpr h)
end ZTH
set_option maxHeartbeats 4000000 in
set_option maxRecDepth 100000 in
theorem e_X7_words (l : Launch) (dC : Nat → ClassId) (dI : Nat → Nat → Nat) (sz : Nat) (c0 : ClassId) (d dc : Nat) (g : Nat → Int32) : Met l yX7_words [.code yX7_words cX7_words 1 (some .int)] ({ frames := 0, cells := 0, slots := 0, locals := 0 }) (PW [.ref d] sz dC dI [(c0, .int)] [(d, .inr (6, [.ref dc])), (dc, .inl (c0, 543, .inl g))]) (vp_Si (fun (r : Int32) => r = g 2)) 0 0 (fun _ => False) := by
  refine Met.ofW (cc := cX7_words) (maxL := 1) (ret := (some .int)) (by decide) rfl ?_
  intro p e s m args below meth c s₁ B hml hv
  obtain ⟨rfl, hsz, hP, hK, hE⟩ := hv
  have hx := B.exec
  have hb := B.bytes
  have hr := B.returns
  have hown : s.vm.findClass RX7 = some m.cls := findClass_of_methodNamed B.named
  have hlocks := B.notSynchronized
  subst hsz
  have hl := lv_entry ([.ref d]) (n := 1) (Nat.le_of_ble_eq_true rfl)
  rw [lg_entry_eq]
  generalize (lg_sl ([.ref d]) ++ List.replicate (1 - (lg_sl ([.ref d])).length) Slot.unset).toArray = ls at hl ⊢
  have hl : lv_has ls 1 [(0, .ref d)] := hl
  refine lv_aload_n hx hb dX7_words_0 rfl (lv_at hl 0 rfl) ?_
  refine va_get hx hb (ly_X7 hE) (fun _ h => h) hown hK hP 0 rfl rfl 0 (by decide) (wd_149 hE) (fun _ h9 => h9) (v := .ref dc) rfl dX7_words_1 ?_
  refine lv_iconst (v := 2) hx hb dX7_words_4 (by decide) ?_
  refine va_iald hx hb hK hP 1 0 (i := nI 2) (a := dc) (f := g) rfl rfl (vp_in_nI (by decide) (by decide)) dX7_words_5 ?_
  exact W.iret (v := g 2) hx hb hr (fun t ht hW => ⟨g 2, rfl, rfl, ht⟩) (fun _ h => absurd h List.not_mem_nil) dX7_words_6

set_option maxHeartbeats 4000000 in
set_option maxRecDepth 100000 in
theorem e_X7_copyFrom (l : Launch) (dC : Nat → ClassId) (dI : Nat → Nat → Nat) (sz : Nat) (c0 c1 : ClassId) (d dc s9 sc : Nat) (g h : Nat → Int32) (hne : dc ≠ sc) : Met l yX7_copyFrom [.code yX7_copyFrom cX7_copyFrom 2 none] ({ frames := 1, cells := 0, slots := 0, locals := 40 }) (PW [.ref d, .ref s9] sz dC dI [(c0, .int), (c1, .int)] ((d, .inr (6, [.ref dc])) :: (s9, .inr (6, [.ref sc])) :: [(dc, .inl (c0, 543, .inl g)), (sc, .inl (c1, 543, .inl h))])) (va_Qv (fun (_ : Unit) => True) (fun _ t => va_P (dC, dI) vwCl [(dc, .inl (c0, 543, .inl (va_cpy h g 0 0 543))), (sc, .inl (c1, 543, .inl h))] t.heap) (fun q => q = dc ∨ q = sc ∨ sz ≤ q)) 0 0 (fun q => q = dc ∨ q = sc ∨ sz ≤ q) := by
  refine Met.ofW (cc := cX7_copyFrom) (maxL := 2) (ret := none) (by decide) rfl ?_
  intro p e s m args below meth c s₁ B hml hv
  obtain ⟨rfl, hsz, hP, hK, hE⟩ := hv
  have hx := B.exec
  have hb := B.bytes
  have hr := B.returns
  have hown : s.vm.findClass RX7 = some m.cls := findClass_of_methodNamed B.named
  have hlocks := B.notSynchronized
  subst hsz
  have hl := lv_entry ([.ref d, .ref s9]) (n := 2) (Nat.le_of_ble_eq_true rfl)
  rw [lg_entry_eq]
  generalize (lg_sl ([.ref d, .ref s9]) ++ List.replicate (2 - (lg_sl ([.ref d, .ref s9])).length) Slot.unset).toArray = ls at hl ⊢
  have hl : lv_has ls 2 [(0, .ref d), (1, .ref s9)] := hl
  have hS : va_S (fun q => q = dc ∨ q = sc ∨ s.heap.size ≤ q) s.heap s.heap [] := va_S.rf
  refine lv_aload_n hx hb dX7_copyFrom_0 rfl (lv_at hl 1 rfl) ?_
  refine va_get hx hb (ly_X7 hE) (fun _ h => h) hown hK hP 1 rfl rfl 0 (by decide) (wd_149 hE) (fun _ h9 => h9) (v := .ref sc) rfl dX7_copyFrom_1 ?_
  refine lv_iconst (v := 0) hx hb dX7_copyFrom_4 (by decide) ?_
  refine lv_aload_n hx hb dX7_copyFrom_5 rfl (lv_at hl 0 rfl) ?_
  refine va_get hx hb (ly_X7 hE) (fun _ h => h) hown hK hP 0 rfl rfl 0 (by decide) (wd_149 hE) (fun _ h9 => h9) (v := .ref dc) rfl dX7_copyFrom_6 ?_
  refine lv_iconst (v := 0) hx hb dX7_copyFrom_9 (by decide) ?_
  refine lv_aload_n hx hb dX7_copyFrom_10 rfl (lv_at hl 1 rfl) ?_
  refine va_get hx hb (ly_X7 hE) (fun _ h => h) hown hK hP 1 rfl rfl 0 (by decide) (wd_149 hE) (fun _ h9 => h9) (v := .ref sc) rfl dX7_copyFrom_11 ?_
  refine va_alen hx hb hK hP 3 1 rfl rfl (v := 543) rfl dX7_copyFrom_14 ?_
  refine lv_aload_n hx hb dX7_copyFrom_15 rfl (lv_at hl 0 rfl) ?_
  refine va_get hx hb (ly_X7 hE) (fun _ h => h) hown hK hP 0 rfl rfl 0 (by decide) (wd_149 hE) (fun _ h9 => h9) (v := .ref dc) rfl dX7_copyFrom_16 ?_
  refine va_alen hx hb hK hP 2 0 rfl rfl (v := 543) rfl dX7_copyFrom_19 ?_
  refine va_mmin hx hb (by rw [hml]; exact hl.1.symm) hown (wd_735 hE) (wd_453 hE) (wd_128 hE) (wd_454 hE) (Nat.le_of_ble_eq_true rfl) (Nat.le_of_ble_eq_true rfl) (Nat.le_of_ble_eq_true rfl) (Nat.le_of_ble_eq_true rfl) dX7_copyFrom_20 ?_
  refine W.eq (g2 := F0 m 23 ls [.int 543, .int 0, .ref dc, .int 0, .ref sc]) rfl ?_
  have hP2 : va_P (dC, dI) vwCl [(dc, .inl (c0, 543, .inl g)), (sc, .inl (c1, 543, .inl h))] s.heap := hP.sub [2, 3] rfl
  have hD : va_D (fun q => q = dc ∨ q = sc ∨ s.heap.size ≤ q) [(dc, .inl (c0, 543, .inl g)), (sc, .inl (c1, 543, .inl h))] := by
    refine ⟨fun i j x y hi hj hxy => ?_, fun k x hk => ?_⟩
    · match i, j, hi, hj with
      | 0, 0, _, _ => rfl
      | 1, 1, _, _ => rfl
      | 0, 1, hi, hj => cases hi; cases hj; exact absurd hxy hne
      | 1, 0, hi, hj => cases hi; cases hj; exact absurd hxy.symm hne
      | _ + 2, _, hi, _ => cases hi
      | 0, _ + 2, _, hj => cases hj
      | 1, _ + 2, _, hj => cases hj
    · match k, hk with
      | 0, hk => cases hk; exact Or.inl rfl
      | 1, hk => cases hk; exact Or.inr (Or.inl rfl)
      | _ + 2, hk => cases hk
  refine va_copyi (ty := .int) hx hb (by rw [hml]; exact hl.1.symm) hown (wd_736 hE) (wd_738 hE) (wd_737 hE) (wd_133 hE) hK hP2 hD hS 1 0 1 0 rfl rfl rfl rfl rfl (by decide) (by decide) (by decide) (by decide) (by decide) (fun _ _ => rfl) (Nat.le_of_ble_eq_true rfl) (Nat.le_of_ble_eq_true rfl) dX7_copyFrom_23 (fun H1 locs1 hP9 hD9 hS9 => ?_)
  exact W.vret hx hb hr (fun t ht hW => ⟨⟨(), rfl, trivial, by rw [ht]; exact hP9⟩, hS9.F ht⟩) hS9.2.2 dX7_copyFrom_26

set_option maxHeartbeats 4000000 in
set_option maxRecDepth 100000 in
theorem q_X5_result (l : Launch) (dC : Nat → ClassId) (dI : Nat → Nat → Nat) (sz : Nat) (cs : Nat → ClassId) (b : Nat → Nat) (u : RS) : Met l yX5_result [.code yX5_result cX5_result 1 (some (.object "GluedWords$Store"))] ({ frames := 0, cells := 0, slots := 0, locals := 0 }) (PQ [.ref (b 0)] sz dC dI cs b u) (va_Sq (fun (r : Option Nat) => r = some (b 6))) 0 0 (fun _ => False) := by
  refine Met.ofW (cc := cX5_result) (maxL := 1) (ret := (some (.object "GluedWords$Store"))) (by decide) rfl ?_
  intro p e s m args below meth c s₁ B hml hv
  obtain ⟨rfl, hsz, hP, hK, hJ, hE⟩ := hv
  have hx := B.exec
  have hb := B.bytes
  have hr := B.returns
  have hown : s.vm.findClass RX5 = some m.cls := findClass_of_methodNamed B.named
  have hlocks := B.notSynchronized
  subst hsz
  have hl := lv_entry ([.ref (b 0)]) (n := 1) (Nat.le_of_ble_eq_true rfl)
  rw [lg_entry_eq]
  generalize (lg_sl ([.ref (b 0)]) ++ List.replicate (1 - (lg_sl ([.ref (b 0)])).length) Slot.unset).toArray = ls at hl ⊢
  have hl : lv_has ls 1 [(0, .ref (b 0))] := hl
  refine lv_aload_n hx hb dX5_result_0 rfl (lv_at hl 0 rfl) ?_
  refine q_get (v := .ref (b 6)) hx hb 0 (by decide) rfl (ly_X5 hE) hown hK hP rfl 1 (by decide) (wd_228 hE) (fun _ h9 => h9) rfl dX5_result_1 ?_
  exact W.aret (v := .ref (b 6)) hx hb hr (Or.inl ⟨_, rfl⟩) (Or.inr ⟨_, rfl⟩) (fun t ht hW => ⟨some (b 6), rfl, rfl, ht⟩) (fun _ h => absurd h List.not_mem_nil) dX5_result_4
set_option maxHeartbeats 4000000 in
set_option maxRecDepth 100000 in
theorem z_X11_load (l : Launch) (dC : Nat → ClassId) (dI : Nat → Nat → Nat) (sz : Nat) (cs : Nat → ClassId) (b : Nat → Nat) (u : RS) (adK adV : Nat → Nat) (G : GT) (ct : Nat → ClassId) (t0 m0 : Nat) (hT7 : Ty G (b 20) 7) (hT3 : Ty G (b 21) 3) (tx : Nat → Int32) (hAc5 : rA u 5 = tx) (k2 : Nat → Int32) (hAc2 : rA u 2 = k2) (k3 : Nat → Int32) (hAc3 : rA u 3 = k3) (k4 : Nat → Int32) (hAc4 : rA u 4 = k4) (dg : Nat → Int32) (hAc7 : rA u 7 = dg) (xn : Nat) (tt : Nat) (hF37 : rF u 37 = nI tt) (hp0 : BY tx) (hp1 : xn ≤ tt) (hp2 : tt ≤ 700) : Met l yX11_load [.code yX11_load cX11_load 2 (some .int)] ({ frames := 9, cells := 0, slots := 0, locals := 360 }) (PZ [.ref (b 11), .int (nI xn)] sz dC dI cs b u adK adV G ct t0 m0) (va_Qi (fun (r : Int32) (u' : RS) => (((pLoad tx xn).1 ≠ 0 ∧ r = -1 ∧ FQ u' (pLoad tx xn).1 (pLoad tx xn).2.1 (pLoad tx xn).2.2.1) ∨ ((pLoad tx xn).1 = 0 ∧ r = nI (pW (pLoad tx xn).2.2.2) ∧ rF u' 7 = 0 ∧ rF u' 8 = -1 ∧ rF u' 9 = -1)) ∧ (rF u' 3 = 1) ∧ (rF u' 37 = 0) ∧ FR [2, 3, 4, 7, 9, 10] [3, 4, 5, 6, 7, 8, 9, 13, 14, 15, 22, 23, 35, 37] false u u') (BZ dC dI cs b G ct t0 m0) (AZ G b sz)) 0 0 (AZ G b sz) := by
  refine Met.ofW (cc := cX11_load) (maxL := 2) (ret := (some .int)) (by decide) rfl ?_
  intro p e s m args below meth c s₁ B hml hv
  obtain ⟨rfl, hsz, hP, hK, hJ, hE, hX, hZ0, hZ1, hZ2, ⟨f0, hok, hP1⟩, hK1, hnd, hWT, hDJ⟩ := hv
  have hx := B.exec
  have hb := B.bytes
  have hr := B.returns
  have hown : s.vm.findClass RX11 = some m.cls := findClass_of_methodNamed B.named
  have hlocks := B.notSynchronized
  subst hsz
  have hAL : ∀ i, i < 12 → AZ G b s.heap.size (b i) := fun i h => Or.inr (Or.inl ⟨i, h, rfl⟩)
  have hA : ∀ q : Nat, s.heap.size ≤ q → AZ G b s.heap.size q := fun q h => Or.inr (Or.inr h)
  have hS : va_S (AZ G b s.heap.size) s.heap s.heap [] := va_S.rf
  have hfr : FR [2, 3, 4, 7, 9, 10] [3, 4, 5, 6, 7, 8, 9, 13, 14, 15, 22, 23, 35, 37] false u u := FR.refl
  have hl := lv_entry ([.ref (b 11), .int (nI xn)]) (n := 2) (Nat.le_of_ble_eq_true rfl)
  rw [lg_entry_eq]
  generalize (lg_sl ([.ref (b 11), .int (nI xn)]) ++ List.replicate (2 - (lg_sl ([.ref (b 11), .int (nI xn)])).length) Slot.unset).toArray = ls at hl ⊢
  have hl : lv_has ls 2 [(0, .ref (b 11)), (1, .int (nI xn))] := hl
  have hAT : ∀ a, a ∈ gL G → AZ G b s.heap.size a := fun a h => Or.inl h
  refine lv_iload_n hx hb dX11_load_0 rfl (lv_at hl 1 rfl) ?_
  refine lv_if_lt (tgt := 12) hx hb dX11_load_1 (by decide) (fun c4 => False.elim (by have c4 := (b_lt (nI_toInt (n := xn) (by omega)) (show Int32.toInt 0 = 0 from rfl)).mp c4; omega)) (fun c4 => ?_)
  have c4 := mt (b_lt (nI_toInt (n := xn) (by omega)) (show Int32.toInt 0 = 0 from rfl)).mpr c4
  refine lv_iload_n hx hb dX11_load_4 rfl (lv_at hl 1 rfl) ?_
  refine lv_aload_n hx hb dX11_load_5 rfl (lv_at hl 0 rfl) ?_
  refine q_get (v := .int (nI tt)) hx hb 11 (by decide) rfl (ly_X11 hE) hown hK hP rfl 7 (by decide) (wd_366 hE) (fun _ h9 => h9) (congrArg (fun z : Int32 => some (Value.int z)) hF37) dX11_load_6 ?_
  refine lv_icmp_le (tgt := 18) hx hb dX11_load_9 (by decide) (fun c5 => ?_) (fun c5 => False.elim (by have c5 := mt (b_le (nI_toInt (n := xn) (by omega)) (nI_toInt (n := tt) (by omega))).mpr c5; omega))
  have c5 := (b_le (nI_toInt (n := xn) (by omega)) (nI_toInt (n := tt) (by omega))).mp c5
  refine lv_aload_n hx hb dX11_load_18 rfl (lv_at hl 0 rfl) ?_
  refine lv_iconst (v := 0) hx hb dX11_load_19 (by decide) ?_
  refine zq_put (v := 0) (ty := .int) hP1 hnd hDJ hAT hx hb 11 37 (by decide) (ly_X11 hE) tyX11 tyX11_ok nmX11 hown hK hP hJ hAL hS rfl 7 (by decide) (wd_366 hE) (fun _ h9 => h9) rfl (by decide +kernel) rfl rfl rfl rfl (qE_put11 (by decide)) (by decide) dX11_load_20 (fun u6 H locs hf6 hq6 hP hP1 hS => ?_)
  have hA7 := (hq6.1 5 List.not_mem_nil).trans hAc5
  have hA8 := (hq6.1 2 List.not_mem_nil).trans hAc2
  have hA9 := (hq6.1 3 List.not_mem_nil).trans hAc3
  have hA10 := (hq6.1 4 List.not_mem_nil).trans hAc4
  have hA11 := (hq6.1 7 List.not_mem_nil).trans hAc7
  have hfr := FR.step hfr hq6 (fun _ h => absurd h List.not_mem_nil) (by decide) (fun h => rfl)
  refine lv_aload_n hx hb dX11_load_23 rfl (lv_at hl 0 rfl) ?_
  refine q_get (v := .ref (b 0)) hx hb 11 (by decide) rfl (ly_X11 hE) hown hK hP rfl 8 (by decide) (wd_367 hE) (fun _ h9 => h9) rfl dX11_load_24 ?_
  refine lv_aload_n hx hb dX11_load_27 rfl (lv_at hl 0 rfl) ?_
  refine q_get (v := .ref (b 5)) hx hb 11 (by decide) rfl (ly_X11 hE) hown hK hP rfl 6 (by decide) (wd_365 hE) (fun _ h9 => h9) rfl dX11_load_28 ?_
  refine lv_iload_n hx hb dX11_load_31 rfl (lv_at hl 1 rfl) ?_
  refine zc_i hDJ hP1 hAL hS hA (va_runV (As := [.ref (b 5), .int (nI xn)]) (rest := []) ⟨hx, hb, hml, hown, noTs⟩ (q_X5_read l dC dI H.size cs b u6 adK adV tx hA7 k2 hA8 k3 hA9 k4 hA10 dg hA11 xn (by first | assumption | omega | rfl | (congr 1; omega)) (by first | assumption | omega | rfl | (congr 1; omega))) ⟨cbE 2 (wd_440 hE) (wd_118 hE) (wd_437 hE) rfl rfl (by decide +kernel) ⟨Nat.le_of_ble_eq_true rfl, Nat.le_of_ble_eq_true rfl⟩, (wd_438 hE), (wd_439 hE)⟩ ⟨PQX.blind, q_recv 0 (by decide) rfl hK hP rfl, (zx_pre (av := [.ref (b 0), .ref (b 5), .int (nI xn)]) hK hP hJ hE hX hZ0 hZ1 hZ2 hS)⟩ rfl rfl hl.1 rfl (lv_room (Nat.le_of_ble_eq_true rfl)) dX11_load_32 ⟨Nat.le_of_ble_eq_true rfl, Nat.le_of_ble_eq_true rfl⟩) (fun r12 u12 H locs hpo12 hP hP1 hS => ?_)
  obtain ⟨hr12, h12_0, hq12⟩ := hpo12
  obtain ⟨w13, hA13⟩ : ∃ g, rA u12 7 = g := ⟨_, rfl⟩
  rw [hA13] at hr12
  have hA14 := (hq12.1 5 (by decide)).trans hA7
  have hF15x := (hq12.2.1 37 (by decide)).trans hf6
  have hfr := FR.step hfr hq12 (by decide) (by decide) (fun h => rfl)
  rcases hr12 with ⟨rfl, hb12⟩ | ⟨rfl, hb12⟩
  · have P0 := hb12.1
    have DGr := hb12.2.2.2.2
    refine lv_if_ne (tgt := 45) hx hb dX11_load_35 (by decide) (fun c16 => ?_) (fun c16 => absurd c16 (by decide))
    refine lv_aload_n hx hb dX11_load_45 rfl (lv_at hl 0 rfl) ?_
    refine q_get (v := .ref (b 21)) hx hb 11 (by decide) rfl (ly_X11 hE) hown hK hP rfl 1 (by decide) (wd_360 hE) (fun _ h9 => h9) rfl dX11_load_46 ?_
    refine lv_aload_n hx hb dX11_load_49 rfl (lv_at hl 0 rfl) ?_
    refine q_get (v := .ref (b 20)) hx hb 11 (by decide) rfl (ly_X11 hE) hown hK hP rfl 0 (by decide) (wd_359 hE) (fun _ h9 => h9) rfl dX11_load_50 ?_
    obtain ⟨ya17, yb17, he17⟩ := ok_X3 hok hT3
    refine zt_v hDJ hP hAT hS hA (va_runV (As := [.ref (b 20)]) (rest := []) ⟨hx, hb, hml, hown, noTs⟩ (t_X3_push l dC dI H.size G ct t0 m0 (b 21) hT3 (b 20) hT7) ⟨cbE 1 (wd_725 hE) (wd_117 hE) (wd_722 hE) rfl rfl (by decide +kernel) ⟨Nat.le_of_ble_eq_true rfl, Nat.le_of_ble_eq_true rfl⟩, (wd_723 hE), (wd_724 hE)⟩ ⟨PT.blind, th_recv hK1 hP1 hT3.1 he17 rfl, th_pre (av := [.ref (b 21), .ref (b 20)]) trivial hK1 hP1 hok hnd hWT hE⟩ rfl rfl hl.1 rfl (lv_room (Nat.le_of_ble_eq_true rfl)) dX11_load_53 ⟨Nat.le_of_ble_eq_true rfl, Nat.le_of_ble_eq_true rfl⟩) (fun f17 H locs _ hok hP1 hP hS => ?_)
    refine lv_aload_n hx hb dX11_load_56 rfl (lv_at hl 0 rfl) ?_
    refine q_get (v := .ref (b 20)) hx hb 11 (by decide) rfl (ly_X11 hE) hown hK hP rfl 0 (by decide) (wd_359 hE) (fun _ h9 => h9) rfl dX11_load_57 ?_
    refine lv_aload_n hx hb dX11_load_60 rfl (lv_at hl 0 rfl) ?_
    refine q_get (v := .ref (b 0)) hx hb 11 (by decide) rfl (ly_X11 hE) hown hK hP rfl 8 (by decide) (wd_367 hE) (fun _ h9 => h9) rfl dX11_load_61 ?_
    refine va_csq (va_Run.run (va_runV (As := []) (rest := [.ref (b 20)]) ⟨hx, hb, hml, hown, noTs⟩ (q_X5_result l dC dI H.size cs b u12) ⟨cbE 0 (wd_742 hE) (wd_118 hE) (wd_739 hE) rfl rfl (by decide +kernel) ⟨Nat.le_of_ble_eq_true rfl, Nat.le_of_ble_eq_true rfl⟩, (wd_740 hE), (wd_741 hE)⟩ ⟨PQ.blind, q_recv 0 (by decide) rfl hK hP rfl, q_pre (av := [.ref (b 0)]) hK hP hJ hE⟩ rfl rfl hl.1 rfl (lv_room (Nat.le_of_ble_eq_true rfl)) dX11_load_64 ⟨Nat.le_of_ble_eq_true rfl, Nat.le_of_ble_eq_true rfl⟩)) (fun r18 hr18 => ?_)
    subst hr18
    have he19 := ok_X7 hok hT7
    obtain ⟨gN19, hg19⟩ := ok_21 hok (wt_X7_0 hWT hT7)
    rw [wl_X7_0 hWT hT7] at hg19
    have hne19 : gR G (b 20) 0 ≠ b 7 := fun h => hDJ 7 (by decide) (h ▸ (wt_X7_0 hWT hT7).1)
    refine z_copy (h := w13) hJ hDJ hP hP1 hok (wt_X7_0 hWT hT7) (wl_X7_0 hWT hT7) hA13 hAL hAT hS hA (va_runV (As := [.ref (b 6)]) (rest := []) ⟨hx, hb, hml, hown, noTs⟩ (e_X7_copyFrom l dC dI H.size (ct 0) (cs 0) (b 20) (gR G (b 20) 0) (b 6) (b 7) gN19 w13 hne19) ⟨cbE 1 (wd_734 hE) (wd_116 hE) (wd_743 hE) rfl rfl (by decide +kernel) ⟨Nat.le_of_ble_eq_true rfl, Nat.le_of_ble_eq_true rfl⟩, (wd_732 hE), (wd_733 hE)⟩ ⟨PW.blind, th_recv hK1 hP1 hT7.1 he19 rfl, pw_pre (av := [.ref (b 20), .ref (b 6)]) ((hK1.sub [0] rfl).app (hK.sub [0] rfl)) (pw_c (z_at hP1 hT7.1 he19) (pw_c (z_aq hP (show 6 < 12 by decide) rfl) (pw_c (z_at hP1 (wt_X7_0 hWT hT7).1 hg19) (pw_1 (z_aq hP (show 7 < 12 by decide) (by show _ = Sum.inl (cs 0, 543, Sum.inl w13); rw [← hA13]; rfl)))))) hE⟩ rfl rfl hl.1 rfl (lv_room (Nat.le_of_ble_eq_true rfl)) dX11_load_67 ⟨Nat.le_of_ble_eq_true rfl, Nat.le_of_ble_eq_true rfl⟩) (fun f19 H locs hfd hfo hok hP1 hP hS => ?_)
    refine lv_aload_n hx hb dX11_load_70 rfl (lv_at hl 0 rfl) ?_
    refine lv_aload_n hx hb dX11_load_71 rfl (lv_at hl 0 rfl) ?_
    refine q_get (v := .ref (b 20)) hx hb 11 (by decide) rfl (ly_X11 hE) hown hK hP rfl 0 (by decide) (wd_359 hE) (fun _ h9 => h9) rfl dX11_load_72 ?_
    have he20 := ok_X7 hok hT7
    refine vp_callSi (va_Run.run (va_runV (As := []) (rest := [.ref (b 11)]) ⟨hx, hb, hml, hown, noTs⟩ (e_X7_words l dC dI H.size (ct 0) (b 20) (gR G (b 20) 0) _) ⟨cbE 0 (wd_700 hE) (wd_116 hE) (wd_744 hE) rfl rfl (by decide +kernel) ⟨Nat.le_of_ble_eq_true rfl, Nat.le_of_ble_eq_true rfl⟩, (wd_698 hE), (wd_699 hE)⟩ ⟨PW.blind, th_recv hK1 hP1 hT7.1 he20 rfl, pw_pre (av := [.ref (b 20)]) (hK1.sub [0] rfl) (pw_c (z_at hP1 hT7.1 he20) (pw_1 (z_at hP1 (wt_X7_0 hWT hT7).1 hfd))) hE⟩ rfl rfl hl.1 rfl (lv_room (Nat.le_of_ble_eq_true rfl)) dX11_load_75 ⟨Nat.le_of_ble_eq_true rfl, Nat.le_of_ble_eq_true rfl⟩)) (fun r20 hr20 => ?_)
    have ANS : r20 = nI (pW (pLoad tx xn).2.2.2) := hr20.trans (show w13 2 = _ from DGr.2.2.2.2.1)
    refine zc_i hDJ hP1 hAL hS hA (va_runV (As := [.int r20]) (rest := []) ⟨hx, hb, hml, hown, noTs⟩ (q_X11_answer l dC dI H.size cs b u12 r20) ⟨cbE 1 (wd_748 hE) (wd_115 hE) (wd_745 hE) rfl rfl (by decide +kernel) ⟨Nat.le_of_ble_eq_true rfl, Nat.le_of_ble_eq_true rfl⟩, (wd_747 hE), (wd_23 hE)⟩ ⟨PQ.blind, q_recv 11 (by decide) rfl hK hP rfl, (q_pre (av := [.ref (b 11), .int r20]) hK hP hJ hE)⟩ rfl rfl hl.1 rfl (lv_room (Nat.le_of_ble_eq_true rfl)) dX11_load_78 ⟨Nat.le_of_ble_eq_true rfl, Nat.le_of_ble_eq_true rfl⟩) (fun r21 u21 H locs hpo21 hP hP1 hS => ?_)
    obtain ⟨hr21, hq21⟩ := hpo21
    have hA22 := (hq21.1 5 List.not_mem_nil).trans hA14
    have hA23 := (hq21.1 7 List.not_mem_nil).trans hA13
    have hF24x := (hq21.2.1 37 (by decide)).trans hF15x
    have hF25x := (hq21.2.1 3 (by decide)).trans h12_0
    have hF26x := (hq21.2.1 7 (by decide)).trans hb12.2.1
    have hF27x := (hq21.2.1 8 (by decide)).trans hb12.2.2.1
    have hF28x := (hq21.2.1 9 (by decide)).trans hb12.2.2.2.1
    have hfr := FR.step hfr hq21 (fun _ h => absurd h List.not_mem_nil) (by decide) (fun h => rfl)
    refine W.eq (g2 := F0 m 81 ls [.int r20]) (by rw [hr21]) ?_
    exact W.iret (v := r20) hx hb hr (fun t ht hW => ⟨⟨r20, u21, rfl, ⟨(by exact Or.inr ⟨P0, ANS, hF26x, hF27x, hF28x⟩), (by first | (rw [hF25x]; done) | (rw [hF25x]; first | assumption | omega | rfl | (congr 1; omega))), (by first | (rw [hF24x]; done) | (rw [hF24x]; first | assumption | omega | rfl | (congr 1; omega))), hfr⟩, ⟨by rw [ht]; exact hP, _, hok, by rw [ht]; exact hP1⟩⟩, hS.F ht⟩) hS.2.2 dX11_load_81
  · have NN := id hb12
    refine lv_if_ne (tgt := 45) hx hb dX11_load_35 (by decide) (fun c29 => absurd c29 (by decide)) (fun c29 => ?_)
    refine lv_aload_n hx hb dX11_load_38 rfl (lv_at hl 0 rfl) ?_
    refine lv_bipush (v := 9) hx hb dX11_load_39 (by decide) ?_
    refine zc_i hDJ hP1 hAL hS hA (va_runV (As := [.int 9]) (rest := []) ⟨hx, hb, hml, hown, noTs⟩ (q_X11_fail l dC dI H.size cs b u12 9) ⟨cbE 1 (wd_436 hE) (wd_115 hE) (wd_433 hE) rfl rfl (by decide +kernel) ⟨Nat.le_of_ble_eq_true rfl, Nat.le_of_ble_eq_true rfl⟩, (wd_435 hE), (wd_1 hE)⟩ ⟨PQ.blind, q_recv 11 (by decide) rfl hK hP rfl, (q_pre (av := [.ref (b 11), .int 9]) hK hP hJ hE)⟩ rfl rfl hl.1 rfl (lv_room (Nat.le_of_ble_eq_true rfl)) dX11_load_41 ⟨Nat.le_of_ble_eq_true rfl, Nat.le_of_ble_eq_true rfl⟩) (fun r30 u30 H locs hpo30 hP hP1 hS => ?_)
    obtain ⟨hr30, hq30⟩ := hpo30
    have hA31 := (hq30.1 5 List.not_mem_nil).trans hA14
    have hA32 := (hq30.1 7 List.not_mem_nil).trans hA13
    have hF33x := (hq30.2.1 37 (by decide)).trans hF15x
    have hF34x := (hq30.2.1 3 (by decide)).trans h12_0
    have hF35x := (hq30.2.1 7 (by decide)).trans hb12.2.1
    have hF36x := (hq30.2.1 8 (by decide)).trans hb12.2.2.1
    have hF37x := (hq30.2.1 9 (by decide)).trans hb12.2.2.2
    have hfr := FR.step hfr hq30 (fun _ h => absurd h List.not_mem_nil) (by decide) (fun h => rfl)
    subst hr30
    exact W.iret (v := -1) hx hb hr (fun t ht hW => ⟨⟨-1, u30, rfl, ⟨(by exact Or.inl ⟨NN.1, rfl, hF35x, hF36x, hF37x⟩), (by first | (rw [hF34x]; done) | (rw [hF34x]; first | assumption | omega | rfl | (congr 1; omega))), (by first | (rw [hF33x]; done) | (rw [hF33x]; first | assumption | omega | rfl | (congr 1; omega))), hfr⟩, ⟨by rw [ht]; exact hP, _, hok, by rw [ht]; exact hP1⟩⟩, hS.F ht⟩) hS.2.2 dX11_load_44
