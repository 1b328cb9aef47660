/-! what every contract here takes and gives: the world's cells, the links among nest mates, the arrays of arrays -/
/-- the classes of long[][][] and int[][], as the tables have them -/
def AM (U : State) : Prop :=
  (∃ (cA cB cC cD : ClassId) (kA kB kC : Class), U.vm.findClass "[[[J" = some cA ∧ U.vm.classes[cA]? = some kA ∧ kA.kind = .array cB (.array (.array .long)) ∧ U.vm.classes[cB]? = some kB ∧ kB.kind = .array cC (.array .long) ∧ U.vm.classes[cC]? = some kC ∧ kC.kind = .array cD .long) ∧
  (∃ (cA cB cD : ClassId) (kA kB : Class), U.vm.findClass "[[I" = some cA ∧ U.vm.classes[cA]? = some kA ∧ kA.kind = .array cB (.array .int) ∧ U.vm.classes[cB]? = some kB ∧ kB.kind = .array cD .int)
theorem AM.moved {u U : State} (hvm : u.vm.Alike U.vm) (h : AM u) : AM U := by
  obtain ⟨⟨cA, cB, cC, cD, kA, kB, kC, f1, a1, a2, b1, b2, c1, c2⟩, cE, cF, cG, kE, kF, g1, e1, e2, h1, h2⟩ := h
  obtain ⟨kA', a1', a3⟩ := hvm.2.2 _ _ a1
  obtain ⟨kB', b1', b3⟩ := hvm.2.2 _ _ b1
  obtain ⟨kC', c1', c3⟩ := hvm.2.2 _ _ c1
  obtain ⟨kE', e1', e3⟩ := hvm.2.2 _ _ e1
  obtain ⟨kF', h1', h3⟩ := hvm.2.2 _ _ h1
  exact ⟨⟨cA, cB, cC, cD, kA', kB', kC', by rw [hvm.findClass]; exact f1, a1', by rw [a3]; exact a2, b1', by rw [b3]; exact b2, c1', by rw [c3]; exact c2⟩, cE, cF, cG, kE', kF', by rw [hvm.findClass]; exact g1, e1', by rw [e3]; exact e2, h1', by rw [h3]; exact h2⟩
/-- what the tables hold: their words, nest links, arrays of objects, arrays of arrays -/
def EX (U : State) : Prop := (∀ w ∈ lw_tbl, goodWord w = true → ∀ a : Array Value, w.before a U = true) ∧ (∀ (o : String) (i : Nat) (y : MethodName) (h : String), Cond.methodLinkNest o i y h ∈ lw_tbl → va_Nw (.methodLinkNest o i y h) U) ∧ va_AO "GluedWords$Store" U ∧ va_AO "GluedWords$History" U ∧ AM U
theorem EX.warm {s U : State} (hW : s.WarmedH U.vm) (h : EX s) : EX U := ⟨fun w hw hg a => word_at hW (good_of_word hg) (h.1 w hw hg #[]), fun o i y n hq => va_Nw.warmM hW (h.2.1 o i y n hq), va_AO.moved hW.alike h.2.2.1, va_AO.moved hW.alike h.2.2.2.1, AM.moved hW.alike h.2.2.2.2⟩
theorem EX.blind {U : State} {g : JFrame} {mk : MethodId} {a : Array Value} (h : EX U) : EX (U.calling g mk a) := EX.warm (show U.WarmedH (U.calling g mk a).vm from State.WarmedH.refl U) h
theorem EX.w {s : State} (hE : EX s) {w : Cond} (i : Nat) (hm : lw_tbl[i]? = some w) (hg : goodWord w = true) {args : Array Value} : w.before args s = true := hE.1 w (List.mem_of_getElem? hm) hg args
theorem EX.n {s : State} (hE : EX s) {o : String} {j : Nat} {y : MethodName} {h : String} (i : Nat) (hm : lw_tbl[i]? = some (.methodLinkNest o j y h)) : va_Nw (.methodLinkNest o j y h) s := hE.2.1 o j y h (List.mem_of_getElem? hm)
/-- a class's own words, by their places -/
theorem EX.lay {s : State} (hE : EX s) {C : String} {T : u_T} {N : Nat} (ps : List Nat) (hp : u_ws C T N = ps.filterMap (fun i => lw_tbl[i]?)) (hg : (u_ws C T N).all goodWord = true) {args : Array Value} : ∀ w ∈ u_ws C T N, w.before args s = true := fun w hw => by
  have h1 := List.all_eq_true.mp hg w hw
  rw [hp] at hw
  obtain ⟨i, -, hi⟩ := List.mem_filterMap.mp hw
  exact hE.1 w (List.mem_of_getElem? hi) h1 args
/-- a call's words: the callee's code alone is carried -/
theorem cbE {R : Room} {s : State} {args : Array Value} {own : String} {index maxL mc ms : Nat} {y : MethodName} {bytes : ByteArray} {ret : Option FieldType} {rm : Room} (n : Nat) (hcode : (Cond.code y bytes maxL ret).before args s = true) (hini : (Cond.initialized y.cls).before args s = true) (hl : (Cond.methodLink own index y).before args s = true) (hrc : rm.cells = mc) (hrs : rm.slots = ms)
    (hd : y.cls ≠ "java/lang/invoke/MethodHandle" ∧ y.cls ≠ "java/lang/invoke/VarHandle" ∧ (parseMethodDescriptor y.desc).map (fun d => d.parameters.length) = some n) (hR : rm.frames + 1 ≤ R.frames ∧ 8 + (maxL + 11) + rm.locals ≤ R.locals) : CallB R s args own index y bytes maxL ret [Cond.code y bytes maxL ret] rm mc ms n :=
  callB_of (Ts := [Cond.code y bytes maxL ret]) (ws' := []) n (fun w h => by rw [List.mem_singleton.mp h]; exact hcode) (fun w h => ⟨h, by rw [List.mem_singleton.mp h]; exact Or.inl rfl⟩) rfl hrc hrs hini hl hd hR
theorem cnE {R : Room} {s : State} {args : Array Value} {own host : String} {index maxL mc ms : Nat} {y : MethodName} {bytes : ByteArray} {ret : Option FieldType} {rm : Room} (n : Nat) (hcode : (Cond.code y bytes maxL ret).before args s = true) (hini : (Cond.initialized y.cls).before args s = true) (hl : va_Nw (.methodLinkNest own index y host) s) (hrc : rm.cells = mc) (hrs : rm.slots = ms)
    (hd : y.cls ≠ "java/lang/invoke/MethodHandle" ∧ y.cls ≠ "java/lang/invoke/VarHandle" ∧ (parseMethodDescriptor y.desc).map (fun d => d.parameters.length) = some n) (hR : rm.frames + 1 ≤ R.frames ∧ 8 + (maxL + 11) + rm.locals ≤ R.locals) : va_CN R s args own index y host bytes maxL ret [Cond.code y bytes maxL ret] rm mc ms n :=
  va_cnB (Ts := [Cond.code y bytes maxL ret]) (ws' := []) n (fun w h => by rw [List.mem_singleton.mp h]; exact hcode) (fun w h => ⟨h, by rw [List.mem_singleton.mp h]; exact Or.inl rfl⟩) rfl hrc hrs hl hini hd hR
theorem noTs {s : State} {args : Array Value} : ∀ w ∈ ([] : List Cond), w.before args s = true := fun _ h => absurd h List.not_mem_nil
/-- a contract's start: arguments, the heap's size, the cells, the tables -/
def PcE (av : List Value) (sz : Nat) (dC : Nat → ClassId) (dI : Nat → Nat → Nat) (tys : List (ClassId × FieldType)) (ws : va_W) : Array Value → State → Prop :=
  va_Pc av (fun U => U.heap.size = sz ∧ va_P (dC, dI) vwCl ws U.heap ∧ va_K (dC, dI) vwCl tys U ∧ va_D (fun _ => True) ws ∧ EX U)
theorem PcE.blind {av : List Value} {sz : Nat} {dC : Nat → ClassId} {dI : Nat → Nat → Nat} {tys : List (ClassId × FieldType)} {ws : va_W} : FrameBlind (PcE av sz dC dI tys ws) := fun a U g mk q => by
  obtain ⟨q0, q1, qP, qK, qD, qE⟩ := q
  exact ⟨q0, q1, qP, va_K.moved (u := U) (U := U.calling g mk a) (Vm.Alike.refl U.vm) qK, qD, qE.blind⟩
/-- a contract's end: the cells behind it -/
def Bw {S : Type} (dC : Nat → ClassId) (dI : Nat → Nat → Nat) (A : Nat → Prop) (tys : S → List (ClassId × FieldType)) (w : S → va_W) : S → State → Prop := fun u t => va_P (dC, dI) vwCl (w u) t.heap ∧ va_K (dC, dI) vwCl (tys u) t ∧ va_D A (w u)
section CLS
variable {p : Program} {l : Launch} {e : Env} {R : Room} {s : State} {m : MethodId} {args : Array Value} {below : List Frame} {meth : Method} {c : Code} {H : Heap} {locs : List Loc} {cells slots : Nat} {Q : State → Prop}
variable {pc : Nat} {ls : Array Slot} {rest st0 : List Value} {a : Array Value} {A0 : Nat → Prop} {H0 : Heap} {mc ms : Nat}
variable {dC : Nat → ClassId} {dI : Nat → Nat → Nat} {ws wc wr : va_W} {tys tysc : List (ClassId × FieldType)}
theorem pre_E {av : List Value} (isC isT : List Nat) (hC1 : isC.filterMap (fun i => ws[i]?) = wc) (hnd : va_nd isC = true) (hC : isC.map (fun i => ws[i]?) = wc.map some) (hT : isT.filterMap (fun i => tys[i]?) = tysc) (hK : va_K (dC, dI) vwCl tys s) (hP : va_P (dC, dI) vwCl ws H) (hD : va_D A0 ws) (hE : EX s) :
    ∀ U : State, U.heap = H → s.WarmedH U.vm → PcE av H.size dC dI tysc wc av.toArray U := fun U hU hW =>
  ⟨rfl, by rw [hU], by rw [hU]; exact hP.sub isC hC1, va_K.moved hW.alike (hK.sub isT hT), (hD.sub isC hnd hC).weaken (fun _ _ _ _ => trivial), hE.warm hW⟩
theorem cl_i {S : Type} {post : Int32 → S → Prop} {tys1 : S → List (ClassId × FieldType)} {w1 : S → va_W} (isC isR : List Nat) (hC : isC.map (fun i => ws[i]?) = wc.map some) (hR : isR.map (fun i => ws[i]?) = wr.map some) (hn : va_nd isR = true) (hdis : ∀ i ∈ isR, i ∉ isC)
    (hK : va_K (dC, dI) vwCl tys s) (hP : va_P (dC, dI) vwCl ws H) (hD : va_D A0 ws) (hS : va_S A0 H0 H locs) (hA : ∀ q, H0.size ≤ q → A0 q)
    (hr : va_Run p l e R s m args below meth c H locs cells slots mc ms (F0 m pc ls st0) rest (va_Qi post (Bw dC dI (va_A wc H.size) tys1 w1) (va_A wc H.size) a) (va_A wc H.size))
    (kk : ∀ (r : Int32) (u : S) (H1 : Heap) (locs1 : List Loc), post r u → va_K (dC, dI) vwCl (tys ++ tys1 u) s → va_P (dC, dI) vwCl (wr ++ w1 u) H1 → va_D A0 (wr ++ w1 u) → va_S A0 H0 H1 locs1 → W p l e R s m args below meth c H1 locs1 (cells + mc) (slots + ms) Q (F0 m (pc + 3) ls (.int r :: rest))) : W p l e R s m args below meth c H locs cells slots Q (F0 m pc ls st0) := by
  have hFc := va_free (wc := wc) hD hS hA isC hC
  refine va_calli hr hS (fun q _ h => hFc q h) hFc (fun r u t H1 locs1 ht hvm hw hB hz1 hk1 hS1 => ?_)
  obtain ⟨hP1, hK1, hD1⟩ := hB
  rw [ht] at hP1
  have hK1 := va_K.moved hvm.symm hK1
  obtain ⟨hP2, hD2⟩ := va_join hP hD isC isR hC hR hn hdis hk1 hFc hP1 hD1
  exact kk r u H1 locs1 hw (hK.app hK1) hP2 hD2 hS1
theorem cl_l {S : Type} {post : Int64 → S → Prop} {tys1 : S → List (ClassId × FieldType)} {w1 : S → va_W} (isC isR : List Nat) (hC : isC.map (fun i => ws[i]?) = wc.map some) (hR : isR.map (fun i => ws[i]?) = wr.map some) (hn : va_nd isR = true) (hdis : ∀ i ∈ isR, i ∉ isC)
    (hK : va_K (dC, dI) vwCl tys s) (hP : va_P (dC, dI) vwCl ws H) (hD : va_D A0 ws) (hS : va_S A0 H0 H locs) (hA : ∀ q, H0.size ≤ q → A0 q)
    (hr : va_Run p l e R s m args below meth c H locs cells slots mc ms (F0 m pc ls st0) rest (va_Ql post (Bw dC dI (va_A wc H.size) tys1 w1) (va_A wc H.size) a) (va_A wc H.size))
    (kk : ∀ (r : Int64) (u : S) (H1 : Heap) (locs1 : List Loc), post r u → va_K (dC, dI) vwCl (tys ++ tys1 u) s → va_P (dC, dI) vwCl (wr ++ w1 u) H1 → va_D A0 (wr ++ w1 u) → va_S A0 H0 H1 locs1 → W p l e R s m args below meth c H1 locs1 (cells + mc) (slots + ms) Q (F0 m (pc + 3) ls (.long r :: rest))) : W p l e R s m args below meth c H locs cells slots Q (F0 m pc ls st0) := by
  have hFc := va_free (wc := wc) hD hS hA isC hC
  refine va_calll hr hS (fun q _ h => hFc q h) hFc (fun r u t H1 locs1 ht hvm hw hB hz1 hk1 hS1 => ?_)
  obtain ⟨hP1, hK1, hD1⟩ := hB
  rw [ht] at hP1
  have hK1 := va_K.moved hvm.symm hK1
  obtain ⟨hP2, hD2⟩ := va_join hP hD isC isR hC hR hn hdis hk1 hFc hP1 hD1
  exact kk r u H1 locs1 hw (hK.app hK1) hP2 hD2 hS1
theorem cl_v {S : Type} {post : S → Prop} {tys1 : S → List (ClassId × FieldType)} {w1 : S → va_W} (isC isR : List Nat) (hC : isC.map (fun i => ws[i]?) = wc.map some) (hR : isR.map (fun i => ws[i]?) = wr.map some) (hn : va_nd isR = true) (hdis : ∀ i ∈ isR, i ∉ isC)
    (hK : va_K (dC, dI) vwCl tys s) (hP : va_P (dC, dI) vwCl ws H) (hD : va_D A0 ws) (hS : va_S A0 H0 H locs) (hA : ∀ q, H0.size ≤ q → A0 q)
    (hr : va_Run p l e R s m args below meth c H locs cells slots mc ms (F0 m pc ls st0) rest (va_Qv post (Bw dC dI (va_A wc H.size) tys1 w1) (va_A wc H.size) a) (va_A wc H.size))
    (kk : ∀ (u : S) (H1 : Heap) (locs1 : List Loc), post u → va_K (dC, dI) vwCl (tys ++ tys1 u) s → va_P (dC, dI) vwCl (wr ++ w1 u) H1 → va_D A0 (wr ++ w1 u) → va_S A0 H0 H1 locs1 → W p l e R s m args below meth c H1 locs1 (cells + mc) (slots + ms) Q (F0 m (pc + 3) ls rest)) : W p l e R s m args below meth c H locs cells slots Q (F0 m pc ls st0) := by
  have hFc := va_free (wc := wc) hD hS hA isC hC
  refine va_callv hr hS (fun q _ h => hFc q h) hFc (fun u t H1 locs1 ht hvm hw hB hz1 hk1 hS1 => ?_)
  obtain ⟨hP1, hK1, hD1⟩ := hB
  rw [ht] at hP1
  have hK1 := va_K.moved hvm.symm hK1
  obtain ⟨hP2, hD2⟩ := va_join hP hD isC isR hC hR hn hdis hk1 hFc hP1 hD1
  exact kk u H1 locs1 hw (hK.app hK1) hP2 hD2 hS1
/-- an answer that is a cell known before: 'ad u' says which -/
theorem cl_r {S : Type} {post : S → Prop} {ad : S → Nat} {tys1 : S → List (ClassId × FieldType)} {w1 : S → va_W} (isC isR : List Nat) (hC : isC.map (fun i => ws[i]?) = wc.map some) (hR : isR.map (fun i => ws[i]?) = wr.map some) (hn : va_nd isR = true) (hdis : ∀ i ∈ isR, i ∉ isC)
    (hK : va_K (dC, dI) vwCl tys s) (hP : va_P (dC, dI) vwCl ws H) (hD : va_D A0 ws) (hS : va_S A0 H0 H locs) (hA : ∀ q, H0.size ≤ q → A0 q)
    (hr : va_Run p l e R s m args below meth c H locs cells slots mc ms (F0 m pc ls st0) rest (va_Qr post (fun (u : S) (x : Nat) (t : State) => x = ad u ∧ Bw dC dI (va_A wc H.size) tys1 w1 u t) (va_A wc H.size) a) (va_A wc H.size))
    (kk : ∀ (u : S) (H1 : Heap) (locs1 : List Loc), post u → va_K (dC, dI) vwCl (tys ++ tys1 u) s → va_P (dC, dI) vwCl (wr ++ w1 u) H1 → va_D A0 (wr ++ w1 u) → va_S A0 H0 H1 locs1 → W p l e R s m args below meth c H1 locs1 (cells + mc) (slots + ms) Q (F0 m (pc + 3) ls (.ref (ad u) :: rest))) : W p l e R s m args below meth c H locs cells slots Q (F0 m pc ls st0) := by
  have hFc := va_free (wc := wc) hD hS hA isC hC
  refine va_callr hr hS (fun q _ h => hFc q h) hFc (fun u ra t H1 locs1 ht hvm hw hB hz1 hk1 hS1 => ?_)
  obtain ⟨rfl, hP1, hK1, hD1⟩ := hB
  rw [ht] at hP1
  have hK1 := va_K.moved hvm.symm hK1
  obtain ⟨hP2, hD2⟩ := va_join hP hD isC isR hC hR hn hdis hk1 hFc hP1 hD1
  exact kk u H1 locs1 hw (hK.app hK1) hP2 hD2 hS1
end CLS
/-! comparisons of ints, as integers -/
theorem i_lt {x y : Int32} : x < y ↔ x.toInt < y.toInt := Int32.lt_iff_toInt_lt
theorem i_le {x y : Int32} : x ≤ y ↔ x.toInt ≤ y.toInt := Int32.le_iff_toInt_le
theorem i_eq {x y : Int32} : x = y ↔ x.toInt = y.toInt := Int32.toInt_inj.symm
/-! arrays that hold 0 alone -/
theorem zz_upd {k : Nat} : upd (fun _ => (0 : Int32)) k 0 = fun _ => 0 := funext fun j => by
  by_cases h : j = k
  · subst h; exact pk_us
  · exact pk_un h
theorem zz_cpy {sp dp n : Nat} : va_cpy (fun _ => (0 : Int32)) (fun _ => (0 : Int32)) sp dp n = fun _ => 0 := funext fun j => by
  unfold va_cpy
  exact ite_self _
/-- a loop that counts up: the goal at its head, for each count -/
theorem w_loop {p : Program} {l : Launch} {e : Env} {R : Room} {s : State} {m : MethodId} {args : Array Value} {below : List Frame} {meth : Method} {c : Code} {cells slots : Nat} {Q : State → Prop} {pc N : Nat} {I : Nat → Heap → List Loc → Array Slot → Prop}
    (step : ∀ (k : Nat) (H : Heap) (locs : List Loc) (ls : Array Slot), k ≤ N → I k H locs ls → (k < N → ∀ (H' : Heap) (locs' : List Loc) (ls' : Array Slot), I (k + 1) H' locs' ls' → W p l e R s m args below meth c H' locs' cells slots Q (F0 m pc ls' [])) → W p l e R s m args below meth c H locs cells slots Q (F0 m pc ls [])) :
    ∀ (k : Nat) (H : Heap) (locs : List Loc) (ls : Array Slot), k ≤ N → I k H locs ls → W p l e R s m args below meth c H locs cells slots Q (F0 m pc ls []) := by
  have key : ∀ (d k : Nat), k + d = N → ∀ (H : Heap) (locs : List Loc) (ls : Array Slot), I k H locs ls → W p l e R s m args below meth c H locs cells slots Q (F0 m pc ls []) := by
    intro d
    induction d with
    | zero => intro k hk H locs ls hI; exact step k H locs ls (by omega) hI (fun h => absurd h (by omega))
    | succ d ih => intro k hk H locs ls hI; exact step k H locs ls (by omega) hI (fun _ H' locs' ls' h => ih (k + 1) (by omega) H' locs' ls' h)
  intro k H locs ls hk hI
  exact key (N - k) k (by omega) H locs ls hI
theorem ti_m9 : Int32.toInt (-9) = -9 := rfl
theorem ti_m1 : Int32.toInt (-1) = -1 := rfl
theorem ti_0 : Int32.toInt (0) = 0 := rfl
theorem ti_1 : Int32.toInt (1) = 1 := rfl
theorem ti_2 : Int32.toInt (2) = 2 := rfl
theorem ti_3 : Int32.toInt (3) = 3 := rfl
theorem ti_4 : Int32.toInt (4) = 4 := rfl
theorem ti_5 : Int32.toInt (5) = 5 := rfl
theorem ti_6 : Int32.toInt (6) = 6 := rfl
theorem ti_7 : Int32.toInt (7) = 7 := rfl
theorem ti_9 : Int32.toInt (9) = 9 := rfl
theorem ti_12 : Int32.toInt (12) = 12 := rfl
theorem ti_20 : Int32.toInt (20) = 20 := rfl
theorem ti_99 : Int32.toInt (99) = 99 := rfl
theorem ti_700 : Int32.toInt (700) = 700 := rfl
theorem ti_24 : Int32.toInt (24) = 24 := rfl
theorem ti_156 : Int32.toInt (156) = 156 := rfl
theorem ti_72 : Int32.toInt (72) = 72 := rfl
theorem ti_8 : Int32.toInt (8) = 8 := rfl
theorem ti_60 : Int32.toInt (60) = 60 := rfl
theorem ti_543 : Int32.toInt (543) = 543 := rfl
theorem ti_10 : Int32.toInt (10) = 10 := rfl
theorem ti_33 : Int32.toInt (33) = 33 := rfl
theorem ti_51 : Int32.toInt (51) = 51 := rfl
theorem ti_178 : Int32.toInt (178) = 178 := rfl
theorem ti_119 : Int32.toInt (119) = 119 := rfl
theorem ti_111 : Int32.toInt (111) = 111 := rfl
theorem ti_114 : Int32.toInt (114) = 114 := rfl
theorem ti_100 : Int32.toInt (100) = 100 := rfl
theorem ti_32 : Int32.toInt (32) = 32 := rfl
theorem ti_62 : Int32.toInt (62) = 62 := rfl
theorem ti_59 : Int32.toInt (59) = 59 := rfl
theorem ti_48 : Int32.toInt (48) = 48 := rfl
theorem ti_701 : Int32.toInt (701) = 701 := rfl
theorem ti_97 : Int32.toInt (97) = 97 := rfl
theorem ti_122 : Int32.toInt (122) = 122 := rfl
theorem ti_57 : Int32.toInt (57) = 57 := rfl
theorem ti_73 : Int32.toInt (73) = 73 := rfl
theorem ti_128 : Int32.toInt (128) = 128 := rfl
theorem ti_61 : Int32.toInt (61) = 61 := rfl
