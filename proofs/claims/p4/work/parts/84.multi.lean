/-! new T[a][b] and new T[a][b][c], as far as a caller needs that reads none of it: cells come, none that was there changes -/
section MNA
/-- a making of k cells of n slots, out of any state -/
def gm_ok (F : State → State) (k n : Nat) : Prop :=
  (∀ s : State, (F s).heap.size = s.heap.size + k ∧ (F s).vm = s.vm ∧ (F s).slotsUsed = s.slotsUsed + n ∧ ∀ a : Nat, a < s.heap.size → (F s).heap[a]? = s.heap[a]?) ∧
  (∀ (s : State) (f : JFrame), F (s.setTop f) = (F s).setTop f) ∧
  ∀ (p : Program) (l : Launch) (e : Env) (R : Room) (s0 : State) (m : MethodId) (args : Array Value) (below : List Frame) (meth : Method) (c : Code) (s : State) (locs : List Loc) (cells slots : Nat), Stand p l e R s0 m args below meth c s locs cells slots →
    ∃ L : List Loc, Stand p l e R s0 m args below meth c (F s) (locs ++ L) (cells + k) (slots + n) ∧ ∀ x ∈ L, s.heap.size ≤ x.base
/-- the machine's own making does it -/
def gm_wp (e : Env) (vm0 : Vm) (F : State → State) (cls : ClassId) (counts : List Int32) (k n : Nat) : Prop :=
  ∀ (E : CtlPost) (d : Bool) (acts : List Action) (s : State) (Q : Addr → Pre), s.vm = vm0 → s.heap.size + k ≤ e.platform.maxCells → s.slotsUsed + n ≤ e.platform.maxSlots → (∀ (d' : Bool) (acts' : List Action), Q s.heap.size d' acts' (F s)) → wp (Op.multianewarray.make cls counts) Q E e d acts s
def gm_leaf (c : ClassId) (n : Nat) (dv : Value) : Cell := { cls := c, slots := Array.replicate n dv, vm := .none }
theorem gm_leaf_ok (c : ClassId) (n : Nat) (dv : Value) : gm_ok (fun s => s.pushCell (gm_leaf c n dv)) 1 n := by
  refine ⟨fun s => ⟨by simp, rfl, by simp [gm_leaf], fun a ha => State.heap_pushCell_of_lt _ _ ha⟩, fun s f => State.pushCell_setTop .., fun p l e R s0 m args below meth c' s locs cells slots X => ⟨[], ?_, fun x h => absurd h List.not_mem_nil⟩⟩
  have h := X.pushed (gm_leaf c n dv)
  rw [show (gm_leaf c n dv).slots.size = n by simp [gm_leaf]] at h
  rw [List.append_nil]
  exact h
theorem gm_newArray {E : CtlPost} {e : Env} {d : Bool} {acts : List Action} {s : State} {c comp : ClassId} {k : Class} {type : FieldType} {len : Nat} {init : Value} (hk : s.vm.classes[c]? = some k) (hkind : k.kind = .array comp type)
    (hlimit : ¬ len > e.platform.arrayLengthLimit) (hheap : ¬ len * componentBytes type > e.platform.maxHeapBytes) (hfit : fits type init = true) (hdef : init.isDefault = true) {Q : Addr → Pre}
    (h1 : s.heap.size < e.platform.maxCells) (h2 : s.slotsUsed + len ≤ e.platform.maxSlots) (hq : Q s.heap.size d acts (s.pushCell (gm_leaf c len init))) : wp (Jvm.newArray c len init) Q E e d acts s := by
  have hfits : ∀ (i : Nat) (v : Value), (Array.replicate len init)[i]? = some v → s.fitsSlot c .none i v = true := by
    intro i v hv
    simp only [Array.getElem?_replicate] at hv
    split at hv
    · cases hv; simp [State.fitsSlot, State.slotType?, hk, hkind, hfit]
    · cases hv
  have hda : allocActs (Array.replicate len init) s.heap.size acts = acts := by
    have hall : ((Array.replicate len init).all (·.isDefault)) = true := by
      rw [Array.all_replicate]; split <;> simp [hdef]
    unfold allocActs; rw [if_pos hall]
  simp only [Jvm.newArray, Jvm.arrayFits, wp_bind', Jvm.W.ask, Jvm.W.ite, hlimit, if_false, wp_pure', Jvm.W.theClass, hk, hkind, hheap, Jvm.W.alloc, Jvm.W.stop, Option.some.injEq, exists_eq_left', Array.size_replicate, hda]
  rw [if_neg (by omega)]
  exact ⟨h1, h2, hfits, hq⟩
theorem gm_leaf_wp {e : Env} {vm0 : Vm} {c cc : ClassId} {kc : Class} {type : FieldType} {m : Int32} (hkc : vm0.classes[c]? = some kc) (hkindc : kc.kind = .array cc type) (hm : ¬ m < 0)
    (hl : ¬ m.toNatClampNeg > e.platform.arrayLengthLimit) (hh : ¬ m.toNatClampNeg * componentBytes type > e.platform.maxHeapBytes) (hdf : fits type (defaultValue type) = true) (hdd : (defaultValue type).isDefault = true) :
    gm_wp e vm0 (fun s => s.pushCell (gm_leaf c m.toNatClampNeg (defaultValue type))) c [m] 1 m.toNatClampNeg := by
  intro E d acts s Q hvm h1 h2 hq
  subst hvm
  rw [Op.multianewarray.make]
  simp only [wp_bind', Jvm.W.ite, hm, if_false, wp_pure', Jvm.W.theClass, hkc, hkindc, Option.some.injEq, exists_eq_left']
  exact gm_newArray hkc hkindc hl hh hdf hdd (by omega) h2 (hq _ _)
/-- the outer array, i of its rows laid; each row takes k cells -/
def gm_cell (c : ClassId) (N h0 k : Nat) : Nat → Cell
  | 0 => gm_leaf c N .null
  | i + 1 => (gm_cell c N h0 k i).setSlot i (.ref (h0 + 1 + i * k))
def gm_fill (F : State → State) (c : ClassId) (N k : Nat) (s : State) : Nat → State
  | 0 => s.pushCell (gm_cell c N s.heap.size k 0)
  | i + 1 => (F (gm_fill F c N k s i)).setCell s.heap.size (gm_cell c N s.heap.size k (i + 1))
theorem gm_cell_facts (c : ClassId) (N h0 k : Nat) : ∀ i, (gm_cell c N h0 k i).cls = c ∧ (gm_cell c N h0 k i).vm = .none ∧ (gm_cell c N h0 k i).slots.size = N
  | 0 => ⟨rfl, rfl, by simp [gm_cell, gm_leaf]⟩
  | i + 1 => by
    obtain ⟨a, b, d⟩ := gm_cell_facts c N h0 k i
    exact ⟨by simp [gm_cell, Cell.setSlot, a], by simp [gm_cell, Cell.setSlot, b], by simp [gm_cell, Cell.setSlot, d]⟩
theorem gm_fill_facts {F : State → State} {k n : Nat} (hF : gm_ok F k n) (c : ClassId) (N : Nat) (s : State) : ∀ i, (gm_fill F c N k s i).heap.size = s.heap.size + 1 + i * k ∧ (gm_fill F c N k s i).heap[s.heap.size]? = some (gm_cell c N s.heap.size k i) ∧
    (gm_fill F c N k s i).vm = s.vm ∧ (gm_fill F c N k s i).slotsUsed = s.slotsUsed + N + i * n ∧ ∀ a : Nat, a < s.heap.size → (gm_fill F c N k s i).heap[a]? = s.heap[a]?
  | 0 => ⟨by simp [gm_fill], by simp [gm_fill], rfl, by simp [gm_fill, gm_cell, gm_leaf], fun a ha => State.heap_pushCell_of_lt _ _ ha⟩
  | i + 1 => by
    obtain ⟨a, b, d, u, o⟩ := gm_fill_facts hF c N s i
    obtain ⟨f1, f2, f3, f4⟩ := hF.1 (gm_fill F c N k s i)
    have hlt : s.heap.size < (gm_fill F c N k s i).heap.size := by omega
    have hb' : (F (gm_fill F c N k s i)).heap[s.heap.size]? = some (gm_cell c N s.heap.size k i) := by rw [f4 _ hlt]; exact b
    refine ⟨?_, State.heap_setCell_self hb', by simp [gm_fill, d, f2], ?_, fun x hx => ?_⟩
    · simp [gm_fill, State.setCell, f1, a, Nat.succ_mul]; omega
    · simp [gm_fill, f3, u, Nat.succ_mul]; omega
    · show ((F (gm_fill F c N k s i)).setCell s.heap.size _).heap[x]? = _
      rw [State.heap_setCell_other (Nat.ne_of_gt hx), f4 _ (by omega)]
      exact o x hx
theorem gm_fill_setTop {F : State → State} {k n : Nat} (hF : gm_ok F k n) (c : ClassId) (N : Nat) (s : State) (f : JFrame) : ∀ i, gm_fill F c N k (s.setTop f) i = (gm_fill F c N k s i).setTop f
  | 0 => State.pushCell_setTop ..
  | i + 1 => by
    show (F (gm_fill F c N k (s.setTop f) i)).setCell (s.setTop f).heap.size _ = ((F (gm_fill F c N k s i)).setCell s.heap.size _).setTop f
    rw [gm_fill_setTop hF c N s f i, hF.2.1, State.heap_setTop, State.setCell_setTop]
theorem gm_fill_stand {F : State → State} {k n : Nat} (hF : gm_ok F k n) (c0 : ClassId) (N : Nat) {p : Program} {l : Launch} {e : Env} {R : Room} {s0 : State} {m : MethodId} {args : Array Value} {below : List Frame} {meth : Method} {c : Code} {s : State} {locs : List Loc} {cells slots : Nat} (X : Stand p l e R s0 m args below meth c s locs cells slots) :
    ∀ i, ∃ L : List Loc, Stand p l e R s0 m args below meth c (gm_fill F c0 N k s i) (locs ++ L) (cells + 1 + i * k) (slots + N + i * n) ∧ ∀ x ∈ L, s.heap.size ≤ x.base
  | 0 => by
    refine ⟨[], ?_, fun x h => absurd h List.not_mem_nil⟩
    have h := X.pushed (gm_cell c0 N s.heap.size k 0)
    rw [(gm_cell_facts c0 N s.heap.size k 0).2.2] at h
    simpa [gm_fill] using h
  | i + 1 => by
    obtain ⟨L, Xi, hL⟩ := gm_fill_stand hF c0 N X i
    obtain ⟨f1, f2, f3, f4, f5⟩ := gm_fill_facts hF c0 N s i
    obtain ⟨L2, X2, hL2⟩ := hF.2.2 _ _ _ _ _ _ _ _ _ _ _ _ _ _ Xi
    obtain ⟨g1, g2, g3, g4⟩ := hF.1 (gm_fill F c0 N k s i)
    have hb' : (F (gm_fill F c0 N k s i)).heap[s.heap.size]? = some (gm_cell c0 N s.heap.size k i) := by rw [g4 _ (by omega)]; exact f2
    have h := X2.stored hb' i (.ref (s.heap.size + 1 + i * k))
    refine ⟨L ++ (L2 ++ [⟨s.heap.size, i⟩]), ?_, fun x hx => ?_⟩
    · have e1 : cells + 1 + (i + 1) * k = cells + 1 + i * k + k := by rw [Nat.succ_mul]; omega
      have e2 : slots + N + (i + 1) * n = slots + N + i * n + n := by rw [Nat.succ_mul]; omega
      have e3 : locs ++ (L ++ (L2 ++ [⟨s.heap.size, i⟩])) = locs ++ L ++ L2 ++ [(⟨s.heap.size, i⟩ : Loc)] := by simp [List.append_assoc]
      rw [e1, e2, e3]
      exact h
    · rcases List.mem_append.mp hx with h1 | h1
      · exact hL x h1
      · rcases List.mem_append.mp h1 with h2 | h2
        · have := hL2 x h2
          omega
        · rw [List.mem_singleton.mp h2]
          exact Nat.le_refl _
theorem gm_fill_ok {F : State → State} {k n : Nat} (hF : gm_ok F k n) (c : ClassId) (N : Nat) : gm_ok (fun s => gm_fill F c N k s N) (1 + N * k) (N + N * n) := by
  refine ⟨fun s => ?_, fun s f => gm_fill_setTop hF c N s f N, fun p l e R s0 m args below meth c' s locs cells slots X => ?_⟩
  · obtain ⟨a, b, d, u, o⟩ := gm_fill_facts hF c N s N
    exact ⟨by show (gm_fill F c N k s N).heap.size = _; omega, d, by show (gm_fill F c N k s N).slotsUsed = _; omega, o⟩
  · obtain ⟨L, h, hL⟩ := gm_fill_stand hF c N X N
    refine ⟨L, ?_, hL⟩
    rw [← Nat.add_assoc, ← Nat.add_assoc]
    exact h
theorem gm_refFits {t : FieldType} (h : t.isReference = true) (v : Value) (hv : v = .null ∨ ∃ a, v = .ref a) : fits t v = true := by
  rcases hv with rfl | ⟨a, rfl⟩ <;> cases t <;> simp [FieldType.isReference] at h <;> rfl
theorem gm_fill_wp {e : Env} {vm0 : Vm} {F : State → State} {c comp : ClassId} {kc : Class} {t0 : FieldType} {n : Int32} {r0 : Int32} {rest : List Int32} {k w : Nat} (hF : gm_ok F k w) (hin : gm_wp e vm0 F comp (r0 :: rest) k w) (hk : vm0.classes[c]? = some kc) (hkind : kc.kind = .array comp t0) (href : t0.isReference = true)
    (hn : ¬ n < 0) (hpos : ∀ x ∈ (r0 :: rest), ¬ x < 0) (hl : ¬ n.toNatClampNeg > e.platform.arrayLengthLimit) (hh : ¬ n.toNatClampNeg * componentBytes t0 > e.platform.maxHeapBytes) :
    gm_wp e vm0 (fun s => gm_fill F c n.toNatClampNeg k s n.toNatClampNeg) c (n :: r0 :: rest) (1 + n.toNatClampNeg * k) (n.toNatClampNeg + n.toNatClampNeg * w) := by
  intro E d acts s Q hvm h1 h2 hq
  subst hvm
  have hfind : ((r0 :: rest).find? (· < 0)) = none := List.find?_eq_none.mpr (fun x hx => by simpa using hpos x hx)
  rw [Op.multianewarray.make]
  · simp only [wp_bind', Jvm.W.ite, hn, if_false, wp_pure', Jvm.W.theClass, hk, hkind, Option.some.injEq, exists_eq_left']
    refine gm_newArray hk hkind hl hh (gm_refFits href _ (Or.inl rfl)) rfl (by omega) (by omega) ?_
    simp only [hfind]
    rw [ite_self, wp_bind', Std.Legacy.Range.forIn_eq_forIn_range']
    have hsz : ([:n.toNatClampNeg] : Std.Legacy.Range).size = n.toNatClampNeg := by simp [Std.Legacy.Range.size]
    rw [hsz]
    show wp (forIn (List.range' 0 n.toNatClampNeg 1) PUnit.unit _) _ E e d acts _
    refine wp_forIn_inv (fun rest' s' => ∃ i, i ≤ n.toNatClampNeg ∧ rest' = List.range' i (n.toNatClampNeg - i) ∧ s' = gm_fill F c n.toNatClampNeg k s i) _ _ ⟨0, Nat.zero_le _, rfl, rfl⟩ ?_ ?_
    · rintro x rest' s' d' acts' Q' ⟨i, hi, hl', rfl⟩ hnext
      have hlt : i < n.toNatClampNeg := by
        rcases Nat.lt_or_ge i n.toNatClampNeg with h | h
        · exact h
        · rw [show n.toNatClampNeg - i = 0 from by omega] at hl'; simp at hl'
      obtain ⟨rfl, hrest⟩ : x = i ∧ rest' = List.range' (i + 1) (n.toNatClampNeg - (i + 1)) := by
        rw [show n.toNatClampNeg - i = (n.toNatClampNeg - (i + 1)) + 1 from by omega, List.range'_succ] at hl'
        exact ⟨(List.cons.inj hl').1, (List.cons.inj hl').2⟩
      obtain ⟨f1, f2, f3, f4, f5⟩ := gm_fill_facts hF c n.toNatClampNeg s x
      obtain ⟨o1, o2, o3⟩ := gm_cell_facts c n.toNatClampNeg s.heap.size k x
      obtain ⟨g1, g2, g3, g4⟩ := hF.1 (gm_fill F c n.toNatClampNeg k s x)
      have hm1 : x * k + k ≤ n.toNatClampNeg * k := by
        have := Nat.mul_le_mul_right k (show x + 1 ≤ n.toNatClampNeg from hlt)
        rw [Nat.succ_mul] at this; exact this
      have hm2 : x * w + w ≤ n.toNatClampNeg * w := by
        have := Nat.mul_le_mul_right w (show x + 1 ≤ n.toNatClampNeg from hlt)
        rw [Nat.succ_mul] at this; exact this
      simp only [wp_bind']
      refine hin _ _ _ _ _ f3 (by omega) (by omega) (fun d2 acts2 => ?_)
      simp only [wp_bind', Jvm.W.writeLoc, wp_pure']
      refine ⟨gm_cell c n.toNatClampNeg s.heap.size k x, by rw [g4 _ (by omega)]; exact f2, by rw [o2]; simp, by rw [o3]; exact hlt, ?_, hnext _ _ _ ⟨x + 1, hlt, hrest, ?_⟩⟩
      · rw [o1, o2]
        simp [State.fitsSlot, State.slotType?, g2, f3, hk, hkind, gm_refFits href _ (Or.inr ⟨_, rfl⟩)]
      · rw [f1]; rfl
    · rintro s' d' acts' ⟨i, hi, hl', rfl⟩
      have hiN : i = n.toNatClampNeg := by
        rcases Nat.lt_or_ge i n.toNatClampNeg with h | h
        · rw [show n.toNatClampNeg - i = (n.toNatClampNeg - (i + 1)) + 1 from by omega, List.range'_succ] at hl'; cases hl'
        · omega
      subst hiN
      simp only [wp_pure']
      exact hq _ _
variable {p : Program} {l : Launch} {e : Env} {R : Room} {s : State} {m : MethodId} {args : Array Value} {below : List Frame} {meth : Method} {c : Code} {T : State} {locs : List Loc} {cells slots : Nat}
theorem gm_stand2 (X : Stand p l e R s m args below meth c T locs cells slots) (hexec : p.tables.exec = Jvm.exec) {own C : String} {index : Nat} {cA : ClassId} (hown : s.vm.findClass own = some m.cls) (hclink : (Cond.classLink own index C).before args s = true) (hfc : s.vm.findClass C = some cA)
    {g : JFrame} (hg : g.method = m) (hdg : decode c.code g.pc = .ok (.multianewarray index 2, 4)) {n k : Int32} {rest : List Value} (hstack : g.stack = .int k :: .int n :: rest) {F : State → State} {kc kw : Nat} (hF : gm_ok F kc kw) (hwp : ∀ vm₁ : Vm, s.vm.Alike vm₁ → gm_wp e vm₁ F cA [n, k] kc kw) (hcells : cells + kc ≤ R.cells) (hslots : slots + kw ≤ R.slots) :
    ∃ vm₁ : Vm, Stand p l e R s m args below meth c (F (T.setVm vm₁)) locs (cells + kc) (slots + kw) ∧ ∀ target, Steps p.tables e below ((F (T.setVm vm₁)).setTop { g with pc := g.pc + 4, stack := .ref T.heap.size :: rest }) target → Steps p.tables e below (T.setTop g) target := by
  subst hg
  have hpl : e.platform.magicAccessors = ({} : Platform).magicAccessors := by rw [X.admits.platform]
  obtain ⟨c0, hfc0, hcl⟩ := Cond.classLink_spec hown hclink e.platform hpl
  cases hfc.symm.trans hfc0
  obtain ⟨hg₁, hwarm₁, hready₁⟩ := State.classEntry (e := e) X.warmed hcl
  generalize T.vm.noted g.method.cls index (.cls cA) = vm₁ at hg₁ hwarm₁ hready₁
  have X₁ := X.noted hwarm₁
  obtain ⟨hr1, hr2⟩ := X.roomAbove hcells hslots
  obtain ⟨L, XF, hL⟩ := hF.2.2 _ _ _ _ _ _ _ _ _ _ _ _ _ _ X₁
  have XF := XF.dropFresh (fun x hx => Nat.le_trans X.heapGrown (hL x hx))
  refine ⟨vm₁, XF, fun target hrest => ?_⟩
  jvm_step X.here [hexec, hdg]
  simp only [Op.multianewarray.sem, wp_bind', Jvm.W.resolveClassAt_links (State.method?_setTop g X.here.top) hg₁]
  rw [Jvm.W.popN, if_neg (by decide)]
  refine ⟨g, State.topJava?_setTop' (s := T.setVm vm₁) g X.here.top, [.int n, .int k], rest, rfl, hstack, ?_⟩
  simp only [List.mapM_cons, List.mapM_nil, wp_bind', wp_pure']
  refine hwp vm₁ hwarm₁.alike _ _ _ _ _ rfl (by show T.heap.size + _ ≤ _; omega) (by show T.slotsUsed + _ ≤ _; omega) (fun d' acts' => ?_)
  have eS : ((T.setTop g).setVm vm₁).setTop { g with stack := rest } = (T.setVm vm₁).setTop { g with stack := rest } := by
    show ((T.setVm vm₁).setTop g).setTop _ = _
    rw [State.setTop_setTop]
  rw [eS, hF.2.1]
  simp only [wp_bind', Jvm.W.mark, Jvm.W.pushRef, State.topJava?_setTop' _ XF.here.top, Option.some.injEq, exists_eq_left', State.setTop_setTop, State.heap_setTop]
  intro acts
  simp [jvm, XF.here.top]
  exact hrest
theorem gm_stand3 (X : Stand p l e R s m args below meth c T locs cells slots) (hexec : p.tables.exec = Jvm.exec) {own C : String} {index : Nat} {cA : ClassId} (hown : s.vm.findClass own = some m.cls) (hclink : (Cond.classLink own index C).before args s = true) (hfc : s.vm.findClass C = some cA)
    {g : JFrame} (hg : g.method = m) (hdg : decode c.code g.pc = .ok (.multianewarray index 3, 4)) {n k j : Int32} {rest : List Value} (hstack : g.stack = .int j :: .int k :: .int n :: rest) {F : State → State} {kc kw : Nat} (hF : gm_ok F kc kw) (hwp : ∀ vm₁ : Vm, s.vm.Alike vm₁ → gm_wp e vm₁ F cA [n, k, j] kc kw) (hcells : cells + kc ≤ R.cells) (hslots : slots + kw ≤ R.slots) :
    ∃ vm₁ : Vm, Stand p l e R s m args below meth c (F (T.setVm vm₁)) locs (cells + kc) (slots + kw) ∧ ∀ target, Steps p.tables e below ((F (T.setVm vm₁)).setTop { g with pc := g.pc + 4, stack := .ref T.heap.size :: rest }) target → Steps p.tables e below (T.setTop g) target := by
  subst hg
  have hpl : e.platform.magicAccessors = ({} : Platform).magicAccessors := by rw [X.admits.platform]
  obtain ⟨c0, hfc0, hcl⟩ := Cond.classLink_spec hown hclink e.platform hpl
  cases hfc.symm.trans hfc0
  obtain ⟨hg₁, hwarm₁, hready₁⟩ := State.classEntry (e := e) X.warmed hcl
  generalize T.vm.noted g.method.cls index (.cls cA) = vm₁ at hg₁ hwarm₁ hready₁
  have X₁ := X.noted hwarm₁
  obtain ⟨hr1, hr2⟩ := X.roomAbove hcells hslots
  obtain ⟨L, XF, hL⟩ := hF.2.2 _ _ _ _ _ _ _ _ _ _ _ _ _ _ X₁
  have XF := XF.dropFresh (fun x hx => Nat.le_trans X.heapGrown (hL x hx))
  refine ⟨vm₁, XF, fun target hrest => ?_⟩
  jvm_step X.here [hexec, hdg]
  simp only [Op.multianewarray.sem, wp_bind', Jvm.W.resolveClassAt_links (State.method?_setTop g X.here.top) hg₁]
  rw [Jvm.W.popN, if_neg (by decide)]
  refine ⟨g, State.topJava?_setTop' (s := T.setVm vm₁) g X.here.top, [.int n, .int k, .int j], rest, rfl, hstack, ?_⟩
  simp only [List.mapM_cons, List.mapM_nil, wp_bind', wp_pure']
  refine hwp vm₁ hwarm₁.alike _ _ _ _ _ rfl (by show T.heap.size + _ ≤ _; omega) (by show T.slotsUsed + _ ≤ _; omega) (fun d' acts' => ?_)
  have eS : ((T.setTop g).setVm vm₁).setTop { g with stack := rest } = (T.setVm vm₁).setTop { g with stack := rest } := by
    show ((T.setVm vm₁).setTop g).setTop _ = _
    rw [State.setTop_setTop]
  rw [eS, hF.2.1]
  simp only [wp_bind', Jvm.W.mark, Jvm.W.pushRef, State.topJava?_setTop' _ XF.here.top, Option.some.injEq, exists_eq_left', State.setTop_setTop, State.heap_setTop]
  intro acts
  simp [jvm, XF.here.top]
  exact hrest
end MNA
section MNW
variable {p : Program} {l : Launch} {e : Env} {R : Room} {s : State} {m : MethodId} {args : Array Value} {below : List Frame} {meth : Method} {c : Code} {H : Heap} {locs : List Loc} {cells slots : Nat} {Q : State → Prop}
variable {cc : ByteArray} {pc : Nat} {ls : Array Slot} {rest : List Value} {D : va_G} {cl : List vw_C} {A : Nat → Prop} {ws : va_W} {H0 : Heap}
/-- new int[n][k]: a reference comes, and cells that nobody looks at here -/
theorem w_mna2 (hexec : p.tables.exec = Jvm.exec) (hb : c.code = cc) {own : String} {index : Nat} (hown : s.vm.findClass own = some m.cls) (hclink : (Cond.classLink own index "[[I").before args s = true) (hAM : AM s) (hP : va_P D cl ws H) (hS : va_S A H0 H locs)
    {n k : Int32} {N K : Nat} (hn : ¬ n < 0) (hk : ¬ k < 0) (hN : n.toNatClampNeg = N) (hK : k.toNatClampNeg = K) (hb1 : N * 4 ≤ 536870912) (hb2 : K * 4 ≤ 536870912) (hcells : cells + (1 + N * 1) ≤ R.cells) (hslots : slots + (N + N * K) ≤ R.slots) (hdg : decode cc pc = .ok (.multianewarray index 2, 4))
    (kk : ∀ (q : Nat) (H1 : Heap), va_P D cl ws H1 → va_S A H0 H1 locs → W p l e R s m args below meth c H1 locs (cells + (1 + N * 1)) (slots + (N + N * K)) Q (F0 m (pc + 4) ls (.ref q :: rest))) : W p l e R s m args below meth c H locs cells slots Q (F0 m pc ls (.int k :: .int n :: rest)) := by
  subst hN
  subst hK
  intro T hT X
  obtain ⟨-, cA, cB, cD, kA, kB, f1, a1, a2, b1, b2⟩ := hAM
  have hF := gm_fill_ok (gm_leaf_ok cB k.toNatClampNeg (defaultValue .int)) cA n.toNatClampNeg
  obtain ⟨vm₁, X', step⟩ := gm_stand2 X hexec hown hclink f1 (g := F0 m pc ls (.int k :: .int n :: rest)) rfl (by rw [hb]; exact hdg) rfl hF (fun vm₁ hal => by
    obtain ⟨kA', a1', a3⟩ := hal.2.2 _ _ a1
    obtain ⟨kB', b1', b3⟩ := hal.2.2 _ _ b1
    have hl1 : ¬ n.toNatClampNeg > e.platform.arrayLengthLimit := by rw [Launch.admits_arrayLengthLimit X.admits]; omega
    have hh1 : ¬ n.toNatClampNeg * componentBytes (.array .int) > e.platform.maxHeapBytes := by rw [Launch.admits_maxHeapBytes X.admits]; show ¬ n.toNatClampNeg * 4 > 536870912; omega
    have hl2 : ¬ k.toNatClampNeg > e.platform.arrayLengthLimit := by rw [Launch.admits_arrayLengthLimit X.admits]; omega
    have hh2 : ¬ k.toNatClampNeg * componentBytes .int > e.platform.maxHeapBytes := by rw [Launch.admits_maxHeapBytes X.admits]; show ¬ k.toNatClampNeg * 4 > 536870912; omega
    exact gm_fill_wp (gm_leaf_ok cB k.toNatClampNeg (defaultValue .int)) (gm_leaf_wp b1' (by rw [b3]; exact b2) hk hl2 hh2 rfl rfl) a1' (by rw [a3]; exact a2) rfl hn (fun x hx => by rw [List.mem_singleton.mp hx]; exact hk) hl1 hh1) hcells hslots
  obtain ⟨g1, -, -, g4⟩ := hF.1 (T.setVm vm₁)
  have hTh : (T.setVm vm₁).heap = H := hT
  rw [hTh] at g1 g4
  obtain ⟨t, a, b⟩ := kk T.heap.size _ (hP.kept (fun k9 x hx => g4 x.1 ((hP k9 x hx).lt))) ⟨by have := hS.1; omega, fun q h1 h2 => (g4 q (Nat.lt_of_lt_of_le h1 hS.1)).trans (hS.2.1 q h1 h2), hS.2.2⟩ _ rfl X'
  exact ⟨t, step t a, b⟩
/-- new long[n][k][j] -/
theorem w_mna3 (hexec : p.tables.exec = Jvm.exec) (hb : c.code = cc) {own : String} {index : Nat} (hown : s.vm.findClass own = some m.cls) (hclink : (Cond.classLink own index "[[[J").before args s = true) (hAM : AM s) (hP : va_P D cl ws H) (hS : va_S A H0 H locs)
    {n k j : Int32} {N K J : Nat} (hn : ¬ n < 0) (hk : ¬ k < 0) (hj : ¬ j < 0) (hN : n.toNatClampNeg = N) (hK : k.toNatClampNeg = K) (hJ : j.toNatClampNeg = J) (hb1 : N * 4 ≤ 536870912) (hb2 : K * 4 ≤ 536870912) (hb3 : J * 8 ≤ 536870912) (hcells : cells + (1 + N * (1 + K * 1)) ≤ R.cells) (hslots : slots + (N + N * (K + K * J)) ≤ R.slots) (hdg : decode cc pc = .ok (.multianewarray index 3, 4))
    (kk : ∀ (q : Nat) (H1 : Heap), va_P D cl ws H1 → va_S A H0 H1 locs → W p l e R s m args below meth c H1 locs (cells + (1 + N * (1 + K * 1))) (slots + (N + N * (K + K * J))) Q (F0 m (pc + 4) ls (.ref q :: rest))) : W p l e R s m args below meth c H locs cells slots Q (F0 m pc ls (.int j :: .int k :: .int n :: rest)) := by
  subst hN
  subst hK
  subst hJ
  intro T hT X
  obtain ⟨⟨cA, cB, cC, cD, kA, kB, kC, f1, a1, a2, b1, b2, c1, c2⟩, -⟩ := hAM
  have hF1 := gm_fill_ok (gm_leaf_ok cC j.toNatClampNeg (defaultValue .long)) cB k.toNatClampNeg
  have hF := gm_fill_ok hF1 cA n.toNatClampNeg
  obtain ⟨vm₁, X', step⟩ := gm_stand3 X hexec hown hclink f1 (g := F0 m pc ls (.int j :: .int k :: .int n :: rest)) rfl (by rw [hb]; exact hdg) rfl hF (fun vm₁ hal => by
    obtain ⟨kA', a1', a3⟩ := hal.2.2 _ _ a1
    obtain ⟨kB', b1', b3⟩ := hal.2.2 _ _ b1
    obtain ⟨kC', c1', c3⟩ := hal.2.2 _ _ c1
    have hl1 : ¬ n.toNatClampNeg > e.platform.arrayLengthLimit := by rw [Launch.admits_arrayLengthLimit X.admits]; omega
    have hh1 : ¬ n.toNatClampNeg * componentBytes (.array (.array .long)) > e.platform.maxHeapBytes := by rw [Launch.admits_maxHeapBytes X.admits]; show ¬ n.toNatClampNeg * 4 > 536870912; omega
    have hl2 : ¬ k.toNatClampNeg > e.platform.arrayLengthLimit := by rw [Launch.admits_arrayLengthLimit X.admits]; omega
    have hh2 : ¬ k.toNatClampNeg * componentBytes (.array .long) > e.platform.maxHeapBytes := by rw [Launch.admits_maxHeapBytes X.admits]; show ¬ k.toNatClampNeg * 4 > 536870912; omega
    have hl3 : ¬ j.toNatClampNeg > e.platform.arrayLengthLimit := by rw [Launch.admits_arrayLengthLimit X.admits]; omega
    have hh3 : ¬ j.toNatClampNeg * componentBytes .long > e.platform.maxHeapBytes := by rw [Launch.admits_maxHeapBytes X.admits]; show ¬ j.toNatClampNeg * 8 > 536870912; omega
    exact gm_fill_wp hF1 (gm_fill_wp (gm_leaf_ok cC j.toNatClampNeg (defaultValue .long)) (gm_leaf_wp c1' (by rw [c3]; exact c2) hj hl3 hh3 rfl rfl) b1' (by rw [b3]; exact b2) rfl hk (fun x hx => by rw [List.mem_singleton.mp hx]; exact hj) hl2 hh2) a1' (by rw [a3]; exact a2) rfl hn (fun x hx => by
      rcases List.mem_cons.mp hx with h | h
      · rw [h]; exact hk
      · rw [List.mem_singleton.mp h]; exact hj) hl1 hh1) hcells hslots
  obtain ⟨g1, -, -, g4⟩ := hF.1 (T.setVm vm₁)
  have hTh : (T.setVm vm₁).heap = H := hT
  rw [hTh] at g1 g4
  obtain ⟨t, a, b⟩ := kk T.heap.size _ (hP.kept (fun k9 x hx => g4 x.1 ((hP k9 x hx).lt))) ⟨by have := hS.1; omega, fun q h1 h2 => (g4 q (Nat.lt_of_lt_of_le h1 hS.1)).trans (hS.2.1 q h1 h2), hS.2.2⟩ _ rfl X'
  exact ⟨t, step t a, b⟩
end MNW
/-! what lies where, behind new T[a][b] and new T[a][b][c] -/
theorem gm_leaf_arr (c : ClassId) (n : Nat) (dv : Value) : gm_leaf c n dv = arrV c n (fun _ => dv) := by
  unfold gm_leaf arrV
  congr 1
  apply Array.ext
  · simp
  · intro i h1 h2
    simp
theorem gm_cell_arr (c : ClassId) (N h0 k : Nat) : ∀ i, gm_cell c N h0 k i = arrV c N (fun j => if j < i then .ref (h0 + 1 + j * k) else .null)
  | 0 => by
    show gm_leaf c N .null = _
    rw [gm_leaf_arr]
    have e : (fun j : Nat => if j < 0 then Value.ref (h0 + 1 + j * k) else Value.null) = fun _ => Value.null := by
      funext j
      exact if_neg (Nat.not_lt_zero j)
    rw [e]
  | i + 1 => by
    show (gm_cell c N h0 k i).setSlot i _ = _
    rw [gm_cell_arr c N h0 k i, arrV_store]
    congr 1
    funext j
    unfold updV
    by_cases h : j = i
    · subst h
      rw [if_pos rfl, if_pos (by omega)]
    · rw [if_neg h]
      show (if j < i then Value.ref (h0 + 1 + j * k) else Value.null) = if j < i + 1 then Value.ref (h0 + 1 + j * k) else Value.null
      by_cases q : j < i
      · rw [if_pos q, if_pos (by omega)]
      · rw [if_neg q, if_neg (by omega)]
theorem gm_cell_vp (c : ClassId) (N h0 k : Nat) : gm_cell c N h0 k N = vp_cell c (N, .inr (.inr (.inr (.inr (fun j => some (h0 + 1 + j * k)))))) := by
  rw [gm_cell_arr]
  show arrV c N _ = arrV c N (fun j => va_rf (some (h0 + 1 + j * k)))
  unfold arrV
  congr 1
  apply Array.ext
  · simp
  · intro i h1 h2
    have hi : i < N := by simpa using h1
    simp [hi, va_rf]
theorem gm_leaf_i (c : ClassId) (n : Nat) : gm_leaf c n (defaultValue .int) = vp_cell c (n, .inl (fun _ => 0)) := gm_leaf_arr c n _
theorem gm_leaf_l (c : ClassId) (n : Nat) : gm_leaf c n (defaultValue .long) = vp_cell c (n, .inr (.inl (fun _ => 0))) := gm_leaf_arr c n _
theorem gm_fill_inner {F : State → State} {k n : Nat} (hF : gm_ok F k n) (c : ClassId) (N : Nat) (s : State) : ∀ i j, j < i → ∀ a : Nat, s.heap.size + 1 + j * k ≤ a → a < s.heap.size + 1 + j * k + k → (gm_fill F c N k s i).heap[a]? = (F (gm_fill F c N k s j)).heap[a]?
  | 0, j, h, _, _, _ => absurd h (Nat.not_lt_zero j)
  | i + 1, j, h, a, h1, h2 => by
    obtain ⟨f1, -, -, -, -⟩ := gm_fill_facts hF c N s i
    show ((F (gm_fill F c N k s i)).setCell s.heap.size _).heap[a]? = _
    rw [State.heap_setCell_other (show s.heap.size ≠ a by omega)]
    by_cases e : j = i
    · subst e
      rfl
    · have hm : (j + 1) * k ≤ i * k := Nat.mul_le_mul_right k (by omega)
      rw [Nat.succ_mul] at hm
      rw [(hF.1 (gm_fill F c N k s i)).2.2.2 a (by omega)]
      exact gm_fill_inner hF c N s i j (by omega) a h1 h2
/-- new T[N][K], all told: the outer row at h0, the inner ones behind it -/
theorem gm_two (c cB : ClassId) (N K : Nat) (dv : Value) (s : State) : (gm_fill (fun s => s.pushCell (gm_leaf cB K dv)) c N 1 s N).heap[s.heap.size]? = some (gm_cell c N s.heap.size 1 N) ∧ ∀ j, j < N → (gm_fill (fun s => s.pushCell (gm_leaf cB K dv)) c N 1 s N).heap[s.heap.size + 1 + j]? = some (gm_leaf cB K dv) := by
  have hF := gm_leaf_ok cB K dv
  obtain ⟨-, f2, -, -, -⟩ := gm_fill_facts hF c N s N
  refine ⟨f2, fun j hj => ?_⟩
  rw [gm_fill_inner hF c N s N j hj _ (by omega) (by omega)]
  obtain ⟨f1, -, -, -, -⟩ := gm_fill_facts hF c N s j
  rw [show s.heap.size + 1 + j = (gm_fill (fun s => s.pushCell (gm_leaf cB K dv)) c N 1 s j).heap.size by omega]
  simp
/-- new T[N][K][J] -/
theorem gm_three (c cB cC : ClassId) (N K J : Nat) (dv : Value) (s : State) :
    let F1 := fun s : State => gm_fill (fun s => s.pushCell (gm_leaf cC J dv)) cB K 1 s K
    let S := gm_fill F1 c N (1 + K * 1) s N
    S.heap[s.heap.size]? = some (gm_cell c N s.heap.size (1 + K * 1) N) ∧ ∀ j, j < N → S.heap[s.heap.size + 1 + j * (1 + K * 1)]? = some (gm_cell cB K (s.heap.size + 1 + j * (1 + K * 1)) 1 K) ∧ ∀ i, i < K → S.heap[s.heap.size + 1 + j * (1 + K * 1) + 1 + i]? = some (gm_leaf cC J dv) := by
  intro F1 S
  have hF1 : gm_ok F1 (1 + K * 1) (K + K * J) := gm_fill_ok (gm_leaf_ok cC J dv) cB K
  obtain ⟨-, f2, -, -, -⟩ := gm_fill_facts hF1 c N s N
  refine ⟨f2, fun j hj => ?_⟩
  obtain ⟨f1, -, -, -, -⟩ := gm_fill_facts hF1 c N s j
  obtain ⟨t1, t2⟩ := gm_two cB cC K J dv (gm_fill F1 c N (1 + K * 1) s j)
  rw [f1] at t1 t2
  refine ⟨?_, fun i hi => ?_⟩
  · rw [gm_fill_inner hF1 c N s N j hj _ (by omega) (by omega)]
    exact t1
  · rw [gm_fill_inner hF1 c N s N j hj _ (by omega) (by omega)]
    exact t2 i hi
