/-! the typed heap without its root -/
def gM (G : GT) (r : Nat) : GT := (G.1, G.2.1, G.2.2.1, (gL G).filter (fun a => decide (a ≠ r)))
section GMS
variable {G : GT} {r a c : Nat} {cs : Nat → ClassId} {tt mm : Nat} {f : Nat → va_E} {D : va_G} {cl : List vw_C} {H : Heap}
theorem gM_mem : a ∈ gL (gM G r) ↔ a ∈ gL G ∧ a ≠ r := by
  show a ∈ (gL G).filter _ ↔ _
  rw [List.mem_filter, decide_eq_true_iff]
theorem gM_lo (h : Ty (gM G r) a c) : Ty G a c := ⟨(gM_mem.mp h.1).1, h.2⟩
theorem gM_up (hr : gK G r = 11) (h : Ty G a c) (hc : c ≠ 11) : Ty (gM G r) a c := ⟨gM_mem.mpr ⟨h.1, fun e => hc (by rw [← h.2, e]; exact hr)⟩, h.2⟩
theorem gM_no (hw : WT G) (hr : Ty G r 11) (h : Ty (gM G r) a 11) : False := (gM_mem.mp h.1).2 (wt_one hw (gM_lo h) hr)
theorem gM_nd (h : (gL G).Nodup) : (gL (gM G r)).Nodup := List.Pairwise.filter _ h
theorem gM_P (h : va_P D cl (va_pl (gL G) f) H) : va_P D cl (va_pl (gL (gM G r)) f) H := fun k q hq => by
  simp only [va_pl, List.getElem?_map, Option.map_eq_some_iff] at hq
  obtain ⟨z, hz, rfl⟩ := hq
  obtain ⟨j, hj⟩ := th_place (f := f) (gM_mem.mp (List.mem_of_getElem? hz)).1 rfl
  exact h j _ hj
theorem gM_WT (hw : WT G) (hr : Ty G r 11) : WT (gM G r) := ⟨fun a t => ⟨gM_up hr.2 (hw.1 a (gM_lo t)).1 (by decide), (hw.1 a (gM_lo t)).2⟩,
  fun a t => ⟨gM_up hr.2 (hw.2.1 a (gM_lo t)).1 (by decide), (hw.2.1 a (gM_lo t)).2⟩,
  fun a t => ⟨gM_up hr.2 (hw.2.2.1 a (gM_lo t)).1 (by decide), (hw.2.2.1 a (gM_lo t)).2⟩,
  fun a t => gM_up hr.2 (hw.2.2.2.1 a (gM_lo t)) (by decide),
  fun a t => ⟨gM_up hr.2 (hw.2.2.2.2.1 a (gM_lo t)).1 (by decide), (hw.2.2.2.2.1 a (gM_lo t)).2⟩,
  fun a t => ⟨gM_up hr.2 (hw.2.2.2.2.2.1 a (gM_lo t)).1 (by decide), (hw.2.2.2.2.2.1 a (gM_lo t)).2⟩,
  fun a t => gM_up hr.2 (hw.2.2.2.2.2.2.1 a (gM_lo t)) (by decide),
  fun a t => gM_up hr.2 (hw.2.2.2.2.2.2.2.1 a (gM_lo t)) (by decide),
  fun a t => gM_up hr.2 (hw.2.2.2.2.2.2.2.2.1 a (gM_lo t)) (by decide),
  fun a t => gM_up hr.2 (hw.2.2.2.2.2.2.2.2.2.1 a (gM_lo t)) (by decide),
  fun a t => gM_up hr.2 (hw.2.2.2.2.2.2.2.2.2.2.1 a (gM_lo t)) (by decide),
  fun a t => ⟨gM_up hr.2 (hw.2.2.2.2.2.2.2.2.2.2.2.1 a (gM_lo t)).1 (by decide), (hw.2.2.2.2.2.2.2.2.2.2.2.1 a (gM_lo t)).2⟩,
  fun a t => gM_up hr.2 (hw.2.2.2.2.2.2.2.2.2.2.2.2.1 a (gM_lo t)) (by decide),
  fun a t => gM_up hr.2 (hw.2.2.2.2.2.2.2.2.2.2.2.2.2.1 a (gM_lo t)) (by decide),
  fun a t => gM_up hr.2 (hw.2.2.2.2.2.2.2.2.2.2.2.2.2.2.1 a (gM_lo t)) (by decide),
  fun a t => ⟨gM_up hr.2 (hw.2.2.2.2.2.2.2.2.2.2.2.2.2.2.2.1 a (gM_lo t)).1 (by decide), (hw.2.2.2.2.2.2.2.2.2.2.2.2.2.2.2.1 a (gM_lo t)).2⟩,
  fun a t => ⟨gM_up hr.2 (hw.2.2.2.2.2.2.2.2.2.2.2.2.2.2.2.2.1 a (gM_lo t)).1 (by decide), (hw.2.2.2.2.2.2.2.2.2.2.2.2.2.2.2.2.1 a (gM_lo t)).2⟩,
  fun a t => ⟨gM_up hr.2 (hw.2.2.2.2.2.2.2.2.2.2.2.2.2.2.2.2.2.1 a (gM_lo t)).1 (by decide), (hw.2.2.2.2.2.2.2.2.2.2.2.2.2.2.2.2.2.1 a (gM_lo t)).2⟩,
  fun a t => ⟨gM_up hr.2 (hw.2.2.2.2.2.2.2.2.2.2.2.2.2.2.2.2.2.2.1 a (gM_lo t)).1 (by decide), (hw.2.2.2.2.2.2.2.2.2.2.2.2.2.2.2.2.2.2.1 a (gM_lo t)).2⟩,
  fun a t => ⟨gM_up hr.2 (hw.2.2.2.2.2.2.2.2.2.2.2.2.2.2.2.2.2.2.2.1 a (gM_lo t)).1 (by decide), (hw.2.2.2.2.2.2.2.2.2.2.2.2.2.2.2.2.2.2.2.1 a (gM_lo t)).2⟩,
  fun a t => ⟨gM_up hr.2 (hw.2.2.2.2.2.2.2.2.2.2.2.2.2.2.2.2.2.2.2.2.1 a (gM_lo t)).1 (by decide), (hw.2.2.2.2.2.2.2.2.2.2.2.2.2.2.2.2.2.2.2.2.1 a (gM_lo t)).2⟩,
  fun a t => ⟨gM_up hr.2 (hw.2.2.2.2.2.2.2.2.2.2.2.2.2.2.2.2.2.2.2.2.2.1 a (gM_lo t)).1 (by decide), (hw.2.2.2.2.2.2.2.2.2.2.2.2.2.2.2.2.2.2.2.2.2.1 a (gM_lo t)).2⟩,
  fun a t => ⟨gM_up hr.2 (hw.2.2.2.2.2.2.2.2.2.2.2.2.2.2.2.2.2.2.2.2.2.2.1 a (gM_lo t)).1 (by decide), (hw.2.2.2.2.2.2.2.2.2.2.2.2.2.2.2.2.2.2.2.2.2.2.1 a (gM_lo t)).2⟩,
  fun a t => (gM_no hw hr t).elim,
  fun a t => (gM_no hw hr t).elim,
  fun a t => (gM_no hw hr t).elim,
  fun a t => (gM_no hw hr t).elim,
  fun a t => (gM_no hw hr t).elim,
  fun a t => (gM_no hw hr t).elim,
  fun a t => (gM_no hw hr t).elim,
  fun a t => (gM_no hw hr t).elim,
  fun a t => (gM_no hw hr t).elim,
  fun a t => (gM_no hw hr t).elim,
  fun a t => (gM_no hw hr t).elim,
  fun a t => (gM_no hw hr t).elim,
  fun a t => (gM_no hw hr t).elim,
  fun a t => (gM_no hw hr t).elim,
  fun a t => hw.2.2.2.2.2.2.2.2.2.2.2.2.2.2.2.2.2.2.2.2.2.2.2.2.2.2.2.2.2.2.2.2.2.2.2.2.2.1 a (gM_lo t),
  fun a i t hi => gM_up hr.2 (hw.2.2.2.2.2.2.2.2.2.2.2.2.2.2.2.2.2.2.2.2.2.2.2.2.2.2.2.2.2.2.2.2.2.2.2.2.2.2.1 a i (gM_lo t) hi) (by decide),
  fun a i t hi => gM_up hr.2 (hw.2.2.2.2.2.2.2.2.2.2.2.2.2.2.2.2.2.2.2.2.2.2.2.2.2.2.2.2.2.2.2.2.2.2.2.2.2.2.2.1 a i (gM_lo t) hi) (by decide),
  fun a b t u => (gM_no hw hr t).elim⟩
theorem gM_ok (hr : gK G r = 11) (h : OKT G cs tt mm f) : OKT (gM G r) cs tt mm f := fun a ha => by
  obtain ⟨o0, o1, o2, o3, o4, o5, o6, o7, o8, o9, o10, o11, o12, o13, o14, o15⟩ := h a (gM_mem.mp ha).1
  exact ⟨(fun q => by obtain ⟨y4, hy4, he⟩ := o0 q; exact ⟨y4, gM_up hr hy4 (by decide), he⟩), o1, o2, o3, o4, o5, o6, o7, (fun q => by obtain ⟨y3, y4, y5, hy4, he⟩ := o8 q; exact ⟨y3, y4, y5, gM_up hr hy4 (by decide), he⟩), o9, o10, o11, o12, o13, o14, o15⟩
theorem gM_back (hw : WT G) (hr : Ty G r 11) {t2 m2 : Nat} (h : OKT (gM G r) cs tt mm f) {e : va_E} (hn : ∃ (y5 : Int32), m2 ≤ 3 ∧ t2 ≤ 700 ∧ e = .inr (10, [.ref (gR G r 0), .ref (gR G r 1), .ref (gR G r 2), .ref (gR G r 3), .int (nI m2), .int y5, .ref (gR G r 6), .int (nI t2), .ref (gR G r 8), .ref (gR G r 9), .ref (gR G r 10), .ref (gR G r 11), .ref (gR G r 12), .ref (gR G r 13), .ref (gR G r 14), .ref (gR G r 15), .ref (gR G r 16), .ref (gR G r 17), .ref (gR G r 18)])) : OKT G cs t2 m2 (va_up f r e) := fun a ha => by
  by_cases q : a = r
  · subst q
    rw [va_up_self]
    exact ⟨fun q => absurd (hr.2.symm.trans q) (by decide), fun q => absurd (hr.2.symm.trans q) (by decide), fun q => absurd (hr.2.symm.trans q) (by decide), fun q => absurd (hr.2.symm.trans q) (by decide), fun q => absurd (hr.2.symm.trans q) (by decide), fun q => absurd (hr.2.symm.trans q) (by decide), fun q => absurd (hr.2.symm.trans q) (by decide), fun q => absurd (hr.2.symm.trans q) (by decide), fun q => absurd (hr.2.symm.trans q) (by decide), fun q => absurd (hr.2.symm.trans q) (by decide), fun _ => hn, fun q => absurd (hr.2.symm.trans q) (by decide), fun q => absurd (hr.2.symm.trans q) (by decide), fun q => absurd (hr.2.symm.trans q) (by decide), fun q => absurd (hr.2.symm.trans q) (by decide), fun q => absurd (hr.2.symm.trans q) (by decide)⟩
  · rw [va_up_ne f e q]
    obtain ⟨o0, o1, o2, o3, o4, o5, o6, o7, o8, o9, o10, o11, o12, o13, o14, o15⟩ := h a (gM_mem.mpr ⟨ha, q⟩)
    exact ⟨(fun q => by obtain ⟨y4, hy4, he⟩ := o0 q; exact ⟨y4, gM_lo hy4, he⟩), o1, o2, o3, o4, o5, o6, o7, (fun q => by obtain ⟨y3, y4, y5, hy4, he⟩ := o8 q; exact ⟨y3, y4, y5, gM_lo hy4, he⟩), o9, (fun w => absurd (wt_one hw ⟨ha, w⟩ hr) q), o11, o12, o13, o14, o15⟩
end GMS
def RVL (G : GT) (a : Nat) (x4 x5 x7 : Int32) : List Value := [.ref (gR G a 0), .ref (gR G a 1), .ref (gR G a 2), .ref (gR G a 3), .int x4, .int x5, .ref (gR G a 6), .int x7, .ref (gR G a 8), .ref (gR G a 9), .ref (gR G a 10), .ref (gR G a 11), .ref (gR G a 12), .ref (gR G a 13), .ref (gR G a 14), .ref (gR G a 15), .ref (gR G a 16), .ref (gR G a 17), .ref (gR G a 18)]
/-! the reader's world without the root, and with it -/
def qV (cs : Nat → ClassId) (b : Nat → Nat) (u : RS) : va_W := (List.range 11).map (fun i => (b i, qE cs b u i))
section QVS
variable {cs : Nat → ClassId} {b : Nat → Nat} {u v w : RS} {i k : Nat} {q : Nat × va_E} {H H1 : Heap} {dC : Nat → ClassId} {dI : Nat → Nat → Nat} {G : GT} {tt mm t0 m0 t2 : Nat} {f : Nat → va_E}
theorem qV_at (hi : i < 11) : (qV cs b u)[i]? = some (b i, qE cs b u i) := by
  unfold qV
  rw [List.getElem?_map, List.getElem?_range hi]
  rfl
theorem z_qv (hq : (qV cs b u)[k]? = some q) : k < 11 ∧ q = (b k, qE cs b u k) := by
  have h1 : k < 11 := by
    have h := (List.getElem?_eq_some_iff.mp hq).1
    unfold qV at h
    rw [List.length_map, List.length_range] at h
    exact h
  rw [qV_at h1] at hq
  cases hq
  exact ⟨h1, rfl⟩
theorem qv_of (h : va_P (dC, dI) vwCl (qW cs b w) H) : va_P (dC, dI) vwCl (qV cs b w) H := fun k q hq => by
  obtain ⟨h1, rfl⟩ := z_qv hq
  exact h k _ (qW_at (by omega))
theorem qE_cg (hi : i < 11) (hF : ∀ k, k < 30 → rF w k = rF v k) (hA : ∀ j, rA w j = rA v j) : qE cs b w i = qE cs b v i := by
  unfold qE qR qT qK
  rw [hF 3 (by decide), hF 4 (by decide), hF 5 (by decide), hF 6 (by decide), hF 7 (by decide), hF 8 (by decide), hF 9 (by decide), hF 13 (by decide), hF 14 (by decide), hF 15 (by decide), hF 22 (by decide), hF 23 (by decide), hA i, if_neg (show ¬ i = 11 by omega), if_neg (show ¬ i = 11 by omega)]
theorem z12 (hlk : ∀ w : RS, RVL G (b 11) (rF w 34) (rF w 35) (rF w 37) = qG b w) (hT : Ty G (b 11) 11) (hok : OKT G cs tt mm f) (hP : va_P (dC, dI) vwCl (va_pl (gL G) f) H) (hQ : va_P (dC, dI) vwCl (qV cs b v) H) : ∃ w : RS, (∀ j, rA w j = rA v j) ∧ (∀ k, k < 30 → rF w k = rF v k) ∧ rF w 34 = nI mm ∧ rF w 37 = nI tt ∧ va_P (dC, dI) vwCl (qW cs b w) H := by
  obtain ⟨y5, h4, h7, he⟩ := ok_X11 hok hT
  have hF : ∀ k, k < 30 → rF (sF (sF (sF v 34 (nI mm)) 35 y5) 37 (nI tt)) k = rF v k := fun k hk => by rw [rF_ne (by omega), rF_ne (by omega), rF_ne (by omega)]
  have e34 : rF (sF (sF (sF v 34 (nI mm)) 35 y5) 37 (nI tt)) 34 = nI mm := by rw [rF_ne (by decide), rF_ne (by decide), rF_self]
  have e35 : rF (sF (sF (sF v 34 (nI mm)) 35 y5) 37 (nI tt)) 35 = y5 := by rw [rF_ne (by decide), rF_self]
  have e37 : rF (sF (sF (sF v 34 (nI mm)) 35 y5) 37 (nI tt)) 37 = nI tt := rF_self
  refine ⟨sF (sF (sF v 34 (nI mm)) 35 y5) 37 (nI tt), fun _ => rfl, hF, e34, e37, fun k q hq => ?_⟩
  obtain ⟨h1, rfl⟩ := z_qw hq
  by_cases e : k = 11
  · subst e
    show va_at (dC, dI) vwCl (b 11, .inr (10, qG b _)) H
    rw [← hlk, e34, e35, e37]
    exact z_at hP hT.1 he
  · rw [qE_cg (by omega) hF (fun _ => rfl)]
    exact hQ k _ (qV_at (by omega))
theorem z21 (hw : WT G) (hT : Ty G (b 11) 11) (hlk : ∀ w : RS, RVL G (b 11) (rF w 34) (rF w 35) (rF w 37) = qG b w) (hok : OKT G cs tt mm f) (hP : va_P (dC, dI) vwCl (va_pl (gL G) f) H) (hk : ∀ a, a ∈ gL G → a ≠ b 11 → a < H.size → H1[a]? = H[a]?) (hW1 : va_P (dC, dI) vwCl (qW cs b w) H1) (h34 : rF w 34 = nI mm) (h37 : rF w 37 = nI t2) (ht2 : t2 ≤ 700) (hm : mm ≤ 3) : ∃ f', OKT G cs t2 mm f' ∧ va_P (dC, dI) vwCl (va_pl (gL G) f') H1 := by
  refine ⟨va_up f (b 11) (.inr (10, qG b w)), up_tm hw hok hT ⟨rF w 35, hm, ht2, by rw [← hlk w, h34, h37]; rfl⟩, fun k q hq => ?_⟩
  obtain ⟨h1, h2⟩ := z_pl hq
  obtain ⟨qa, qe⟩ := q
  have h1 : qa ∈ gL G := h1
  have h2 : qe = va_up f (b 11) (.inr (10, qG b w)) qa := h2
  subst h2
  by_cases e : qa = b 11
  · subst e
    rw [va_up_self]
    exact z_aq hW1 (show 11 < 12 by decide) rfl
  · rw [va_up_ne _ _ e]
    have h3 := z_at hP h1 rfl
    exact h3.kept (hk qa h1 e h3.lt)
theorem z21b (hw : WT G) (hT : Ty G (b 11) 11) (hlk : ∀ w : RS, RVL G (b 11) (rF w 34) (rF w 35) (rF w 37) = qG b w) (hF : ∃ f, OKT (gM G (b 11)) cs t0 m0 f ∧ va_P (dC, dI) vwCl (va_pl (gL (gM G (b 11))) f) H1) (hW1 : va_P (dC, dI) vwCl (qW cs b w) H1) (h34 : rF w 34 = nI mm) (h37 : rF w 37 = nI t2) (ht2 : t2 ≤ 700) (hm : mm ≤ 3) : ∃ f', OKT G cs t2 mm f' ∧ va_P (dC, dI) vwCl (va_pl (gL G) f') H1 := by
  obtain ⟨f, hok, hP⟩ := hF
  refine ⟨va_up f (b 11) (.inr (10, qG b w)), gM_back hw hT hok ⟨rF w 35, hm, ht2, by rw [← hlk w, h34, h37]; rfl⟩, fun k q hq => ?_⟩
  obtain ⟨h1, h2⟩ := z_pl hq
  obtain ⟨qa, qe⟩ := q
  have h1 : qa ∈ gL G := h1
  have h2 : qe = va_up f (b 11) (.inr (10, qG b w)) qa := h2
  subst h2
  by_cases e : qa = b 11
  · subst e
    rw [va_up_self]
    exact z_aq hW1 (show 11 < 12 by decide) rfl
  · rw [va_up_ne _ _ e]
    exact z_at hP (gM_mem.mpr ⟨h1, e⟩) rfl
end QVS
