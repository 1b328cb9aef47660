/-! the class reads bytes with their sign -/
def sB (f : Nat → Int32) (n k : Nat) : Int32 := if k < n then f k else -1
theorem and255_b {x : Int32} (h1 : -128 ≤ x.toInt) (h2 : x.toInt ≤ 127) : (x &&& 255).toInt = if x.toInt < 0 then x.toInt + 256 else x.toInt := by
  have key : ∀ i : Fin 256, ((Int32.ofInt ((i.val : Int) - 128)) &&& 255).toInt = if ((i.val : Int) - 128) < 0 then ((i.val : Int) - 128) + 256 else ((i.val : Int) - 128) := by decide +kernel
  obtain ⟨i, hi⟩ : ∃ i : Fin 256, (i.val : Int) - 128 = x.toInt := ⟨⟨(x.toInt + 128).toNat, by omega⟩, by show (((x.toInt + 128).toNat : Nat) : Int) - 128 = x.toInt; omega⟩
  have := key i
  rw [hi, Int32.ofInt_toInt] at this
  exact this
theorem by_rng {f : Nat → Int32} (h : BY f) (k : Nat) : -128 ≤ (f k).toInt ∧ (f k).toInt ≤ 127 := by
  have e := h k
  have e2 : (f k).toInt8.toInt32 = f k := e
  have h1 := Int8.le_toInt (f k).toInt8
  have h2 := Int8.toInt_lt (f k).toInt8
  rw [← e2, Int8.toInt_toInt32]
  omega
theorem sB_f {f : Nat → Int32} (h : BY f) (n k : Nat) : (k < n ∧ ((0 ≤ (sB f n k).toInt ∧ (sB f n k).toInt ≤ 127 ∧ (bA f n k).toInt = (sB f n k).toInt) ∨ (-128 ≤ (sB f n k).toInt ∧ (sB f n k).toInt < 0 ∧ (bA f n k).toInt = (sB f n k).toInt + 256))) ∨ (n ≤ k ∧ (sB f n k).toInt = -1 ∧ (bA f n k).toInt = -1) := by
  unfold sB bA
  by_cases q : k < n
  · rw [if_pos q, if_pos q]
    have hr := by_rng h k
    have ha := and255_b hr.1 hr.2
    by_cases z : (f k).toInt < 0
    · rw [if_pos z] at ha
      omega
    · rw [if_neg z] at ha
      omega
  · rw [if_neg q, if_neg q]
    exact Or.inr ⟨by omega, rfl, rfl⟩
def sgv (x : Int32) : Nat := if x.toInt = 62 then 7 else if x.toInt = 60 then 8 else if x.toInt = 59 then 9 else 1
section QTK
variable {tx : Nat → Int32} {n p : Nat}
theorem tn_let (h : 97 ≤ (bA tx n p).toInt ∧ (bA tx n p).toInt ≤ 122) : sc isLet tx n (p + 1) = tnd tx n p := (sc_go let0 (isLet_t.mpr h)).symm.trans (tnd_let h)
theorem tn_dig (h : 48 ≤ (bA tx n p).toInt ∧ (bA tx n p).toInt ≤ 57) : sc isDig tx n (p + 1) = tnd tx n p := (sc_go dig0 (isDig_t.mpr h)).symm.trans (tnd_dig h)
theorem sc_mid {P : Int32 → Bool} (hP : P (-1) = false) : ∀ (d p : Nat), n - p = d → ∀ q, p ≤ q → q < sc P tx n p → P (bA tx n q) = true := by
  intro d
  induction d with
  | zero =>
    intro p hd q h1 h2
    have e : bA tx n p = -1 := by unfold bA; rw [if_neg (by omega)]
    rw [sc_st hP (by rw [e]; exact hP)] at h2
    omega
  | succ d ih =>
    intro p hd q h1 h2
    cases h : P (bA tx n p) with
    | false => rw [sc_st hP h] at h2; omega
    | true =>
      rw [sc_go hP h] at h2
      by_cases e : q = p
      · rw [e]; exact h
      · exact ih (p + 1) (by omega) q (by omega) h2
theorem kd6 (h : kd tx n p = 6) : p < n ∧ tnd tx n p ≤ p + 3 ∧ ∀ q, p ≤ q → q < tnd tx n p → 48 ≤ (bA tx n q).toInt ∧ (bA tx n q).toInt ≤ 57 := by
  have hf := kd_f tx n p
  have hp : p < n := by omega
  by_cases h1 : isLet (bA tx n p) = true
  · have := kd_let (isLet_t.mp h1); omega
  · by_cases h2 : isDig (bA tx n p) = true
    · have hk := kd_dig (isDig_t.mp h2)
      have ht := tnd_dig (isDig_t.mp h2)
      refine ⟨hp, by split at hk <;> omega, fun q a b => isDig_t.mp (sc_mid dig0 _ p rfl q a (by rw [ht]; exact b))⟩
    · have hk := kd_sgn hp (isLet_f.mp (Bool.eq_false_iff.mpr h1)) (isDig_f.mp (Bool.eq_false_iff.mpr h2))
      exfalso
      revert hk
      repeat' split
      all_goals (intro hk; omega)
end QTK
/-- where the i-th token begins -/
def bgi (tx : Nat → Int32) (n : Nat) : Nat → Nat
  | 0 => skp tx n 0
  | i + 1 => nxt tx n (bgi tx n i)
def vv (tx : Nat → Int32) (n p : Nat) : Nat := if kd tx n p = 6 then vl tx n p else 0
theorem bgi_le {tx : Nat → Int32} {n : Nat} : ∀ i, bgi tx n i ≤ n
  | 0 => skp_le (Nat.zero_le _)
  | i + 1 => nxt_le (bgi_le i)
theorem bgi_end {tx : Nat → Int32} {n c : Nat} (h : bgi tx n c = n) : ∀ d, bgi tx n (c + d) = n
  | 0 => h
  | d + 1 => by
    show nxt tx n (bgi tx n (c + d)) = n
    rw [bgi_end h d, nxt_n]
/-- the tokens are cut: c of them -/
def QTK (k2 k3 k4 tx : Nat → Int32) (n c : Nat) : Prop := c ≤ 700 ∧ bgi tx n c = n ∧ ∀ i, i < c → bgi tx n i < n ∧ k2 i = nI (kd tx n (bgi tx n i)) ∧ k3 i = nI (bgi tx n i) ∧ k4 i = nI (vv tx n (bgi tx n i))
theorem qtk_end {k2 k3 k4 tx : Nat → Int32} {n c i : Nat} (h : QTK k2 k3 k4 tx n c) (hi : c ≤ i) : bgi tx n i = n := by
  have := bgi_end h.2.1 (i - c)
  rw [show c + (i - c) = i by omega] at this
  exact this
theorem vv_lt {tx : Nat → Int32} {n p : Nat} : vv tx n p ≤ 999 := by
  unfold vv
  split
  · rename_i h
    obtain ⟨h1, h2, h3⟩ := kd6 h
    have g := tnd_gt (tx := tx) h1
    unfold vl
    have key : ∀ j, j ≤ tnd tx n p - p → (j ≤ 0 → vln tx n p j = 0) ∧ (j ≤ 1 → vln tx n p j ≤ 9) ∧ (j ≤ 2 → vln tx n p j ≤ 99) ∧ (j ≤ 3 → vln tx n p j ≤ 999) := by
      intro j
      induction j with
      | zero => intro _; exact ⟨fun _ => rfl, fun _ => Nat.zero_le _, fun _ => Nat.zero_le _, fun _ => Nat.zero_le _⟩
      | succ j ih =>
        intro hj
        have hi := ih (by omega)
        have hd := h3 (p + j) (by omega) (by omega)
        have e : vln tx n p (j + 1) = 10 * vln tx n p j + ((bA tx n (p + j)).toInt - 48).toNat := rfl
        rw [e]
        refine ⟨by omega, fun _ => ?_, fun _ => ?_, fun _ => ?_⟩
        · have := hi.1 (by omega); omega
        · have := hi.2.1 (by omega); omega
        · have := hi.2.2.1 (by omega); omega
    exact (key _ (Nat.le_refl _)).2.2.2 (by omega)
  · omega
theorem vv_n {tx : Nat → Int32} {n : Nat} : vv tx n n = 0 := by
  unfold vv
  rw [kd_end (Nat.le_refl _), if_neg (by decide)]
/-- one token more -/
theorem qtk_add {m2 m3 m4 w2 w3 w4 tx : Nat → Int32} {n c p : Nat} (h : ∀ i, i < c → bgi tx n i < n ∧ m2 i = nI (kd tx n (bgi tx n i)) ∧ m3 i = nI (bgi tx n i) ∧ m4 i = nI (vv tx n (bgi tx n i))) (hp : p = bgi tx n c) (hn : p < n) (h2 : w2 = upd m2 c (nI (kd tx n p))) (h3 : w3 = upd m3 c (nI p)) (h4 : w4 = upd m4 c (nI (vv tx n p))) : ∀ i, i < c + 1 → bgi tx n i < n ∧ w2 i = nI (kd tx n (bgi tx n i)) ∧ w3 i = nI (bgi tx n i) ∧ w4 i = nI (vv tx n (bgi tx n i)) := fun i hi => by
  by_cases e : i = c
  · subst e
    rw [← hp]
    exact ⟨hn, by rw [h2]; exact pk_us, by rw [h3]; exact pk_us, by rw [h4]; exact pk_us⟩
  · have := h i (by omega)
    rw [h2, h3, h4, pk_un e, pk_un e, pk_un e]
    exact this
/-- the draft as a graph -/
def DG (d : Nat → Int32) (g : PGr) : Prop := d 0 = nI (pV g) ∧ pV g ≤ 6 ∧ d 1 = nI (pE g) ∧ pE g ≤ 6 ∧ d 2 = nI (pW g) ∧ pW g ≤ 10 ∧ (∀ v, v < pV g → d (3 + v) = nI (pO g v) ∧ 1 ≤ pO g v ∧ pO g v ≤ 60) ∧ ∀ e k, e < pE g → k < 4 → d (9 + 4 * e + k) = nI (pD g e k) ∧ pD g e k ≤ 999
/-- a fault as the class tells it -/
def FQ (u : RS) (k q ln : Nat) : Prop := rF u 7 = nI k ∧ rF u 8 = nI q ∧ rF u 9 = nI ln
theorem nI_and1 {n : Nat} (h : n < 2048) : nI n &&& 1 = nI (n % 2) := by
  have key : ∀ i : Fin 2048, nI i.val &&& 1 = nI (i.val % 2) := by decide +kernel
  exact key ⟨n, h⟩
theorem nI_shr1 {n : Nat} (h : n < 2048) : nI n >>> 1 = nI (n / 2) := by
  have key : ∀ i : Fin 2048, nI i.val >>> 1 = nI (i.val / 2) := by decide +kernel
  exact key ⟨n, h⟩
theorem dg_v {d d1 d' : Nat → Int32} {g : PGr} {x : Nat} (h : DG d g) (hv : pV g ≤ 5) (hx1 : 1 ≤ x) (hx : x ≤ 60) (h1 : d1 = upd d (3 + pV g) (nI x)) (h2 : d' = upd d1 0 (nI (pV g + 1))) : DG d' (gV g x) := by
  obtain ⟨a0, b0, a1, b1, a2, b2, ho, he⟩ := h
  have hk : ∀ k, k ≠ 0 → k ≠ 3 + pV g → d' k = d k := fun k q1 q2 => by rw [h2, pk_un q1, h1, pk_un q2]
  refine ⟨by rw [h2]; exact pk_us, by show pV g + 1 ≤ 6; omega, (hk 1 (by omega) (by omega)).trans a1, b1, (hk 2 (by omega) (by omega)).trans a2, b2, fun v hv => ?_, fun e k he' hk' => ?_⟩
  · have hv : v < pV g + 1 := hv
    show d' (3 + v) = nI (if v = pV g then x else pO g v) ∧ 1 ≤ (if v = pV g then x else pO g v) ∧ (if v = pV g then x else pO g v) ≤ 60
    by_cases q : v = pV g
    · rw [if_pos q, q]
      exact ⟨by rw [h2, pk_un (by omega), h1]; exact pk_us, hx1, hx⟩
    · rw [if_neg q, hk _ (by omega) (by omega)]
      exact ho v (by omega)
  · have he' : e < pE g := he'
    rw [hk _ (by omega) (by omega)]
    exact he e k he' hk'
theorem dg_e {d d1 d2 d3 d4 d' : Nat → Int32} {g : PGr} {x0 x1 x2 x3 : Nat} (h : DG d g) (hv : pE g ≤ 5) (l0 : x0 ≤ 999) (l1 : x1 ≤ 999) (l2 : x2 ≤ 999) (l3 : x3 ≤ 999) (h1 : d1 = upd d (9 + 4 * pE g) (nI x0)) (h2 : d2 = upd d1 (9 + 4 * pE g + 1) (nI x1)) (h3 : d3 = upd d2 (9 + 4 * pE g + 2) (nI x2)) (h4 : d4 = upd d3 (9 + 4 * pE g + 3) (nI x3)) (h5 : d' = upd d4 1 (nI (pE g + 1))) : DG d' (gE g x0 x1 x2 x3) := by
  obtain ⟨a0, b0, a1, b1, a2, b2, ho, he⟩ := h
  have hk : ∀ k, k ≠ 1 → (k < 9 + 4 * pE g ∨ 9 + 4 * pE g + 3 < k) → d' k = d k := fun k q1 q2 => by rw [h5, pk_un q1, h4, pk_un (by omega), h3, pk_un (by omega), h2, pk_un (by omega), h1, pk_un (by omega)]
  refine ⟨(hk 0 (by omega) (by omega)).trans a0, b0, by rw [h5]; exact pk_us, by show pE g + 1 ≤ 6; omega, (hk 2 (by omega) (by omega)).trans a2, b2, fun v hv => ?_, fun e k he' hk' => ?_⟩
  · have hv : v < pV g := hv
    rw [hk _ (by omega) (by omega)]
    exact ho v hv
  · have he' : e < pE g + 1 := he'
    show d' (9 + 4 * e + k) = nI (if e = pE g then (if k = 0 then x0 else if k = 1 then x1 else if k = 2 then x2 else x3) else pD g e k) ∧ (if e = pE g then (if k = 0 then x0 else if k = 1 then x1 else if k = 2 then x2 else x3) else pD g e k) ≤ 999
    by_cases q : e = pE g
    · rw [if_pos q, q]
      match k, hk' with
      | 0, _ => exact ⟨by rw [Nat.add_zero, h5, pk_un (by omega), h4, pk_un (by omega), h3, pk_un (by omega), h2, pk_un (by omega), h1]; exact pk_us, l0⟩
      | 1, _ => exact ⟨by rw [h5, pk_un (by omega), h4, pk_un (by omega), h3, pk_un (by omega), h2]; exact pk_us, l1⟩
      | 2, _ => exact ⟨by rw [h5, pk_un (by omega), h4, pk_un (by omega), h3]; exact pk_us, l2⟩
      | 3, _ => exact ⟨by rw [h5, pk_un (by omega), h4]; exact pk_us, l3⟩
    · rw [if_neg q, hk _ (by omega) (by omega)]
      exact he e k (by omega) hk'
theorem dg_w {d d' : Nat → Int32} {g : PGr} (h : DG d g) (hw : pW g ≤ 9) (h2 : d' 2 = nI (pW g + 1)) (ho : ∀ k, k < 33 → k ≠ 2 → d' k = d k) : DG d' (gW g) := by
  obtain ⟨a0, b0, a1, b1, a2, b2, hv, he⟩ := h
  refine ⟨(ho 0 (by omega) (by omega)).trans a0, b0, (ho 1 (by omega) (by omega)).trans a1, b1, h2, by show pW g + 1 ≤ 10; omega, fun v q => ?_, fun e k q1 q2 => ?_⟩
  · have q : v < pV g := q
    rw [ho _ (by omega) (by omega)]
    exact hv v q
  · have q1 : e < pE g := q1
    rw [ho _ (by omega) (by omega)]
    exact he e k q1 q2
/-! a line's head by its tokens, one after the other -/
theorem bad_b (k : Nat) : 1 ≤ bad k ∧ bad k ≤ 2 := by unfold bad; split <;> omega
theorem vl_lt {tx : Nat → Int32} {n p : Nat} (h : kd tx n p = 6) : vl tx n p ≤ 999 := by
  have := vv_lt (tx := tx) (n := n) (p := p)
  unfold vv at this
  rw [if_pos h] at this
  exact this
section QED
variable {tx : Nat → Int32} {n p : Nat} {g : PGr}
theorem he_6 (hk : kd tx n p = 4) (he : pE g = 6) : pHead tx n g p = (6, p, g) := (ph_e hk).trans (pe_6 he)
theorem he_a {k q : Nat} {x : Nat × Nat} (hk : kd tx n p = 4) (he : pE g ≠ 6) (h0 : k ≠ 0) (h : pSide tx n g (nxt tx n p) = (k, q, x)) : pHead tx n g p = (k, q, g) := by
  rw [ph_e hk, pe_a he (by rw [h]; exact h0), h]
theorem he_b {a b c k q : Nat} {x : Nat × Nat} (hk : kd tx n p = 4) (he : pE g ≠ 6) (h0 : k ≠ 0) (h : pSide tx n g (nxt tx n p) = (0, a, b, c)) (h2 : pSide tx n g (nxt tx n a) = (k, q, x)) : pHead tx n g p = (k, q, g) := by
  have e1 : (pSide tx n g (nxt tx n p)).1 = 0 := by rw [h]
  have e2 : (pSide tx n g (nxt tx n p)).2.1 = a := by rw [h]
  rw [ph_e hk, pe_b he e1 (by rw [e2, h2]; exact h0), e2, h2]
theorem he_q {a b c d e f : Nat} (hk : kd tx n p = 4) (he : pE g ≠ 6) (h : pSide tx n g (nxt tx n p) = (0, a, b, c)) (h2 : pSide tx n g (nxt tx n a) = (0, d, e, f)) (h3 : pO g b / c ≠ pO g e / f) : pHead tx n g p = (4, d, g) := by
  have e1 : (pSide tx n g (nxt tx n p)).1 = 0 := by rw [h]
  have e2 : (pSide tx n g (nxt tx n p)).2.1 = a := by rw [h]
  rw [ph_e hk, pe_q he e1 (by rw [e2, h2]) (by rw [e2, h, h2]; exact h3), e2, h2]
theorem he_ok {a b c d e f : Nat} (hk : kd tx n p = 4) (he : pE g ≠ 6) (h : pSide tx n g (nxt tx n p) = (0, a, b, c)) (h2 : pSide tx n g (nxt tx n a) = (0, d, e, f)) (h3 : pO g b / c = pO g e / f) : pHead tx n g p = (0, nxt tx n d, gE g b c e f) := by
  have e1 : (pSide tx n g (nxt tx n p)).1 = 0 := by rw [h]
  have e2 : (pSide tx n g (nxt tx n p)).2.1 = a := by rw [h]
  rw [ph_e hk, pe_ok he e1 (by rw [e2, h2]) (by rw [e2, h, h2]; exact h3), e2, h, h2]
end QED
theorem dg_src {d : Nat → Int32} {g : PGr} {s : Nat} (h : DG d g) (hs : s < 2 * pE g) : pSrc g s ≤ 999 := by
  unfold pSrc
  split
  · exact (h.2.2.2.2.2.2.2 _ _ (by omega) (by decide)).2
  · exact (h.2.2.2.2.2.2.2 _ _ (by omega) (by decide)).2
theorem dg_dst {d : Nat → Int32} {g : PGr} {s : Nat} (h : DG d g) (hs : s < 2 * pE g) : pDst g s ≤ 999 := by
  unfold pDst
  split
  · exact (h.2.2.2.2.2.2.2 _ _ (by omega) (by decide)).2
  · exact (h.2.2.2.2.2.2.2 _ _ (by omega) (by decide)).2
theorem dg_zero {d : Nat → Int32} (h : ∀ k, k < 543 → d k = 0) : DG d g0 := ⟨h 0 (by decide), by decide, h 1 (by decide), by decide, h 2 (by decide), by decide, fun v hv => absurd hv (Nat.not_lt_zero v), fun e k he _ => absurd he (Nat.not_lt_zero e)⟩
