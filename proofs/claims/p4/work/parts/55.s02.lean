/-! a text as it is read: a pure account, for both readers -/
def isLet (x : Int32) : Bool := decide (97 ≤ x.toInt ∧ x.toInt ≤ 122)
def isDig (x : Int32) : Bool := decide (48 ≤ x.toInt ∧ x.toInt ≤ 57)
def isBlk (x : Int32) : Bool := decide (x.toInt = 32 ∨ x.toInt = 10)
theorem isLet_t {x : Int32} : isLet x = true ↔ 97 ≤ x.toInt ∧ x.toInt ≤ 122 := decide_eq_true_iff
theorem isDig_t {x : Int32} : isDig x = true ↔ 48 ≤ x.toInt ∧ x.toInt ≤ 57 := decide_eq_true_iff
theorem isBlk_t {x : Int32} : isBlk x = true ↔ x.toInt = 32 ∨ x.toInt = 10 := decide_eq_true_iff
theorem isLet_f {x : Int32} : isLet x = false ↔ x.toInt < 97 ∨ 122 < x.toInt := by rw [← Bool.not_eq_true, isLet_t]; omega
theorem isDig_f {x : Int32} : isDig x = false ↔ x.toInt < 48 ∨ 57 < x.toInt := by rw [← Bool.not_eq_true, isDig_t]; omega
theorem isBlk_f {x : Int32} : isBlk x = false ↔ x.toInt ≠ 32 ∧ x.toInt ≠ 10 := by rw [← Bool.not_eq_true, isBlk_t]; omega
/-- from p on as long as P holds -/
def scn (P : Int32 → Bool) (tx : Nat → Int32) (n : Nat) : Nat → Nat → Nat
  | 0, p => p
  | f + 1, p => if P (bA tx n p) = true then scn P tx n f (p + 1) else p
def sc (P : Int32 → Bool) (tx : Nat → Int32) (n p : Nat) : Nat := scn P tx n (n - p) p
section SCN
variable {P : Int32 → Bool} {tx : Nat → Int32} {n p : Nat}
theorem scw_eq (hP : P (-1) = false) : sc P tx n p = if P (bA tx n p) = true then sc P tx n (p + 1) else p := by
  unfold sc
  by_cases h : p < n
  · obtain ⟨k, hk⟩ : ∃ k, n - p = k + 1 := ⟨n - p - 1, by omega⟩
    rw [hk, show n - (p + 1) = k by omega]
    rfl
  · have e : bA tx n p = -1 := by unfold bA; rw [if_neg h]
    rw [show n - p = 0 by omega, e, hP, if_neg (by decide)]
    rfl
theorem sc_go (hP : P (-1) = false) (h : P (bA tx n p) = true) : sc P tx n p = sc P tx n (p + 1) := by rw [scw_eq hP, if_pos h]
theorem sc_st (hP : P (-1) = false) (h : P (bA tx n p) = false) : sc P tx n p = p := by rw [scw_eq hP, if_neg (by rw [h]; decide)]
theorem sc_in (hP : P (-1) = false) (h : P (bA tx n p) = true) : p < n := by
  by_cases q : p < n
  · exact q
  · have e : bA tx n p = -1 := by unfold bA; rw [if_neg q]
    rw [e, hP] at h
    exact absurd h (by decide)
theorem sc_all (hP : P (-1) = false) : ∀ (d p : Nat), n - p = d → p ≤ sc P tx n p ∧ (p ≤ n → sc P tx n p ≤ n) ∧ P (bA tx n (sc P tx n p)) = false := by
  intro d
  induction d with
  | zero =>
    intro p hd
    have e : bA tx n p = -1 := by unfold bA; rw [if_neg (by omega)]
    have h : P (bA tx n p) = false := by rw [e]; exact hP
    rw [sc_st hP h]
    exact ⟨Nat.le_refl _, fun h => h, h⟩
  | succ d ih =>
    intro p hd
    cases h : P (bA tx n p) with
    | false =>
      rw [sc_st hP h]
      exact ⟨Nat.le_refl _, fun h => h, h⟩
    | true =>
      rw [sc_go hP h]
      obtain ⟨h1, h2, h3⟩ := ih (p + 1) (by omega)
      exact ⟨by omega, fun _ => h2 (by omega), h3⟩
theorem sc_ge (hP : P (-1) = false) : p ≤ sc P tx n p := (sc_all hP _ p rfl).1
theorem sc_le (hP : P (-1) = false) (h : p ≤ n) : sc P tx n p ≤ n := (sc_all hP _ p rfl).2.1 h
theorem sc_no (hP : P (-1) = false) : P (bA tx n (sc P tx n p)) = false := (sc_all hP _ p rfl).2.2
end SCN
theorem let0 : isLet (-1) = false := by decide
theorem dig0 : isDig (-1) = false := by decide
theorem blk0 : isBlk (-1) = false := by decide
def skp (tx : Nat → Int32) (n p : Nat) : Nat := sc isBlk tx n p
/-- where a token that begins at p ends -/
def tnd (tx : Nat → Int32) (n p : Nat) : Nat := if n ≤ p then p else if isLet (bA tx n p) = true then sc isLet tx n (p + 1) else if isDig (bA tx n p) = true then sc isDig tx n (p + 1) else p + 1
def nxt (tx : Nat → Int32) (n p : Nat) : Nat := skp tx n (tnd tx n p)
section TOKS
variable {tx : Nat → Int32} {n p : Nat}
theorem skp_le (h : p ≤ n) : skp tx n p ≤ n := sc_le blk0 h
theorem skp_ge : p ≤ skp tx n p := sc_ge blk0
theorem tnd_gt (h : p < n) : p < tnd tx n p := by
  unfold tnd
  rw [if_neg (by omega)]
  split
  · have := sc_ge (tx := tx) (n := n) (p := p + 1) let0; omega
  · split
    · have := sc_ge (tx := tx) (n := n) (p := p + 1) dig0; omega
    · omega
theorem tnd_le (h : p ≤ n) : tnd tx n p ≤ n := by
  unfold tnd
  split
  · exact h
  · split
    · exact sc_le let0 (by omega)
    · split
      · exact sc_le dig0 (by omega)
      · omega
theorem tnd_n : tnd tx n n = n := by unfold tnd; rw [if_pos (Nat.le_refl _)]
theorem skp_n : skp tx n n = n := sc_st blk0 (by unfold bA; rw [if_neg (Nat.lt_irrefl _)]; decide)
theorem nxt_n : nxt tx n n = n := by unfold nxt; rw [tnd_n, skp_n]
theorem nxt_gt (h : p < n) : p < nxt tx n p := Nat.lt_of_lt_of_le (tnd_gt h) skp_ge
theorem nxt_le (h : p ≤ n) : nxt tx n p ≤ n := skp_le (tnd_le h)
end TOKS
/-- a word of small letters is one of the names -/
def eqw (tx : Nat → Int32) (n : Nat) (w : List Int32) (p : Nat) : Bool := decide (tnd tx n p - p = w.length) && (List.range w.length).all (fun i => decide (bA tx n (p + i) = w.getD i 0))
def wVx : List Int32 := [118, 101, 114, 116, 101, 120]
def wEd : List Int32 := [101, 100, 103, 101]
def wWo : List Int32 := [119, 111, 114, 100]
theorem eqw_t {tx : Nat → Int32} {n p : Nat} {w : List Int32} : eqw tx n w p = true ↔ tnd tx n p - p = w.length ∧ ∀ i, i < w.length → bA tx n (p + i) = w.getD i 0 := by
  unfold eqw
  rw [Bool.and_eq_true, decide_eq_true_iff, List.all_eq_true]
  constructor
  · rintro ⟨h1, h2⟩
    exact ⟨h1, fun i hi => of_decide_eq_true (h2 i (List.mem_range.mpr hi))⟩
  · rintro ⟨h1, h2⟩
    exact ⟨h1, fun i hi => decide_eq_true (h2 i (List.mem_range.mp hi))⟩
/-- 0 the end, 1 no token, 2 a word, 3 vertex, 4 edge, 5 word, 6 a number, 7 >, 8 <, 9 ; -/
def kd (tx : Nat → Int32) (n p : Nat) : Nat :=
  if n ≤ p then 0
  else if isLet (bA tx n p) = true then (if eqw tx n wVx p = true then 3 else if eqw tx n wEd p = true then 4 else if eqw tx n wWo p = true then 5 else 2)
  else if isDig (bA tx n p) = true then (if 3 < tnd tx n p - p then 1 else 6)
  else if (bA tx n p).toInt = 62 then 7 else if (bA tx n p).toInt = 60 then 8 else if (bA tx n p).toInt = 59 then 9 else 1
/-- the first j digits' number -/
def vln (tx : Nat → Int32) (n p : Nat) : Nat → Nat
  | 0 => 0
  | j + 1 => 10 * vln tx n p j + ((bA tx n (p + j)).toInt - 48).toNat
def vl (tx : Nat → Int32) (n p : Nat) : Nat := vln tx n p (tnd tx n p - p)
/-- what is at fault where a kind is due and another stands -/
def bad (k : Nat) : Nat := if k = 1 then 1 else 2
/-- a graph: how many vertices, edges, words; orders; edges' parts -/
abbrev PGr : Type := Nat × Nat × Nat × (Nat → Nat) × (Nat → Nat → Nat)
def pV (g : PGr) : Nat := g.1
def pE (g : PGr) : Nat := g.2.1
def pW (g : PGr) : Nat := g.2.2.1
def pO (g : PGr) : Nat → Nat := g.2.2.2.1
def pD (g : PGr) : Nat → Nat → Nat := g.2.2.2.2
def pSrc (g : PGr) (s : Nat) : Nat := pD g (s / 2) (if s % 2 = 0 then 0 else 2)
def pDst (g : PGr) (s : Nat) : Nat := pD g (s / 2) (if s % 2 = 0 then 2 else 0)
def g0 : PGr := (0, 0, 0, fun _ => 0, fun _ _ => 0)
def gV (g : PGr) (o : Nat) : PGr := (pV g + 1, pE g, pW g, fun v => if v = pV g then o else pO g v, pD g)
def gE (g : PGr) (u p v q : Nat) : PGr := (pV g, pE g + 1, pW g, pO g, fun e k => if e = pE g then (if k = 0 then u else if k = 1 then p else if k = 2 then v else q) else pD g e k)
def gW (g : PGr) : PGr := (pV g, pE g, pW g + 1, pO g, pD g)
/-- a line's parts: (the fault or 0, where it is or where the reader stands then, the graph) -/
abbrev PRs : Type := Nat × Nat × PGr
def pVertex (tx : Nat → Int32) (n : Nat) (g : PGr) (p : Nat) : PRs :=
  if pV g = 6 then (6, p, g)
  else if kd tx n (nxt tx n p) ≠ 6 then (bad (kd tx n (nxt tx n p)), nxt tx n p, g)
  else if vl tx n (nxt tx n p) < 1 ∨ 60 < vl tx n (nxt tx n p) then (4, nxt tx n p, g)
  else (0, nxt tx n (nxt tx n p), gV g (vl tx n (nxt tx n p)))
/-- a vertex and an index that divides its order, from p on: (fault, place, vertex, index) -/
def pSide (tx : Nat → Int32) (n : Nat) (g : PGr) (p : Nat) : Nat × Nat × Nat × Nat :=
  if kd tx n p ≠ 6 then (bad (kd tx n p), p, 0, 0)
  else if pV g ≤ vl tx n p then (3, p, 0, 0)
  else if kd tx n (nxt tx n p) ≠ 6 then (bad (kd tx n (nxt tx n p)), nxt tx n p, 0, 0)
  else if vl tx n (nxt tx n p) = 0 ∨ pO g (vl tx n p) % vl tx n (nxt tx n p) ≠ 0 then (4, nxt tx n p, 0, 0)
  else (0, nxt tx n p, vl tx n p, vl tx n (nxt tx n p))
def pEdge (tx : Nat → Int32) (n : Nat) (g : PGr) (p : Nat) : PRs :=
  if pE g = 6 then (6, p, g)
  else if (pSide tx n g (nxt tx n p)).1 ≠ 0 then ((pSide tx n g (nxt tx n p)).1, (pSide tx n g (nxt tx n p)).2.1, g)
  else
    let a := pSide tx n g (nxt tx n p)
    let b := pSide tx n g (nxt tx n a.2.1)
    if b.1 ≠ 0 then (b.1, b.2.1, g)
    else if pO g a.2.2.1 / a.2.2.2 ≠ pO g b.2.2.1 / b.2.2.2 then (4, b.2.1, g)
    else (0, nxt tx n b.2.1, gE g a.2.2.1 a.2.2.2 b.2.2.1 b.2.2.2)
/-- a number that may be there is passed over -/
def pNum (tx : Nat → Int32) (n p : Nat) : Nat := if kd tx n p = 6 then nxt tx n p else p
/-- backwards -/
def sgn (tx : Nat → Int32) (n p : Nat) : Nat := if kd tx n p = 8 then 1 else 0
def pSteps (tx : Nat → Int32) (n : Nat) (g : PGr) : Nat → Nat → Nat → Nat → Nat × Nat
  | 0, _, _, p => (0, p)
  | f + 1, here, c, p =>
    if kd tx n p ≠ 7 ∧ kd tx n p ≠ 8 then (0, p)
    else if c = 24 then (6, p)
    else if kd tx n (nxt tx n p) ≠ 6 then (bad (kd tx n (nxt tx n p)), nxt tx n p)
    else if pE g ≤ vl tx n (nxt tx n p) then (3, nxt tx n p)
    else if pSrc g (2 * vl tx n (nxt tx n p) + sgn tx n p) ≠ here then (5, nxt tx n p)
    else pSteps tx n g f (pDst g (2 * vl tx n (nxt tx n p) + sgn tx n p)) (c + 1) (pNum tx n (nxt tx n (nxt tx n p)))
def pWord (tx : Nat → Int32) (n : Nat) (g : PGr) (p : Nat) : PRs :=
  if pW g = 10 then (6, p, g)
  else if kd tx n (nxt tx n p) ≠ 6 then (bad (kd tx n (nxt tx n p)), nxt tx n p, g)
  else if pV g ≤ vl tx n (nxt tx n p) then (3, nxt tx n p, g)
  else
    let r := pSteps tx n g 25 (vl tx n (nxt tx n p)) 0 (pNum tx n (nxt tx n (nxt tx n p)))
    if r.1 ≠ 0 then (r.1, r.2, g) else (0, r.2, gW g)
def pHead (tx : Nat → Int32) (n : Nat) (g : PGr) (p : Nat) : PRs :=
  if kd tx n p = 3 then pVertex tx n g p else if kd tx n p = 4 then pEdge tx n g p else if kd tx n p = 5 then pWord tx n g p else (bad (kd tx n p), p, g)
def pLine (tx : Nat → Int32) (n : Nat) (g : PGr) (p : Nat) : PRs :=
  if (pHead tx n g p).1 ≠ 0 then pHead tx n g p
  else if kd tx n (pHead tx n g p).2.1 ≠ 9 then (bad (kd tx n (pHead tx n g p).2.1), (pHead tx n g p).2.1, g)
  else (0, nxt tx n (pHead tx n g p).2.1, (pHead tx n g p).2.2)
/-- all lines: (fault, place, line, graph) -/
def pAll (tx : Nat → Int32) (n : Nat) : Nat → PGr → Nat → Nat → Nat × Nat × Nat × PGr
  | 0, g, p, ln => (0, p, ln, g)
  | f + 1, g, p, ln => if kd tx n p = 0 then (0, p, ln, g) else if (pLine tx n g p).1 ≠ 0 then ((pLine tx n g p).1, (pLine tx n g p).2.1, ln, g) else pAll tx n f (pLine tx n g p).2.2 (pLine tx n g p).2.1 (ln + 1)
def pLoad (tx : Nat → Int32) (n : Nat) : Nat × Nat × Nat × PGr := pAll tx n 700 g0 (skp tx n 0) 0

/-! where the reference's reader stands: the token that begins at p -/
def tkr (k : Nat) : Nat := if k = 0 then 0 else if k = 1 then 1 else if k ≤ 5 then 2 else if k = 6 then 3 else 4
section KDS
variable {tx : Nat → Int32} {n p : Nat}
theorem kd_le : kd tx n p ≤ 9 := by
  unfold kd
  repeat' split
  all_goals omega
theorem kd_end (h : n ≤ p) : kd tx n p = 0 := by unfold kd; rw [if_pos h]
theorem kd_pos (h : p < n) : 1 ≤ kd tx n p := by
  unfold kd
  rw [if_neg (by omega)]
  repeat' split
  all_goals omega
theorem tkr_f {k : Nat} (h : k ≤ 9) : (k = 0 ∧ tkr k = 0) ∨ (k = 1 ∧ tkr k = 1) ∨ (2 ≤ k ∧ k ≤ 5 ∧ tkr k = 2) ∨ (k = 6 ∧ tkr k = 3) ∨ (7 ≤ k ∧ k ≤ 9 ∧ tkr k = 4) := by
  unfold tkr
  repeat' split
  all_goals omega
/-- kind, token and place, for omega -/
theorem kd_f (tx : Nat → Int32) (n p : Nat) : (kd tx n p = 0 ∧ tkr (kd tx n p) = 0 ∧ n ≤ p) ∨ (kd tx n p = 1 ∧ tkr (kd tx n p) = 1 ∧ p < n) ∨ (2 ≤ kd tx n p ∧ kd tx n p ≤ 5 ∧ tkr (kd tx n p) = 2 ∧ p < n) ∨ (kd tx n p = 6 ∧ tkr (kd tx n p) = 3 ∧ p < n) ∨ (7 ≤ kd tx n p ∧ kd tx n p ≤ 9 ∧ tkr (kd tx n p) = 4 ∧ p < n) := by
  have h1 := tkr_f (kd_le (tx := tx) (n := n) (p := p))
  by_cases h : n ≤ p
  · have h2 := kd_end (tx := tx) h
    omega
  · have h2 := kd_pos (tx := tx) (n := n) (p := p) (by omega)
    omega
theorem bA_lt (h : 0 ≤ (bA tx n p).toInt) : p < n := by
  rcases bA_f tx n p with ⟨h1, h2⟩ | ⟨h1, h2⟩
  · omega
  · exact h1
theorem kd_let (h : 97 ≤ (bA tx n p).toInt ∧ (bA tx n p).toInt ≤ 122) : tkr (kd tx n p) = 2 := by
  have hp := bA_lt (tx := tx) (n := n) (p := p) (by omega)
  unfold kd
  rw [if_neg (by omega), if_pos (isLet_t.mpr h)]
  repeat' split
  all_goals rfl
theorem kd_dig (h : 48 ≤ (bA tx n p).toInt ∧ (bA tx n p).toInt ≤ 57) : kd tx n p = if 3 < tnd tx n p - p then 1 else 6 := by
  have hp := bA_lt (tx := tx) (n := n) (p := p) (by omega)
  unfold kd
  rw [if_neg (by omega), if_neg (by rw [isLet_f.mpr (by omega)]; decide), if_pos (isDig_t.mpr h)]
theorem kd_sgn (hp : p < n) (h1 : (bA tx n p).toInt < 97 ∨ 122 < (bA tx n p).toInt) (h2 : (bA tx n p).toInt < 48 ∨ 57 < (bA tx n p).toInt) : kd tx n p = if (bA tx n p).toInt = 62 then 7 else if (bA tx n p).toInt = 60 then 8 else if (bA tx n p).toInt = 59 then 9 else 1 := by
  unfold kd
  rw [if_neg (by omega), if_neg (by rw [isLet_f.mpr h1]; decide), if_neg (by rw [isDig_f.mpr h2]; decide)]
theorem tnd_let (h : 97 ≤ (bA tx n p).toInt ∧ (bA tx n p).toInt ≤ 122) : sc isLet tx n p = tnd tx n p := by
  have hp := bA_lt (tx := tx) (n := n) (p := p) (by omega)
  rw [sc_go let0 (isLet_t.mpr h)]
  unfold tnd
  rw [if_neg (by omega), if_pos (isLet_t.mpr h)]
theorem tnd_dig (h : 48 ≤ (bA tx n p).toInt ∧ (bA tx n p).toInt ≤ 57) : sc isDig tx n p = tnd tx n p := by
  have hp := bA_lt (tx := tx) (n := n) (p := p) (by omega)
  rw [sc_go dig0 (isDig_t.mpr h)]
  unfold tnd
  rw [if_neg (by omega), if_neg (by rw [isLet_f.mpr (by omega)]; decide), if_pos (isDig_t.mpr h)]
theorem tnd_sgn (hp : p < n) (h1 : (bA tx n p).toInt < 97 ∨ 122 < (bA tx n p).toInt) (h2 : (bA tx n p).toInt < 48 ∨ 57 < (bA tx n p).toInt) : tnd tx n p = p + 1 := by
  unfold tnd
  rw [if_neg (by omega), if_neg (by rw [isLet_f.mpr h1]; decide), if_neg (by rw [isDig_f.mpr h2]; decide)]
theorem sk_go (h : (bA tx n p).toInt = 32 ∨ (bA tx n p).toInt = 10) : skp tx n (p + 1) = skp tx n p := (sc_go blk0 (isBlk_t.mpr h)).symm
theorem sk_st (h : (bA tx n p).toInt ≠ 32 ∧ (bA tx n p).toInt ≠ 10) : skp tx n p = p := sc_st blk0 (isBlk_f.mpr h)
theorem vln_s {e : Nat} (h : p ≤ e) : vln tx n p (e + 1 - p) = 10 * vln tx n p (e - p) + ((bA tx n e).toInt - 48).toNat := by
  rw [show e + 1 - p = (e - p) + 1 by omega]
  show 10 * vln tx n p (e - p) + ((bA tx n (p + (e - p))).toInt - 48).toNat = _
  rw [show p + (e - p) = e by omega]
end KDS
def TE (u : RS) (tx : Nat → Int32) (n p : Nat) : Prop := rF u 13 = nI p ∧ rF u 14 = nI (tnd tx n p) ∧ rF u 12 = nI (tkr (kd tx n p)) ∧ p ≤ n ∧ ∃ v, v ≤ 9999 ∧ rF u 15 = nI v ∧ (kd tx n p = 6 → v = vl tx n p)
section TES
variable {u : RS} {tx : Nat → Int32} {n p e v : Nat}
theorem te_end (hp : p ≤ n) (hb : (bA tx n p).toInt = -1) (h13 : rF u 13 = nI p) (h14 : rF u 14 = nI p) (h12 : rF u 12 = 0) (h15 : rF u 15 = nI v) (hv : v ≤ 9999) : TE u tx n p := by
  have h : n ≤ p := by
    rcases bA_f tx n p with ⟨h1, h2⟩ | ⟨h1, h2⟩
    · exact h2
    · omega
  obtain rfl : p = n := by omega
  exact ⟨h13, by rw [tnd_n]; exact h14, by rw [kd_end (Nat.le_refl _)]; exact h12, hp, v, hv, h15, fun q => by rw [kd_end (Nat.le_refl _)] at q; omega⟩
theorem te_let (hb : 97 ≤ (bA tx n p).toInt ∧ (bA tx n p).toInt ≤ 122) (he : e = tnd tx n p) (h13 : rF u 13 = nI p) (h14 : rF u 14 = nI e) (h12 : rF u 12 = 2) (h15 : rF u 15 = nI v) (hv : v ≤ 9999) : TE u tx n p := by
  have hp := bA_lt (tx := tx) (n := n) (p := p) (by omega)
  have hk := kd_let hb
  exact ⟨h13, by rw [← he]; exact h14, by rw [hk]; exact h12, by omega, v, hv, h15, fun q => by rw [q] at hk; exact absurd hk (by decide)⟩
theorem te_dig (hb : 48 ≤ (bA tx n p).toInt ∧ (bA tx n p).toInt ≤ 57) (he : e = tnd tx n p) (h13 : rF u 13 = nI p) (h14 : rF u 14 = nI e) (h12 : (rF u 12 = 1 ∧ 3 < e - p) ∨ (rF u 12 = 3 ∧ e - p ≤ 3)) (h15 : rF u 15 = nI v) (hv : v ≤ 9999) (hvl : e - p ≤ 3 → v = vln tx n p (e - p)) : TE u tx n p := by
  have hp := bA_lt (tx := tx) (n := n) (p := p) (by omega)
  have hk := kd_dig hb
  subst he
  refine ⟨h13, h14, ?_, by omega, v, hv, h15, fun q => ?_⟩
  · rcases h12 with ⟨h, h3⟩ | ⟨h, h3⟩
    · rw [hk, if_pos h3]; exact h
    · rw [hk, if_neg (by omega)]; exact h
  · by_cases h3 : 3 < tnd tx n p - p
    · rw [hk, if_pos h3] at q; omega
    · exact hvl (by omega)
theorem te_sgn (hp : p < n) (h1 : (bA tx n p).toInt < 97 ∨ 122 < (bA tx n p).toInt) (h2 : (bA tx n p).toInt < 48 ∨ 57 < (bA tx n p).toInt) (h13 : rF u 13 = nI p) (h14 : rF u 14 = nI (p + 1)) (h12 : (rF u 12 = 4 ∧ ((bA tx n p).toInt = 59 ∨ (bA tx n p).toInt = 62 ∨ (bA tx n p).toInt = 60)) ∨ (rF u 12 = 1 ∧ (bA tx n p).toInt ≠ 59 ∧ (bA tx n p).toInt ≠ 62 ∧ (bA tx n p).toInt ≠ 60)) (h15 : rF u 15 = nI v) (hv : v ≤ 9999) : TE u tx n p := by
  have hk := kd_sgn hp h1 h2
  refine ⟨h13, by rw [tnd_sgn hp h1 h2]; exact h14, ?_, by omega, v, hv, h15, fun q => ?_⟩
  · rcases h12 with ⟨h, h3⟩ | ⟨h, h3, h4, h5⟩
    · rcases h3 with h3 | h3 | h3
      · rw [hk, if_neg (by omega), if_neg (by omega), if_pos h3]; exact h
      · rw [hk, if_pos h3]; exact h
      · rw [hk, if_neg (by omega), if_pos h3]; exact h
    · rw [hk, if_neg h4, if_neg h5, if_neg h3]; exact h
  · rw [hk] at q
    exfalso
    revert q
    repeat' split
    all_goals (intro q; omega)
/-- the reader's place and fields that no change has reached -/
theorem te_fr {u1 : RS} {js ks : List Nat} {lb : Bool} (h : TE u tx n p) (hf : FR js ks lb u u1) (h12 : 12 ∉ ks) (h13 : 13 ∉ ks) (h14 : 14 ∉ ks) (h15 : 15 ∉ ks) : TE u1 tx n p := by
  unfold TE
  rw [hf.2.1 12 h12, hf.2.1 13 h13, hf.2.1 14 h14, hf.2.1 15 h15]
  exact h
/-- a sign by its byte -/
theorem kd_byte (h : tkr (kd tx n p) = 4) : (kd tx n p = 7 ↔ (bA tx n p).toInt = 62) ∧ (kd tx n p = 8 ↔ (bA tx n p).toInt = 60) ∧ (kd tx n p = 9 ↔ (bA tx n p).toInt = 59) := by
  have hf := kd_f tx n p
  have hp : p < n := by omega
  have h7 : 7 ≤ kd tx n p := by omega
  by_cases h1 : isLet (bA tx n p) = true
  · have := kd_let (isLet_t.mp h1); omega
  · by_cases h2 : isDig (bA tx n p) = true
    · have hk := kd_dig (isDig_t.mp h2)
      split at hk <;> omega
    · have hk := kd_sgn hp (isLet_f.mp (Bool.eq_false_iff.mpr h1)) (isDig_f.mp (Bool.eq_false_iff.mpr h2))
      by_cases e1 : (bA tx n p).toInt = 62
      · rw [if_pos e1] at hk; omega
      · rw [if_neg e1] at hk
        by_cases e2 : (bA tx n p).toInt = 60
        · rw [if_pos e2] at hk; omega
        · rw [if_neg e2] at hk
          by_cases e3 : (bA tx n p).toInt = 59
          · rw [if_pos e3] at hk; omega
          · rw [if_neg e3] at hk; omega
end TES
/-- a fault as it is told -/
def FL (u : RS) (k q ln : Nat) : Prop := rF u 16 = nI k ∧ rF u 17 = nI q ∧ rF u 18 = nI ln
/-- the graph in a row of ints -/
def GA (a : Nat → Int32) (g : PGr) : Prop := vN a = pV g ∧ eN a = pE g ∧ wN a = pW g ∧ (∀ v, v < pV g → od a v = pO g v) ∧ ∀ e k, e < pE g → k < 4 → ev a e k = pD g e k
section GAS
variable {a a' : Nat → Int32} {g : PGr}
theorem ga_same (h : GA a g) (e1 : vN a' = vN a) (e2 : eN a' = eN a) (e3 : wN a' = wN a) (e4 : ∀ v, v < vN a → od a' v = od a v) (e5 : ∀ e k, e < eN a → k < 4 → ev a' e k = ev a e k) : GA a' g := by
  obtain ⟨h1, h2, h3, h4, h5⟩ := h
  exact ⟨by omega, by omega, by omega, fun v hv => (e4 v (by omega)).trans (h4 v hv), fun e k he hk => (e5 e k (by omega) hk).trans (h5 e k he hk)⟩
theorem ga_src (h : GA a g) {s : Nat} (hs : s < 2 * pE g) : src a s = pSrc g s := by
  unfold src pSrc
  split
  · exact h.2.2.2.2 _ _ (by omega) (by decide)
  · exact h.2.2.2.2 _ _ (by omega) (by decide)
theorem ga_dst (h : GA a g) {s : Nat} (hs : s < 2 * pE g) : dst a s = pDst g s := by
  unfold dst
  have hf := fl_half s
  have hm := fl_mod s
  unfold src pDst
  by_cases q : s % 2 = 0
  · rw [if_neg (by omega), if_pos q, hf]
    exact h.2.2.2.2 _ _ (by omega) (by decide)
  · rw [if_pos (by omega), if_neg q, hf]
    exact h.2.2.2.2 _ _ (by omega) (by decide)
theorem ga_v {x : Nat} (h : GA a g) (e1 : vN a' = vN a + 1) (e2 : eN a' = eN a) (e3 : wN a' = wN a) (e4 : ∀ v, v < vN a → od a' v = od a v) (e6 : od a' (vN a) = x) (e5 : ∀ e k, e < eN a → k < 4 → ev a' e k = ev a e k) : GA a' (gV g x) := by
  obtain ⟨h1, h2, h3, h4, h5⟩ := h
  refine ⟨by show _ = pV g + 1; omega, by show _ = pE g; omega, by show _ = pW g; omega, fun v hv => ?_, fun e k he hk => ?_⟩
  · have hv : v < pV g + 1 := hv
    show _ = if v = pV g then x else pO g v
    by_cases q : v = pV g
    · rw [if_pos q, q, ← h1]; exact e6
    · rw [if_neg q, e4 v (by omega)]; exact h4 v (by omega)
  · have he : e < pE g := he
    exact (e5 e k (by omega) hk).trans (h5 e k he hk)
theorem ga_e {x0 x1 x2 x3 : Nat} (h : GA a g) (e1 : vN a' = vN a) (e2 : eN a' = eN a + 1) (e3 : wN a' = wN a) (e4 : ∀ v, v < vN a → od a' v = od a v) (e5 : ∀ e k, e < eN a → k < 4 → ev a' e k = ev a e k) (c0 : ev a' (eN a) 0 = x0) (c1 : ev a' (eN a) 1 = x1) (c2 : ev a' (eN a) 2 = x2) (c3 : ev a' (eN a) 3 = x3) : GA a' (gE g x0 x1 x2 x3) := by
  obtain ⟨h1, h2, h3, h4, h5⟩ := h
  refine ⟨by show _ = pV g; omega, by show _ = pE g + 1; omega, by show _ = pW g; omega, fun v hv => ?_, fun e k he hk => ?_⟩
  · have hv : v < pV g := hv
    exact (e4 v (by omega)).trans (h4 v hv)
  · have he : e < pE g + 1 := he
    show _ = if e = pE g then (if k = 0 then x0 else if k = 1 then x1 else if k = 2 then x2 else x3) else pD g e k
    by_cases q : e = pE g
    · rw [if_pos q, q, ← h2]
      match k, hk with
      | 0, _ => exact c0
      | 1, _ => exact c1
      | 2, _ => exact c2
      | 3, _ => exact c3
    · rw [if_neg q]
      exact (e5 e k (by omega) hk).trans (h5 e k (by omega) hk)
theorem ga_w (h : GA a g) (e1 : vN a' = vN a) (e2 : eN a' = eN a) (e3 : wN a' = wN a + 1) (e4 : ∀ v, v < vN a → od a' v = od a v) (e5 : ∀ e k, e < eN a → k < 4 → ev a' e k = ev a e k) : GA a' (gW g) := by
  obtain ⟨h1, h2, h3, h4, h5⟩ := h
  exact ⟨by show _ = pV g; omega, by show _ = pE g; omega, by show _ = pW g + 1; omega, fun v hv => (e4 v (by have : v < pV g := hv; omega)).trans (h4 v hv), fun e k he hk => (e5 e k (by have : e < pE g := he; omega) hk).trans (h5 e k he hk)⟩
end GAS
/-! the account's cases, one by one -/
theorem nn {a b : Nat} (h : a = b) : ¬ (a ≠ b) := fun q => q h
theorem bad_ne {k : Nat} : bad k ≠ 0 := by unfold bad; split <;> decide
section PCS
variable {tx : Nat → Int32} {n p : Nat} {g : PGr}
theorem tkr_bad : (if tkr (kd tx n p) = 1 then 1 else 2) = bad (kd tx n p) := by
  have := kd_f tx n p
  unfold bad
  split <;> split <;> omega
theorem pnum_n (h : kd tx n p ≠ 6) : pNum tx n p = p := by unfold pNum; rw [if_neg h]
theorem pnum_y (h : kd tx n p = 6) : pNum tx n p = nxt tx n p := by unfold pNum; rw [if_pos h]
theorem pv_6 (h : pV g = 6) : pVertex tx n g p = (6, p, g) := by unfold pVertex; rw [if_pos h]
theorem pv_n (h : pV g ≠ 6) (h2 : kd tx n (nxt tx n p) ≠ 6) : pVertex tx n g p = (bad (kd tx n (nxt tx n p)), nxt tx n p, g) := by unfold pVertex; rw [if_neg h, if_pos h2]
theorem pv_4 (h : pV g ≠ 6) (h2 : kd tx n (nxt tx n p) = 6) (h3 : vl tx n (nxt tx n p) < 1 ∨ 60 < vl tx n (nxt tx n p)) : pVertex tx n g p = (4, nxt tx n p, g) := by unfold pVertex; rw [if_neg h, if_neg (nn h2), if_pos h3]
theorem pv_ok (h : pV g ≠ 6) (h2 : kd tx n (nxt tx n p) = 6) (h3 : 1 ≤ vl tx n (nxt tx n p) ∧ vl tx n (nxt tx n p) ≤ 60) : pVertex tx n g p = (0, nxt tx n (nxt tx n p), gV g (vl tx n (nxt tx n p))) := by unfold pVertex; rw [if_neg h, if_neg (nn h2), if_neg (by omega)]
theorem ps_n (h : kd tx n p ≠ 6) : pSide tx n g p = (bad (kd tx n p), p, 0, 0) := by unfold pSide; rw [if_pos h]
theorem ps_3 (h : kd tx n p = 6) (h2 : pV g ≤ vl tx n p) : pSide tx n g p = (3, p, 0, 0) := by unfold pSide; rw [if_neg (nn h), if_pos h2]
theorem ps_n2 (h : kd tx n p = 6) (h2 : vl tx n p < pV g) (h3 : kd tx n (nxt tx n p) ≠ 6) : pSide tx n g p = (bad (kd tx n (nxt tx n p)), nxt tx n p, 0, 0) := by unfold pSide; rw [if_neg (nn h), if_neg (by omega), if_pos h3]
theorem ps_4 (h : kd tx n p = 6) (h2 : vl tx n p < pV g) (h3 : kd tx n (nxt tx n p) = 6) (h4 : vl tx n (nxt tx n p) = 0 ∨ pO g (vl tx n p) % vl tx n (nxt tx n p) ≠ 0) : pSide tx n g p = (4, nxt tx n p, 0, 0) := by unfold pSide; rw [if_neg (nn h), if_neg (by omega), if_neg (nn h3), if_pos h4]
theorem ps_ok (h : kd tx n p = 6) (h2 : vl tx n p < pV g) (h3 : kd tx n (nxt tx n p) = 6) (h4 : vl tx n (nxt tx n p) ≠ 0) (h5 : pO g (vl tx n p) % vl tx n (nxt tx n p) = 0) : pSide tx n g p = (0, nxt tx n p, vl tx n p, vl tx n (nxt tx n p)) := by unfold pSide; rw [if_neg (nn h), if_neg (by omega), if_neg (nn h3), if_neg (show ¬ (vl tx n (nxt tx n p) = 0 ∨ pO g (vl tx n p) % vl tx n (nxt tx n p) ≠ 0) from fun q => q.elim h4 (fun w => w h5))]
end PCS
theorem ga_vertex {a a' a1 : Nat → Int32} {g : PGr} {x : Nat} (h : GA a g) (hv : vN a ≤ 5) (hx : x ≤ 60) (h1 : a1 = upd a (4 + vN a) (nI x)) (h2 : a' = upd a1 0 (nI (vN a + 1))) : GA a' (gV g x) := by
  have ho : ∀ k, k ≠ 0 → k ≠ 4 + vN a → a' k = a k := fun k h0 hk => by rw [h2, pk_un h0, h1, pk_un hk]
  have h0 : a' 0 = nI (vN a + 1) := by rw [h2]; exact pk_us
  have hn : a' (4 + vN a) = nI x := by rw [h2, pk_un (by omega), h1]; exact pk_us
  have e1 : vN a' = vN a + 1 := by unfold vN; rw [h0, nI_clamp (by show vN a + 1 < _; omega)]; rfl
  exact ga_v h e1 (by unfold eN; rw [ho 1 (by omega) (by omega)]) (by unfold wN; rw [ho 2 (by omega) (by omega)]) (fun v hv => by unfold od; rw [ho _ (by omega) (by omega)]) (by unfold od; rw [hn, nI_clamp (by omega)]) (fun e k he hk => by unfold ev; rw [ho _ (by omega) (by omega)])
section PCE
variable {tx : Nat → Int32} {n p : Nat} {g : PGr}
theorem pe_6 (h : pE g = 6) : pEdge tx n g p = (6, p, g) := by unfold pEdge; rw [if_pos h]
theorem pe_a (h : pE g ≠ 6) (h2 : (pSide tx n g (nxt tx n p)).1 ≠ 0) : pEdge tx n g p = ((pSide tx n g (nxt tx n p)).1, (pSide tx n g (nxt tx n p)).2.1, g) := by unfold pEdge; rw [if_neg h, if_pos h2]
theorem pe_b (h : pE g ≠ 6) (h2 : (pSide tx n g (nxt tx n p)).1 = 0) (h3 : (pSide tx n g (nxt tx n (pSide tx n g (nxt tx n p)).2.1)).1 ≠ 0) : pEdge tx n g p = ((pSide tx n g (nxt tx n (pSide tx n g (nxt tx n p)).2.1)).1, (pSide tx n g (nxt tx n (pSide tx n g (nxt tx n p)).2.1)).2.1, g) := by
  unfold pEdge
  rw [if_neg h, if_neg (nn h2)]
  dsimp only
  rw [if_pos h3]
theorem pe_q (h : pE g ≠ 6) (h2 : (pSide tx n g (nxt tx n p)).1 = 0) (h3 : (pSide tx n g (nxt tx n (pSide tx n g (nxt tx n p)).2.1)).1 = 0) (h4 : pO g (pSide tx n g (nxt tx n p)).2.2.1 / (pSide tx n g (nxt tx n p)).2.2.2 ≠ pO g (pSide tx n g (nxt tx n (pSide tx n g (nxt tx n p)).2.1)).2.2.1 / (pSide tx n g (nxt tx n (pSide tx n g (nxt tx n p)).2.1)).2.2.2) : pEdge tx n g p = (4, (pSide tx n g (nxt tx n (pSide tx n g (nxt tx n p)).2.1)).2.1, g) := by
  unfold pEdge
  rw [if_neg h, if_neg (nn h2)]
  dsimp only
  rw [if_neg (nn h3), if_pos h4]
theorem pe_ok (h : pE g ≠ 6) (h2 : (pSide tx n g (nxt tx n p)).1 = 0) (h3 : (pSide tx n g (nxt tx n (pSide tx n g (nxt tx n p)).2.1)).1 = 0) (h4 : pO g (pSide tx n g (nxt tx n p)).2.2.1 / (pSide tx n g (nxt tx n p)).2.2.2 = pO g (pSide tx n g (nxt tx n (pSide tx n g (nxt tx n p)).2.1)).2.2.1 / (pSide tx n g (nxt tx n (pSide tx n g (nxt tx n p)).2.1)).2.2.2) : pEdge tx n g p = (0, nxt tx n (pSide tx n g (nxt tx n (pSide tx n g (nxt tx n p)).2.1)).2.1, gE g (pSide tx n g (nxt tx n p)).2.2.1 (pSide tx n g (nxt tx n p)).2.2.2 (pSide tx n g (nxt tx n (pSide tx n g (nxt tx n p)).2.1)).2.2.1 (pSide tx n g (nxt tx n (pSide tx n g (nxt tx n p)).2.1)).2.2.2) := by
  unfold pEdge
  rw [if_neg h, if_neg (nn h2)]
  dsimp only
  rw [if_neg (nn h3), if_neg (nn h4)]
theorem pt_z {f here c : Nat} (h : kd tx n p ≠ 7 ∧ kd tx n p ≠ 8) : pSteps tx n g (f + 1) here c p = (0, p) := by rw [pSteps, if_pos h]
theorem pt_6 {f here : Nat} (h : kd tx n p = 7 ∨ kd tx n p = 8) : pSteps tx n g (f + 1) here 24 p = (6, p) := by rw [pSteps, if_neg (by omega), if_pos rfl]
theorem pt_n {f here c : Nat} (h : kd tx n p = 7 ∨ kd tx n p = 8) (hc : c ≠ 24) (h2 : kd tx n (nxt tx n p) ≠ 6) : pSteps tx n g (f + 1) here c p = (bad (kd tx n (nxt tx n p)), nxt tx n p) := by rw [pSteps, if_neg (by omega), if_neg hc, if_pos h2]
theorem pt_3 {f here c : Nat} (h : kd tx n p = 7 ∨ kd tx n p = 8) (hc : c ≠ 24) (h2 : kd tx n (nxt tx n p) = 6) (h3 : pE g ≤ vl tx n (nxt tx n p)) : pSteps tx n g (f + 1) here c p = (3, nxt tx n p) := by rw [pSteps, if_neg (by omega), if_neg hc, if_neg (nn h2), if_pos h3]
theorem pt_5 {f here c : Nat} (h : kd tx n p = 7 ∨ kd tx n p = 8) (hc : c ≠ 24) (h2 : kd tx n (nxt tx n p) = 6) (h3 : vl tx n (nxt tx n p) < pE g) (h4 : pSrc g (2 * vl tx n (nxt tx n p) + sgn tx n p) ≠ here) : pSteps tx n g (f + 1) here c p = (5, nxt tx n p) := by rw [pSteps, if_neg (by omega), if_neg hc, if_neg (nn h2), if_neg (by omega), if_pos h4]
theorem pt_ok {f here c : Nat} (h : kd tx n p = 7 ∨ kd tx n p = 8) (hc : c ≠ 24) (h2 : kd tx n (nxt tx n p) = 6) (h3 : vl tx n (nxt tx n p) < pE g) (h4 : pSrc g (2 * vl tx n (nxt tx n p) + sgn tx n p) = here) : pSteps tx n g (f + 1) here c p = pSteps tx n g f (pDst g (2 * vl tx n (nxt tx n p) + sgn tx n p)) (c + 1) (pNum tx n (nxt tx n (nxt tx n p))) := by rw [pSteps, if_neg (by omega), if_neg hc, if_neg (nn h2), if_neg (by omega), if_neg (nn h4)]
theorem pw_6 (h : pW g = 10) : pWord tx n g p = (6, p, g) := by unfold pWord; rw [if_pos h]
theorem pw_n (h : pW g ≠ 10) (h2 : kd tx n (nxt tx n p) ≠ 6) : pWord tx n g p = (bad (kd tx n (nxt tx n p)), nxt tx n p, g) := by unfold pWord; rw [if_neg h, if_pos h2]
theorem pw_3 (h : pW g ≠ 10) (h2 : kd tx n (nxt tx n p) = 6) (h3 : pV g ≤ vl tx n (nxt tx n p)) : pWord tx n g p = (3, nxt tx n p, g) := by unfold pWord; rw [if_neg h, if_neg (nn h2), if_pos h3]
theorem pw_s {z : Nat × Nat} (h : pW g ≠ 10) (h2 : kd tx n (nxt tx n p) = 6) (h3 : vl tx n (nxt tx n p) < pV g) (hz : pSteps tx n g 25 (vl tx n (nxt tx n p)) 0 (pNum tx n (nxt tx n (nxt tx n p))) = z) : pWord tx n g p = if z.1 ≠ 0 then (z.1, z.2, g) else (0, z.2, gW g) := by
  unfold pWord
  rw [if_neg h, if_neg (nn h2), if_neg (by omega), hz]
theorem pl_h (h : (pHead tx n g p).1 ≠ 0) : pLine tx n g p = pHead tx n g p := by unfold pLine; rw [if_pos h]
theorem pl_e (h : (pHead tx n g p).1 = 0) (h2 : kd tx n (pHead tx n g p).2.1 ≠ 9) : pLine tx n g p = (bad (kd tx n (pHead tx n g p).2.1), (pHead tx n g p).2.1, g) := by unfold pLine; rw [if_neg (nn h), if_pos h2]
theorem pl_ok (h : (pHead tx n g p).1 = 0) (h2 : kd tx n (pHead tx n g p).2.1 = 9) : pLine tx n g p = (0, nxt tx n (pHead tx n g p).2.1, (pHead tx n g p).2.2) := by unfold pLine; rw [if_neg (nn h), if_neg (nn h2)]
theorem ph_v (h : kd tx n p = 3) : pHead tx n g p = pVertex tx n g p := by unfold pHead; rw [if_pos h]
theorem ph_e (h : kd tx n p = 4) : pHead tx n g p = pEdge tx n g p := by unfold pHead; rw [if_neg (by omega), if_pos h]
theorem ph_w (h : kd tx n p = 5) : pHead tx n g p = pWord tx n g p := by unfold pHead; rw [if_neg (by omega), if_neg (by omega), if_pos h]
theorem ph_x (h : kd tx n p ≠ 3) (h2 : kd tx n p ≠ 4) (h3 : kd tx n p ≠ 5) : pHead tx n g p = (bad (kd tx n p), p, g) := by unfold pHead; rw [if_neg h, if_neg h2, if_neg h3]
/-- a line that is read goes on in the text -/
theorem pa_0 {f ln : Nat} : pAll tx n 0 g p ln = (0, p, ln, g) := rfl
theorem pa_e {f ln : Nat} (h : kd tx n p = 0) : pAll tx n f g p ln = (0, p, ln, g) := by
  cases f with
  | zero => rfl
  | succ f => rw [pAll, if_pos h]
theorem pa_f {f ln : Nat} (h : kd tx n p ≠ 0) (h2 : (pLine tx n g p).1 ≠ 0) : pAll tx n (f + 1) g p ln = ((pLine tx n g p).1, (pLine tx n g p).2.1, ln, g) := by rw [pAll, if_neg h, if_pos h2]
theorem pa_s {f ln : Nat} (h : kd tx n p ≠ 0) (h2 : (pLine tx n g p).1 = 0) : pAll tx n (f + 1) g p ln = pAll tx n f (pLine tx n g p).2.2 (pLine tx n g p).2.1 (ln + 1) := by rw [pAll, if_neg h, if_neg (nn h2)]
end PCE
theorem ga_side {a a' : Nat → Int32} {g : PGr} {at1 : Nat} (h : GA a g) (hat : 10 + 4 * eN a ≤ at1) (e1 : vN a' = vN a) (e2 : eN a' = eN a) (e4 : ∀ v, v < vN a → od a' v = od a v) (ho : ∀ k, k ≠ at1 → k ≠ at1 + 1 → a' k = a k) : GA a' g :=
  ga_same h e1 e2 (by unfold wN; rw [ho 2 (by omega) (by omega)]) e4 (fun e k he hk => by unfold ev; rw [ho _ (by omega) (by omega)])
theorem ga_edge {a a' : Nat → Int32} {g : PGr} {x0 x1 x2 x3 : Nat} (h : GA a g) (he : eN a ≤ 5) (h1 : a' = upd a 1 (nI (eN a + 1))) (c0 : a (10 + 4 * eN a) = nI x0) (c1 : a (10 + 4 * eN a + 1) = nI x1) (c2 : a (10 + 4 * eN a + 2) = nI x2) (c3 : a (10 + 4 * eN a + 3) = nI x3) (b0 : x0 ≤ 9999) (b1 : x1 ≤ 9999) (b2 : x2 ≤ 9999) (b3 : x3 ≤ 9999) : GA a' (gE g x0 x1 x2 x3) := by
  have ho : ∀ k, k ≠ 1 → a' k = a k := fun k hk => by rw [h1, pk_un hk]
  have h0 : a' 1 = nI (eN a + 1) := by rw [h1]; exact pk_us
  have e2 : eN a' = eN a + 1 := by unfold eN; rw [h0, nI_clamp (by show eN a + 1 < _; omega)]; rfl
  refine ga_e h (by unfold vN; rw [ho 0 (by omega)]) e2 (by unfold wN; rw [ho 2 (by omega)]) (fun v _ => by unfold od; rw [ho _ (by omega)]) (fun e k _ _ => by unfold ev; rw [ho _ (by omega)]) ?_ ?_ ?_ ?_
  · show (a' (10 + 4 * eN a + 0)).toNatClampNeg = x0
    rw [Nat.add_zero, ho _ (by omega), c0, nI_clamp (by omega)]
  · show (a' (10 + 4 * eN a + 1)).toNatClampNeg = x1
    rw [ho _ (by omega), c1, nI_clamp (by omega)]
  · show (a' (10 + 4 * eN a + 2)).toNatClampNeg = x2
    rw [ho _ (by omega), c2, nI_clamp (by omega)]
  · show (a' (10 + 4 * eN a + 3)).toNatClampNeg = x3
    rw [ho _ (by omega), c3, nI_clamp (by omega)]
theorem sgn_1 {tx : Nat → Int32} {n p : Nat} (h : kd tx n p = 8) : sgn tx n p = 1 := by unfold sgn; rw [if_pos h]
theorem sgn_0 {tx : Nat → Int32} {n p : Nat} (h : kd tx n p ≠ 8) : sgn tx n p = 0 := by unfold sgn; rw [if_neg h]
/-- a name by its place among the keys -/
def kW (k : Nat) : List Int32 := if k = 1 then wVx else if k = 8 then wEd else wWo
/-- a word that is kept -/
theorem ga_keep {a a' : Nat → Int32} {g : PGr} (h : GA a g) (e1 : vN a' = vN a) (e2 : eN a' = eN a) (e3 : wN a' = wN a + 1) (hm : GM a a') : GA a' (gW g) := ga_w h e1 e2 e3 hm.2.2.1 (fun e k he hk => hm.2.2.2 e k he hk)
theorem eqw_len {tx : Nat → Int32} {n p l : Nat} {w : List Int32} (hl : w.length = l) (h : tnd tx n p - p ≠ l) : eqw tx n w p = false := by
  cases e : eqw tx n w p with
  | false => rfl
  | true => exact absurd ((eqw_t.mp e).1.trans hl) h
theorem eqw_at {tx : Nat → Int32} {n p i : Nat} {w : List Int32} (hi : i < w.length) (h : bA tx n (p + i) ≠ w.getD i 0) : eqw tx n w p = false := by
  cases e : eqw tx n w p with
  | false => rfl
  | true => exact absurd ((eqw_t.mp e).2 i hi) h
theorem kd_word {tx : Nat → Int32} {n p : Nat} (h : tkr (kd tx n p) = 2) : kd tx n p = if eqw tx n wVx p = true then 3 else if eqw tx n wEd p = true then 4 else if eqw tx n wWo p = true then 5 else 2 := by
  have hf := kd_f tx n p
  have hp : p < n := by omega
  by_cases h1 : isLet (bA tx n p) = true
  · unfold kd
    rw [if_neg (by omega), if_pos h1]
  · by_cases h2 : isDig (bA tx n p) = true
    · have hk := kd_dig (isDig_t.mp h2)
      split at hk <;> omega
    · have hk := kd_sgn hp (isLet_f.mp (Bool.eq_false_iff.mpr h1)) (isDig_f.mp (Bool.eq_false_iff.mpr h2))
      exfalso
      revert hk
      repeat' split
      all_goals (intro hk; omega)
/-! what is told of a text is told by its bytes alone -/
section CNG
variable {t1 t2 : Nat → Int32} {n : Nat}
theorem scn_cg (h : bA t1 n = bA t2 n) (P : Int32 → Bool) : ∀ f p, scn P t1 n f p = scn P t2 n f p := by
  intro f
  induction f with
  | zero => intro p; rfl
  | succ f ih =>
    intro p
    show (if P (bA t1 n p) = true then scn P t1 n f (p + 1) else p) = if P (bA t2 n p) = true then scn P t2 n f (p + 1) else p
    rw [h, ih]
theorem sc_cg (h : bA t1 n = bA t2 n) (P : Int32 → Bool) (p : Nat) : sc P t1 n p = sc P t2 n p := scn_cg h P _ p
theorem tnd_cg (h : bA t1 n = bA t2 n) (p : Nat) : tnd t1 n p = tnd t2 n p := by unfold tnd; rw [h, sc_cg h, sc_cg h]
theorem nxt_cg (h : bA t1 n = bA t2 n) (p : Nat) : nxt t1 n p = nxt t2 n p := by unfold nxt skp; rw [tnd_cg h, sc_cg h]
theorem eqw_cg (h : bA t1 n = bA t2 n) (w : List Int32) (p : Nat) : eqw t1 n w p = eqw t2 n w p := by unfold eqw; rw [tnd_cg h, h]
theorem kd_cg (h : bA t1 n = bA t2 n) (p : Nat) : kd t1 n p = kd t2 n p := by unfold kd; rw [h, eqw_cg h, eqw_cg h, eqw_cg h, tnd_cg h]
theorem vln_cg (h : bA t1 n = bA t2 n) (p : Nat) : ∀ j, vln t1 n p j = vln t2 n p j := by
  intro j
  induction j with
  | zero => rfl
  | succ j ih =>
    show 10 * vln t1 n p j + ((bA t1 n (p + j)).toInt - 48).toNat = 10 * vln t2 n p j + ((bA t2 n (p + j)).toInt - 48).toNat
    rw [h, ih]
theorem vl_cg (h : bA t1 n = bA t2 n) (p : Nat) : vl t1 n p = vl t2 n p := by unfold vl; rw [tnd_cg h, vln_cg h]
theorem pVertex_cg (h : bA t1 n = bA t2 n) (g : PGr) (p : Nat) : pVertex t1 n g p = pVertex t2 n g p := by unfold pVertex; simp only [nxt_cg h, kd_cg h, vl_cg h]
theorem pSide_cg (h : bA t1 n = bA t2 n) (g : PGr) (p : Nat) : pSide t1 n g p = pSide t2 n g p := by unfold pSide; simp only [nxt_cg h, kd_cg h, vl_cg h]
theorem pEdge_cg (h : bA t1 n = bA t2 n) (g : PGr) (p : Nat) : pEdge t1 n g p = pEdge t2 n g p := by unfold pEdge; simp only [nxt_cg h, kd_cg h, vl_cg h, pSide_cg h]
theorem pNum_cg (h : bA t1 n = bA t2 n) (p : Nat) : pNum t1 n p = pNum t2 n p := by unfold pNum; simp only [nxt_cg h, kd_cg h]
theorem sgn_cg (h : bA t1 n = bA t2 n) (p : Nat) : sgn t1 n p = sgn t2 n p := by unfold sgn; rw [kd_cg h]
theorem pSteps_cg (h : bA t1 n = bA t2 n) (g : PGr) : ∀ f here c p, pSteps t1 n g f here c p = pSteps t2 n g f here c p := by
  intro f
  induction f with
  | zero => intro here c p; rfl
  | succ f ih =>
    intro here c p
    rw [pSteps, pSteps]
    simp only [nxt_cg h, kd_cg h, vl_cg h, pNum_cg h, sgn_cg h, ih]
theorem pWord_cg (h : bA t1 n = bA t2 n) (g : PGr) (p : Nat) : pWord t1 n g p = pWord t2 n g p := by unfold pWord; simp only [nxt_cg h, kd_cg h, vl_cg h, pNum_cg h, pSteps_cg h]
theorem pHead_cg (h : bA t1 n = bA t2 n) (g : PGr) (p : Nat) : pHead t1 n g p = pHead t2 n g p := by unfold pHead; simp only [kd_cg h, pVertex_cg h, pEdge_cg h, pWord_cg h]
theorem pLine_cg (h : bA t1 n = bA t2 n) (g : PGr) (p : Nat) : pLine t1 n g p = pLine t2 n g p := by unfold pLine; simp only [nxt_cg h, kd_cg h, pHead_cg h]
theorem pAll_cg (h : bA t1 n = bA t2 n) : ∀ f g p ln, pAll t1 n f g p ln = pAll t2 n f g p ln := by
  intro f
  induction f with
  | zero => intro g p ln; rfl
  | succ f ih =>
    intro g p ln
    rw [pAll, pAll]
    simp only [kd_cg h, pLine_cg h, ih]
theorem pLoad_cg (h : bA t1 n = bA t2 n) : pLoad t1 n = pLoad t2 n := by unfold pLoad skp; rw [pAll_cg h, sc_cg h]
end CNG
/-- bytes, as a tape holds them -/
def BY (tp : Nat → Int32) : Prop := ∀ k, vp_nar .byte (tp k) = tp k
/-! a line that is read ends behind where it began -/
section PGO
variable {tx : Nat → Int32} {n p : Nat} {g : PGr}
theorem pnum_ge (h : p ≤ n) : p ≤ pNum tx n p ∧ pNum tx n p ≤ n := by
  unfold pNum
  split
  · have := nxt_le (tx := tx) h
    have h2 := kd_f tx n p
    have := nxt_gt (tx := tx) (n := n) (p := p) (by omega)
    omega
  · omega
theorem psteps_ge : ∀ f here c p, p ≤ n → p ≤ (pSteps tx n g f here c p).2 ∧ (pSteps tx n g f here c p).2 ≤ n := by
  intro f
  induction f with
  | zero => intro here c p h; exact ⟨Nat.le_refl _, h⟩
  | succ f ih =>
    intro here c p h
    have hk := kd_f tx n p
    have h1 := nxt_le (tx := tx) h
    have h2 := nxt_le (tx := tx) h1
    have g1 : p ≤ nxt tx n p := by
      by_cases q : p < n
      · exact Nat.le_of_lt (nxt_gt q)
      · rw [show p = n by omega, nxt_n]; exact Nat.le_refl _
    have g2 : nxt tx n p ≤ nxt tx n (nxt tx n p) := by
      by_cases q : nxt tx n p < n
      · exact Nat.le_of_lt (nxt_gt q)
      · rw [show nxt tx n p = n by omega, nxt_n]; exact Nat.le_refl _
    rw [pSteps]
    repeat' split
    all_goals first
      | exact ⟨Nat.le_refl _, h⟩
      | exact ⟨g1, h1⟩
      | (have g3 := pnum_ge (tx := tx) h2
         have g4 := ih (pDst g (2 * vl tx n (nxt tx n p) + sgn tx n p)) (c + 1) (pNum tx n (nxt tx n (nxt tx n p))) g3.2
         omega)
end PGO
section PGO2
variable {tx : Nat → Int32} {n p : Nat} {g : PGr}
theorem nxt_ge (h : p ≤ n) : p ≤ nxt tx n p := by
  by_cases q : p < n
  · exact Nat.le_of_lt (nxt_gt q)
  · rw [show p = n by omega, nxt_n]
    exact Nat.le_refl _
theorem pside_ge (h : p ≤ n) : p ≤ (pSide tx n g p).2.1 ∧ (pSide tx n g p).2.1 ≤ n := by
  have h1 := nxt_ge (tx := tx) h
  have h2 := nxt_le (tx := tx) h
  unfold pSide
  repeat' split
  all_goals (dsimp only; omega)
theorem phead_ge (h : p ≤ n) : p ≤ (pHead tx n g p).2.1 ∧ (pHead tx n g p).2.1 ≤ n := by
  have h1 := nxt_ge (tx := tx) h
  have h2 := nxt_le (tx := tx) h
  have h3 := nxt_ge (tx := tx) h2
  have h4 := nxt_le (tx := tx) h2
  unfold pHead
  split
  · unfold pVertex
    repeat' split
    all_goals (dsimp only; omega)
  · split
    · have a1 := pside_ge (tx := tx) (g := g) h2
      have a2 := nxt_ge (tx := tx) a1.2
      have a3 := nxt_le (tx := tx) a1.2
      have b1 := pside_ge (tx := tx) (g := g) a3
      have b2 := nxt_ge (tx := tx) b1.2
      have b3 := nxt_le (tx := tx) b1.2
      unfold pEdge
      dsimp only
      repeat' split
      all_goals (dsimp only; omega)
    · split
      · have a1 := pnum_ge (tx := tx) h4
        have a2 := psteps_ge (tx := tx) (g := g) 25 (vl tx n (nxt tx n p)) 0 _ a1.2
        unfold pWord
        dsimp only
        repeat' split
        all_goals (dsimp only; omega)
      · dsimp only
        omega
theorem pline_gt (h : p ≤ n) (h1 : (pLine tx n g p).1 = 0) : p < (pLine tx n g p).2.1 ∧ (pLine tx n g p).2.1 ≤ n := by
  have hh := phead_ge (tx := tx) (g := g) h
  by_cases q : (pHead tx n g p).1 = 0
  · by_cases q2 : kd tx n (pHead tx n g p).2.1 = 9
    · rw [pl_ok q q2]
      have hf := kd_f tx n (pHead tx n g p).2.1
      have h3 := nxt_gt (tx := tx) (n := n) (p := (pHead tx n g p).2.1) (by omega)
      have h4 := nxt_le (tx := tx) hh.2
      dsimp only
      omega
    · rw [pl_e q q2] at h1
      exact absurd h1 bad_ne
  · rw [pl_h q] at h1
    exact absurd h1 q
end PGO2
theorem ga_zero {a : Nat → Int32} (h : ∀ k, k < 554 → a k = 0) : GA a g0 := by
  refine ⟨by unfold vN; rw [h 0 (by omega)]; rfl, by unfold eN; rw [h 1 (by omega)]; rfl, by unfold wN; rw [h 2 (by omega)]; rfl, fun v hv => absurd hv (Nat.not_lt_zero _), fun e k he => absurd he (Nat.not_lt_zero _)⟩
section PKS
variable {tx : Nat → Int32} {n p : Nat} {g : PGr}
theorem bad_le {k : Nat} : bad k ≤ 6 := by unfold bad; split <;> decide
theorem psteps_k : ∀ f here c p, (pSteps tx n g f here c p).1 ≤ 6 := by
  intro f
  induction f with
  | zero => intro here c p; exact Nat.zero_le _
  | succ f ih =>
    intro here c p
    rw [pSteps]
    repeat' split
    all_goals first | exact ih _ _ _ | exact bad_le | (dsimp only; omega)
theorem pside_k : (pSide tx n g p).1 ≤ 6 := by
  unfold pSide
  repeat' split
  all_goals first | exact bad_le | (dsimp only; omega)
theorem phead_k : (pHead tx n g p).1 ≤ 6 := by
  unfold pHead
  split
  · unfold pVertex
    repeat' split
    all_goals first | exact bad_le | (dsimp only; omega)
  · split
    · unfold pEdge
      dsimp only
      repeat' split
      all_goals first | exact pside_k | (dsimp only; omega)
    · split
      · unfold pWord
        dsimp only
        repeat' split
        all_goals first | exact bad_le | exact psteps_k _ _ _ _ | (dsimp only; omega)
      · exact bad_le
theorem pline_k : (pLine tx n g p).1 ≤ 6 := by
  unfold pLine
  repeat' split
  all_goals first | exact phead_k | exact bad_le | (dsimp only; omega)
end PKS

set_option maxHeartbeats 4000000 in
set_option maxRecDepth 100000 in
theorem x_X12_ahead (l : Launch) (dC : Nat → ClassId) (dI : Nat → Nat → Nat) (sz : Nat) (cs : Nat → ClassId) (b : Nat → Nat) (u : RS) (tx : Nat → Int32) (hAc16 : rA u 16 = tx) (sz1 : Nat) (e0 : Nat) (v0 : Nat) (hF11 : rF u 11 = nI sz1) (hF14 : rF u 14 = nI e0) (hF15 : rF u 15 = nI v0) (hp0 : sz1 ≤ 700) (hp1 : e0 ≤ sz1) (hp2 : v0 ≤ 9999) : Met l yX12_ahead [.code yX12_ahead cX12_ahead 2 none] ({ frames := 1, cells := 0, slots := 0, locals := 40 }) (PR [.ref (b 0)] sz dC dI cs b u) (va_Qv (fun (u' : RS) => (TE u' tx sz1 (skp tx sz1 e0)) ∧ FR [] [12, 13, 14, 15] false u u') (BR dC dI cs b) (AR b sz)) 0 0 (AR b sz) := by
  refine Met.ofW (cc := cX12_ahead) (maxL := 2) (ret := none) (by decide) rfl ?_
  intro p e s m args below meth c s₁ B hml hv
  obtain ⟨rfl, hsz, hP, hK, hJ, hE⟩ := hv
  have hx := B.exec
  have hb := B.bytes
  have hr := B.returns
  have hown : s.vm.findClass RX12 = some m.cls := findClass_of_methodNamed B.named
  have hlocks := B.notSynchronized
  subst hsz
  have hAL : ∀ i, i < 108 → AR b s.heap.size (b i) := fun i h => Or.inl ⟨i, h, rfl⟩
  have hA : ∀ q : Nat, s.heap.size ≤ q → AR b s.heap.size q := fun q h => Or.inr h
  have hS : va_S (AR b s.heap.size) s.heap s.heap [] := va_S.rf
  have hfr : FR [] [12, 13, 14, 15] false u u := FR.refl
  have hl := lv_entry ([.ref (b 0)]) (n := 2) (Nat.le_of_ble_eq_true rfl)
  rw [lg_entry_eq]
  generalize (lg_sl ([.ref (b 0)]) ++ List.replicate (2 - (lg_sl ([.ref (b 0)])).length) Slot.unset).toArray = ls at hl ⊢
  have hl : lv_has ls 2 [(0, .ref (b 0))] := hl
  refine r_ind (I := fun n u_ H locs ls => va_P (dC, dI) vwCl (rW cs b u_) H ∧ va_S (AR b s.heap.size) s.heap H locs ∧ FR [] [12, 13, 14, 15] false u u_ ∧ ∃ (e1_4 : Nat), n = sz1 - e1_4 ∧ (e0 ≤ e1_4) ∧ (e1_4 ≤ sz1) ∧ (skp tx sz1 e1_4 = skp tx sz1 e0) ∧ (rF u_ 14 = nI e1_4) ∧ (rF u_ 15 = nI v0) ∧ lv_has ls 2 [(0, .ref (b 0))]) (fun n u4 H locs ls hI ih4 => ?_) _ u _ _ _ ⟨hP, hS, hfr, e0, rfl, (by first | assumption | omega | rfl | (congr 1; omega)), (by first | assumption | omega | rfl | (congr 1; omega)), (by rfl), hF14, hF15, lv_sub hl [0] rfl⟩
  obtain ⟨hP, hS, hfr, e1_4, hmu4, hL4_0, hL4_1, hL4_2, hL4_3, hL4_4, hl⟩ := hI
  have hA5 := (hfr.1 16 List.not_mem_nil).trans hAc16
  have hF6x := (hfr.2.1 11 (by decide)).trans hF11
  subst hmu4
  refine lv_aload_n hx hb dX12_ahead_0 rfl (lv_at hl 0 rfl) ?_
  refine lv_aload_n hx hb dX12_ahead_1 rfl (lv_at hl 0 rfl) ?_
  refine r_get (v := .int (nI e1_4)) hx hb (ly_X12 hE) hown hK hP rfl 14 (by decide) (wd_1395 hE) (fun _ h9 => h9) (congrArg (fun z : Int32 => some (Value.int z)) hL4_3) dX12_ahead_2 ?_
  refine vp_callSi (va_Run.run (va_runV (As := [.int (nI e1_4)]) (rest := []) ⟨hx, hb, hml, hown, noTs⟩ (r_X12_byteAt l dC dI H.size cs b u4 tx hA5 e1_4 sz1 hF6x (by first | assumption | omega | rfl | (congr 1; omega)) (by first | assumption | omega | rfl | (congr 1; omega))) ⟨cbE 1 (wd_1510 hE) (wd_126 hE) (wd_1507 hE) rfl rfl (by decide +kernel) ⟨Nat.le_of_ble_eq_true rfl, Nat.le_of_ble_eq_true rfl⟩, (wd_1509 hE), (wd_57 hE)⟩ ⟨PR.blind, r_recv hK hP rfl, (r_pre (av := [.ref (b 0), .int (nI e1_4)]) hK hP hJ hE)⟩ rfl rfl hl.1 rfl (lv_room (Nat.le_of_ble_eq_true rfl)) dX12_ahead_5 ⟨Nat.le_of_ble_eq_true rfl, Nat.le_of_ble_eq_true rfl⟩)) (fun r7 hr7 => ?_)
  subst hr7
  have htf7 := bA_f tx sz1 e1_4
  refine lv_bipush (v := 32) hx hb dX12_ahead_8 (by decide) ?_
  refine lv_icmp_eq (tgt := 26) hx hb dX12_ahead_10 (by decide) (fun c8 => ?_) (fun c8 => ?_)
  · have c8 := (b_eq (rfl : Int32.toInt (bA tx sz1 e1_4) = _) (show Int32.toInt 32 = 32 from rfl)).mp c8
    refine lv_aload_n hx hb dX12_ahead_26 rfl (lv_at hl 0 rfl) ?_
    refine lv_dup hx hb dX12_ahead_27 rfl ?_
    refine r_get (v := .int (nI e1_4)) hx hb (ly_X12 hE) hown hK hP rfl 14 (by decide) (wd_1395 hE) (fun _ h9 => h9) (congrArg (fun z : Int32 => some (Value.int z)) hL4_3) dX12_ahead_28 ?_
    refine lv_iconst (v := 1) hx hb dX12_ahead_31 (by decide) ?_
    refine lv_iadd hx hb dX12_ahead_32 ?_
    refine W.eq (g2 := F0 m 33 ls [.int (nI (e1_4 + 1)), .ref (b 0)]) (congrArg (fun z : Int32 => F0 m 33 ls (.int z :: [.ref (b 0)])) (nI_add e1_4 1)) ?_
    refine r_put (v := nI (e1_4 + 1)) hx hb (ly_X12 hE) tyX12 tyX12_ok nmX12 hown hK hP hJ hAL hS rfl 14 (by decide) (wd_1395 hE) (fun _ h9 => h9) rfl (by decide +kernel) rfl (by decide) dX12_ahead_33 (fun u9 H locs hf9 hq9 hP hS => ?_)
    have hA10 := (hq9.1 16 List.not_mem_nil).trans hA5
    have hF11x := (hq9.2.1 11 (by decide)).trans hF6x
    have hF12x := (hq9.2.1 15 (by decide)).trans hL4_4
    have hfr := FR.step hfr hq9 (fun _ h => absurd h List.not_mem_nil) (by decide) (fun h => rfl)
    refine lv_goto (tgt := 0) hx hb dX12_ahead_36 (by decide) ?_
    exact ih4 _ u9 _ _ _ (by omega) ⟨hP, hS, hfr, (e1_4 + 1), rfl, (by first | assumption | omega | rfl | (congr 1; omega)), (by first | assumption | omega | rfl | (congr 1; omega)), (by exact (sk_go (by omega)).trans hL4_2), hf9, hF12x, lv_sub hl [0] rfl⟩
  · have c8 := mt (b_eq (rfl : Int32.toInt (bA tx sz1 e1_4) = _) (show Int32.toInt 32 = 32 from rfl)).mpr c8
    refine lv_aload_n hx hb dX12_ahead_13 rfl (lv_at hl 0 rfl) ?_
    refine lv_aload_n hx hb dX12_ahead_14 rfl (lv_at hl 0 rfl) ?_
    refine r_get (v := .int (nI e1_4)) hx hb (ly_X12 hE) hown hK hP rfl 14 (by decide) (wd_1395 hE) (fun _ h9 => h9) (congrArg (fun z : Int32 => some (Value.int z)) hL4_3) dX12_ahead_15 ?_
    refine vp_callSi (va_Run.run (va_runV (As := [.int (nI e1_4)]) (rest := []) ⟨hx, hb, hml, hown, noTs⟩ (r_X12_byteAt l dC dI H.size cs b u4 tx hA5 e1_4 sz1 hF6x (by first | assumption | omega | rfl | (congr 1; omega)) (by first | assumption | omega | rfl | (congr 1; omega))) ⟨cbE 1 (wd_1510 hE) (wd_126 hE) (wd_1507 hE) rfl rfl (by decide +kernel) ⟨Nat.le_of_ble_eq_true rfl, Nat.le_of_ble_eq_true rfl⟩, (wd_1509 hE), (wd_57 hE)⟩ ⟨PR.blind, r_recv hK hP rfl, (r_pre (av := [.ref (b 0), .int (nI e1_4)]) hK hP hJ hE)⟩ rfl rfl hl.1 rfl (lv_room (Nat.le_of_ble_eq_true rfl)) dX12_ahead_18 ⟨Nat.le_of_ble_eq_true rfl, Nat.le_of_ble_eq_true rfl⟩)) (fun r13 hr13 => ?_)
    subst hr13
    have htf13 := bA_f tx sz1 e1_4
    refine lv_bipush (v := 10) hx hb dX12_ahead_21 (by decide) ?_
    refine lv_icmp_ne (tgt := 39) hx hb dX12_ahead_23 (by decide) (fun c14 => ?_) (fun c14 => ?_)
    · have c14 := mt (b_eq (rfl : Int32.toInt (bA tx sz1 e1_4) = _) (show Int32.toInt 10 = 10 from rfl)).mpr c14
      have SK : skp tx sz1 e0 = e1_4 := hL4_2.symm.trans (sk_st (by omega))
      refine lv_aload_n hx hb dX12_ahead_39 rfl (lv_at hl 0 rfl) ?_
      refine lv_aload_n hx hb dX12_ahead_40 rfl (lv_at hl 0 rfl) ?_
      refine r_get (v := .int (nI e1_4)) hx hb (ly_X12 hE) hown hK hP rfl 14 (by decide) (wd_1395 hE) (fun _ h9 => h9) (congrArg (fun z : Int32 => some (Value.int z)) hL4_3) dX12_ahead_41 ?_
      refine r_put (v := nI e1_4) hx hb (ly_X12 hE) tyX12 tyX12_ok nmX12 hown hK hP hJ hAL hS rfl 13 (by decide) (wd_1394 hE) (fun _ h9 => h9) rfl (by decide +kernel) rfl (by decide) dX12_ahead_44 (fun u15 H locs hf15 hq15 hP hS => ?_)
      have hA16 := (hq15.1 16 List.not_mem_nil).trans hA5
      have hF17x := (hq15.2.1 11 (by decide)).trans hF6x
      have hF18x := (hq15.2.1 14 (by decide)).trans hL4_3
      have hF19x := (hq15.2.1 15 (by decide)).trans hL4_4
      have hfr := FR.step hfr hq15 (fun _ h => absurd h List.not_mem_nil) (by decide) (fun h => rfl)
      refine lv_aload_n hx hb dX12_ahead_47 rfl (lv_at hl 0 rfl) ?_
      refine lv_aload_n hx hb dX12_ahead_48 rfl (lv_at hl 0 rfl) ?_
      refine r_get (v := .int (nI e1_4)) hx hb (ly_X12 hE) hown hK hP rfl 14 (by decide) (wd_1395 hE) (fun _ h9 => h9) (congrArg (fun z : Int32 => some (Value.int z)) hF18x) dX12_ahead_49 ?_
      refine vp_callSi (va_Run.run (va_runV (As := [.int (nI e1_4)]) (rest := []) ⟨hx, hb, hml, hown, noTs⟩ (r_X12_byteAt l dC dI H.size cs b u15 tx hA16 e1_4 sz1 hF17x (by first | assumption | omega | rfl | (congr 1; omega)) (by first | assumption | omega | rfl | (congr 1; omega))) ⟨cbE 1 (wd_1510 hE) (wd_126 hE) (wd_1507 hE) rfl rfl (by decide +kernel) ⟨Nat.le_of_ble_eq_true rfl, Nat.le_of_ble_eq_true rfl⟩, (wd_1509 hE), (wd_57 hE)⟩ ⟨PR.blind, r_recv hK hP rfl, (r_pre (av := [.ref (b 0), .int (nI e1_4)]) hK hP hJ hE)⟩ rfl rfl hl.1 rfl (lv_room (Nat.le_of_ble_eq_true rfl)) dX12_ahead_52 ⟨Nat.le_of_ble_eq_true rfl, Nat.le_of_ble_eq_true rfl⟩)) (fun r20 hr20 => ?_)
      subst hr20
      have htf20 := bA_f tx sz1 e1_4
      refine lv_istore_n (lv' := [(1, .int (bA tx sz1 e1_4)), (0, .ref (b 0))]) hx hb dX12_ahead_55 rfl hl (by decide) rfl (fun ls hl => ?_)
      refine lv_iload_n hx hb dX12_ahead_56 rfl (lv_at hl 0 rfl) ?_
      refine lv_iconst (v := -1) hx hb dX12_ahead_57 (by decide) ?_
      refine lv_icmp_ne (tgt := 69) hx hb dX12_ahead_58 (by decide) (fun c21 => ?_) (fun c21 => ?_)
      · have c21 := mt (b_eq (rfl : Int32.toInt (bA tx sz1 e1_4) = _) (show Int32.toInt (-1) = -1 from rfl)).mpr c21
        refine lv_iload_n hx hb dX12_ahead_69 rfl (lv_at hl 0 rfl) ?_
        refine vp_callSi (va_Run.run (va_runS (As := [.int (bA tx sz1 e1_4)]) (rest := []) ⟨hx, hb, hml, hown, noTs⟩ (r_X12_isSmall l dC dI H.size cs b u15 (bA tx sz1 e1_4)) ⟨cbE 1 (wd_1513 hE) (wd_126 hE) (wd_1511 hE) rfl rfl (by decide +kernel) ⟨Nat.le_of_ble_eq_true rfl, Nat.le_of_ble_eq_true rfl⟩, (wd_1512 hE)⟩ ⟨PR.blind, (r_pre (av := [.int (bA tx sz1 e1_4)]) hK hP hJ hE)⟩ rfl rfl hl.1 rfl (lv_room (Nat.le_of_ble_eq_true rfl)) dX12_ahead_70 ⟨Nat.le_of_ble_eq_true rfl, Nat.le_of_ble_eq_true rfl⟩)) (fun r22 hr22 => ?_)
        rcases hr22 with ⟨rfl, hb22⟩ | ⟨rfl, hb22⟩
        · have LTR := hb22
          refine lv_if_eq (tgt := 111) hx hb dX12_ahead_73 (by decide) (fun c23 => absurd c23 (by decide)) (fun c23 => ?_)
          refine r_ind (I := fun n u_ H locs ls => va_P (dC, dI) vwCl (rW cs b u_) H ∧ va_S (AR b s.heap.size) s.heap H locs ∧ FR [] [12, 13, 14, 15] false u u_ ∧ ∃ (e2_24 : Nat), n = sz1 - e2_24 ∧ (e1_4 ≤ e2_24) ∧ (e2_24 ≤ sz1) ∧ (sc isLet tx sz1 e2_24 = tnd tx sz1 e1_4) ∧ (rF u_ 13 = nI e1_4) ∧ (rF u_ 14 = nI e2_24) ∧ (rF u_ 15 = nI v0) ∧ lv_has ls 2 [(0, .ref (b 0))]) (fun n u24 H locs ls hI ih24 => ?_) _ u15 _ _ _ ⟨hP, hS, hfr, e1_4, rfl, (by first | assumption | omega | rfl | (congr 1; omega)), (by first | assumption | omega | rfl | (congr 1; omega)), (by exact tnd_let LTR), hf15, hF18x, hF19x, lv_sub hl [1] rfl⟩
          obtain ⟨hP, hS, hfr, e2_24, hmu24, hL24_0, hL24_1, hL24_2, hL24_3, hL24_4, hL24_5, hl⟩ := hI
          have hA25 := (hfr.1 16 List.not_mem_nil).trans hAc16
          have hF26x := (hfr.2.1 11 (by decide)).trans hF11
          subst hmu24
          refine lv_aload_n hx hb dX12_ahead_76 rfl (lv_at hl 0 rfl) ?_
          refine lv_aload_n hx hb dX12_ahead_77 rfl (lv_at hl 0 rfl) ?_
          refine r_get (v := .int (nI e2_24)) hx hb (ly_X12 hE) hown hK hP rfl 14 (by decide) (wd_1395 hE) (fun _ h9 => h9) (congrArg (fun z : Int32 => some (Value.int z)) hL24_4) dX12_ahead_78 ?_
          refine vp_callSi (va_Run.run (va_runV (As := [.int (nI e2_24)]) (rest := []) ⟨hx, hb, hml, hown, noTs⟩ (r_X12_byteAt l dC dI H.size cs b u24 tx hA25 e2_24 sz1 hF26x (by first | assumption | omega | rfl | (congr 1; omega)) (by first | assumption | omega | rfl | (congr 1; omega))) ⟨cbE 1 (wd_1510 hE) (wd_126 hE) (wd_1507 hE) rfl rfl (by decide +kernel) ⟨Nat.le_of_ble_eq_true rfl, Nat.le_of_ble_eq_true rfl⟩, (wd_1509 hE), (wd_57 hE)⟩ ⟨PR.blind, r_recv hK hP rfl, (r_pre (av := [.ref (b 0), .int (nI e2_24)]) hK hP hJ hE)⟩ rfl rfl hl.1 rfl (lv_room (Nat.le_of_ble_eq_true rfl)) dX12_ahead_81 ⟨Nat.le_of_ble_eq_true rfl, Nat.le_of_ble_eq_true rfl⟩)) (fun r27 hr27 => ?_)
          subst hr27
          have htf27 := bA_f tx sz1 e2_24
          refine vp_callSi (va_Run.run (va_runS (As := [.int (bA tx sz1 e2_24)]) (rest := []) ⟨hx, hb, hml, hown, noTs⟩ (r_X12_isSmall l dC dI H.size cs b u24 (bA tx sz1 e2_24)) ⟨cbE 1 (wd_1513 hE) (wd_126 hE) (wd_1511 hE) rfl rfl (by decide +kernel) ⟨Nat.le_of_ble_eq_true rfl, Nat.le_of_ble_eq_true rfl⟩, (wd_1512 hE)⟩ ⟨PR.blind, (r_pre (av := [.int (bA tx sz1 e2_24)]) hK hP hJ hE)⟩ rfl rfl hl.1 rfl (lv_room (Nat.le_of_ble_eq_true rfl)) dX12_ahead_84 ⟨Nat.le_of_ble_eq_true rfl, Nat.le_of_ble_eq_true rfl⟩)) (fun r28 hr28 => ?_)
          rcases hr28 with ⟨rfl, hb28⟩ | ⟨rfl, hb28⟩
          · refine lv_if_eq (tgt := 103) hx hb dX12_ahead_87 (by decide) (fun c29 => absurd c29 (by decide)) (fun c29 => ?_)
            refine lv_aload_n hx hb dX12_ahead_90 rfl (lv_at hl 0 rfl) ?_
            refine lv_dup hx hb dX12_ahead_91 rfl ?_
            refine r_get (v := .int (nI e2_24)) hx hb (ly_X12 hE) hown hK hP rfl 14 (by decide) (wd_1395 hE) (fun _ h9 => h9) (congrArg (fun z : Int32 => some (Value.int z)) hL24_4) dX12_ahead_92 ?_
            refine lv_iconst (v := 1) hx hb dX12_ahead_95 (by decide) ?_
            refine lv_iadd hx hb dX12_ahead_96 ?_
            refine W.eq (g2 := F0 m 97 ls [.int (nI (e2_24 + 1)), .ref (b 0)]) (congrArg (fun z : Int32 => F0 m 97 ls (.int z :: [.ref (b 0)])) (nI_add e2_24 1)) ?_
            refine r_put (v := nI (e2_24 + 1)) hx hb (ly_X12 hE) tyX12 tyX12_ok nmX12 hown hK hP hJ hAL hS rfl 14 (by decide) (wd_1395 hE) (fun _ h9 => h9) rfl (by decide +kernel) rfl (by decide) dX12_ahead_97 (fun u30 H locs hf30 hq30 hP hS => ?_)
            have hA31 := (hq30.1 16 List.not_mem_nil).trans hA25
            have hF32x := (hq30.2.1 11 (by decide)).trans hF26x
            have hF33x := (hq30.2.1 13 (by decide)).trans hL24_3
            have hF34x := (hq30.2.1 15 (by decide)).trans hL24_5
            have hfr := FR.step hfr hq30 (fun _ h => absurd h List.not_mem_nil) (by decide) (fun h => rfl)
            refine lv_goto (tgt := 76) hx hb dX12_ahead_100 (by decide) ?_
            exact ih24 _ u30 _ _ _ (by omega) ⟨hP, hS, hfr, (e2_24 + 1), rfl, (by first | assumption | omega | rfl | (congr 1; omega)), (by first | assumption | omega | rfl | (congr 1; omega)), (by exact (sc_go let0 (isLet_t.mpr (by omega))).symm.trans hL24_2), hF33x, hf30, hF34x, lv_sub hl [0] rfl⟩
          · refine lv_if_eq (tgt := 103) hx hb dX12_ahead_87 (by decide) (fun c35 => ?_) (fun c35 => absurd c35 (by decide))
            have TN := (sc_st let0 (isLet_f.mpr (by omega))).symm.trans hL24_2
            refine lv_aload_n hx hb dX12_ahead_103 rfl (lv_at hl 0 rfl) ?_
            refine lv_iconst (v := 2) hx hb dX12_ahead_104 (by decide) ?_
            refine r_put (v := 2) hx hb (ly_X12 hE) tyX12 tyX12_ok nmX12 hown hK hP hJ hAL hS rfl 12 (by decide) (wd_1393 hE) (fun _ h9 => h9) rfl (by decide +kernel) rfl (by decide) dX12_ahead_105 (fun u36 H locs hf36 hq36 hP hS => ?_)
            have hA37 := (hq36.1 16 List.not_mem_nil).trans hA25
            have hF38x := (hq36.2.1 11 (by decide)).trans hF26x
            have hF39x := (hq36.2.1 13 (by decide)).trans hL24_3
            have hF40x := (hq36.2.1 14 (by decide)).trans hL24_4
            have hF41x := (hq36.2.1 15 (by decide)).trans hL24_5
            have hfr := FR.step hfr hq36 (fun _ h => absurd h List.not_mem_nil) (by decide) (fun h => rfl)
            refine lv_goto (tgt := 241) hx hb dX12_ahead_108 (by decide) ?_
            exact W.vret hx hb hr (fun t ht hW => ⟨⟨u36, rfl, ⟨(by rw [SK]; first | exact te_end (by omega) (by omega) hF39x hF40x hf36 hF41x (by omega) | exact te_let LTR TN hF39x hF40x hf36 hF41x (by omega) | exact te_dig DGR TN hF39x hF40x (by first | exact Or.inl ⟨hf36, by omega⟩ | exact Or.inr ⟨hf36, by omega⟩) hF41x (by omega) VL | exact te_sgn (by omega) (by omega) (by omega) hF39x hF40x (by first | exact Or.inl ⟨hf36, by omega⟩ | exact Or.inr ⟨hf36, by omega⟩) hF41x (by omega)), hfr⟩, (show va_P (dC, dI) vwCl (rW cs b u36) t.heap by rw [ht]; exact hP)⟩, hS.F ht⟩) hS.2.2 dX12_ahead_241
        · refine lv_if_eq (tgt := 111) hx hb dX12_ahead_73 (by decide) (fun c42 => ?_) (fun c42 => absurd c42 (by decide))
          refine lv_iload_n hx hb dX12_ahead_111 rfl (lv_at hl 0 rfl) ?_
          refine vp_callSi (va_Run.run (va_runS (As := [.int (bA tx sz1 e1_4)]) (rest := []) ⟨hx, hb, hml, hown, noTs⟩ (r_X12_isDigit l dC dI H.size cs b u15 (bA tx sz1 e1_4)) ⟨cbE 1 (wd_1516 hE) (wd_126 hE) (wd_1514 hE) rfl rfl (by decide +kernel) ⟨Nat.le_of_ble_eq_true rfl, Nat.le_of_ble_eq_true rfl⟩, (wd_1515 hE)⟩ ⟨PR.blind, (r_pre (av := [.int (bA tx sz1 e1_4)]) hK hP hJ hE)⟩ rfl rfl hl.1 rfl (lv_room (Nat.le_of_ble_eq_true rfl)) dX12_ahead_112 ⟨Nat.le_of_ble_eq_true rfl, Nat.le_of_ble_eq_true rfl⟩)) (fun r43 hr43 => ?_)
          rcases hr43 with ⟨rfl, hb43⟩ | ⟨rfl, hb43⟩
          · have DGR := hb43
            refine lv_if_eq (tgt := 204) hx hb dX12_ahead_115 (by decide) (fun c44 => absurd c44 (by decide)) (fun c44 => ?_)
            refine lv_aload_n hx hb dX12_ahead_118 rfl (lv_at hl 1 rfl) ?_
            refine lv_iconst (v := 0) hx hb dX12_ahead_119 (by decide) ?_
            refine r_put (v := 0) hx hb (ly_X12 hE) tyX12 tyX12_ok nmX12 hown hK hP hJ hAL hS rfl 15 (by decide) (wd_1396 hE) (fun _ h9 => h9) rfl (by decide +kernel) rfl (by decide) dX12_ahead_120 (fun u45 H locs hf45 hq45 hP hS => ?_)
            have hA46 := (hq45.1 16 List.not_mem_nil).trans hA16
            have hF47x := (hq45.2.1 11 (by decide)).trans hF17x
            have hF48x := (hq45.2.1 14 (by decide)).trans hF18x
            have hF49x := (hq45.2.1 13 (by decide)).trans hf15
            have hfr := FR.step hfr hq45 (fun _ h => absurd h List.not_mem_nil) (by decide) (fun h => rfl)
            refine r_ind (I := fun n u_ H locs ls => va_P (dC, dI) vwCl (rW cs b u_) H ∧ va_S (AR b s.heap.size) s.heap H locs ∧ FR [] [12, 13, 14, 15] false u u_ ∧ ∃ (e2_50 : Nat) (v1_50 : Nat), n = sz1 - e2_50 ∧ (e1_4 ≤ e2_50) ∧ (e2_50 ≤ sz1) ∧ (v1_50 ≤ 9999) ∧ (sc isDig tx sz1 e2_50 = tnd tx sz1 e1_4) ∧ (e2_50 ≤ e1_4 → v1_50 = 0) ∧ (e2_50 ≤ e1_4 + 1 → v1_50 ≤ 9) ∧ (e2_50 ≤ e1_4 + 2 → v1_50 ≤ 99) ∧ (e2_50 - e1_4 ≤ 3 → v1_50 = vln tx sz1 e1_4 (e2_50 - e1_4)) ∧ (rF u_ 13 = nI e1_4) ∧ (rF u_ 14 = nI e2_50) ∧ (rF u_ 15 = nI v1_50) ∧ lv_has ls 2 [(0, .ref (b 0))]) (fun n u50 H locs ls hI ih50 => ?_) _ u45 _ _ _ ⟨hP, hS, hfr, e1_4, 0, rfl, (by first | assumption | omega | rfl | (congr 1; omega)), (by first | assumption | omega | rfl | (congr 1; omega)), (by first | assumption | omega | rfl | (congr 1; omega)), (by exact tnd_dig DGR), (by first | assumption | omega | rfl | (congr 1; omega)), (by first | assumption | omega | rfl | (congr 1; omega)), (by first | assumption | omega | rfl | (congr 1; omega)), (by intro _; rw [Nat.sub_self]; rfl), hF49x, hF48x, hf45, lv_sub hl [1] rfl⟩
            obtain ⟨hP, hS, hfr, e2_50, v1_50, hmu50, hL50_0, hL50_1, hL50_2, hL50_3, hL50_4, hL50_5, hL50_6, hL50_7, hL50_8, hL50_9, hL50_10, hl⟩ := hI
            have hA51 := (hfr.1 16 List.not_mem_nil).trans hAc16
            have hF52x := (hfr.2.1 11 (by decide)).trans hF11
            subst hmu50
            refine lv_aload_n hx hb dX12_ahead_123 rfl (lv_at hl 0 rfl) ?_
            refine lv_aload_n hx hb dX12_ahead_124 rfl (lv_at hl 0 rfl) ?_
            refine r_get (v := .int (nI e2_50)) hx hb (ly_X12 hE) hown hK hP rfl 14 (by decide) (wd_1395 hE) (fun _ h9 => h9) (congrArg (fun z : Int32 => some (Value.int z)) hL50_9) dX12_ahead_125 ?_
            refine vp_callSi (va_Run.run (va_runV (As := [.int (nI e2_50)]) (rest := []) ⟨hx, hb, hml, hown, noTs⟩ (r_X12_byteAt l dC dI H.size cs b u50 tx hA51 e2_50 sz1 hF52x (by first | assumption | omega | rfl | (congr 1; omega)) (by first | assumption | omega | rfl | (congr 1; omega))) ⟨cbE 1 (wd_1510 hE) (wd_126 hE) (wd_1507 hE) rfl rfl (by decide +kernel) ⟨Nat.le_of_ble_eq_true rfl, Nat.le_of_ble_eq_true rfl⟩, (wd_1509 hE), (wd_57 hE)⟩ ⟨PR.blind, r_recv hK hP rfl, (r_pre (av := [.ref (b 0), .int (nI e2_50)]) hK hP hJ hE)⟩ rfl rfl hl.1 rfl (lv_room (Nat.le_of_ble_eq_true rfl)) dX12_ahead_128 ⟨Nat.le_of_ble_eq_true rfl, Nat.le_of_ble_eq_true rfl⟩)) (fun r53 hr53 => ?_)
            subst hr53
            have htf53 := bA_f tx sz1 e2_50
            refine vp_callSi (va_Run.run (va_runS (As := [.int (bA tx sz1 e2_50)]) (rest := []) ⟨hx, hb, hml, hown, noTs⟩ (r_X12_isDigit l dC dI H.size cs b u50 (bA tx sz1 e2_50)) ⟨cbE 1 (wd_1516 hE) (wd_126 hE) (wd_1514 hE) rfl rfl (by decide +kernel) ⟨Nat.le_of_ble_eq_true rfl, Nat.le_of_ble_eq_true rfl⟩, (wd_1515 hE)⟩ ⟨PR.blind, (r_pre (av := [.int (bA tx sz1 e2_50)]) hK hP hJ hE)⟩ rfl rfl hl.1 rfl (lv_room (Nat.le_of_ble_eq_true rfl)) dX12_ahead_131 ⟨Nat.le_of_ble_eq_true rfl, Nat.le_of_ble_eq_true rfl⟩)) (fun r54 hr54 => ?_)
            rcases hr54 with ⟨rfl, hb54⟩ | ⟨rfl, hb54⟩
            · refine lv_if_eq (tgt := 179) hx hb dX12_ahead_134 (by decide) (fun c55 => absurd c55 (by decide)) (fun c55 => ?_)
              refine lv_aload_n hx hb dX12_ahead_137 rfl (lv_at hl 0 rfl) ?_
              refine lv_sipush (v := 9999) hx hb dX12_ahead_138 (by decide) ?_
              refine lv_bipush (v := 10) hx hb dX12_ahead_141 (by decide) ?_
              refine lv_aload_n hx hb dX12_ahead_143 rfl (lv_at hl 0 rfl) ?_
              refine r_get (v := .int (nI v1_50)) hx hb (ly_X12 hE) hown hK hP rfl 15 (by decide) (wd_1396 hE) (fun _ h9 => h9) (congrArg (fun z : Int32 => some (Value.int z)) hL50_10) dX12_ahead_144 ?_
              refine lv_imul hx hb dX12_ahead_147 ?_
              refine W.eq (g2 := F0 m 148 ls [.int (nI (10 * v1_50)), .int 9999, .ref (b 0)]) (congrArg (fun z : Int32 => F0 m 148 ls (.int z :: [.int 9999, .ref (b 0)])) (pk_mul 10 v1_50)) ?_
              refine lv_aload_n hx hb dX12_ahead_148 rfl (lv_at hl 0 rfl) ?_
              refine lv_aload_n hx hb dX12_ahead_149 rfl (lv_at hl 0 rfl) ?_
              refine r_get (v := .int (nI e2_50)) hx hb (ly_X12 hE) hown hK hP rfl 14 (by decide) (wd_1395 hE) (fun _ h9 => h9) (congrArg (fun z : Int32 => some (Value.int z)) hL50_9) dX12_ahead_150 ?_
              refine vp_callSi (va_Run.run (va_runV (As := [.int (nI e2_50)]) (rest := [.int (nI (10 * v1_50)), .int 9999, .ref (b 0)]) ⟨hx, hb, hml, hown, noTs⟩ (r_X12_byteAt l dC dI H.size cs b u50 tx hA51 e2_50 sz1 hF52x (by first | assumption | omega | rfl | (congr 1; omega)) (by first | assumption | omega | rfl | (congr 1; omega))) ⟨cbE 1 (wd_1510 hE) (wd_126 hE) (wd_1507 hE) rfl rfl (by decide +kernel) ⟨Nat.le_of_ble_eq_true rfl, Nat.le_of_ble_eq_true rfl⟩, (wd_1509 hE), (wd_57 hE)⟩ ⟨PR.blind, r_recv hK hP rfl, (r_pre (av := [.ref (b 0), .int (nI e2_50)]) hK hP hJ hE)⟩ rfl rfl hl.1 rfl (lv_room (Nat.le_of_ble_eq_true rfl)) dX12_ahead_153 ⟨Nat.le_of_ble_eq_true rfl, Nat.le_of_ble_eq_true rfl⟩)) (fun r56 hr56 => ?_)
              subst hr56
              have htf56 := bA_f tx sz1 e2_50
              refine lv_iadd hx hb dX12_ahead_156 ?_
              refine lv_topi (fun x57 ex57 => ?_)
              have hz58 : x57.toInt = ((10 * v1_50 : Nat) : Int) + (bA tx sz1 e2_50).toInt := by rw [ex57]; exact z_add (nI_toInt (n := 10 * v1_50) (by omega)) (rfl : Int32.toInt (bA tx sz1 e2_50) = _) (by omega) (by omega)
              refine lv_bipush (v := 48) hx hb dX12_ahead_157 (by decide) ?_
              refine lv_isub hx hb dX12_ahead_159 ?_
              refine lv_topi (fun x59 ex59 => ?_)
              have hz60 : x59.toInt = ((10 * v1_50 : Nat) : Int) + (bA tx sz1 e2_50).toInt - (48 : Int) := by rw [ex59]; exact z_sub hz58 (show Int32.toInt 48 = 48 from rfl) (by omega) (by omega)
              refine va_mmin hx hb (by rw [hml]; exact hl.1.symm) hown (wd_1517 hE) (wd_453 hE) (wd_128 hE) (wd_454 hE) (Nat.le_of_ble_eq_true rfl) (Nat.le_of_ble_eq_true rfl) (Nat.le_of_ble_eq_true rfl) (Nat.le_of_ble_eq_true rfl) dX12_ahead_160 ?_
              refine lv_topi (fun x62 ex62 => ?_)
              have hmn63 := mn_f (x := 9999) (y := x59) ex62 (show Int32.toInt 9999 = 9999 from rfl) hz60
              obtain ⟨nx64, hi64, hj64⟩ := z_ex (x := x62) (n := 10000) (by omega) (by omega)
              subst hi64
              have hti65 := nI_toInt (n := nx64) (by omega)
              refine r_put (v := nI nx64) hx hb (ly_X12 hE) tyX12 tyX12_ok nmX12 hown hK hP hJ hAL hS rfl 15 (by decide) (wd_1396 hE) (fun _ h9 => h9) rfl (by decide +kernel) rfl (by decide) dX12_ahead_163 (fun u66 H locs hf66 hq66 hP hS => ?_)
              have hA67 := (hq66.1 16 List.not_mem_nil).trans hA51
              have hF68x := (hq66.2.1 11 (by decide)).trans hF52x
              have hF69x := (hq66.2.1 13 (by decide)).trans hL50_8
              have hF70x := (hq66.2.1 14 (by decide)).trans hL50_9
              have hfr := FR.step hfr hq66 (fun _ h => absurd h List.not_mem_nil) (by decide) (fun h => rfl)
              refine lv_aload_n hx hb dX12_ahead_166 rfl (lv_at hl 0 rfl) ?_
              refine lv_dup hx hb dX12_ahead_167 rfl ?_
              refine r_get (v := .int (nI e2_50)) hx hb (ly_X12 hE) hown hK hP rfl 14 (by decide) (wd_1395 hE) (fun _ h9 => h9) (congrArg (fun z : Int32 => some (Value.int z)) hF70x) dX12_ahead_168 ?_
              refine lv_iconst (v := 1) hx hb dX12_ahead_171 (by decide) ?_
              refine lv_iadd hx hb dX12_ahead_172 ?_
              refine W.eq (g2 := F0 m 173 ls [.int (nI (e2_50 + 1)), .ref (b 0)]) (congrArg (fun z : Int32 => F0 m 173 ls (.int z :: [.ref (b 0)])) (nI_add e2_50 1)) ?_
              refine r_put (v := nI (e2_50 + 1)) hx hb (ly_X12 hE) tyX12 tyX12_ok nmX12 hown hK hP hJ hAL hS rfl 14 (by decide) (wd_1395 hE) (fun _ h9 => h9) rfl (by decide +kernel) rfl (by decide) dX12_ahead_173 (fun u71 H locs hf71 hq71 hP hS => ?_)
              have hA72 := (hq71.1 16 List.not_mem_nil).trans hA67
              have hF73x := (hq71.2.1 11 (by decide)).trans hF68x
              have hF74x := (hq71.2.1 13 (by decide)).trans hF69x
              have hF75x := (hq71.2.1 15 (by decide)).trans hf66
              have hfr := FR.step hfr hq71 (fun _ h => absurd h List.not_mem_nil) (by decide) (fun h => rfl)
              refine lv_goto (tgt := 123) hx hb dX12_ahead_176 (by decide) ?_
              exact ih50 _ u71 _ _ _ (by omega) ⟨hP, hS, hfr, (e2_50 + 1), nx64, rfl, (by first | assumption | omega | rfl | (congr 1; omega)), (by first | assumption | omega | rfl | (congr 1; omega)), (by first | assumption | omega | rfl | (congr 1; omega)), (by exact (sc_go dig0 (isDig_t.mpr (by omega))).symm.trans hL50_3), (by first | assumption | omega | rfl | (congr 1; omega)), (by first | assumption | omega | rfl | (congr 1; omega)), (by first | assumption | omega | rfl | (congr 1; omega)), (by intro hh; rw [vln_s (by omega)]; have := hL50_7 (by omega); omega), hF74x, hf71, hF75x, lv_sub hl [0] rfl⟩
            · refine lv_if_eq (tgt := 179) hx hb dX12_ahead_134 (by decide) (fun c76 => ?_) (fun c76 => absurd c76 (by decide))
              have TN := (sc_st dig0 (isDig_f.mpr (by omega))).symm.trans hL50_3
              have VL := hL50_7
              refine lv_aload_n hx hb dX12_ahead_179 rfl (lv_at hl 0 rfl) ?_
              refine lv_aload_n hx hb dX12_ahead_180 rfl (lv_at hl 0 rfl) ?_
              refine r_get (v := .int (nI e2_50)) hx hb (ly_X12 hE) hown hK hP rfl 14 (by decide) (wd_1395 hE) (fun _ h9 => h9) (congrArg (fun z : Int32 => some (Value.int z)) hL50_9) dX12_ahead_181 ?_
              refine lv_aload_n hx hb dX12_ahead_184 rfl (lv_at hl 0 rfl) ?_
              refine r_get (v := .int (nI e1_4)) hx hb (ly_X12 hE) hown hK hP rfl 13 (by decide) (wd_1394 hE) (fun _ h9 => h9) (congrArg (fun z : Int32 => some (Value.int z)) hL50_8) dX12_ahead_185 ?_
              refine lv_isub hx hb dX12_ahead_188 ?_
              refine W.eq (g2 := F0 m 189 ls [.int (nI (e2_50 - e1_4)), .ref (b 0)]) (congrArg (fun z : Int32 => F0 m 189 ls (.int z :: [.ref (b 0)])) (pk_sub (a := e2_50) (b := e1_4) (by omega))) ?_
              refine lv_iconst (v := 3) hx hb dX12_ahead_189 (by decide) ?_
              refine lv_icmp_le (tgt := 197) hx hb dX12_ahead_190 (by decide) (fun c77 => ?_) (fun c77 => ?_)
              · have c77 := (b_le (nI_toInt (n := e2_50 - e1_4) (by omega)) (show Int32.toInt 3 = 3 from rfl)).mp c77
                refine lv_iconst (v := 3) hx hb dX12_ahead_197 (by decide) ?_
                refine r_put (v := 3) hx hb (ly_X12 hE) tyX12 tyX12_ok nmX12 hown hK hP hJ hAL hS rfl 12 (by decide) (wd_1393 hE) (fun _ h9 => h9) rfl (by decide +kernel) rfl (by decide) dX12_ahead_198 (fun u78 H locs hf78 hq78 hP hS => ?_)
                have hA79 := (hq78.1 16 List.not_mem_nil).trans hA51
                have hF80x := (hq78.2.1 11 (by decide)).trans hF52x
                have hF81x := (hq78.2.1 13 (by decide)).trans hL50_8
                have hF82x := (hq78.2.1 14 (by decide)).trans hL50_9
                have hF83x := (hq78.2.1 15 (by decide)).trans hL50_10
                have hfr := FR.step hfr hq78 (fun _ h => absurd h List.not_mem_nil) (by decide) (fun h => rfl)
                refine lv_goto (tgt := 241) hx hb dX12_ahead_201 (by decide) ?_
                exact W.vret hx hb hr (fun t ht hW => ⟨⟨u78, rfl, ⟨(by rw [SK]; first | exact te_end (by omega) (by omega) hF81x hF82x hf78 hF83x (by omega) | exact te_let LTR TN hF81x hF82x hf78 hF83x (by omega) | exact te_dig DGR TN hF81x hF82x (by first | exact Or.inl ⟨hf78, by omega⟩ | exact Or.inr ⟨hf78, by omega⟩) hF83x (by omega) VL | exact te_sgn (by omega) (by omega) (by omega) hF81x hF82x (by first | exact Or.inl ⟨hf78, by omega⟩ | exact Or.inr ⟨hf78, by omega⟩) hF83x (by omega)), hfr⟩, (show va_P (dC, dI) vwCl (rW cs b u78) t.heap by rw [ht]; exact hP)⟩, hS.F ht⟩) hS.2.2 dX12_ahead_241
              · have c77 := mt (b_le (nI_toInt (n := e2_50 - e1_4) (by omega)) (show Int32.toInt 3 = 3 from rfl)).mpr c77
                refine lv_iconst (v := 1) hx hb dX12_ahead_193 (by decide) ?_
                refine lv_goto (tgt := 198) hx hb dX12_ahead_194 (by decide) ?_
                refine r_put (v := 1) hx hb (ly_X12 hE) tyX12 tyX12_ok nmX12 hown hK hP hJ hAL hS rfl 12 (by decide) (wd_1393 hE) (fun _ h9 => h9) rfl (by decide +kernel) rfl (by decide) dX12_ahead_198 (fun u84 H locs hf84 hq84 hP hS => ?_)
                have hA85 := (hq84.1 16 List.not_mem_nil).trans hA51
                have hF86x := (hq84.2.1 11 (by decide)).trans hF52x
                have hF87x := (hq84.2.1 13 (by decide)).trans hL50_8
                have hF88x := (hq84.2.1 14 (by decide)).trans hL50_9
                have hF89x := (hq84.2.1 15 (by decide)).trans hL50_10
                have hfr := FR.step hfr hq84 (fun _ h => absurd h List.not_mem_nil) (by decide) (fun h => rfl)
                refine lv_goto (tgt := 241) hx hb dX12_ahead_201 (by decide) ?_
                exact W.vret hx hb hr (fun t ht hW => ⟨⟨u84, rfl, ⟨(by rw [SK]; first | exact te_end (by omega) (by omega) hF87x hF88x hf84 hF89x (by omega) | exact te_let LTR TN hF87x hF88x hf84 hF89x (by omega) | exact te_dig DGR TN hF87x hF88x (by first | exact Or.inl ⟨hf84, by omega⟩ | exact Or.inr ⟨hf84, by omega⟩) hF89x (by omega) VL | exact te_sgn (by omega) (by omega) (by omega) hF87x hF88x (by first | exact Or.inl ⟨hf84, by omega⟩ | exact Or.inr ⟨hf84, by omega⟩) hF89x (by omega)), hfr⟩, (show va_P (dC, dI) vwCl (rW cs b u84) t.heap by rw [ht]; exact hP)⟩, hS.F ht⟩) hS.2.2 dX12_ahead_241
          · refine lv_if_eq (tgt := 204) hx hb dX12_ahead_115 (by decide) (fun c90 => ?_) (fun c90 => absurd c90 (by decide))
            refine lv_aload_n hx hb dX12_ahead_204 rfl (lv_at hl 1 rfl) ?_
            refine lv_dup hx hb dX12_ahead_205 rfl ?_
            refine r_get (v := .int (nI e1_4)) hx hb (ly_X12 hE) hown hK hP rfl 14 (by decide) (wd_1395 hE) (fun _ h9 => h9) (congrArg (fun z : Int32 => some (Value.int z)) hF18x) dX12_ahead_206 ?_
            refine lv_iconst (v := 1) hx hb dX12_ahead_209 (by decide) ?_
            refine lv_iadd hx hb dX12_ahead_210 ?_
            refine W.eq (g2 := F0 m 211 ls [.int (nI (e1_4 + 1)), .ref (b 0)]) (congrArg (fun z : Int32 => F0 m 211 ls (.int z :: [.ref (b 0)])) (nI_add e1_4 1)) ?_
            refine r_put (v := nI (e1_4 + 1)) hx hb (ly_X12 hE) tyX12 tyX12_ok nmX12 hown hK hP hJ hAL hS rfl 14 (by decide) (wd_1395 hE) (fun _ h9 => h9) rfl (by decide +kernel) rfl (by decide) dX12_ahead_211 (fun u91 H locs hf91 hq91 hP hS => ?_)
            have hA92 := (hq91.1 16 List.not_mem_nil).trans hA16
            have hF93x := (hq91.2.1 11 (by decide)).trans hF17x
            have hF94x := (hq91.2.1 15 (by decide)).trans hF19x
            have hF95x := (hq91.2.1 13 (by decide)).trans hf15
            have hfr := FR.step hfr hq91 (fun _ h => absurd h List.not_mem_nil) (by decide) (fun h => rfl)
            refine lv_aload_n hx hb dX12_ahead_214 rfl (lv_at hl 1 rfl) ?_
            refine lv_iload_n hx hb dX12_ahead_215 rfl (lv_at hl 0 rfl) ?_
            refine lv_bipush (v := 59) hx hb dX12_ahead_216 (by decide) ?_
            refine lv_icmp_eq (tgt := 233) hx hb dX12_ahead_218 (by decide) (fun c96 => ?_) (fun c96 => ?_)
            · have c96 := (b_eq (rfl : Int32.toInt (bA tx sz1 e1_4) = _) (show Int32.toInt 59 = 59 from rfl)).mp c96
              refine lv_iconst (v := 4) hx hb dX12_ahead_233 (by decide) ?_
              refine lv_goto (tgt := 238) hx hb dX12_ahead_234 (by decide) ?_
              refine r_put (v := 4) hx hb (ly_X12 hE) tyX12 tyX12_ok nmX12 hown hK hP hJ hAL hS rfl 12 (by decide) (wd_1393 hE) (fun _ h9 => h9) rfl (by decide +kernel) rfl (by decide) dX12_ahead_238 (fun u97 H locs hf97 hq97 hP hS => ?_)
              have hA98 := (hq97.1 16 List.not_mem_nil).trans hA92
              have hF99x := (hq97.2.1 11 (by decide)).trans hF93x
              have hF100x := (hq97.2.1 15 (by decide)).trans hF94x
              have hF101x := (hq97.2.1 13 (by decide)).trans hF95x
              have hF102x := (hq97.2.1 14 (by decide)).trans hf91
              have hfr := FR.step hfr hq97 (fun _ h => absurd h List.not_mem_nil) (by decide) (fun h => rfl)
              exact W.vret hx hb hr (fun t ht hW => ⟨⟨u97, rfl, ⟨(by rw [SK]; first | exact te_end (by omega) (by omega) hF101x hF102x hf97 hF100x (by omega) | exact te_let LTR TN hF101x hF102x hf97 hF100x (by omega) | exact te_dig DGR TN hF101x hF102x (by first | exact Or.inl ⟨hf97, by omega⟩ | exact Or.inr ⟨hf97, by omega⟩) hF100x (by omega) VL | exact te_sgn (by omega) (by omega) (by omega) hF101x hF102x (by first | exact Or.inl ⟨hf97, by omega⟩ | exact Or.inr ⟨hf97, by omega⟩) hF100x (by omega)), hfr⟩, (show va_P (dC, dI) vwCl (rW cs b u97) t.heap by rw [ht]; exact hP)⟩, hS.F ht⟩) hS.2.2 dX12_ahead_241
            · have c96 := mt (b_eq (rfl : Int32.toInt (bA tx sz1 e1_4) = _) (show Int32.toInt 59 = 59 from rfl)).mpr c96
              refine lv_iload_n hx hb dX12_ahead_221 rfl (lv_at hl 0 rfl) ?_
              refine lv_bipush (v := 62) hx hb dX12_ahead_222 (by decide) ?_
              refine lv_icmp_eq (tgt := 233) hx hb dX12_ahead_224 (by decide) (fun c103 => ?_) (fun c103 => ?_)
              · have c103 := (b_eq (rfl : Int32.toInt (bA tx sz1 e1_4) = _) (show Int32.toInt 62 = 62 from rfl)).mp c103
                refine lv_iconst (v := 4) hx hb dX12_ahead_233 (by decide) ?_
                refine lv_goto (tgt := 238) hx hb dX12_ahead_234 (by decide) ?_
                refine r_put (v := 4) hx hb (ly_X12 hE) tyX12 tyX12_ok nmX12 hown hK hP hJ hAL hS rfl 12 (by decide) (wd_1393 hE) (fun _ h9 => h9) rfl (by decide +kernel) rfl (by decide) dX12_ahead_238 (fun u104 H locs hf104 hq104 hP hS => ?_)
                have hA105 := (hq104.1 16 List.not_mem_nil).trans hA92
                have hF106x := (hq104.2.1 11 (by decide)).trans hF93x
                have hF107x := (hq104.2.1 15 (by decide)).trans hF94x
                have hF108x := (hq104.2.1 13 (by decide)).trans hF95x
                have hF109x := (hq104.2.1 14 (by decide)).trans hf91
                have hfr := FR.step hfr hq104 (fun _ h => absurd h List.not_mem_nil) (by decide) (fun h => rfl)
                exact W.vret hx hb hr (fun t ht hW => ⟨⟨u104, rfl, ⟨(by rw [SK]; first | exact te_end (by omega) (by omega) hF108x hF109x hf104 hF107x (by omega) | exact te_let LTR TN hF108x hF109x hf104 hF107x (by omega) | exact te_dig DGR TN hF108x hF109x (by first | exact Or.inl ⟨hf104, by omega⟩ | exact Or.inr ⟨hf104, by omega⟩) hF107x (by omega) VL | exact te_sgn (by omega) (by omega) (by omega) hF108x hF109x (by first | exact Or.inl ⟨hf104, by omega⟩ | exact Or.inr ⟨hf104, by omega⟩) hF107x (by omega)), hfr⟩, (show va_P (dC, dI) vwCl (rW cs b u104) t.heap by rw [ht]; exact hP)⟩, hS.F ht⟩) hS.2.2 dX12_ahead_241
              · have c103 := mt (b_eq (rfl : Int32.toInt (bA tx sz1 e1_4) = _) (show Int32.toInt 62 = 62 from rfl)).mpr c103
                refine lv_iload_n hx hb dX12_ahead_227 rfl (lv_at hl 0 rfl) ?_
                refine lv_bipush (v := 60) hx hb dX12_ahead_228 (by decide) ?_
                refine lv_icmp_ne (tgt := 237) hx hb dX12_ahead_230 (by decide) (fun c110 => ?_) (fun c110 => ?_)
                · have c110 := mt (b_eq (rfl : Int32.toInt (bA tx sz1 e1_4) = _) (show Int32.toInt 60 = 60 from rfl)).mpr c110
                  refine lv_iconst (v := 1) hx hb dX12_ahead_237 (by decide) ?_
                  refine r_put (v := 1) hx hb (ly_X12 hE) tyX12 tyX12_ok nmX12 hown hK hP hJ hAL hS rfl 12 (by decide) (wd_1393 hE) (fun _ h9 => h9) rfl (by decide +kernel) rfl (by decide) dX12_ahead_238 (fun u111 H locs hf111 hq111 hP hS => ?_)
                  have hA112 := (hq111.1 16 List.not_mem_nil).trans hA92
                  have hF113x := (hq111.2.1 11 (by decide)).trans hF93x
                  have hF114x := (hq111.2.1 15 (by decide)).trans hF94x
                  have hF115x := (hq111.2.1 13 (by decide)).trans hF95x
                  have hF116x := (hq111.2.1 14 (by decide)).trans hf91
                  have hfr := FR.step hfr hq111 (fun _ h => absurd h List.not_mem_nil) (by decide) (fun h => rfl)
                  exact W.vret hx hb hr (fun t ht hW => ⟨⟨u111, rfl, ⟨(by rw [SK]; first | exact te_end (by omega) (by omega) hF115x hF116x hf111 hF114x (by omega) | exact te_let LTR TN hF115x hF116x hf111 hF114x (by omega) | exact te_dig DGR TN hF115x hF116x (by first | exact Or.inl ⟨hf111, by omega⟩ | exact Or.inr ⟨hf111, by omega⟩) hF114x (by omega) VL | exact te_sgn (by omega) (by omega) (by omega) hF115x hF116x (by first | exact Or.inl ⟨hf111, by omega⟩ | exact Or.inr ⟨hf111, by omega⟩) hF114x (by omega)), hfr⟩, (show va_P (dC, dI) vwCl (rW cs b u111) t.heap by rw [ht]; exact hP)⟩, hS.F ht⟩) hS.2.2 dX12_ahead_241
                · have c110 := (b_eq (rfl : Int32.toInt (bA tx sz1 e1_4) = _) (show Int32.toInt 60 = 60 from rfl)).mp c110
                  refine lv_iconst (v := 4) hx hb dX12_ahead_233 (by decide) ?_
                  refine lv_goto (tgt := 238) hx hb dX12_ahead_234 (by decide) ?_
                  refine r_put (v := 4) hx hb (ly_X12 hE) tyX12 tyX12_ok nmX12 hown hK hP hJ hAL hS rfl 12 (by decide) (wd_1393 hE) (fun _ h9 => h9) rfl (by decide +kernel) rfl (by decide) dX12_ahead_238 (fun u117 H locs hf117 hq117 hP hS => ?_)
                  have hA118 := (hq117.1 16 List.not_mem_nil).trans hA92
                  have hF119x := (hq117.2.1 11 (by decide)).trans hF93x
                  have hF120x := (hq117.2.1 15 (by decide)).trans hF94x
                  have hF121x := (hq117.2.1 13 (by decide)).trans hF95x
                  have hF122x := (hq117.2.1 14 (by decide)).trans hf91
                  have hfr := FR.step hfr hq117 (fun _ h => absurd h List.not_mem_nil) (by decide) (fun h => rfl)
                  exact W.vret hx hb hr (fun t ht hW => ⟨⟨u117, rfl, ⟨(by rw [SK]; first | exact te_end (by omega) (by omega) hF121x hF122x hf117 hF120x (by omega) | exact te_let LTR TN hF121x hF122x hf117 hF120x (by omega) | exact te_dig DGR TN hF121x hF122x (by first | exact Or.inl ⟨hf117, by omega⟩ | exact Or.inr ⟨hf117, by omega⟩) hF120x (by omega) VL | exact te_sgn (by omega) (by omega) (by omega) hF121x hF122x (by first | exact Or.inl ⟨hf117, by omega⟩ | exact Or.inr ⟨hf117, by omega⟩) hF120x (by omega)), hfr⟩, (show va_P (dC, dI) vwCl (rW cs b u117) t.heap by rw [ht]; exact hP)⟩, hS.F ht⟩) hS.2.2 dX12_ahead_241
      · have c21 := (b_eq (rfl : Int32.toInt (bA tx sz1 e1_4) = _) (show Int32.toInt (-1) = -1 from rfl)).mp c21
        refine lv_aload_n hx hb dX12_ahead_61 rfl (lv_at hl 1 rfl) ?_
        refine lv_iconst (v := 0) hx hb dX12_ahead_62 (by decide) ?_
        refine r_put (v := 0) hx hb (ly_X12 hE) tyX12 tyX12_ok nmX12 hown hK hP hJ hAL hS rfl 12 (by decide) (wd_1393 hE) (fun _ h9 => h9) rfl (by decide +kernel) rfl (by decide) dX12_ahead_63 (fun u123 H locs hf123 hq123 hP hS => ?_)
        have hA124 := (hq123.1 16 List.not_mem_nil).trans hA16
        have hF125x := (hq123.2.1 11 (by decide)).trans hF17x
        have hF126x := (hq123.2.1 14 (by decide)).trans hF18x
        have hF127x := (hq123.2.1 15 (by decide)).trans hF19x
        have hF128x := (hq123.2.1 13 (by decide)).trans hf15
        have hfr := FR.step hfr hq123 (fun _ h => absurd h List.not_mem_nil) (by decide) (fun h => rfl)
        refine lv_goto (tgt := 241) hx hb dX12_ahead_66 (by decide) ?_
        exact W.vret hx hb hr (fun t ht hW => ⟨⟨u123, rfl, ⟨(by rw [SK]; first | exact te_end (by omega) (by omega) hF128x hF126x hf123 hF127x (by omega) | exact te_let LTR TN hF128x hF126x hf123 hF127x (by omega) | exact te_dig DGR TN hF128x hF126x (by first | exact Or.inl ⟨hf123, by omega⟩ | exact Or.inr ⟨hf123, by omega⟩) hF127x (by omega) VL | exact te_sgn (by omega) (by omega) (by omega) hF128x hF126x (by first | exact Or.inl ⟨hf123, by omega⟩ | exact Or.inr ⟨hf123, by omega⟩) hF127x (by omega)), hfr⟩, (show va_P (dC, dI) vwCl (rW cs b u123) t.heap by rw [ht]; exact hP)⟩, hS.F ht⟩) hS.2.2 dX12_ahead_241
    · have c14 := (b_eq (rfl : Int32.toInt (bA tx sz1 e1_4) = _) (show Int32.toInt 10 = 10 from rfl)).mp c14
      refine lv_aload_n hx hb dX12_ahead_26 rfl (lv_at hl 0 rfl) ?_
      refine lv_dup hx hb dX12_ahead_27 rfl ?_
      refine r_get (v := .int (nI e1_4)) hx hb (ly_X12 hE) hown hK hP rfl 14 (by decide) (wd_1395 hE) (fun _ h9 => h9) (congrArg (fun z : Int32 => some (Value.int z)) hL4_3) dX12_ahead_28 ?_
      refine lv_iconst (v := 1) hx hb dX12_ahead_31 (by decide) ?_
      refine lv_iadd hx hb dX12_ahead_32 ?_
      refine W.eq (g2 := F0 m 33 ls [.int (nI (e1_4 + 1)), .ref (b 0)]) (congrArg (fun z : Int32 => F0 m 33 ls (.int z :: [.ref (b 0)])) (nI_add e1_4 1)) ?_
      refine r_put (v := nI (e1_4 + 1)) hx hb (ly_X12 hE) tyX12 tyX12_ok nmX12 hown hK hP hJ hAL hS rfl 14 (by decide) (wd_1395 hE) (fun _ h9 => h9) rfl (by decide +kernel) rfl (by decide) dX12_ahead_33 (fun u129 H locs hf129 hq129 hP hS => ?_)
      have hA130 := (hq129.1 16 List.not_mem_nil).trans hA5
      have hF131x := (hq129.2.1 11 (by decide)).trans hF6x
      have hF132x := (hq129.2.1 15 (by decide)).trans hL4_4
      have hfr := FR.step hfr hq129 (fun _ h => absurd h List.not_mem_nil) (by decide) (fun h => rfl)
      refine lv_goto (tgt := 0) hx hb dX12_ahead_36 (by decide) ?_
      exact ih4 _ u129 _ _ _ (by omega) ⟨hP, hS, hfr, (e1_4 + 1), rfl, (by first | assumption | omega | rfl | (congr 1; omega)), (by first | assumption | omega | rfl | (congr 1; omega)), (by exact (sk_go (by omega)).trans hL4_2), hf129, hF132x, lv_sub hl [0] rfl⟩

set_option maxHeartbeats 4000000 in
set_option maxRecDepth 100000 in
theorem x_X12_fails (l : Launch) (dC : Nat → ClassId) (dI : Nat → Nat → Nat) (sz : Nat) (cs : Nat → ClassId) (b : Nat → Nat) (u : RS) (x : Nat) (t0 : Nat) (p0 : Nat) (ln : Nat) (hF16 : rF u 16 = 0) (hF12 : rF u 12 = nI t0) (hF13 : rF u 13 = nI p0) (hF20 : rF u 20 = nI ln) (hp0 : t0 ≤ 4) : Met l yX12_fails [.code yX12_fails cX12_fails 2 (some .boolean)] ({ frames := 0, cells := 0, slots := 0, locals := 0 }) (PR [.ref (b 0), .int (nI x)] sz dC dI cs b u) (va_Qi (fun (r : Int32) (u' : RS) => (r = 0) ∧ (rF u' 16 = nI (if t0 = 1 then 1 else x)) ∧ (rF u' 17 = nI p0) ∧ (rF u' 18 = nI ln) ∧ FR [] [16, 17, 18] false u u') (BR dC dI cs b) (AR b sz)) 0 0 (AR b sz) := by
  refine Met.ofW (cc := cX12_fails) (maxL := 2) (ret := (some .boolean)) (by decide) rfl ?_
  intro p e s m args below meth c s₁ B hml hv
  obtain ⟨rfl, hsz, hP, hK, hJ, hE⟩ := hv
  have hx := B.exec
  have hb := B.bytes
  have hr := B.returns
  have hown : s.vm.findClass RX12 = some m.cls := findClass_of_methodNamed B.named
  have hlocks := B.notSynchronized
  subst hsz
  have hAL : ∀ i, i < 108 → AR b s.heap.size (b i) := fun i h => Or.inl ⟨i, h, rfl⟩
  have hA : ∀ q : Nat, s.heap.size ≤ q → AR b s.heap.size q := fun q h => Or.inr h
  have hS : va_S (AR b s.heap.size) s.heap s.heap [] := va_S.rf
  have hfr : FR [] [16, 17, 18] false u u := FR.refl
  have hl := lv_entry ([.ref (b 0), .int (nI x)]) (n := 2) (Nat.le_of_ble_eq_true rfl)
  rw [lg_entry_eq]
  generalize (lg_sl ([.ref (b 0), .int (nI x)]) ++ List.replicate (2 - (lg_sl ([.ref (b 0), .int (nI x)])).length) Slot.unset).toArray = ls at hl ⊢
  have hl : lv_has ls 2 [(0, .ref (b 0)), (1, .int (nI x))] := hl
  refine lv_aload_n hx hb dX12_fails_0 rfl (lv_at hl 0 rfl) ?_
  refine r_get (v := .int 0) hx hb (ly_X12 hE) hown hK hP rfl 16 (by decide) (wd_1397 hE) (fun _ h9 => h9) (congrArg (fun z : Int32 => some (Value.int z)) hF16) dX12_fails_1 ?_
  refine lv_if_ne (tgt := 40) hx hb dX12_fails_4 (by decide) (fun c2 => absurd c2 (by decide)) (fun c2 => ?_)
  refine lv_aload_n hx hb dX12_fails_7 rfl (lv_at hl 0 rfl) ?_
  refine lv_aload_n hx hb dX12_fails_8 rfl (lv_at hl 0 rfl) ?_
  refine r_get (v := .int (nI t0)) hx hb (ly_X12 hE) hown hK hP rfl 12 (by decide) (wd_1393 hE) (fun _ h9 => h9) (congrArg (fun z : Int32 => some (Value.int z)) hF12) dX12_fails_9 ?_
  refine lv_iconst (v := 1) hx hb dX12_fails_12 (by decide) ?_
  refine lv_icmp_ne (tgt := 20) hx hb dX12_fails_13 (by decide) (fun c3 => ?_) (fun c3 => ?_)
  · have c3 := mt (b_eq (nI_toInt (n := t0) (by omega)) (show Int32.toInt 1 = 1 from rfl)).mpr c3
    refine lv_iload_n hx hb dX12_fails_20 rfl (lv_at hl 1 rfl) ?_
    refine r_put (v := nI x) hx hb (ly_X12 hE) tyX12 tyX12_ok nmX12 hown hK hP hJ hAL hS rfl 16 (by decide) (wd_1397 hE) (fun _ h9 => h9) rfl (by decide +kernel) rfl (by decide) dX12_fails_21 (fun u4 H locs hf4 hq4 hP hS => ?_)
    have hF5x := (hq4.2.1 12 (by decide)).trans hF12
    have hF6x := (hq4.2.1 13 (by decide)).trans hF13
    have hF7x := (hq4.2.1 20 (by decide)).trans hF20
    have hfr := FR.step hfr hq4 (fun _ h => absurd h List.not_mem_nil) (by decide) (fun h => rfl)
    refine lv_aload_n hx hb dX12_fails_24 rfl (lv_at hl 0 rfl) ?_
    refine lv_aload_n hx hb dX12_fails_25 rfl (lv_at hl 0 rfl) ?_
    refine r_get (v := .int (nI p0)) hx hb (ly_X12 hE) hown hK hP rfl 13 (by decide) (wd_1394 hE) (fun _ h9 => h9) (congrArg (fun z : Int32 => some (Value.int z)) hF6x) dX12_fails_26 ?_
    refine r_put (v := nI p0) hx hb (ly_X12 hE) tyX12 tyX12_ok nmX12 hown hK hP hJ hAL hS rfl 17 (by decide) (wd_1398 hE) (fun _ h9 => h9) rfl (by decide +kernel) rfl (by decide) dX12_fails_29 (fun u8 H locs hf8 hq8 hP hS => ?_)
    have hF9x := (hq8.2.1 12 (by decide)).trans hF5x
    have hF10x := (hq8.2.1 13 (by decide)).trans hF6x
    have hF11x := (hq8.2.1 20 (by decide)).trans hF7x
    have hF12x := (hq8.2.1 16 (by decide)).trans hf4
    have hfr := FR.step hfr hq8 (fun _ h => absurd h List.not_mem_nil) (by decide) (fun h => rfl)
    refine lv_aload_n hx hb dX12_fails_32 rfl (lv_at hl 0 rfl) ?_
    refine lv_aload_n hx hb dX12_fails_33 rfl (lv_at hl 0 rfl) ?_
    refine r_get (v := .int (nI ln)) hx hb (ly_X12 hE) hown hK hP rfl 20 (by decide) (wd_1401 hE) (fun _ h9 => h9) (congrArg (fun z : Int32 => some (Value.int z)) hF11x) dX12_fails_34 ?_
    refine r_put (v := nI ln) hx hb (ly_X12 hE) tyX12 tyX12_ok nmX12 hown hK hP hJ hAL hS rfl 18 (by decide) (wd_1399 hE) (fun _ h9 => h9) rfl (by decide +kernel) rfl (by decide) dX12_fails_37 (fun u13 H locs hf13 hq13 hP hS => ?_)
    have hF14x := (hq13.2.1 12 (by decide)).trans hF9x
    have hF15x := (hq13.2.1 13 (by decide)).trans hF10x
    have hF16x := (hq13.2.1 20 (by decide)).trans hF11x
    have hF17x := (hq13.2.1 16 (by decide)).trans hF12x
    have hF18x := (hq13.2.1 17 (by decide)).trans hf8
    have hfr := FR.step hfr hq13 (fun _ h => absurd h List.not_mem_nil) (by decide) (fun h => rfl)
    refine lv_iconst (v := 0) hx hb dX12_fails_40 (by decide) ?_
    exact W.zret (v := 0) hx hb hr rfl (fun t ht hW => ⟨⟨0, u13, rfl, ⟨(by first | rfl | omega | (congr 1; omega) | assumption), (by first | (rw [hF17x]; done) | (rw [hF17x]; first | (rw [if_neg (by omega)]; done) | (rw [if_pos (by omega)]; rfl))), (by first | (rw [hF18x]; done) | (rw [hF18x]; first | assumption | omega | rfl | (congr 1; omega))), (by first | (rw [hf13]; done) | (rw [hf13]; first | assumption | omega | rfl | (congr 1; omega))), hfr⟩, (show va_P (dC, dI) vwCl (rW cs b u13) t.heap by rw [ht]; exact hP)⟩, hS.F ht⟩) hS.2.2 dX12_fails_41
  · have c3 := (b_eq (nI_toInt (n := t0) (by omega)) (show Int32.toInt 1 = 1 from rfl)).mp c3
    refine lv_iconst (v := 1) hx hb dX12_fails_16 (by decide) ?_
    refine lv_goto (tgt := 21) hx hb dX12_fails_17 (by decide) ?_
    refine r_put (v := 1) hx hb (ly_X12 hE) tyX12 tyX12_ok nmX12 hown hK hP hJ hAL hS rfl 16 (by decide) (wd_1397 hE) (fun _ h9 => h9) rfl (by decide +kernel) rfl (by decide) dX12_fails_21 (fun u19 H locs hf19 hq19 hP hS => ?_)
    have hF20x := (hq19.2.1 12 (by decide)).trans hF12
    have hF21x := (hq19.2.1 13 (by decide)).trans hF13
    have hF22x := (hq19.2.1 20 (by decide)).trans hF20
    have hfr := FR.step hfr hq19 (fun _ h => absurd h List.not_mem_nil) (by decide) (fun h => rfl)
    refine lv_aload_n hx hb dX12_fails_24 rfl (lv_at hl 0 rfl) ?_
    refine lv_aload_n hx hb dX12_fails_25 rfl (lv_at hl 0 rfl) ?_
    refine r_get (v := .int (nI p0)) hx hb (ly_X12 hE) hown hK hP rfl 13 (by decide) (wd_1394 hE) (fun _ h9 => h9) (congrArg (fun z : Int32 => some (Value.int z)) hF21x) dX12_fails_26 ?_
    refine r_put (v := nI p0) hx hb (ly_X12 hE) tyX12 tyX12_ok nmX12 hown hK hP hJ hAL hS rfl 17 (by decide) (wd_1398 hE) (fun _ h9 => h9) rfl (by decide +kernel) rfl (by decide) dX12_fails_29 (fun u23 H locs hf23 hq23 hP hS => ?_)
    have hF24x := (hq23.2.1 12 (by decide)).trans hF20x
    have hF25x := (hq23.2.1 13 (by decide)).trans hF21x
    have hF26x := (hq23.2.1 20 (by decide)).trans hF22x
    have hF27x := (hq23.2.1 16 (by decide)).trans hf19
    have hfr := FR.step hfr hq23 (fun _ h => absurd h List.not_mem_nil) (by decide) (fun h => rfl)
    refine lv_aload_n hx hb dX12_fails_32 rfl (lv_at hl 0 rfl) ?_
    refine lv_aload_n hx hb dX12_fails_33 rfl (lv_at hl 0 rfl) ?_
    refine r_get (v := .int (nI ln)) hx hb (ly_X12 hE) hown hK hP rfl 20 (by decide) (wd_1401 hE) (fun _ h9 => h9) (congrArg (fun z : Int32 => some (Value.int z)) hF26x) dX12_fails_34 ?_
    refine r_put (v := nI ln) hx hb (ly_X12 hE) tyX12 tyX12_ok nmX12 hown hK hP hJ hAL hS rfl 18 (by decide) (wd_1399 hE) (fun _ h9 => h9) rfl (by decide +kernel) rfl (by decide) dX12_fails_37 (fun u28 H locs hf28 hq28 hP hS => ?_)
    have hF29x := (hq28.2.1 12 (by decide)).trans hF24x
    have hF30x := (hq28.2.1 13 (by decide)).trans hF25x
    have hF31x := (hq28.2.1 20 (by decide)).trans hF26x
    have hF32x := (hq28.2.1 16 (by decide)).trans hF27x
    have hF33x := (hq28.2.1 17 (by decide)).trans hf23
    have hfr := FR.step hfr hq28 (fun _ h => absurd h List.not_mem_nil) (by decide) (fun h => rfl)
    refine lv_iconst (v := 0) hx hb dX12_fails_40 (by decide) ?_
    exact W.zret (v := 0) hx hb hr rfl (fun t ht hW => ⟨⟨0, u28, rfl, ⟨(by first | rfl | omega | (congr 1; omega) | assumption), (by first | (rw [hF32x]; done) | (rw [hF32x]; first | (rw [if_neg (by omega)]; done) | (rw [if_pos (by omega)]; rfl))), (by first | (rw [hF33x]; done) | (rw [hF33x]; first | assumption | omega | rfl | (congr 1; omega))), (by first | (rw [hf28]; done) | (rw [hf28]; first | assumption | omega | rfl | (congr 1; omega))), hfr⟩, (show va_P (dC, dI) vwCl (rW cs b u28) t.heap by rw [ht]; exact hP)⟩, hS.F ht⟩) hS.2.2 dX12_fails_41

set_option maxHeartbeats 4000000 in
set_option maxRecDepth 100000 in
theorem x_X12_takesOn (l : Launch) (dC : Nat → ClassId) (dI : Nat → Nat → Nat) (sz : Nat) (cs : Nat → ClassId) (b : Nat → Nat) (u : RS) (tx : Nat → Int32) (hAc16 : rA u 16 = tx) (sz1 : Nat) (e0 : Nat) (v0 : Nat) (hF11 : rF u 11 = nI sz1) (hF14 : rF u 14 = nI e0) (hF15 : rF u 15 = nI v0) (hp0 : sz1 ≤ 700) (hp1 : e0 ≤ sz1) (hp2 : v0 ≤ 9999) : Met l yX12_takesOn [.code yX12_takesOn cX12_takesOn 1 (some .boolean)] ({ frames := 2, cells := 0, slots := 0, locals := 80 }) (PR [.ref (b 0)] sz dC dI cs b u) (va_Qi (fun (r : Int32) (u' : RS) => (r = 1) ∧ (TE u' tx sz1 (skp tx sz1 e0)) ∧ FR [] [12, 13, 14, 15] false u u') (BR dC dI cs b) (AR b sz)) 0 0 (AR b sz) := by
  refine Met.ofW (cc := cX12_takesOn) (maxL := 1) (ret := (some .boolean)) (by decide) rfl ?_
  intro p e s m args below meth c s₁ B hml hv
  obtain ⟨rfl, hsz, hP, hK, hJ, hE⟩ := hv
  have hx := B.exec
  have hb := B.bytes
  have hr := B.returns
  have hown : s.vm.findClass RX12 = some m.cls := findClass_of_methodNamed B.named
  have hlocks := B.notSynchronized
  subst hsz
  have hAL : ∀ i, i < 108 → AR b s.heap.size (b i) := fun i h => Or.inl ⟨i, h, rfl⟩
  have hA : ∀ q : Nat, s.heap.size ≤ q → AR b s.heap.size q := fun q h => Or.inr h
  have hS : va_S (AR b s.heap.size) s.heap s.heap [] := va_S.rf
  have hfr : FR [] [12, 13, 14, 15] false u u := FR.refl
  have hl := lv_entry ([.ref (b 0)]) (n := 1) (Nat.le_of_ble_eq_true rfl)
  rw [lg_entry_eq]
  generalize (lg_sl ([.ref (b 0)]) ++ List.replicate (1 - (lg_sl ([.ref (b 0)])).length) Slot.unset).toArray = ls at hl ⊢
  have hl : lv_has ls 1 [(0, .ref (b 0))] := hl
  refine lv_aload_n hx hb dX12_takesOn_0 rfl (lv_at hl 0 rfl) ?_
  refine rc_v hAL hS hA (va_runV (As := []) (rest := []) ⟨hx, hb, hml, hown, noTs⟩ (x_X12_ahead l dC dI s.heap.size cs b u tx hAc16 sz1 e0 v0 hF11 hF14 hF15 (by first | assumption | omega | rfl | (congr 1; omega)) (by first | assumption | omega | rfl | (congr 1; omega)) (by first | assumption | omega | rfl | (congr 1; omega))) ⟨cbE 0 (wd_1506 hE) (wd_126 hE) (wd_1503 hE) rfl rfl (by decide +kernel) ⟨Nat.le_of_ble_eq_true rfl, Nat.le_of_ble_eq_true rfl⟩, (wd_1505 hE), (wd_56 hE)⟩ ⟨PR.blind, r_recv hK hP rfl, (r_pre (av := [.ref (b 0)]) hK hP hJ hE)⟩ rfl rfl hl.1 rfl (lv_room (Nat.le_of_ble_eq_true rfl)) dX12_takesOn_1 ⟨Nat.le_of_ble_eq_true rfl, Nat.le_of_ble_eq_true rfl⟩) (fun u4 H locs hpo4 hP hS => ?_)
  obtain ⟨h4_0, hq4⟩ := hpo4
  have hA5 := (hq4.1 16 List.not_mem_nil).trans hAc16
  have hF6x := (hq4.2.1 11 (by decide)).trans hF11
  have hfr := FR.step hfr hq4 (fun _ h => absurd h List.not_mem_nil) (by decide) (fun h => rfl)
  have hte7 : TE u4 tx sz1 (skp tx sz1 e0) := h4_0
  obtain ⟨te13_7, te14_7, te12_7, tep7, tv7, tvl7, te15_7, tvv7⟩ := hte7
  have tkf7 := kd_f tx sz1 (skp tx sz1 e0)
  have tna7 := tnd_le (tx := tx) tep7
  have tnb7 := fun h : (skp tx sz1 e0) < sz1 => tnd_gt (tx := tx) h
  refine lv_iconst (v := 1) hx hb dX12_takesOn_4 (by decide) ?_
  exact W.zret (v := 1) hx hb hr rfl (fun t ht hW => ⟨⟨1, u4, rfl, ⟨(by first | rfl | omega | (congr 1; omega) | assumption), (by exact ⟨te13_7, te14_7, te12_7, by omega, _, by omega, te15_7, tvv7⟩), hfr⟩, (show va_P (dC, dI) vwCl (rW cs b u4) t.heap by rw [ht]; exact hP)⟩, hS.F ht⟩) hS.2.2 dX12_takesOn_5

set_option maxHeartbeats 4000000 in
set_option maxRecDepth 100000 in
theorem x_X12_isNumber (l : Launch) (dC : Nat → ClassId) (dI : Nat → Nat → Nat) (sz : Nat) (cs : Nat → ClassId) (b : Nat → Nat) (u : RS) (tx : Nat → Int32) (hAc16 : rA u 16 = tx) (sz1 : Nat) (p0 : Nat) (ln : Nat) (x17 : Int32) (x18 : Int32) (hF11 : rF u 11 = nI sz1) (hF16 : rF u 16 = 0) (hF17 : rF u 17 = x17) (hF18 : rF u 18 = x18) (hF20 : rF u 20 = nI ln) (hp0 : TE u tx sz1 p0) (hp1 : sz1 ≤ 700) : Met l yX12_isNumber [.code yX12_isNumber cX12_isNumber 1 (some .boolean)] ({ frames := 1, cells := 0, slots := 0, locals := 40 }) (PR [.ref (b 0)] sz dC dI cs b u) (va_Qi (fun (r : Int32) (u' : RS) => ((r = 1 ∧ (kd tx sz1 p0 = 6 ∧ rF u' 16 = 0 ∧ rF u' 17 = x17 ∧ rF u' 18 = x18)) ∨ (r = 0 ∧ (kd tx sz1 p0 ≠ 6 ∧ FL u' (bad (kd tx sz1 p0)) p0 ln))) ∧ FR [] [16, 17, 18] false u u') (BR dC dI cs b) (AR b sz)) 0 0 (AR b sz) := by
  refine Met.ofW (cc := cX12_isNumber) (maxL := 1) (ret := (some .boolean)) (by decide) rfl ?_
  intro p e s m args below meth c s₁ B hml hv
  obtain ⟨rfl, hsz, hP, hK, hJ, hE⟩ := hv
  have hx := B.exec
  have hb := B.bytes
  have hr := B.returns
  have hown : s.vm.findClass RX12 = some m.cls := findClass_of_methodNamed B.named
  have hlocks := B.notSynchronized
  subst hsz
  have hAL : ∀ i, i < 108 → AR b s.heap.size (b i) := fun i h => Or.inl ⟨i, h, rfl⟩
  have hA : ∀ q : Nat, s.heap.size ≤ q → AR b s.heap.size q := fun q h => Or.inr h
  have hS : va_S (AR b s.heap.size) s.heap s.heap [] := va_S.rf
  have hfr : FR [] [16, 17, 18] false u u := FR.refl
  have hl := lv_entry ([.ref (b 0)]) (n := 1) (Nat.le_of_ble_eq_true rfl)
  rw [lg_entry_eq]
  generalize (lg_sl ([.ref (b 0)]) ++ List.replicate (1 - (lg_sl ([.ref (b 0)])).length) Slot.unset).toArray = ls at hl ⊢
  have hl : lv_has ls 1 [(0, .ref (b 0))] := hl
  have hte2 : TE u tx sz1 p0 := hp0
  obtain ⟨te13_2, te14_2, te12_2, tep2, tv2, tvl2, te15_2, tvv2⟩ := hte2
  have tkf2 := kd_f tx sz1 p0
  have tna2 := tnd_le (tx := tx) tep2
  have tnb2 := fun h : p0 < sz1 => tnd_gt (tx := tx) h
  refine lv_aload_n hx hb dX12_isNumber_0 rfl (lv_at hl 0 rfl) ?_
  refine r_get (v := .int (nI (tkr (kd tx sz1 p0)))) hx hb (ly_X12 hE) hown hK hP rfl 12 (by decide) (wd_1393 hE) (fun _ h9 => h9) (congrArg (fun z : Int32 => some (Value.int z)) te12_2) dX12_isNumber_1 ?_
  refine lv_iconst (v := 3) hx hb dX12_isNumber_4 (by decide) ?_
  refine lv_icmp_eq (tgt := 16) hx hb dX12_isNumber_5 (by decide) (fun c4 => ?_) (fun c4 => ?_)
  · have c4 := (b_eq (nI_toInt (n := tkr (kd tx sz1 p0)) (by omega)) (show Int32.toInt 3 = 3 from rfl)).mp c4
    refine lv_iconst (v := 1) hx hb dX12_isNumber_16 (by decide) ?_
    refine lv_goto (tgt := 21) hx hb dX12_isNumber_17 (by decide) ?_
    exact W.zret (v := 1) hx hb hr rfl (fun t ht hW => ⟨⟨1, u, rfl, ⟨Or.inl ⟨rfl, by exact ⟨by omega, hF16, hF17, hF18⟩⟩, hfr⟩, (show va_P (dC, dI) vwCl (rW cs b u) t.heap by rw [ht]; exact hP)⟩, hS.F ht⟩) hS.2.2 dX12_isNumber_21
  · have c4 := mt (b_eq (nI_toInt (n := tkr (kd tx sz1 p0)) (by omega)) (show Int32.toInt 3 = 3 from rfl)).mpr c4
    refine lv_aload_n hx hb dX12_isNumber_8 rfl (lv_at hl 0 rfl) ?_
    refine lv_iconst (v := 2) hx hb dX12_isNumber_9 (by decide) ?_
    refine rc_i hAL hS hA (va_runV (As := [.int (nI 2)]) (rest := []) ⟨hx, hb, hml, hown, noTs⟩ (x_X12_fails l dC dI s.heap.size cs b u 2 (tkr (kd tx sz1 p0)) p0 ln hF16 te12_2 te13_2 hF20 (by first | assumption | omega | rfl | (congr 1; omega))) ⟨cbE 1 (wd_1540 hE) (wd_126 hE) (wd_1537 hE) rfl rfl (by decide +kernel) ⟨Nat.le_of_ble_eq_true rfl, Nat.le_of_ble_eq_true rfl⟩, (wd_1539 hE), (wd_62 hE)⟩ ⟨PR.blind, r_recv hK hP rfl, (r_pre (av := [.ref (b 0), .int (nI 2)]) hK hP hJ hE)⟩ rfl rfl hl.1 rfl (lv_room (Nat.le_of_ble_eq_true rfl)) dX12_isNumber_10 ⟨Nat.le_of_ble_eq_true rfl, Nat.le_of_ble_eq_true rfl⟩) (fun r5 u5 H locs hpo5 hP hS => ?_)
    obtain ⟨hr5, h5_0, h5_1, h5_2, hq5⟩ := hpo5
    have hA6 := (hq5.1 16 List.not_mem_nil).trans hAc16
    have hF7x := (hq5.2.1 11 (by decide)).trans hF11
    have hF8x := (hq5.2.1 20 (by decide)).trans hF20
    have hF9x := (hq5.2.1 13 (by decide)).trans te13_2
    have hF10x := (hq5.2.1 14 (by decide)).trans te14_2
    have hF11x := (hq5.2.1 12 (by decide)).trans te12_2
    have hF12x := (hq5.2.1 15 (by decide)).trans te15_2
    have hfr := FR.step hfr hq5 (fun _ h => absurd h List.not_mem_nil) (by decide) (fun h => rfl)
    subst hr5
    refine lv_if_eq (tgt := 20) hx hb dX12_isNumber_13 (by decide) (fun c13 => ?_) (fun c13 => absurd c13 (by decide))
    refine lv_iconst (v := 0) hx hb dX12_isNumber_20 (by decide) ?_
    exact W.zret (v := 0) hx hb hr rfl (fun t ht hW => ⟨⟨0, u5, rfl, ⟨Or.inr ⟨rfl, by exact ⟨by omega, by rw [h5_0, tkr_bad], h5_1, h5_2⟩⟩, hfr⟩, (show va_P (dC, dI) vwCl (rW cs b u5) t.heap by rw [ht]; exact hP)⟩, hS.F ht⟩) hS.2.2 dX12_isNumber_21

set_option maxHeartbeats 4000000 in
set_option maxRecDepth 100000 in
theorem x_X12_someNumber (l : Launch) (dC : Nat → ClassId) (dI : Nat → Nat → Nat) (sz : Nat) (cs : Nat → ClassId) (b : Nat → Nat) (u : RS) (a : Nat → Int32) (hA1 : rA u 1 = a) (tx : Nat → Int32) (hAc16 : rA u 16 = tx) (v : Nat) (sz1 : Nat) (p0 : Nat) (hF11 : rF u 11 = nI sz1) (hp0 : BG a) (hp1 : TE u tx sz1 p0) (hp2 : sz1 ≤ 700) (hp3 : v < vN a) : Met l yX12_someNumber [.code yX12_someNumber cX12_someNumber 3 (some .int)] ({ frames := 3, cells := 0, slots := 0, locals := 120 }) (PR [.ref (b 0), .int (nI v)] sz dC dI cs b u) (va_Qi (fun (r : Int32) (u' : RS) => (∃ k : Nat, r = nI k ∧ k < od a v) ∧ (TE u' tx sz1 (pNum tx sz1 p0)) ∧ FR [] [12, 13, 14, 15] false u u') (BR dC dI cs b) (AR b sz)) 0 0 (AR b sz) := by
  refine Met.ofW (cc := cX12_someNumber) (maxL := 3) (ret := (some .int)) (by decide) rfl ?_
  intro p e s m args below meth c s₁ B hml hv
  obtain ⟨rfl, hsz, hP, hK, hJ, hE⟩ := hv
  have hx := B.exec
  have hb := B.bytes
  have hr := B.returns
  have hown : s.vm.findClass RX12 = some m.cls := findClass_of_methodNamed B.named
  have hlocks := B.notSynchronized
  subst hsz
  have hAL : ∀ i, i < 108 → AR b s.heap.size (b i) := fun i h => Or.inl ⟨i, h, rfl⟩
  have hA : ∀ q : Nat, s.heap.size ≤ q → AR b s.heap.size q := fun q h => Or.inr h
  have hS : va_S (AR b s.heap.size) s.heap s.heap [] := va_S.rf
  have hfr : FR [] [12, 13, 14, 15] false u u := FR.refl
  have hl := lv_entry ([.ref (b 0), .int (nI v)]) (n := 3) (Nat.le_of_ble_eq_true rfl)
  rw [lg_entry_eq]
  generalize (lg_sl ([.ref (b 0), .int (nI v)]) ++ List.replicate (3 - (lg_sl ([.ref (b 0), .int (nI v)])).length) Slot.unset).toArray = ls at hl ⊢
  have hl : lv_has ls 3 [(0, .ref (b 0)), (1, .int (nI v))] := hl
  have hB := hp0
  have hG := bg_g hp0
  have ha1 := gg_le hG
  have ha1b := bg_w hp0
  have hte3 : TE u tx sz1 p0 := hp1
  obtain ⟨te13_3, te14_3, te12_3, tep3, tv3, tvl3, te15_3, tvv3⟩ := hte3
  have tkf3 := kd_f tx sz1 p0
  have tna3 := tnd_le (tx := tx) tep3
  have tnb3 := fun h : p0 < sz1 => tnd_gt (tx := tx) h
  have hvo := gg_od hG hp3
  refine lv_aload_n hx hb dX12_someNumber_0 rfl (lv_at hl 0 rfl) ?_
  refine r_get (v := .int (nI (tkr (kd tx sz1 p0)))) hx hb (ly_X12 hE) hown hK hP rfl 12 (by decide) (wd_1393 hE) (fun _ h9 => h9) (congrArg (fun z : Int32 => some (Value.int z)) te12_3) dX12_someNumber_1 ?_
  refine lv_iconst (v := 3) hx hb dX12_someNumber_4 (by decide) ?_
  refine lv_icmp_eq (tgt := 10) hx hb dX12_someNumber_5 (by decide) (fun c6 => ?_) (fun c6 => ?_)
  · have c6 := (b_eq (nI_toInt (n := tkr (kd tx sz1 p0)) (by omega)) (show Int32.toInt 3 = 3 from rfl)).mp c6
    have K6 : kd tx sz1 p0 = 6 := by omega
    refine lv_aload_n hx hb dX12_someNumber_10 rfl (lv_at hl 0 rfl) ?_
    refine lv_iload_n hx hb dX12_someNumber_11 rfl (lv_at hl 1 rfl) ?_
    refine lv_aload_n hx hb dX12_someNumber_12 rfl (lv_at hl 0 rfl) ?_
    refine r_get (v := .int (nI tv3)) hx hb (ly_X12 hE) hown hK hP rfl 15 (by decide) (wd_1396 hE) (fun _ h9 => h9) (congrArg (fun z : Int32 => some (Value.int z)) te15_3) dX12_someNumber_13 ?_
    refine vp_callSi (va_Run.run (va_runV (As := [.int (nI v), .int (nI tv3)]) (rest := []) ⟨hx, hb, hml, hown, noTs⟩ (r_X12_round l dC dI s.heap.size cs b u a hA1 v (nI tv3) (by first | assumption | omega | rfl | (congr 1; omega)) (by first | assumption | omega | rfl | (congr 1; omega))) ⟨cbE 2 (wd_1576 hE) (wd_126 hE) (wd_1573 hE) rfl rfl (by decide +kernel) ⟨Nat.le_of_ble_eq_true rfl, Nat.le_of_ble_eq_true rfl⟩, (wd_1575 hE), (wd_71 hE)⟩ ⟨PR.blind, r_recv hK hP rfl, (r_pre (av := [.ref (b 0), .int (nI v), .int (nI tv3)]) hK hP hJ hE)⟩ rfl rfl hl.1 rfl (lv_room (Nat.le_of_ble_eq_true rfl)) dX12_someNumber_16 ⟨Nat.le_of_ble_eq_true rfl, Nat.le_of_ble_eq_true rfl⟩)) (fun r7 hr7 => ?_)
    have hau7 := (gg_od (a := a) (v := v) (by assumption) (by first | assumption | omega)).2
    obtain ⟨n7, rfl, hn7_0⟩ := hr7
    refine lv_istore_n (lv' := [(2, .int (nI n7)), (0, .ref (b 0)), (1, .int (nI v))]) hx hb dX12_someNumber_19 rfl hl (by decide) rfl (fun ls hl => ?_)
    refine lv_aload_n hx hb dX12_someNumber_20 rfl (lv_at hl 1 rfl) ?_
    refine rc_v hAL hS hA (va_runV (As := []) (rest := []) ⟨hx, hb, hml, hown, noTs⟩ (x_X12_ahead l dC dI s.heap.size cs b u tx hAc16 sz1 (tnd tx sz1 p0) tv3 hF11 te14_3 te15_3 (by first | assumption | omega | rfl | (congr 1; omega)) (by first | assumption | omega | rfl | (congr 1; omega)) (by first | assumption | omega | rfl | (congr 1; omega))) ⟨cbE 0 (wd_1506 hE) (wd_126 hE) (wd_1503 hE) rfl rfl (by decide +kernel) ⟨Nat.le_of_ble_eq_true rfl, Nat.le_of_ble_eq_true rfl⟩, (wd_1505 hE), (wd_56 hE)⟩ ⟨PR.blind, r_recv hK hP rfl, (r_pre (av := [.ref (b 0)]) hK hP hJ hE)⟩ rfl rfl hl.1 rfl (lv_room (Nat.le_of_ble_eq_true rfl)) dX12_someNumber_21 ⟨Nat.le_of_ble_eq_true rfl, Nat.le_of_ble_eq_true rfl⟩) (fun u8 H locs hpo8 hP hS => ?_)
    obtain ⟨h8_0, hq8⟩ := hpo8
    have hA9 := (hq8.1 1 List.not_mem_nil).trans hA1
    have hA10 := (hq8.1 16 List.not_mem_nil).trans hAc16
    have hF11x := (hq8.2.1 11 (by decide)).trans hF11
    have hfr := FR.step hfr hq8 (fun _ h => absurd h List.not_mem_nil) (by decide) (fun h => rfl)
    clear tkf3 tnb3
    have hte12 : TE u8 tx sz1 (nxt tx sz1 p0) := h8_0
    obtain ⟨te13_12, te14_12, te12_12, tep12, tv12, tvl12, te15_12, tvv12⟩ := hte12
    have tkf12 := kd_f tx sz1 (nxt tx sz1 p0)
    have tna12 := tnd_le (tx := tx) tep12
    have tnb12 := fun h : (nxt tx sz1 p0) < sz1 => tnd_gt (tx := tx) h
    refine lv_iload_n hx hb dX12_someNumber_24 rfl (lv_at hl 0 rfl) ?_
    exact W.iret (v := nI n7) hx hb hr (fun t ht hW => ⟨⟨nI n7, u8, rfl, ⟨⟨n7, rfl, by first | assumption | omega | rfl | (congr 1; omega)⟩, (by first | (rw [pnum_n K6]; exact ⟨te13_12, te14_12, te12_12, by omega, _, by omega, te15_12, tvv12⟩) | (rw [pnum_y K6]; exact ⟨te13_12, te14_12, te12_12, by omega, _, by omega, te15_12, tvv12⟩)), hfr⟩, (show va_P (dC, dI) vwCl (rW cs b u8) t.heap by rw [ht]; exact hP)⟩, hS.F ht⟩) hS.2.2 dX12_someNumber_25
  · have c6 := mt (b_eq (nI_toInt (n := tkr (kd tx sz1 p0)) (by omega)) (show Int32.toInt 3 = 3 from rfl)).mpr c6
    have K6 : kd tx sz1 p0 ≠ 6 := by omega
    refine lv_iconst (v := 0) hx hb dX12_someNumber_8 (by decide) ?_
    exact W.iret (v := 0) hx hb hr (fun t ht hW => ⟨⟨0, u, rfl, ⟨⟨0, rfl, by first | assumption | omega | rfl | (congr 1; omega)⟩, (by first | (rw [pnum_n K6]; exact ⟨te13_3, te14_3, te12_3, by omega, _, by omega, te15_3, tvv3⟩) | (rw [pnum_y K6]; exact ⟨te13_3, te14_3, te12_3, by omega, _, by omega, te15_3, tvv3⟩)), hfr⟩, (show va_P (dC, dI) vwCl (rW cs b u) t.heap by rw [ht]; exact hP)⟩, hS.F ht⟩) hS.2.2 dX12_someNumber_9

set_option maxHeartbeats 4000000 in
set_option maxRecDepth 100000 in
theorem x_X12_aVertex (l : Launch) (dC : Nat → ClassId) (dI : Nat → Nat → Nat) (sz : Nat) (cs : Nat → ClassId) (b : Nat → Nat) (u : RS) (a : Nat → Int32) (hA1 : rA u 1 = a) (tx : Nat → Int32) (hAc16 : rA u 16 = tx) (sz1 : Nat) (p0 : Nat) (ln : Nat) (x17 : Int32) (x18 : Int32) (gg : PGr) (hF11 : rF u 11 = nI sz1) (hF16 : rF u 16 = 0) (hF17 : rF u 17 = x17) (hF18 : rF u 18 = x18) (hF20 : rF u 20 = nI ln) (hp0 : BG a) (hp1 : TE u tx sz1 p0) (hp2 : sz1 ≤ 700) (hp3 : GA a gg) (hp4 : kd tx sz1 p0 = 3) : Met l yX12_aVertex [.code yX12_aVertex cX12_aVertex 1 (some .boolean)] ({ frames := 3, cells := 0, slots := 0, locals := 120 }) (PR [.ref (b 0)] sz dC dI cs b u) (va_Qi (fun (r : Int32) (u' : RS) => ((r = 1 ∧ ((pVertex tx sz1 gg p0).1 = 0 ∧ TE u' tx sz1 (pVertex tx sz1 gg p0).2.1 ∧ GA (rA u' 1) (pVertex tx sz1 gg p0).2.2 ∧ rF u' 16 = 0 ∧ rF u' 17 = x17 ∧ rF u' 18 = x18)) ∨ (r = 0 ∧ ((pVertex tx sz1 gg p0).1 ≠ 0 ∧ FL u' (pVertex tx sz1 gg p0).1 (pVertex tx sz1 gg p0).2.1 ln))) ∧ (BG (rA u' 1)) ∧ (∀ k, 554 ≤ k → (rA u' 1) k = a k) ∧ (∃ k : Nat, k ≤ 9999 ∧ rF u' 15 = nI k) ∧ FR [1] [12, 13, 14, 15, 16, 17, 18] false u u') (BR dC dI cs b) (AR b sz)) 0 0 (AR b sz) := by
  refine Met.ofW (cc := cX12_aVertex) (maxL := 1) (ret := (some .boolean)) (by decide) rfl ?_
  intro p e s m args below meth c s₁ B hml hv
  obtain ⟨rfl, hsz, hP, hK, hJ, hE⟩ := hv
  have hx := B.exec
  have hb := B.bytes
  have hr := B.returns
  have hown : s.vm.findClass RX12 = some m.cls := findClass_of_methodNamed B.named
  have hlocks := B.notSynchronized
  subst hsz
  have hAL : ∀ i, i < 108 → AR b s.heap.size (b i) := fun i h => Or.inl ⟨i, h, rfl⟩
  have hA : ∀ q : Nat, s.heap.size ≤ q → AR b s.heap.size q := fun q h => Or.inr h
  have hS : va_S (AR b s.heap.size) s.heap s.heap [] := va_S.rf
  have hfr : FR [1] [12, 13, 14, 15, 16, 17, 18] false u u := FR.refl
  have hl := lv_entry ([.ref (b 0)]) (n := 1) (Nat.le_of_ble_eq_true rfl)
  rw [lg_entry_eq]
  generalize (lg_sl ([.ref (b 0)]) ++ List.replicate (1 - (lg_sl ([.ref (b 0)])).length) Slot.unset).toArray = ls at hl ⊢
  have hl : lv_has ls 1 [(0, .ref (b 0))] := hl
  have hB := hp0
  have hG := bg_g hp0
  have ha1 := gg_le hG
  have ha1b := bg_w hp0
  have hte3 : TE u tx sz1 p0 := hp1
  obtain ⟨te13_3, te14_3, te12_3, tep3, tv3, tvl3, te15_3, tvv3⟩ := hte3
  have tkf3 := kd_f tx sz1 p0
  have tna3 := tnd_le (tx := tx) tep3
  have tnb3 := fun h : p0 < sz1 => tnd_gt (tx := tx) h
  have ga1 := hp3.1
  have ga2 := hp3.2.1
  have ga3 := hp3.2.2.1
  refine lv_aload_n hx hb dX12_aVertex_0 rfl (lv_at hl 0 rfl) ?_
  refine lv_iconst (v := 0) hx hb dX12_aVertex_1 (by decide) ?_
  refine vp_callSi (va_Run.run (va_runV (As := [.int (nI 0)]) (rest := []) ⟨hx, hb, hml, hown, noTs⟩ (r_X12_of l dC dI s.heap.size cs b u a hA1 0 (by first | assumption | omega | rfl | (congr 1; omega))) ⟨cbE 1 (wd_1536 hE) (wd_126 hE) (wd_1533 hE) rfl rfl (by decide +kernel) ⟨Nat.le_of_ble_eq_true rfl, Nat.le_of_ble_eq_true rfl⟩, (wd_1535 hE), (wd_61 hE)⟩ ⟨PR.blind, r_recv hK hP rfl, (r_pre (av := [.ref (b 0), .int (nI 0)]) hK hP hJ hE)⟩ rfl rfl hl.1 rfl (lv_room (Nat.le_of_ble_eq_true rfl)) dX12_aVertex_2 ⟨Nat.le_of_ble_eq_true rfl, Nat.le_of_ble_eq_true rfl⟩)) (fun r7 hr7 => ?_)
  have hr7 := hr7.trans (gg_v hG)
  subst hr7
  refine lv_bipush (v := 6) hx hb dX12_aVertex_5 (by decide) ?_
  refine lv_icmp_ne (tgt := 17) hx hb dX12_aVertex_7 (by decide) (fun c8 => ?_) (fun c8 => ?_)
  · have c8 := mt (b_eq (nI_toInt (n := vN a) (by omega)) (show Int32.toInt 6 = 6 from rfl)).mpr c8
    refine lv_aload_n hx hb dX12_aVertex_17 rfl (lv_at hl 0 rfl) ?_
    refine rc_v hAL hS hA (va_runV (As := []) (rest := []) ⟨hx, hb, hml, hown, noTs⟩ (x_X12_ahead l dC dI s.heap.size cs b u tx hAc16 sz1 (tnd tx sz1 p0) tv3 hF11 te14_3 te15_3 (by first | assumption | omega | rfl | (congr 1; omega)) (by first | assumption | omega | rfl | (congr 1; omega)) (by first | assumption | omega | rfl | (congr 1; omega))) ⟨cbE 0 (wd_1506 hE) (wd_126 hE) (wd_1503 hE) rfl rfl (by decide +kernel) ⟨Nat.le_of_ble_eq_true rfl, Nat.le_of_ble_eq_true rfl⟩, (wd_1505 hE), (wd_56 hE)⟩ ⟨PR.blind, r_recv hK hP rfl, (r_pre (av := [.ref (b 0)]) hK hP hJ hE)⟩ rfl rfl hl.1 rfl (lv_room (Nat.le_of_ble_eq_true rfl)) dX12_aVertex_18 ⟨Nat.le_of_ble_eq_true rfl, Nat.le_of_ble_eq_true rfl⟩) (fun u9 H locs hpo9 hP hS => ?_)
    obtain ⟨h9_0, hq9⟩ := hpo9
    have hA10 := (hq9.1 1 List.not_mem_nil).trans hA1
    have hA11 := (hq9.1 16 List.not_mem_nil).trans hAc16
    have hF12x := (hq9.2.1 11 (by decide)).trans hF11
    have hF13x := (hq9.2.1 16 (by decide)).trans hF16
    have hF14x := (hq9.2.1 17 (by decide)).trans hF17
    have hF15x := (hq9.2.1 18 (by decide)).trans hF18
    have hF16x := (hq9.2.1 20 (by decide)).trans hF20
    have hfr := FR.step hfr hq9 (fun _ h => absurd h List.not_mem_nil) (by decide) (fun h => rfl)
    clear tkf3 tnb3
    have hte17 : TE u9 tx sz1 (nxt tx sz1 p0) := h9_0
    obtain ⟨te13_17, te14_17, te12_17, tep17, tv17, tvl17, te15_17, tvv17⟩ := hte17
    have tkf17 := kd_f tx sz1 (nxt tx sz1 p0)
    have tna17 := tnd_le (tx := tx) tep17
    have tnb17 := fun h : (nxt tx sz1 p0) < sz1 => tnd_gt (tx := tx) h
    refine lv_aload_n hx hb dX12_aVertex_21 rfl (lv_at hl 0 rfl) ?_
    refine rc_i hAL hS hA (va_runV (As := []) (rest := []) ⟨hx, hb, hml, hown, noTs⟩ (x_X12_isNumber l dC dI H.size cs b u9 tx hA11 sz1 (nxt tx sz1 p0) ln x17 x18 hF12x hF13x hF14x hF15x hF16x ⟨te13_17, te14_17, te12_17, by omega, _, by omega, te15_17, tvv17⟩ (by first | assumption | omega | rfl | (congr 1; omega))) ⟨cbE 0 (wd_1544 hE) (wd_126 hE) (wd_1541 hE) rfl rfl (by decide +kernel) ⟨Nat.le_of_ble_eq_true rfl, Nat.le_of_ble_eq_true rfl⟩, (wd_1543 hE), (wd_63 hE)⟩ ⟨PR.blind, r_recv hK hP rfl, (r_pre (av := [.ref (b 0)]) hK hP hJ hE)⟩ rfl rfl hl.1 rfl (lv_room (Nat.le_of_ble_eq_true rfl)) dX12_aVertex_22 ⟨Nat.le_of_ble_eq_true rfl, Nat.le_of_ble_eq_true rfl⟩) (fun r18 u18 H locs hpo18 hP hS => ?_)
    obtain ⟨hr18, hq18⟩ := hpo18
    have hA19 := (hq18.1 1 List.not_mem_nil).trans hA10
    have hA20 := (hq18.1 16 List.not_mem_nil).trans hA11
    have hF21x := (hq18.2.1 11 (by decide)).trans hF12x
    have hF22x := (hq18.2.1 20 (by decide)).trans hF16x
    have hF23x := (hq18.2.1 13 (by decide)).trans te13_17
    have hF24x := (hq18.2.1 14 (by decide)).trans te14_17
    have hF25x := (hq18.2.1 12 (by decide)).trans te12_17
    have hF26x := (hq18.2.1 15 (by decide)).trans te15_17
    have hfr := FR.step hfr hq18 (fun _ h => absurd h List.not_mem_nil) (by decide) (fun h => rfl)
    rcases hr18 with ⟨rfl, hb18⟩ | ⟨rfl, hb18⟩
    · have K6 := hb18.1
      have TV := tvv17 K6
      refine lv_if_ne (tgt := 30) hx hb dX12_aVertex_25 (by decide) (fun c27 => ?_) (fun c27 => absurd c27 (by decide))
      refine lv_aload_n hx hb dX12_aVertex_30 rfl (lv_at hl 0 rfl) ?_
      refine r_get (v := .int (nI tv17)) hx hb (ly_X12 hE) hown hK hP rfl 15 (by decide) (wd_1396 hE) (fun _ h9 => h9) (congrArg (fun z : Int32 => some (Value.int z)) hF26x) dX12_aVertex_31 ?_
      refine lv_iconst (v := 1) hx hb dX12_aVertex_34 (by decide) ?_
      refine lv_bipush (v := 60) hx hb dX12_aVertex_35 (by decide) ?_
      refine vp_callSi (va_Run.run (va_runS (As := [.int (nI tv17), .int 1, .int 60]) (rest := []) ⟨hx, hb, hml, hown, noTs⟩ (r_X12_isFrom l dC dI H.size cs b u18 a hA19 (nI tv17) 1 60 ((1 : Int)) ((60 : Int)) (show Int32.toInt 1 = 1 from rfl) (show Int32.toInt 60 = 60 from rfl)) ⟨cbE 3 (wd_1494 hE) (wd_126 hE) (wd_1492 hE) rfl rfl (by decide +kernel) ⟨Nat.le_of_ble_eq_true rfl, Nat.le_of_ble_eq_true rfl⟩, (wd_1493 hE)⟩ ⟨PR.blind, (r_pre (av := [.int (nI tv17), .int 1, .int 60]) hK hP hJ hE)⟩ rfl rfl hl.1 rfl (lv_room (Nat.le_of_ble_eq_true rfl)) dX12_aVertex_37 ⟨Nat.le_of_ble_eq_true rfl, Nat.le_of_ble_eq_true rfl⟩)) (fun r28 hr28 => ?_)
      rcases hr28 with ⟨rfl, hb28⟩ | ⟨rfl, hb28⟩
      · have hv15 := nI_toInt (n := tv17) (by omega)
        refine lv_if_ne (tgt := 49) hx hb dX12_aVertex_40 (by decide) (fun c29 => ?_) (fun c29 => absurd c29 (by decide))
        refine lv_aload_n hx hb dX12_aVertex_49 rfl (lv_at hl 0 rfl) ?_
        refine r_get (v := .ref (b 1)) hx hb (ly_X12 hE) hown hK hP rfl 0 (by decide) (wd_1381 hE) (fun _ h9 => h9) rfl dX12_aVertex_50 ?_
        refine lv_iconst (v := 4) hx hb dX12_aVertex_53 (by decide) ?_
        refine lv_aload_n hx hb dX12_aVertex_54 rfl (lv_at hl 0 rfl) ?_
        refine lv_iconst (v := 0) hx hb dX12_aVertex_55 (by decide) ?_
        refine vp_callSi (va_Run.run (va_runV (As := [.int (nI 0)]) (rest := [.int 4, .ref (b 1)]) ⟨hx, hb, hml, hown, noTs⟩ (r_X12_of l dC dI H.size cs b u18 a hA19 0 (by first | assumption | omega | rfl | (congr 1; omega))) ⟨cbE 1 (wd_1536 hE) (wd_126 hE) (wd_1533 hE) rfl rfl (by decide +kernel) ⟨Nat.le_of_ble_eq_true rfl, Nat.le_of_ble_eq_true rfl⟩, (wd_1535 hE), (wd_61 hE)⟩ ⟨PR.blind, r_recv hK hP rfl, (r_pre (av := [.ref (b 0), .int (nI 0)]) hK hP hJ hE)⟩ rfl rfl hl.1 rfl (lv_room (Nat.le_of_ble_eq_true rfl)) dX12_aVertex_56 ⟨Nat.le_of_ble_eq_true rfl, Nat.le_of_ble_eq_true rfl⟩)) (fun r30 hr30 => ?_)
        have hr30 := hr30.trans (gg_v hG)
        subst hr30
        refine lv_iadd hx hb dX12_aVertex_59 ?_
        refine W.eq (g2 := F0 m 60 ls [.int (nI (4 + (vN a))), .ref (b 1)]) (congrArg (fun z : Int32 => F0 m 60 ls (.int z :: [.ref (b 1)])) (nI_add 4 (vN a))) ?_
        refine lv_aload_n hx hb dX12_aVertex_60 rfl (lv_at hl 0 rfl) ?_
        refine r_get (v := .int (nI tv17)) hx hb (ly_X12 hE) hown hK hP rfl 15 (by decide) (wd_1396 hE) (fun _ h9 => h9) (congrArg (fun z : Int32 => some (Value.int z)) hF26x) dX12_aVertex_61 ?_
        refine r_iast (j := 1) (k := 4 + (vN a)) (n := 7202) (x := nI tv17) hx hb hK hP hJ hAL hS (by decide) (fun _ => rfl) hA19 (by omega) (by decide) dX12_aVertex_64 (fun u31 H locs hs31 hq31 hP hS => ?_)
        obtain ⟨w31, hw31⟩ : ∃ g, g = upd a (4 + (vN a)) (nI tv17) := ⟨_, rfl⟩
        rw [← hw31] at hs31
        have hA32 := (hq31.1 16 (by decide)).trans hA20
        have hF33x := (hq31.2.1 11 List.not_mem_nil).trans hF21x
        have hF34x := (hq31.2.1 20 List.not_mem_nil).trans hF22x
        have hF35x := (hq31.2.1 13 List.not_mem_nil).trans hF23x
        have hF36x := (hq31.2.1 14 List.not_mem_nil).trans hF24x
        have hF37x := (hq31.2.1 12 List.not_mem_nil).trans hF25x
        have hF38x := (hq31.2.1 15 List.not_mem_nil).trans hF26x
        have hF39x := (hq31.2.1 16 List.not_mem_nil).trans hb18.2.1
        have hF40x := (hq31.2.1 17 List.not_mem_nil).trans hb18.2.2.1
        have hF41x := (hq31.2.1 18 List.not_mem_nil).trans hb18.2.2.2
        have hfr := FR.step hfr hq31 (by decide) (fun _ h => absurd h List.not_mem_nil) (fun h => rfl)
        have K1 := hw31
        refine lv_aload_n hx hb dX12_aVertex_65 rfl (lv_at hl 0 rfl) ?_
        refine r_get (v := .ref (b 1)) hx hb (ly_X12 hE) hown hK hP rfl 0 (by decide) (wd_1381 hE) (fun _ h9 => h9) rfl dX12_aVertex_66 ?_
        refine lv_iconst (v := 0) hx hb dX12_aVertex_69 (by decide) ?_
        refine lv_dup2_11 hx hb dX12_aVertex_70 rfl rfl ?_
        refine r_iald (j := 1) (k := 0) (n := 7202) (x := nI (vN a)) hx hb hK hP (by decide) rfl (by decide) (by decide) (by rw [hs31]; exact (show w31 0 = nI (vN a) by rw [K1, pk_un (by omega)]; exact gg_v hG)) dX12_aVertex_71 ?_
        refine lv_iconst (v := 1) hx hb dX12_aVertex_72 (by decide) ?_
        refine lv_iadd hx hb dX12_aVertex_73 ?_
        refine W.eq (g2 := F0 m 74 ls [.int (nI ((vN a) + 1)), .int 0, .ref (b 1)]) (congrArg (fun z : Int32 => F0 m 74 ls (.int z :: [.int 0, .ref (b 1)])) (nI_add (vN a) 1)) ?_
        refine r_iast (j := 1) (k := 0) (n := 7202) (x := nI ((vN a) + 1)) hx hb hK hP hJ hAL hS (by decide) (fun _ => rfl) hs31 (by decide) (by decide) dX12_aVertex_74 (fun u43 H locs hs43 hq43 hP hS => ?_)
        obtain ⟨w43, hw43⟩ : ∃ g, g = upd w31 0 (nI ((vN a) + 1)) := ⟨_, rfl⟩
        rw [← hw43] at hs43
        have hA44 := (hq43.1 16 (by decide)).trans hA32
        have hF45x := (hq43.2.1 11 List.not_mem_nil).trans hF33x
        have hF46x := (hq43.2.1 20 List.not_mem_nil).trans hF34x
        have hF47x := (hq43.2.1 13 List.not_mem_nil).trans hF35x
        have hF48x := (hq43.2.1 14 List.not_mem_nil).trans hF36x
        have hF49x := (hq43.2.1 12 List.not_mem_nil).trans hF37x
        have hF50x := (hq43.2.1 15 List.not_mem_nil).trans hF38x
        have hF51x := (hq43.2.1 16 List.not_mem_nil).trans hF39x
        have hF52x := (hq43.2.1 17 List.not_mem_nil).trans hF40x
        have hF53x := (hq43.2.1 18 List.not_mem_nil).trans hF41x
        have hfr := FR.step hfr hq43 (by decide) (fun _ h => absurd h List.not_mem_nil) (fun h => rfl)
        have bgx := bg_vertex hp0 (by omega) (by omega) (by omega) K1 hw43
        have bgo : ∀ k, 554 ≤ k → w43 k = a k := fun k hk => by rw [hw43, pk_un (by omega), K1, pk_un (by omega)]
        have gax := ga_vertex hp3 (by omega) (by omega) K1 hw43
        refine lv_aload_n hx hb dX12_aVertex_75 rfl (lv_at hl 0 rfl) ?_
        refine rc_i hAL hS hA (va_runV (As := []) (rest := []) ⟨hx, hb, hml, hown, noTs⟩ (x_X12_takesOn l dC dI H.size cs b u43 tx hA44 sz1 (tnd tx sz1 (nxt tx sz1 p0)) tv17 hF45x hF48x hF50x (by first | assumption | omega | rfl | (congr 1; omega)) (by first | assumption | omega | rfl | (congr 1; omega)) (by first | assumption | omega | rfl | (congr 1; omega))) ⟨cbE 0 (wd_1548 hE) (wd_126 hE) (wd_1545 hE) rfl rfl (by decide +kernel) ⟨Nat.le_of_ble_eq_true rfl, Nat.le_of_ble_eq_true rfl⟩, (wd_1547 hE), (wd_64 hE)⟩ ⟨PR.blind, r_recv hK hP rfl, (r_pre (av := [.ref (b 0)]) hK hP hJ hE)⟩ rfl rfl hl.1 rfl (lv_room (Nat.le_of_ble_eq_true rfl)) dX12_aVertex_76 ⟨Nat.le_of_ble_eq_true rfl, Nat.le_of_ble_eq_true rfl⟩) (fun r54 u54 H locs hpo54 hP hS => ?_)
        obtain ⟨hr54, h54_0, hq54⟩ := hpo54
        have hA55 := (hq54.1 16 List.not_mem_nil).trans hA44
        have hA56 := (hq54.1 1 List.not_mem_nil).trans hs43
        have hF57x := (hq54.2.1 11 (by decide)).trans hF45x
        have hF58x := (hq54.2.1 20 (by decide)).trans hF46x
        have hF59x := (hq54.2.1 16 (by decide)).trans hF51x
        have hF60x := (hq54.2.1 17 (by decide)).trans hF52x
        have hF61x := (hq54.2.1 18 (by decide)).trans hF53x
        have hfr := FR.step hfr hq54 (fun _ h => absurd h List.not_mem_nil) (by decide) (fun h => rfl)
        clear tkf17 tnb17
        have hte62 : TE u54 tx sz1 (nxt tx sz1 (nxt tx sz1 p0)) := h54_0
        obtain ⟨te13_62, te14_62, te12_62, tep62, tv62, tvl62, te15_62, tvv62⟩ := hte62
        have tkf62 := kd_f tx sz1 (nxt tx sz1 (nxt tx sz1 p0))
        have tna62 := tnd_le (tx := tx) tep62
        have tnb62 := fun h : (nxt tx sz1 (nxt tx sz1 p0)) < sz1 => tnd_gt (tx := tx) h
        subst hr54
        exact W.zret (v := 1) hx hb hr rfl (fun t ht hW => ⟨⟨1, u54, rfl, ⟨Or.inl ⟨rfl, by rw [pv_ok (by omega) K6 (by omega)]; dsimp only; exact ⟨rfl, ⟨te13_62, te14_62, te12_62, by omega, _, by omega, te15_62, tvv62⟩, (by rw [hA56, ← TV]; exact gax), hF59x, hF60x, hF61x⟩⟩, (by first | (rw [hA56]; done) | (rw [hA56]; first | assumption | exact bgx)), (by first | (rw [hA56]; done) | (rw [hA56]; first | (intro k _; rfl) | exact bgo)), (by first | (rw [te15_62]; done) | (rw [te15_62]; refine ⟨_, ?_, rfl⟩; omega)), hfr⟩, (show va_P (dC, dI) vwCl (rW cs b u54) t.heap by rw [ht]; exact hP)⟩, hS.F ht⟩) hS.2.2 dX12_aVertex_79
      · have hv15 := nI_toInt (n := tv17) (by omega)
        refine lv_if_ne (tgt := 49) hx hb dX12_aVertex_40 (by decide) (fun c63 => absurd c63 (by decide)) (fun c63 => ?_)
        refine lv_aload_n hx hb dX12_aVertex_43 rfl (lv_at hl 0 rfl) ?_
        refine lv_iconst (v := 4) hx hb dX12_aVertex_44 (by decide) ?_
        refine rc_i hAL hS hA (va_runV (As := [.int (nI 4)]) (rest := []) ⟨hx, hb, hml, hown, noTs⟩ (x_X12_fails l dC dI H.size cs b u18 4 (tkr (kd tx sz1 (nxt tx sz1 p0))) (nxt tx sz1 p0) ln hb18.2.1 hF25x hF23x hF22x (by first | assumption | omega | rfl | (congr 1; omega))) ⟨cbE 1 (wd_1540 hE) (wd_126 hE) (wd_1537 hE) rfl rfl (by decide +kernel) ⟨Nat.le_of_ble_eq_true rfl, Nat.le_of_ble_eq_true rfl⟩, (wd_1539 hE), (wd_62 hE)⟩ ⟨PR.blind, r_recv hK hP rfl, (r_pre (av := [.ref (b 0), .int (nI 4)]) hK hP hJ hE)⟩ rfl rfl hl.1 rfl (lv_room (Nat.le_of_ble_eq_true rfl)) dX12_aVertex_45 ⟨Nat.le_of_ble_eq_true rfl, Nat.le_of_ble_eq_true rfl⟩) (fun r64 u64 H locs hpo64 hP hS => ?_)
        obtain ⟨hr64, h64_0, h64_1, h64_2, hq64⟩ := hpo64
        have hA65 := (hq64.1 1 List.not_mem_nil).trans hA19
        have hA66 := (hq64.1 16 List.not_mem_nil).trans hA20
        have hF67x := (hq64.2.1 11 (by decide)).trans hF21x
        have hF68x := (hq64.2.1 20 (by decide)).trans hF22x
        have hF69x := (hq64.2.1 13 (by decide)).trans hF23x
        have hF70x := (hq64.2.1 14 (by decide)).trans hF24x
        have hF71x := (hq64.2.1 12 (by decide)).trans hF25x
        have hF72x := (hq64.2.1 15 (by decide)).trans hF26x
        have hfr := FR.step hfr hq64 (fun _ h => absurd h List.not_mem_nil) (by decide) (fun h => rfl)
        subst hr64
        exact W.zret (v := 0) hx hb hr rfl (fun t ht hW => ⟨⟨0, u64, rfl, ⟨Or.inr ⟨rfl, by rw [pv_4 (by omega) K6 (by omega)]; dsimp only; exact ⟨by decide, ⟨by rw [h64_0, if_neg (by omega)], h64_1, h64_2⟩⟩⟩, (by first | (rw [hA65]; done) | (rw [hA65]; first | assumption | exact bgx)), (by first | (rw [hA65]; done) | (rw [hA65]; first | (intro k _; rfl) | exact bgo)), (by first | (rw [hF72x]; done) | (rw [hF72x]; refine ⟨_, ?_, rfl⟩; omega)), hfr⟩, (show va_P (dC, dI) vwCl (rW cs b u64) t.heap by rw [ht]; exact hP)⟩, hS.F ht⟩) hS.2.2 dX12_aVertex_48
    · have NN := hb18
      refine lv_if_ne (tgt := 30) hx hb dX12_aVertex_25 (by decide) (fun c73 => absurd c73 (by decide)) (fun c73 => ?_)
      refine lv_iconst (v := 0) hx hb dX12_aVertex_28 (by decide) ?_
      exact W.zret (v := 0) hx hb hr rfl (fun t ht hW => ⟨⟨0, u18, rfl, ⟨Or.inr ⟨rfl, by rw [pv_n (by omega) NN.1]; dsimp only; exact ⟨bad_ne, NN.2⟩⟩, (by first | (rw [hA19]; done) | (rw [hA19]; first | assumption | exact bgx)), (by first | (rw [hA19]; done) | (rw [hA19]; first | (intro k _; rfl) | exact bgo)), (by first | (rw [hF26x]; done) | (rw [hF26x]; refine ⟨_, ?_, rfl⟩; omega)), hfr⟩, (show va_P (dC, dI) vwCl (rW cs b u18) t.heap by rw [ht]; exact hP)⟩, hS.F ht⟩) hS.2.2 dX12_aVertex_29
  · have c8 := (b_eq (nI_toInt (n := vN a) (by omega)) (show Int32.toInt 6 = 6 from rfl)).mp c8
    refine lv_aload_n hx hb dX12_aVertex_10 rfl (lv_at hl 0 rfl) ?_
    refine lv_bipush (v := 6) hx hb dX12_aVertex_11 (by decide) ?_
    refine rc_i hAL hS hA (va_runV (As := [.int (nI 6)]) (rest := []) ⟨hx, hb, hml, hown, noTs⟩ (x_X12_fails l dC dI s.heap.size cs b u 6 (tkr (kd tx sz1 p0)) p0 ln hF16 te12_3 te13_3 hF20 (by first | assumption | omega | rfl | (congr 1; omega))) ⟨cbE 1 (wd_1540 hE) (wd_126 hE) (wd_1537 hE) rfl rfl (by decide +kernel) ⟨Nat.le_of_ble_eq_true rfl, Nat.le_of_ble_eq_true rfl⟩, (wd_1539 hE), (wd_62 hE)⟩ ⟨PR.blind, r_recv hK hP rfl, (r_pre (av := [.ref (b 0), .int (nI 6)]) hK hP hJ hE)⟩ rfl rfl hl.1 rfl (lv_room (Nat.le_of_ble_eq_true rfl)) dX12_aVertex_13 ⟨Nat.le_of_ble_eq_true rfl, Nat.le_of_ble_eq_true rfl⟩) (fun r74 u74 H locs hpo74 hP hS => ?_)
    obtain ⟨hr74, h74_0, h74_1, h74_2, hq74⟩ := hpo74
    have hA75 := (hq74.1 1 List.not_mem_nil).trans hA1
    have hA76 := (hq74.1 16 List.not_mem_nil).trans hAc16
    have hF77x := (hq74.2.1 11 (by decide)).trans hF11
    have hF78x := (hq74.2.1 20 (by decide)).trans hF20
    have hF79x := (hq74.2.1 13 (by decide)).trans te13_3
    have hF80x := (hq74.2.1 14 (by decide)).trans te14_3
    have hF81x := (hq74.2.1 12 (by decide)).trans te12_3
    have hF82x := (hq74.2.1 15 (by decide)).trans te15_3
    have hfr := FR.step hfr hq74 (fun _ h => absurd h List.not_mem_nil) (by decide) (fun h => rfl)
    subst hr74
    exact W.zret (v := 0) hx hb hr rfl (fun t ht hW => ⟨⟨0, u74, rfl, ⟨Or.inr ⟨rfl, by rw [pv_6 (by omega)]; dsimp only; exact ⟨by decide, ⟨by rw [h74_0, if_neg (by omega)], h74_1, h74_2⟩⟩⟩, (by first | (rw [hA75]; done) | (rw [hA75]; first | assumption | exact bgx)), (by first | (rw [hA75]; done) | (rw [hA75]; first | (intro k _; rfl) | exact bgo)), (by first | (rw [hF82x]; done) | (rw [hF82x]; refine ⟨_, ?_, rfl⟩; omega)), hfr⟩, (show va_P (dC, dI) vwCl (rW cs b u74) t.heap by rw [ht]; exact hP)⟩, hS.F ht⟩) hS.2.2 dX12_aVertex_16
