/-! the typed heap: which kind each cell is, how long an array is, where a final reference goes; contents are any that fit -/
abbrev GT : Type := (Nat → Nat) × (Nat → Nat) × (Nat → Nat → Nat) × List Nat
def gK (G : GT) (a : Nat) : Nat := G.1 a
def gN (G : GT) (a : Nat) : Nat := G.2.1 a
def gR (G : GT) (a k : Nat) : Nat := G.2.2.1 a k
def gL (G : GT) : List Nat := G.2.2.2
def Ty (G : GT) (a c : Nat) : Prop := a ∈ gL G ∧ gK G a = c
theorem Ty.ne {G : GT} {a b c d : Nat} (ha : Ty G a c) (hb : Ty G b d) (h : c ≠ d) : a ≠ b := fun e => h (by rw [← ha.2, ← hb.2, e])
abbrev TYS (cs : Nat → ClassId) : List (ClassId × FieldType) := [(cs 0, .int), (cs 1, .byte), (cs 2, .long), (cs 3, .object "GluedWords$Store"), (cs 4, .object "GluedWords$History")]
def WT (G : GT) : Prop := (∀ a, Ty G a 1 → Ty G (gR G a 0) 21 ∧ gN G (gR G a 0) = 24) ∧ (∀ a, Ty G a 1 → Ty G (gR G a 1) 21 ∧ gN G (gR G a 1) = 24) ∧ (∀ a, Ty G a 1 → Ty G (gR G a 2) 21 ∧ gN G (gR G a 2) = 24) ∧ (∀ a, Ty G a 1 → Ty G (gR G a 3) 10) ∧ (∀ a, Ty G a 2 → Ty G (gR G a 0) 23 ∧ gN G (gR G a 0) = 156) ∧ (∀ a, Ty G a 3 → Ty G (gR G a 0) 24 ∧ gN G (gR G a 0) = 8) ∧ (∀ a, Ty G a 4 → Ty G (gR G a 0) 10) ∧ (∀ a, Ty G a 4 → Ty G (gR G a 1) 10) ∧ (∀ a, Ty G a 4 → Ty G (gR G a 2) 10) ∧ (∀ a, Ty G a 4 → Ty G (gR G a 3) 10) ∧ (∀ a, Ty G a 4 → Ty G (gR G a 4) 1) ∧ (∀ a, Ty G a 4 → Ty G (gR G a 5) 21 ∧ gN G (gR G a 5) = 6) ∧ (∀ a, Ty G a 5 → Ty G (gR G a 0) 9) ∧ (∀ a, Ty G a 5 → Ty G (gR G a 1) 7) ∧ (∀ a, Ty G a 5 → Ty G (gR G a 2) 10) ∧ (∀ a, Ty G a 6 → Ty G (gR G a 0) 21 ∧ gN G (gR G a 0) = 6) ∧ (∀ a, Ty G a 7 → Ty G (gR G a 0) 21 ∧ gN G (gR G a 0) = 543) ∧ (∀ a, Ty G a 8 → Ty G (gR G a 0) 22 ∧ gN G (gR G a 0) = 178) ∧ (∀ a, Ty G a 9 → Ty G (gR G a 0) 21 ∧ gN G (gR G a 0) = 701) ∧ (∀ a, Ty G a 9 → Ty G (gR G a 1) 21 ∧ gN G (gR G a 1) = 701) ∧ (∀ a, Ty G a 9 → Ty G (gR G a 2) 21 ∧ gN G (gR G a 2) = 701) ∧ (∀ a, Ty G a 10 → Ty G (gR G a 0) 21 ∧ gN G (gR G a 0) = 73) ∧ (∀ a, Ty G a 10 → Ty G (gR G a 1) 21 ∧ gN G (gR G a 1) = 72) ∧ (∀ a, Ty G a 11 → Ty G (gR G a 0) 7) ∧ (∀ a, Ty G a 11 → Ty G (gR G a 1) 3) ∧ (∀ a, Ty G a 11 → Ty G (gR G a 2) 24 ∧ gN G (gR G a 2) = 3) ∧ (∀ a, Ty G a 11 → Ty G (gR G a 3) 25 ∧ gN G (gR G a 3) = 3) ∧ (∀ a, Ty G a 11 → Ty G (gR G a 9) 8) ∧ (∀ a, Ty G a 11 → Ty G (gR G a 10) 10) ∧ (∀ a, Ty G a 11 → Ty G (gR G a 11) 10) ∧ (∀ a, Ty G a 11 → Ty G (gR G a 12) 10) ∧ (∀ a, Ty G a 11 → Ty G (gR G a 13) 10) ∧ (∀ a, Ty G a 11 → Ty G (gR G a 14) 10) ∧ (∀ a, Ty G a 11 → Ty G (gR G a 15) 4) ∧ (∀ a, Ty G a 11 → Ty G (gR G a 16) 1) ∧ (∀ a, Ty G a 11 → Ty G (gR G a 17) 6) ∧ (∀ a, Ty G a 11 → Ty G (gR G a 18) 2) ∧ (∀ a, Ty G a 22 → gN G a ≤ 700) ∧ (∀ a i, Ty G a 24 → i < gN G a → Ty G (gR G a i) 7) ∧ (∀ a i, Ty G a 25 → i < gN G a → Ty G (gR G a i) 3) ∧ (∀ a b, Ty G a 11 → Ty G b 11 → a = b)
theorem wt_X0_0 {G : GT} (h : WT G) {a : Nat} (t : Ty G a 1) : Ty G (gR G a 0) 21 := (h.1 a t).1
theorem wl_X0_0 {G : GT} (h : WT G) {a : Nat} (t : Ty G a 1) : gN G (gR G a 0) = 24 := (h.1 a t).2
theorem wt_X0_1 {G : GT} (h : WT G) {a : Nat} (t : Ty G a 1) : Ty G (gR G a 1) 21 := (h.2.1 a t).1
theorem wl_X0_1 {G : GT} (h : WT G) {a : Nat} (t : Ty G a 1) : gN G (gR G a 1) = 24 := (h.2.1 a t).2
theorem wt_X0_2 {G : GT} (h : WT G) {a : Nat} (t : Ty G a 1) : Ty G (gR G a 2) 21 := (h.2.2.1 a t).1
theorem wl_X0_2 {G : GT} (h : WT G) {a : Nat} (t : Ty G a 1) : gN G (gR G a 2) = 24 := (h.2.2.1 a t).2
theorem wt_X0_3 {G : GT} (h : WT G) {a : Nat} (t : Ty G a 1) : Ty G (gR G a 3) 10 := (h.2.2.2.1 a t)
theorem wt_X1_0 {G : GT} (h : WT G) {a : Nat} (t : Ty G a 2) : Ty G (gR G a 0) 23 := (h.2.2.2.2.1 a t).1
theorem wl_X1_0 {G : GT} (h : WT G) {a : Nat} (t : Ty G a 2) : gN G (gR G a 0) = 156 := (h.2.2.2.2.1 a t).2
theorem wt_X3_0 {G : GT} (h : WT G) {a : Nat} (t : Ty G a 3) : Ty G (gR G a 0) 24 := (h.2.2.2.2.2.1 a t).1
theorem wl_X3_0 {G : GT} (h : WT G) {a : Nat} (t : Ty G a 3) : gN G (gR G a 0) = 8 := (h.2.2.2.2.2.1 a t).2
theorem wt_X4_0 {G : GT} (h : WT G) {a : Nat} (t : Ty G a 4) : Ty G (gR G a 0) 10 := (h.2.2.2.2.2.2.1 a t)
theorem wt_X4_1 {G : GT} (h : WT G) {a : Nat} (t : Ty G a 4) : Ty G (gR G a 1) 10 := (h.2.2.2.2.2.2.2.1 a t)
theorem wt_X4_2 {G : GT} (h : WT G) {a : Nat} (t : Ty G a 4) : Ty G (gR G a 2) 10 := (h.2.2.2.2.2.2.2.2.1 a t)
theorem wt_X4_3 {G : GT} (h : WT G) {a : Nat} (t : Ty G a 4) : Ty G (gR G a 3) 10 := (h.2.2.2.2.2.2.2.2.2.1 a t)
theorem wt_X4_4 {G : GT} (h : WT G) {a : Nat} (t : Ty G a 4) : Ty G (gR G a 4) 1 := (h.2.2.2.2.2.2.2.2.2.2.1 a t)
theorem wt_X4_5 {G : GT} (h : WT G) {a : Nat} (t : Ty G a 4) : Ty G (gR G a 5) 21 := (h.2.2.2.2.2.2.2.2.2.2.2.1 a t).1
theorem wl_X4_5 {G : GT} (h : WT G) {a : Nat} (t : Ty G a 4) : gN G (gR G a 5) = 6 := (h.2.2.2.2.2.2.2.2.2.2.2.1 a t).2
theorem wt_X5_0 {G : GT} (h : WT G) {a : Nat} (t : Ty G a 5) : Ty G (gR G a 0) 9 := (h.2.2.2.2.2.2.2.2.2.2.2.2.1 a t)
theorem wt_X5_1 {G : GT} (h : WT G) {a : Nat} (t : Ty G a 5) : Ty G (gR G a 1) 7 := (h.2.2.2.2.2.2.2.2.2.2.2.2.2.1 a t)
theorem wt_X5_2 {G : GT} (h : WT G) {a : Nat} (t : Ty G a 5) : Ty G (gR G a 2) 10 := (h.2.2.2.2.2.2.2.2.2.2.2.2.2.2.1 a t)
theorem wt_X6_0 {G : GT} (h : WT G) {a : Nat} (t : Ty G a 6) : Ty G (gR G a 0) 21 := (h.2.2.2.2.2.2.2.2.2.2.2.2.2.2.2.1 a t).1
theorem wl_X6_0 {G : GT} (h : WT G) {a : Nat} (t : Ty G a 6) : gN G (gR G a 0) = 6 := (h.2.2.2.2.2.2.2.2.2.2.2.2.2.2.2.1 a t).2
theorem wt_X7_0 {G : GT} (h : WT G) {a : Nat} (t : Ty G a 7) : Ty G (gR G a 0) 21 := (h.2.2.2.2.2.2.2.2.2.2.2.2.2.2.2.2.1 a t).1
theorem wl_X7_0 {G : GT} (h : WT G) {a : Nat} (t : Ty G a 7) : gN G (gR G a 0) = 543 := (h.2.2.2.2.2.2.2.2.2.2.2.2.2.2.2.2.1 a t).2
theorem wt_X8_0 {G : GT} (h : WT G) {a : Nat} (t : Ty G a 8) : Ty G (gR G a 0) 22 := (h.2.2.2.2.2.2.2.2.2.2.2.2.2.2.2.2.2.1 a t).1
theorem wl_X8_0 {G : GT} (h : WT G) {a : Nat} (t : Ty G a 8) : gN G (gR G a 0) = 178 := (h.2.2.2.2.2.2.2.2.2.2.2.2.2.2.2.2.2.1 a t).2
theorem wt_X9_0 {G : GT} (h : WT G) {a : Nat} (t : Ty G a 9) : Ty G (gR G a 0) 21 := (h.2.2.2.2.2.2.2.2.2.2.2.2.2.2.2.2.2.2.1 a t).1
theorem wl_X9_0 {G : GT} (h : WT G) {a : Nat} (t : Ty G a 9) : gN G (gR G a 0) = 701 := (h.2.2.2.2.2.2.2.2.2.2.2.2.2.2.2.2.2.2.1 a t).2
theorem wt_X9_1 {G : GT} (h : WT G) {a : Nat} (t : Ty G a 9) : Ty G (gR G a 1) 21 := (h.2.2.2.2.2.2.2.2.2.2.2.2.2.2.2.2.2.2.2.1 a t).1
theorem wl_X9_1 {G : GT} (h : WT G) {a : Nat} (t : Ty G a 9) : gN G (gR G a 1) = 701 := (h.2.2.2.2.2.2.2.2.2.2.2.2.2.2.2.2.2.2.2.1 a t).2
theorem wt_X9_2 {G : GT} (h : WT G) {a : Nat} (t : Ty G a 9) : Ty G (gR G a 2) 21 := (h.2.2.2.2.2.2.2.2.2.2.2.2.2.2.2.2.2.2.2.2.1 a t).1
theorem wl_X9_2 {G : GT} (h : WT G) {a : Nat} (t : Ty G a 9) : gN G (gR G a 2) = 701 := (h.2.2.2.2.2.2.2.2.2.2.2.2.2.2.2.2.2.2.2.2.1 a t).2
theorem wt_X10_0 {G : GT} (h : WT G) {a : Nat} (t : Ty G a 10) : Ty G (gR G a 0) 21 := (h.2.2.2.2.2.2.2.2.2.2.2.2.2.2.2.2.2.2.2.2.2.1 a t).1
theorem wl_X10_0 {G : GT} (h : WT G) {a : Nat} (t : Ty G a 10) : gN G (gR G a 0) = 73 := (h.2.2.2.2.2.2.2.2.2.2.2.2.2.2.2.2.2.2.2.2.2.1 a t).2
theorem wt_X10_1 {G : GT} (h : WT G) {a : Nat} (t : Ty G a 10) : Ty G (gR G a 1) 21 := (h.2.2.2.2.2.2.2.2.2.2.2.2.2.2.2.2.2.2.2.2.2.2.1 a t).1
theorem wl_X10_1 {G : GT} (h : WT G) {a : Nat} (t : Ty G a 10) : gN G (gR G a 1) = 72 := (h.2.2.2.2.2.2.2.2.2.2.2.2.2.2.2.2.2.2.2.2.2.2.1 a t).2
theorem wt_X11_0 {G : GT} (h : WT G) {a : Nat} (t : Ty G a 11) : Ty G (gR G a 0) 7 := (h.2.2.2.2.2.2.2.2.2.2.2.2.2.2.2.2.2.2.2.2.2.2.2.1 a t)
theorem wt_X11_1 {G : GT} (h : WT G) {a : Nat} (t : Ty G a 11) : Ty G (gR G a 1) 3 := (h.2.2.2.2.2.2.2.2.2.2.2.2.2.2.2.2.2.2.2.2.2.2.2.2.1 a t)
theorem wt_X11_2 {G : GT} (h : WT G) {a : Nat} (t : Ty G a 11) : Ty G (gR G a 2) 24 := (h.2.2.2.2.2.2.2.2.2.2.2.2.2.2.2.2.2.2.2.2.2.2.2.2.2.1 a t).1
theorem wl_X11_2 {G : GT} (h : WT G) {a : Nat} (t : Ty G a 11) : gN G (gR G a 2) = 3 := (h.2.2.2.2.2.2.2.2.2.2.2.2.2.2.2.2.2.2.2.2.2.2.2.2.2.1 a t).2
theorem wt_X11_3 {G : GT} (h : WT G) {a : Nat} (t : Ty G a 11) : Ty G (gR G a 3) 25 := (h.2.2.2.2.2.2.2.2.2.2.2.2.2.2.2.2.2.2.2.2.2.2.2.2.2.2.1 a t).1
theorem wl_X11_3 {G : GT} (h : WT G) {a : Nat} (t : Ty G a 11) : gN G (gR G a 3) = 3 := (h.2.2.2.2.2.2.2.2.2.2.2.2.2.2.2.2.2.2.2.2.2.2.2.2.2.2.1 a t).2
theorem wt_X11_9 {G : GT} (h : WT G) {a : Nat} (t : Ty G a 11) : Ty G (gR G a 9) 8 := (h.2.2.2.2.2.2.2.2.2.2.2.2.2.2.2.2.2.2.2.2.2.2.2.2.2.2.2.1 a t)
theorem wt_X11_10 {G : GT} (h : WT G) {a : Nat} (t : Ty G a 11) : Ty G (gR G a 10) 10 := (h.2.2.2.2.2.2.2.2.2.2.2.2.2.2.2.2.2.2.2.2.2.2.2.2.2.2.2.2.1 a t)
theorem wt_X11_11 {G : GT} (h : WT G) {a : Nat} (t : Ty G a 11) : Ty G (gR G a 11) 10 := (h.2.2.2.2.2.2.2.2.2.2.2.2.2.2.2.2.2.2.2.2.2.2.2.2.2.2.2.2.2.1 a t)
theorem wt_X11_12 {G : GT} (h : WT G) {a : Nat} (t : Ty G a 11) : Ty G (gR G a 12) 10 := (h.2.2.2.2.2.2.2.2.2.2.2.2.2.2.2.2.2.2.2.2.2.2.2.2.2.2.2.2.2.2.1 a t)
theorem wt_X11_13 {G : GT} (h : WT G) {a : Nat} (t : Ty G a 11) : Ty G (gR G a 13) 10 := (h.2.2.2.2.2.2.2.2.2.2.2.2.2.2.2.2.2.2.2.2.2.2.2.2.2.2.2.2.2.2.2.1 a t)
theorem wt_X11_14 {G : GT} (h : WT G) {a : Nat} (t : Ty G a 11) : Ty G (gR G a 14) 10 := (h.2.2.2.2.2.2.2.2.2.2.2.2.2.2.2.2.2.2.2.2.2.2.2.2.2.2.2.2.2.2.2.2.1 a t)
theorem wt_X11_15 {G : GT} (h : WT G) {a : Nat} (t : Ty G a 11) : Ty G (gR G a 15) 4 := (h.2.2.2.2.2.2.2.2.2.2.2.2.2.2.2.2.2.2.2.2.2.2.2.2.2.2.2.2.2.2.2.2.2.1 a t)
theorem wt_X11_16 {G : GT} (h : WT G) {a : Nat} (t : Ty G a 11) : Ty G (gR G a 16) 1 := (h.2.2.2.2.2.2.2.2.2.2.2.2.2.2.2.2.2.2.2.2.2.2.2.2.2.2.2.2.2.2.2.2.2.2.1 a t)
theorem wt_X11_17 {G : GT} (h : WT G) {a : Nat} (t : Ty G a 11) : Ty G (gR G a 17) 6 := (h.2.2.2.2.2.2.2.2.2.2.2.2.2.2.2.2.2.2.2.2.2.2.2.2.2.2.2.2.2.2.2.2.2.2.2.1 a t)
theorem wt_X11_18 {G : GT} (h : WT G) {a : Nat} (t : Ty G a 11) : Ty G (gR G a 18) 2 := (h.2.2.2.2.2.2.2.2.2.2.2.2.2.2.2.2.2.2.2.2.2.2.2.2.2.2.2.2.2.2.2.2.2.2.2.2.1 a t)
theorem wt_bytes {G : GT} (h : WT G) {a : Nat} (t : Ty G a 22) : gN G a ≤ 700 := h.2.2.2.2.2.2.2.2.2.2.2.2.2.2.2.2.2.2.2.2.2.2.2.2.2.2.2.2.2.2.2.2.2.2.2.2.2.1 a t
theorem wt_stores {G : GT} (h : WT G) {a i : Nat} (t : Ty G a 24) (hi : i < gN G a) : Ty G (gR G a i) 7 := h.2.2.2.2.2.2.2.2.2.2.2.2.2.2.2.2.2.2.2.2.2.2.2.2.2.2.2.2.2.2.2.2.2.2.2.2.2.2.1 a i t hi
theorem wt_hists {G : GT} (h : WT G) {a i : Nat} (t : Ty G a 25) (hi : i < gN G a) : Ty G (gR G a i) 3 := h.2.2.2.2.2.2.2.2.2.2.2.2.2.2.2.2.2.2.2.2.2.2.2.2.2.2.2.2.2.2.2.2.2.2.2.2.2.2.2.1 a i t hi
theorem wt_one {G : GT} (h : WT G) {a b : Nat} (t : Ty G a 11) (u : Ty G b 11) : a = b := h.2.2.2.2.2.2.2.2.2.2.2.2.2.2.2.2.2.2.2.2.2.2.2.2.2.2.2.2.2.2.2.2.2.2.2.2.2.2.2.2 a b t u
def OKc (G : GT) (cs : Nat → ClassId) (tt mm : Nat) (a : Nat) (e : va_E) : Prop := (gK G a = 1 → ∃ (y4 : Nat), Ty G y4 10 ∧ e = .inr (0, [.ref (gR G a 0), .ref (gR G a 1), .ref (gR G a 2), .ref (gR G a 3), .ref y4])) ∧ (gK G a = 2 → e = .inr (1, [.ref (gR G a 0)])) ∧ (gK G a = 3 → ∃ (y1 : Int32) (y2 : Int32), e = .inr (2, [.ref (gR G a 0), .int y1, .int y2])) ∧ (gK G a = 4 → ∃ (y6 : Int32) (y7 : Int32), e = .inr (3, [.ref (gR G a 0), .ref (gR G a 1), .ref (gR G a 2), .ref (gR G a 3), .ref (gR G a 4), .ref (gR G a 5), .int y6, .int y7])) ∧ (gK G a = 5 → ∃ (y3 : Int32) (y4 : Int32) (y5 : Int32) (y6 : Int32) (y7 : Int32) (y8 : Int32) (y9 : Int32), e = .inr (4, [.ref (gR G a 0), .ref (gR G a 1), .ref (gR G a 2), .int y3, .int y4, .int y5, .int y6, .int y7, .int y8, .int y9])) ∧ (gK G a = 6 → ∃ (y1 : Int64) (y2 : Int64), e = .inr (5, [.ref (gR G a 0), .long y1, .long y2])) ∧ (gK G a = 7 → e = .inr (6, [.ref (gR G a 0)])) ∧ (gK G a = 8 → ∃ (y1 : Int32), e = .inr (7, [.ref (gR G a 0), .int y1])) ∧ (gK G a = 9 → ∃ (y3 : Int32) (y4 : Nat) (y5 : Int32), Ty G y4 22 ∧ e = .inr (8, [.ref (gR G a 0), .ref (gR G a 1), .ref (gR G a 2), .int y3, .ref y4, .int y5])) ∧ (gK G a = 10 → ∃ (y2 : Int32) (y3 : Nat), y3 ≤ 72 ∧ e = .inr (9, [.ref (gR G a 0), .ref (gR G a 1), .int y2, .int (nI y3)])) ∧ (gK G a = 11 → ∃ (y5 : Int32), mm ≤ 3 ∧ tt ≤ 700 ∧ e = .inr (10, [.ref (gR G a 0), .ref (gR G a 1), .ref (gR G a 2), .ref (gR G a 3), .int (nI mm), .int y5, .ref (gR G a 6), .int (nI tt), .ref (gR G a 8), .ref (gR G a 9), .ref (gR G a 10), .ref (gR G a 11), .ref (gR G a 12), .ref (gR G a 13), .ref (gR G a 14), .ref (gR G a 15), .ref (gR G a 16), .ref (gR G a 17), .ref (gR G a 18)])) ∧ (gK G a = 21 → ∃ g : Nat → Int32, e = .inl (cs 0, gN G a, .inl g)) ∧ (gK G a = 22 → ∃ g : Nat → Int32, e = .inl (cs 1, gN G a, .inl g)) ∧ (gK G a = 23 → ∃ g : Nat → Int64, e = .inl (cs 2, gN G a, .inr (.inl g))) ∧ (gK G a = 24 → ∃ g : Nat → Option Nat, (∀ i, i < gN G a → g i = some (gR G a i)) ∧ e = .inl (cs 3, gN G a, .inr (.inr (.inr (.inr g))))) ∧ (gK G a = 25 → ∃ g : Nat → Option Nat, (∀ i, i < gN G a → g i = some (gR G a i)) ∧ e = .inl (cs 4, gN G a, .inr (.inr (.inr (.inr g)))))
def OKT (G : GT) (cs : Nat → ClassId) (tt mm : Nat) (f : Nat → va_E) : Prop := ∀ a, a ∈ gL G → OKc G cs tt mm a (f a)
theorem ok_X0 {G : GT} {cs : Nat → ClassId} {tt mm : Nat} {f : Nat → va_E} (h : OKT G cs tt mm f) {a : Nat} (t : Ty G a 1) : ∃ (y4 : Nat), Ty G y4 10 ∧ f a = .inr (0, [.ref (gR G a 0), .ref (gR G a 1), .ref (gR G a 2), .ref (gR G a 3), .ref y4]) := (h a t.1).1 t.2
theorem ok_X1 {G : GT} {cs : Nat → ClassId} {tt mm : Nat} {f : Nat → va_E} (h : OKT G cs tt mm f) {a : Nat} (t : Ty G a 2) : f a = .inr (1, [.ref (gR G a 0)]) := (h a t.1).2.1 t.2
theorem ok_X3 {G : GT} {cs : Nat → ClassId} {tt mm : Nat} {f : Nat → va_E} (h : OKT G cs tt mm f) {a : Nat} (t : Ty G a 3) : ∃ (y1 : Int32) (y2 : Int32), f a = .inr (2, [.ref (gR G a 0), .int y1, .int y2]) := (h a t.1).2.2.1 t.2
theorem ok_X4 {G : GT} {cs : Nat → ClassId} {tt mm : Nat} {f : Nat → va_E} (h : OKT G cs tt mm f) {a : Nat} (t : Ty G a 4) : ∃ (y6 : Int32) (y7 : Int32), f a = .inr (3, [.ref (gR G a 0), .ref (gR G a 1), .ref (gR G a 2), .ref (gR G a 3), .ref (gR G a 4), .ref (gR G a 5), .int y6, .int y7]) := (h a t.1).2.2.2.1 t.2
theorem ok_X5 {G : GT} {cs : Nat → ClassId} {tt mm : Nat} {f : Nat → va_E} (h : OKT G cs tt mm f) {a : Nat} (t : Ty G a 5) : ∃ (y3 : Int32) (y4 : Int32) (y5 : Int32) (y6 : Int32) (y7 : Int32) (y8 : Int32) (y9 : Int32), f a = .inr (4, [.ref (gR G a 0), .ref (gR G a 1), .ref (gR G a 2), .int y3, .int y4, .int y5, .int y6, .int y7, .int y8, .int y9]) := (h a t.1).2.2.2.2.1 t.2
theorem ok_X6 {G : GT} {cs : Nat → ClassId} {tt mm : Nat} {f : Nat → va_E} (h : OKT G cs tt mm f) {a : Nat} (t : Ty G a 6) : ∃ (y1 : Int64) (y2 : Int64), f a = .inr (5, [.ref (gR G a 0), .long y1, .long y2]) := (h a t.1).2.2.2.2.2.1 t.2
theorem ok_X7 {G : GT} {cs : Nat → ClassId} {tt mm : Nat} {f : Nat → va_E} (h : OKT G cs tt mm f) {a : Nat} (t : Ty G a 7) : f a = .inr (6, [.ref (gR G a 0)]) := (h a t.1).2.2.2.2.2.2.1 t.2
theorem ok_X8 {G : GT} {cs : Nat → ClassId} {tt mm : Nat} {f : Nat → va_E} (h : OKT G cs tt mm f) {a : Nat} (t : Ty G a 8) : ∃ (y1 : Int32), f a = .inr (7, [.ref (gR G a 0), .int y1]) := (h a t.1).2.2.2.2.2.2.2.1 t.2
theorem ok_X9 {G : GT} {cs : Nat → ClassId} {tt mm : Nat} {f : Nat → va_E} (h : OKT G cs tt mm f) {a : Nat} (t : Ty G a 9) : ∃ (y3 : Int32) (y4 : Nat) (y5 : Int32), Ty G y4 22 ∧ f a = .inr (8, [.ref (gR G a 0), .ref (gR G a 1), .ref (gR G a 2), .int y3, .ref y4, .int y5]) := (h a t.1).2.2.2.2.2.2.2.2.1 t.2
theorem ok_X10 {G : GT} {cs : Nat → ClassId} {tt mm : Nat} {f : Nat → va_E} (h : OKT G cs tt mm f) {a : Nat} (t : Ty G a 10) : ∃ (y2 : Int32) (y3 : Nat), y3 ≤ 72 ∧ f a = .inr (9, [.ref (gR G a 0), .ref (gR G a 1), .int y2, .int (nI y3)]) := (h a t.1).2.2.2.2.2.2.2.2.2.1 t.2
theorem ok_X11 {G : GT} {cs : Nat → ClassId} {tt mm : Nat} {f : Nat → va_E} (h : OKT G cs tt mm f) {a : Nat} (t : Ty G a 11) : ∃ (y5 : Int32), mm ≤ 3 ∧ tt ≤ 700 ∧ f a = .inr (10, [.ref (gR G a 0), .ref (gR G a 1), .ref (gR G a 2), .ref (gR G a 3), .int (nI mm), .int y5, .ref (gR G a 6), .int (nI tt), .ref (gR G a 8), .ref (gR G a 9), .ref (gR G a 10), .ref (gR G a 11), .ref (gR G a 12), .ref (gR G a 13), .ref (gR G a 14), .ref (gR G a 15), .ref (gR G a 16), .ref (gR G a 17), .ref (gR G a 18)]) := (h a t.1).2.2.2.2.2.2.2.2.2.2.1 t.2
theorem ok_21 {G : GT} {cs : Nat → ClassId} {tt mm : Nat} {f : Nat → va_E} (h : OKT G cs tt mm f) {a : Nat} (t : Ty G a 21) : ∃ g : Nat → Int32, f a = .inl (cs 0, gN G a, .inl g) := (h a t.1).2.2.2.2.2.2.2.2.2.2.2.1 t.2
theorem ok_22 {G : GT} {cs : Nat → ClassId} {tt mm : Nat} {f : Nat → va_E} (h : OKT G cs tt mm f) {a : Nat} (t : Ty G a 22) : ∃ g : Nat → Int32, f a = .inl (cs 1, gN G a, .inl g) := (h a t.1).2.2.2.2.2.2.2.2.2.2.2.2.1 t.2
theorem ok_23 {G : GT} {cs : Nat → ClassId} {tt mm : Nat} {f : Nat → va_E} (h : OKT G cs tt mm f) {a : Nat} (t : Ty G a 23) : ∃ g : Nat → Int64, f a = .inl (cs 2, gN G a, .inr (.inl g)) := (h a t.1).2.2.2.2.2.2.2.2.2.2.2.2.2.1 t.2
theorem ok_24 {G : GT} {cs : Nat → ClassId} {tt mm : Nat} {f : Nat → va_E} (h : OKT G cs tt mm f) {a : Nat} (t : Ty G a 24) : ∃ g : Nat → Option Nat, (∀ i, i < gN G a → g i = some (gR G a i)) ∧ f a = .inl (cs 3, gN G a, .inr (.inr (.inr (.inr g)))) := (h a t.1).2.2.2.2.2.2.2.2.2.2.2.2.2.2.1 t.2
theorem ok_25 {G : GT} {cs : Nat → ClassId} {tt mm : Nat} {f : Nat → va_E} (h : OKT G cs tt mm f) {a : Nat} (t : Ty G a 25) : ∃ g : Nat → Option Nat, (∀ i, i < gN G a → g i = some (gR G a i)) ∧ f a = .inl (cs 4, gN G a, .inr (.inr (.inr (.inr g)))) := (h a t.1).2.2.2.2.2.2.2.2.2.2.2.2.2.2.2 t.2
theorem up_X0 {G : GT} {cs : Nat → ClassId} {tt mm : Nat} {f : Nat → va_E} (h : OKT G cs tt mm f) {a : Nat} (t : Ty G a 1) {e : va_E} (hn : ∃ (y4 : Nat), Ty G y4 10 ∧ e = .inr (0, [.ref (gR G a 0), .ref (gR G a 1), .ref (gR G a 2), .ref (gR G a 3), .ref y4])) : OKT G cs tt mm (va_up f a e) := fun b hb => by
  by_cases q : b = a
  · subst q
    rw [va_up_self]
    exact ⟨fun _ => hn, fun q => absurd (t.2.symm.trans q) (by decide), fun q => absurd (t.2.symm.trans q) (by decide), fun q => absurd (t.2.symm.trans q) (by decide), fun q => absurd (t.2.symm.trans q) (by decide), fun q => absurd (t.2.symm.trans q) (by decide), fun q => absurd (t.2.symm.trans q) (by decide), fun q => absurd (t.2.symm.trans q) (by decide), fun q => absurd (t.2.symm.trans q) (by decide), fun q => absurd (t.2.symm.trans q) (by decide), fun q => absurd (t.2.symm.trans q) (by decide), fun q => absurd (t.2.symm.trans q) (by decide), fun q => absurd (t.2.symm.trans q) (by decide), fun q => absurd (t.2.symm.trans q) (by decide), fun q => absurd (t.2.symm.trans q) (by decide), fun q => absurd (t.2.symm.trans q) (by decide)⟩
  · rw [va_up_ne f e q]
    exact h b hb
theorem up_X1 {G : GT} {cs : Nat → ClassId} {tt mm : Nat} {f : Nat → va_E} (h : OKT G cs tt mm f) {a : Nat} (t : Ty G a 2) {e : va_E} (hn : e = .inr (1, [.ref (gR G a 0)])) : OKT G cs tt mm (va_up f a e) := fun b hb => by
  by_cases q : b = a
  · subst q
    rw [va_up_self]
    exact ⟨fun q => absurd (t.2.symm.trans q) (by decide), fun _ => hn, fun q => absurd (t.2.symm.trans q) (by decide), fun q => absurd (t.2.symm.trans q) (by decide), fun q => absurd (t.2.symm.trans q) (by decide), fun q => absurd (t.2.symm.trans q) (by decide), fun q => absurd (t.2.symm.trans q) (by decide), fun q => absurd (t.2.symm.trans q) (by decide), fun q => absurd (t.2.symm.trans q) (by decide), fun q => absurd (t.2.symm.trans q) (by decide), fun q => absurd (t.2.symm.trans q) (by decide), fun q => absurd (t.2.symm.trans q) (by decide), fun q => absurd (t.2.symm.trans q) (by decide), fun q => absurd (t.2.symm.trans q) (by decide), fun q => absurd (t.2.symm.trans q) (by decide), fun q => absurd (t.2.symm.trans q) (by decide)⟩
  · rw [va_up_ne f e q]
    exact h b hb
theorem up_X3 {G : GT} {cs : Nat → ClassId} {tt mm : Nat} {f : Nat → va_E} (h : OKT G cs tt mm f) {a : Nat} (t : Ty G a 3) {e : va_E} (hn : ∃ (y1 : Int32) (y2 : Int32), e = .inr (2, [.ref (gR G a 0), .int y1, .int y2])) : OKT G cs tt mm (va_up f a e) := fun b hb => by
  by_cases q : b = a
  · subst q
    rw [va_up_self]
    exact ⟨fun q => absurd (t.2.symm.trans q) (by decide), fun q => absurd (t.2.symm.trans q) (by decide), fun _ => hn, fun q => absurd (t.2.symm.trans q) (by decide), fun q => absurd (t.2.symm.trans q) (by decide), fun q => absurd (t.2.symm.trans q) (by decide), fun q => absurd (t.2.symm.trans q) (by decide), fun q => absurd (t.2.symm.trans q) (by decide), fun q => absurd (t.2.symm.trans q) (by decide), fun q => absurd (t.2.symm.trans q) (by decide), fun q => absurd (t.2.symm.trans q) (by decide), fun q => absurd (t.2.symm.trans q) (by decide), fun q => absurd (t.2.symm.trans q) (by decide), fun q => absurd (t.2.symm.trans q) (by decide), fun q => absurd (t.2.symm.trans q) (by decide), fun q => absurd (t.2.symm.trans q) (by decide)⟩
  · rw [va_up_ne f e q]
    exact h b hb
theorem up_X4 {G : GT} {cs : Nat → ClassId} {tt mm : Nat} {f : Nat → va_E} (h : OKT G cs tt mm f) {a : Nat} (t : Ty G a 4) {e : va_E} (hn : ∃ (y6 : Int32) (y7 : Int32), e = .inr (3, [.ref (gR G a 0), .ref (gR G a 1), .ref (gR G a 2), .ref (gR G a 3), .ref (gR G a 4), .ref (gR G a 5), .int y6, .int y7])) : OKT G cs tt mm (va_up f a e) := fun b hb => by
  by_cases q : b = a
  · subst q
    rw [va_up_self]
    exact ⟨fun q => absurd (t.2.symm.trans q) (by decide), fun q => absurd (t.2.symm.trans q) (by decide), fun q => absurd (t.2.symm.trans q) (by decide), fun _ => hn, fun q => absurd (t.2.symm.trans q) (by decide), fun q => absurd (t.2.symm.trans q) (by decide), fun q => absurd (t.2.symm.trans q) (by decide), fun q => absurd (t.2.symm.trans q) (by decide), fun q => absurd (t.2.symm.trans q) (by decide), fun q => absurd (t.2.symm.trans q) (by decide), fun q => absurd (t.2.symm.trans q) (by decide), fun q => absurd (t.2.symm.trans q) (by decide), fun q => absurd (t.2.symm.trans q) (by decide), fun q => absurd (t.2.symm.trans q) (by decide), fun q => absurd (t.2.symm.trans q) (by decide), fun q => absurd (t.2.symm.trans q) (by decide)⟩
  · rw [va_up_ne f e q]
    exact h b hb
theorem up_X5 {G : GT} {cs : Nat → ClassId} {tt mm : Nat} {f : Nat → va_E} (h : OKT G cs tt mm f) {a : Nat} (t : Ty G a 5) {e : va_E} (hn : ∃ (y3 : Int32) (y4 : Int32) (y5 : Int32) (y6 : Int32) (y7 : Int32) (y8 : Int32) (y9 : Int32), e = .inr (4, [.ref (gR G a 0), .ref (gR G a 1), .ref (gR G a 2), .int y3, .int y4, .int y5, .int y6, .int y7, .int y8, .int y9])) : OKT G cs tt mm (va_up f a e) := fun b hb => by
  by_cases q : b = a
  · subst q
    rw [va_up_self]
    exact ⟨fun q => absurd (t.2.symm.trans q) (by decide), fun q => absurd (t.2.symm.trans q) (by decide), fun q => absurd (t.2.symm.trans q) (by decide), fun q => absurd (t.2.symm.trans q) (by decide), fun _ => hn, fun q => absurd (t.2.symm.trans q) (by decide), fun q => absurd (t.2.symm.trans q) (by decide), fun q => absurd (t.2.symm.trans q) (by decide), fun q => absurd (t.2.symm.trans q) (by decide), fun q => absurd (t.2.symm.trans q) (by decide), fun q => absurd (t.2.symm.trans q) (by decide), fun q => absurd (t.2.symm.trans q) (by decide), fun q => absurd (t.2.symm.trans q) (by decide), fun q => absurd (t.2.symm.trans q) (by decide), fun q => absurd (t.2.symm.trans q) (by decide), fun q => absurd (t.2.symm.trans q) (by decide)⟩
  · rw [va_up_ne f e q]
    exact h b hb
theorem up_X6 {G : GT} {cs : Nat → ClassId} {tt mm : Nat} {f : Nat → va_E} (h : OKT G cs tt mm f) {a : Nat} (t : Ty G a 6) {e : va_E} (hn : ∃ (y1 : Int64) (y2 : Int64), e = .inr (5, [.ref (gR G a 0), .long y1, .long y2])) : OKT G cs tt mm (va_up f a e) := fun b hb => by
  by_cases q : b = a
  · subst q
    rw [va_up_self]
    exact ⟨fun q => absurd (t.2.symm.trans q) (by decide), fun q => absurd (t.2.symm.trans q) (by decide), fun q => absurd (t.2.symm.trans q) (by decide), fun q => absurd (t.2.symm.trans q) (by decide), fun q => absurd (t.2.symm.trans q) (by decide), fun _ => hn, fun q => absurd (t.2.symm.trans q) (by decide), fun q => absurd (t.2.symm.trans q) (by decide), fun q => absurd (t.2.symm.trans q) (by decide), fun q => absurd (t.2.symm.trans q) (by decide), fun q => absurd (t.2.symm.trans q) (by decide), fun q => absurd (t.2.symm.trans q) (by decide), fun q => absurd (t.2.symm.trans q) (by decide), fun q => absurd (t.2.symm.trans q) (by decide), fun q => absurd (t.2.symm.trans q) (by decide), fun q => absurd (t.2.symm.trans q) (by decide)⟩
  · rw [va_up_ne f e q]
    exact h b hb
theorem up_X7 {G : GT} {cs : Nat → ClassId} {tt mm : Nat} {f : Nat → va_E} (h : OKT G cs tt mm f) {a : Nat} (t : Ty G a 7) {e : va_E} (hn : e = .inr (6, [.ref (gR G a 0)])) : OKT G cs tt mm (va_up f a e) := fun b hb => by
  by_cases q : b = a
  · subst q
    rw [va_up_self]
    exact ⟨fun q => absurd (t.2.symm.trans q) (by decide), fun q => absurd (t.2.symm.trans q) (by decide), fun q => absurd (t.2.symm.trans q) (by decide), fun q => absurd (t.2.symm.trans q) (by decide), fun q => absurd (t.2.symm.trans q) (by decide), fun q => absurd (t.2.symm.trans q) (by decide), fun _ => hn, fun q => absurd (t.2.symm.trans q) (by decide), fun q => absurd (t.2.symm.trans q) (by decide), fun q => absurd (t.2.symm.trans q) (by decide), fun q => absurd (t.2.symm.trans q) (by decide), fun q => absurd (t.2.symm.trans q) (by decide), fun q => absurd (t.2.symm.trans q) (by decide), fun q => absurd (t.2.symm.trans q) (by decide), fun q => absurd (t.2.symm.trans q) (by decide), fun q => absurd (t.2.symm.trans q) (by decide)⟩
  · rw [va_up_ne f e q]
    exact h b hb
theorem up_X8 {G : GT} {cs : Nat → ClassId} {tt mm : Nat} {f : Nat → va_E} (h : OKT G cs tt mm f) {a : Nat} (t : Ty G a 8) {e : va_E} (hn : ∃ (y1 : Int32), e = .inr (7, [.ref (gR G a 0), .int y1])) : OKT G cs tt mm (va_up f a e) := fun b hb => by
  by_cases q : b = a
  · subst q
    rw [va_up_self]
    exact ⟨fun q => absurd (t.2.symm.trans q) (by decide), fun q => absurd (t.2.symm.trans q) (by decide), fun q => absurd (t.2.symm.trans q) (by decide), fun q => absurd (t.2.symm.trans q) (by decide), fun q => absurd (t.2.symm.trans q) (by decide), fun q => absurd (t.2.symm.trans q) (by decide), fun q => absurd (t.2.symm.trans q) (by decide), fun _ => hn, fun q => absurd (t.2.symm.trans q) (by decide), fun q => absurd (t.2.symm.trans q) (by decide), fun q => absurd (t.2.symm.trans q) (by decide), fun q => absurd (t.2.symm.trans q) (by decide), fun q => absurd (t.2.symm.trans q) (by decide), fun q => absurd (t.2.symm.trans q) (by decide), fun q => absurd (t.2.symm.trans q) (by decide), fun q => absurd (t.2.symm.trans q) (by decide)⟩
  · rw [va_up_ne f e q]
    exact h b hb
theorem up_X9 {G : GT} {cs : Nat → ClassId} {tt mm : Nat} {f : Nat → va_E} (h : OKT G cs tt mm f) {a : Nat} (t : Ty G a 9) {e : va_E} (hn : ∃ (y3 : Int32) (y4 : Nat) (y5 : Int32), Ty G y4 22 ∧ e = .inr (8, [.ref (gR G a 0), .ref (gR G a 1), .ref (gR G a 2), .int y3, .ref y4, .int y5])) : OKT G cs tt mm (va_up f a e) := fun b hb => by
  by_cases q : b = a
  · subst q
    rw [va_up_self]
    exact ⟨fun q => absurd (t.2.symm.trans q) (by decide), fun q => absurd (t.2.symm.trans q) (by decide), fun q => absurd (t.2.symm.trans q) (by decide), fun q => absurd (t.2.symm.trans q) (by decide), fun q => absurd (t.2.symm.trans q) (by decide), fun q => absurd (t.2.symm.trans q) (by decide), fun q => absurd (t.2.symm.trans q) (by decide), fun q => absurd (t.2.symm.trans q) (by decide), fun _ => hn, fun q => absurd (t.2.symm.trans q) (by decide), fun q => absurd (t.2.symm.trans q) (by decide), fun q => absurd (t.2.symm.trans q) (by decide), fun q => absurd (t.2.symm.trans q) (by decide), fun q => absurd (t.2.symm.trans q) (by decide), fun q => absurd (t.2.symm.trans q) (by decide), fun q => absurd (t.2.symm.trans q) (by decide)⟩
  · rw [va_up_ne f e q]
    exact h b hb
theorem up_X10 {G : GT} {cs : Nat → ClassId} {tt mm : Nat} {f : Nat → va_E} (h : OKT G cs tt mm f) {a : Nat} (t : Ty G a 10) {e : va_E} (hn : ∃ (y2 : Int32) (y3 : Nat), y3 ≤ 72 ∧ e = .inr (9, [.ref (gR G a 0), .ref (gR G a 1), .int y2, .int (nI y3)])) : OKT G cs tt mm (va_up f a e) := fun b hb => by
  by_cases q : b = a
  · subst q
    rw [va_up_self]
    exact ⟨fun q => absurd (t.2.symm.trans q) (by decide), fun q => absurd (t.2.symm.trans q) (by decide), fun q => absurd (t.2.symm.trans q) (by decide), fun q => absurd (t.2.symm.trans q) (by decide), fun q => absurd (t.2.symm.trans q) (by decide), fun q => absurd (t.2.symm.trans q) (by decide), fun q => absurd (t.2.symm.trans q) (by decide), fun q => absurd (t.2.symm.trans q) (by decide), fun q => absurd (t.2.symm.trans q) (by decide), fun _ => hn, fun q => absurd (t.2.symm.trans q) (by decide), fun q => absurd (t.2.symm.trans q) (by decide), fun q => absurd (t.2.symm.trans q) (by decide), fun q => absurd (t.2.symm.trans q) (by decide), fun q => absurd (t.2.symm.trans q) (by decide), fun q => absurd (t.2.symm.trans q) (by decide)⟩
  · rw [va_up_ne f e q]
    exact h b hb
theorem up_X11 {G : GT} {cs : Nat → ClassId} {tt mm : Nat} {f : Nat → va_E} (h : OKT G cs tt mm f) {a : Nat} (t : Ty G a 11) {e : va_E} (hn : ∃ (y5 : Int32), mm ≤ 3 ∧ tt ≤ 700 ∧ e = .inr (10, [.ref (gR G a 0), .ref (gR G a 1), .ref (gR G a 2), .ref (gR G a 3), .int (nI mm), .int y5, .ref (gR G a 6), .int (nI tt), .ref (gR G a 8), .ref (gR G a 9), .ref (gR G a 10), .ref (gR G a 11), .ref (gR G a 12), .ref (gR G a 13), .ref (gR G a 14), .ref (gR G a 15), .ref (gR G a 16), .ref (gR G a 17), .ref (gR G a 18)])) : OKT G cs tt mm (va_up f a e) := fun b hb => by
  by_cases q : b = a
  · subst q
    rw [va_up_self]
    exact ⟨fun q => absurd (t.2.symm.trans q) (by decide), fun q => absurd (t.2.symm.trans q) (by decide), fun q => absurd (t.2.symm.trans q) (by decide), fun q => absurd (t.2.symm.trans q) (by decide), fun q => absurd (t.2.symm.trans q) (by decide), fun q => absurd (t.2.symm.trans q) (by decide), fun q => absurd (t.2.symm.trans q) (by decide), fun q => absurd (t.2.symm.trans q) (by decide), fun q => absurd (t.2.symm.trans q) (by decide), fun q => absurd (t.2.symm.trans q) (by decide), fun _ => hn, fun q => absurd (t.2.symm.trans q) (by decide), fun q => absurd (t.2.symm.trans q) (by decide), fun q => absurd (t.2.symm.trans q) (by decide), fun q => absurd (t.2.symm.trans q) (by decide), fun q => absurd (t.2.symm.trans q) (by decide)⟩
  · rw [va_up_ne f e q]
    exact h b hb
theorem up_21 {G : GT} {cs : Nat → ClassId} {tt mm : Nat} {f : Nat → va_E} (h : OKT G cs tt mm f) {a : Nat} (t : Ty G a 21) {e : va_E} (hn : ∃ g : Nat → Int32, e = .inl (cs 0, gN G a, .inl g)) : OKT G cs tt mm (va_up f a e) := fun b hb => by
  by_cases q : b = a
  · subst q
    rw [va_up_self]
    exact ⟨fun q => absurd (t.2.symm.trans q) (by decide), fun q => absurd (t.2.symm.trans q) (by decide), fun q => absurd (t.2.symm.trans q) (by decide), fun q => absurd (t.2.symm.trans q) (by decide), fun q => absurd (t.2.symm.trans q) (by decide), fun q => absurd (t.2.symm.trans q) (by decide), fun q => absurd (t.2.symm.trans q) (by decide), fun q => absurd (t.2.symm.trans q) (by decide), fun q => absurd (t.2.symm.trans q) (by decide), fun q => absurd (t.2.symm.trans q) (by decide), fun q => absurd (t.2.symm.trans q) (by decide), fun _ => hn, fun q => absurd (t.2.symm.trans q) (by decide), fun q => absurd (t.2.symm.trans q) (by decide), fun q => absurd (t.2.symm.trans q) (by decide), fun q => absurd (t.2.symm.trans q) (by decide)⟩
  · rw [va_up_ne f e q]
    exact h b hb
theorem up_22 {G : GT} {cs : Nat → ClassId} {tt mm : Nat} {f : Nat → va_E} (h : OKT G cs tt mm f) {a : Nat} (t : Ty G a 22) {e : va_E} (hn : ∃ g : Nat → Int32, e = .inl (cs 1, gN G a, .inl g)) : OKT G cs tt mm (va_up f a e) := fun b hb => by
  by_cases q : b = a
  · subst q
    rw [va_up_self]
    exact ⟨fun q => absurd (t.2.symm.trans q) (by decide), fun q => absurd (t.2.symm.trans q) (by decide), fun q => absurd (t.2.symm.trans q) (by decide), fun q => absurd (t.2.symm.trans q) (by decide), fun q => absurd (t.2.symm.trans q) (by decide), fun q => absurd (t.2.symm.trans q) (by decide), fun q => absurd (t.2.symm.trans q) (by decide), fun q => absurd (t.2.symm.trans q) (by decide), fun q => absurd (t.2.symm.trans q) (by decide), fun q => absurd (t.2.symm.trans q) (by decide), fun q => absurd (t.2.symm.trans q) (by decide), fun q => absurd (t.2.symm.trans q) (by decide), fun _ => hn, fun q => absurd (t.2.symm.trans q) (by decide), fun q => absurd (t.2.symm.trans q) (by decide), fun q => absurd (t.2.symm.trans q) (by decide)⟩
  · rw [va_up_ne f e q]
    exact h b hb
theorem up_23 {G : GT} {cs : Nat → ClassId} {tt mm : Nat} {f : Nat → va_E} (h : OKT G cs tt mm f) {a : Nat} (t : Ty G a 23) {e : va_E} (hn : ∃ g : Nat → Int64, e = .inl (cs 2, gN G a, .inr (.inl g))) : OKT G cs tt mm (va_up f a e) := fun b hb => by
  by_cases q : b = a
  · subst q
    rw [va_up_self]
    exact ⟨fun q => absurd (t.2.symm.trans q) (by decide), fun q => absurd (t.2.symm.trans q) (by decide), fun q => absurd (t.2.symm.trans q) (by decide), fun q => absurd (t.2.symm.trans q) (by decide), fun q => absurd (t.2.symm.trans q) (by decide), fun q => absurd (t.2.symm.trans q) (by decide), fun q => absurd (t.2.symm.trans q) (by decide), fun q => absurd (t.2.symm.trans q) (by decide), fun q => absurd (t.2.symm.trans q) (by decide), fun q => absurd (t.2.symm.trans q) (by decide), fun q => absurd (t.2.symm.trans q) (by decide), fun q => absurd (t.2.symm.trans q) (by decide), fun q => absurd (t.2.symm.trans q) (by decide), fun _ => hn, fun q => absurd (t.2.symm.trans q) (by decide), fun q => absurd (t.2.symm.trans q) (by decide)⟩
  · rw [va_up_ne f e q]
    exact h b hb
theorem up_24 {G : GT} {cs : Nat → ClassId} {tt mm : Nat} {f : Nat → va_E} (h : OKT G cs tt mm f) {a : Nat} (t : Ty G a 24) {e : va_E} (hn : ∃ g : Nat → Option Nat, (∀ i, i < gN G a → g i = some (gR G a i)) ∧ e = .inl (cs 3, gN G a, .inr (.inr (.inr (.inr g))))) : OKT G cs tt mm (va_up f a e) := fun b hb => by
  by_cases q : b = a
  · subst q
    rw [va_up_self]
    exact ⟨fun q => absurd (t.2.symm.trans q) (by decide), fun q => absurd (t.2.symm.trans q) (by decide), fun q => absurd (t.2.symm.trans q) (by decide), fun q => absurd (t.2.symm.trans q) (by decide), fun q => absurd (t.2.symm.trans q) (by decide), fun q => absurd (t.2.symm.trans q) (by decide), fun q => absurd (t.2.symm.trans q) (by decide), fun q => absurd (t.2.symm.trans q) (by decide), fun q => absurd (t.2.symm.trans q) (by decide), fun q => absurd (t.2.symm.trans q) (by decide), fun q => absurd (t.2.symm.trans q) (by decide), fun q => absurd (t.2.symm.trans q) (by decide), fun q => absurd (t.2.symm.trans q) (by decide), fun q => absurd (t.2.symm.trans q) (by decide), fun _ => hn, fun q => absurd (t.2.symm.trans q) (by decide)⟩
  · rw [va_up_ne f e q]
    exact h b hb
theorem up_25 {G : GT} {cs : Nat → ClassId} {tt mm : Nat} {f : Nat → va_E} (h : OKT G cs tt mm f) {a : Nat} (t : Ty G a 25) {e : va_E} (hn : ∃ g : Nat → Option Nat, (∀ i, i < gN G a → g i = some (gR G a i)) ∧ e = .inl (cs 4, gN G a, .inr (.inr (.inr (.inr g))))) : OKT G cs tt mm (va_up f a e) := fun b hb => by
  by_cases q : b = a
  · subst q
    rw [va_up_self]
    exact ⟨fun q => absurd (t.2.symm.trans q) (by decide), fun q => absurd (t.2.symm.trans q) (by decide), fun q => absurd (t.2.symm.trans q) (by decide), fun q => absurd (t.2.symm.trans q) (by decide), fun q => absurd (t.2.symm.trans q) (by decide), fun q => absurd (t.2.symm.trans q) (by decide), fun q => absurd (t.2.symm.trans q) (by decide), fun q => absurd (t.2.symm.trans q) (by decide), fun q => absurd (t.2.symm.trans q) (by decide), fun q => absurd (t.2.symm.trans q) (by decide), fun q => absurd (t.2.symm.trans q) (by decide), fun q => absurd (t.2.symm.trans q) (by decide), fun q => absurd (t.2.symm.trans q) (by decide), fun q => absurd (t.2.symm.trans q) (by decide), fun q => absurd (t.2.symm.trans q) (by decide), fun _ => hn⟩
  · rw [va_up_ne f e q]
    exact h b hb
theorem up_tm {G : GT} {cs : Nat → ClassId} {tt mm t2 m2 : Nat} {f : Nat → va_E} (hw : WT G) (h : OKT G cs tt mm f) {a : Nat} (t : Ty G a 11) {e : va_E} (hn : ∃ (y5 : Int32), m2 ≤ 3 ∧ t2 ≤ 700 ∧ e = .inr (10, [.ref (gR G a 0), .ref (gR G a 1), .ref (gR G a 2), .ref (gR G a 3), .int (nI m2), .int y5, .ref (gR G a 6), .int (nI t2), .ref (gR G a 8), .ref (gR G a 9), .ref (gR G a 10), .ref (gR G a 11), .ref (gR G a 12), .ref (gR G a 13), .ref (gR G a 14), .ref (gR G a 15), .ref (gR G a 16), .ref (gR G a 17), .ref (gR G a 18)])) : OKT G cs t2 m2 (va_up f a e) := fun b hb => by
  by_cases q : b = a
  · subst q
    rw [va_up_self]
    exact ⟨fun q => absurd (t.2.symm.trans q) (by decide), fun q => absurd (t.2.symm.trans q) (by decide), fun q => absurd (t.2.symm.trans q) (by decide), fun q => absurd (t.2.symm.trans q) (by decide), fun q => absurd (t.2.symm.trans q) (by decide), fun q => absurd (t.2.symm.trans q) (by decide), fun q => absurd (t.2.symm.trans q) (by decide), fun q => absurd (t.2.symm.trans q) (by decide), fun q => absurd (t.2.symm.trans q) (by decide), fun q => absurd (t.2.symm.trans q) (by decide), fun _ => hn, fun q => absurd (t.2.symm.trans q) (by decide), fun q => absurd (t.2.symm.trans q) (by decide), fun q => absurd (t.2.symm.trans q) (by decide), fun q => absurd (t.2.symm.trans q) (by decide), fun q => absurd (t.2.symm.trans q) (by decide)⟩
  · rw [va_up_ne f e q]
    have hb2 := h b hb
    have n11 : gK G b ≠ 11 := fun w => q (wt_one hw ⟨hb, w⟩ t)
    exact ⟨hb2.1, hb2.2.1, hb2.2.2.1, hb2.2.2.2.1, hb2.2.2.2.2.1, hb2.2.2.2.2.2.1, hb2.2.2.2.2.2.2.1, hb2.2.2.2.2.2.2.2.1, hb2.2.2.2.2.2.2.2.2.1, hb2.2.2.2.2.2.2.2.2.2.1, fun w => absurd w n11, hb2.2.2.2.2.2.2.2.2.2.2.2.1, hb2.2.2.2.2.2.2.2.2.2.2.2.2.1, hb2.2.2.2.2.2.2.2.2.2.2.2.2.2.1, hb2.2.2.2.2.2.2.2.2.2.2.2.2.2.2.1, hb2.2.2.2.2.2.2.2.2.2.2.2.2.2.2.2⟩
/-! rows over the typed heap -/
def AT (G : GT) (sz : Nat) : Nat → Prop := fun q => q ∈ gL G ∨ sz ≤ q
def PT (av : List Value) (sz : Nat) (dC : Nat → ClassId) (dI : Nat → Nat → Nat) (G : GT) (cs : Nat → ClassId) (tt mm : Nat) (X : (Nat → va_E) → Prop) : Array Value → State → Prop :=
  va_Pc av (fun U => U.heap.size = sz ∧ (∃ f, OKT G cs tt mm f ∧ va_P (dC, dI) vwCl (va_pl (gL G) f) U.heap ∧ X f) ∧ va_K (dC, dI) vwCl (TYS cs) U ∧ (gL G).Nodup ∧ WT G ∧ EX U)
theorem PT.blind {av : List Value} {sz : Nat} {dC : Nat → ClassId} {dI : Nat → Nat → Nat} {G : GT} {cs : Nat → ClassId} {tt mm : Nat} {X : (Nat → va_E) → Prop} : FrameBlind (PT av sz dC dI G cs tt mm X) := fun a U g mk q => by
  obtain ⟨q0, q1, qP, qK, qD, qW, qE⟩ := q
  exact ⟨q0, q1, qP, va_K.moved (u := U) (U := U.calling g mk a) (Vm.Alike.refl U.vm) qK, qD, qW, qE.blind⟩
def BT (dC : Nat → ClassId) (dI : Nat → Nat → Nat) (G : GT) (cs : Nat → ClassId) (tt mm : Nat) : (Nat → va_E) → State → Prop := fun u t => OKT G cs tt mm u ∧ va_P (dC, dI) vwCl (va_pl (gL G) u) t.heap
theorem nd_inj : ∀ {l : List Nat}, l.Nodup → ∀ (i j : Nat) (hi : i < l.length) (hj : j < l.length), l[i] = l[j] → i = j
  | [], _, i, _, hi, _, _ => absurd hi (Nat.not_lt_zero i)
  | x :: l, h, i, j, hi, hj, e => by
    rw [List.nodup_cons] at h
    match i, j, hi, hj, e with
    | 0, 0, _, _, _ => rfl
    | 0, j + 1, _, hj, e => exact absurd (by rw [show x = l[j]'(Nat.lt_of_succ_lt_succ hj) from e]; exact List.getElem_mem _) h.1
    | i + 1, 0, hi, _, e => exact absurd (by rw [← show l[i]'(Nat.lt_of_succ_lt_succ hi) = x from e]; exact List.getElem_mem _) h.1
    | i + 1, j + 1, hi, hj, e => exact congrArg (· + 1) (nd_inj h.2 i j (Nat.lt_of_succ_lt_succ hi) (Nat.lt_of_succ_lt_succ hj) e)
section THR
variable {p : Program} {l : Launch} {e : Env} {R : Room} {s : State} {m : MethodId} {args : Array Value} {below : List Frame} {meth : Method} {c : Code} {H : Heap} {locs : List Loc} {cells slots : Nat} {Q : State → Prop}
variable {cc : ByteArray} {pc : Nat} {ls : Array Slot} {rest st0 : List Value} {A : Nat → Prop} {a : Nat} {H0 : Heap} {ar : Array Value}
variable {dC : Nat → ClassId} {dI : Nat → Nat → Nat} {G : GT} {cs : Nat → ClassId} {tt mm : Nat} {f : Nat → va_E} {tys : List (ClassId × FieldType)}
theorem th_place {x : va_E} (ha : a ∈ gL G) (he : f a = x) : ∃ k : Nat, (va_pl (gL G) f)[k]? = some (a, x) := by
  obtain ⟨k, hk⟩ := va_pl_get (X := []) (f := f) ha
  exact ⟨k, by rw [← he]; exact hk⟩
theorem th_D (hnd : (gL G).Nodup) (hAL : ∀ a, a ∈ gL G → A a) : va_D A (va_pl (gL G) f) := by
  refine ⟨fun i j x y hi hj hxy => ?_, fun k x hk => ?_⟩
  · simp only [va_pl, List.getElem?_map, Option.map_eq_some_iff] at hi hj
    obtain ⟨u, hu, rfl⟩ := hi
    obtain ⟨v, hv, rfl⟩ := hj
    have huv : u = v := hxy
    subst huv
    obtain ⟨h1, h2⟩ := List.getElem?_eq_some_iff.mp hu
    obtain ⟨h3, h4⟩ := List.getElem?_eq_some_iff.mp hv
    exact nd_inj hnd i j h1 h3 (h2.trans h4.symm)
  · simp only [va_pl, List.getElem?_map, Option.map_eq_some_iff] at hk
    obtain ⟨u, hu, rfl⟩ := hk
    exact hAL u (List.mem_of_getElem? hu)
theorem th_set {k : Nat} {x y : va_E} (hnd : (gL G).Nodup) (ha : a ∈ gL G) (he : f a = x) (hk : (va_pl (gL G) f)[k]? = some (a, x)) : (va_pl (gL G) f).set k (a, y) = va_pl (gL G) (va_up f a y) :=
  va_pl_set (X := []) (A := fun _ => True) (th_D hnd (fun _ _ => trivial)) ha (by rw [he]; exact hk)
theorem th_get (hexec : p.tables.exec = Jvm.exec) (hb : c.code = cc) {own ref C : String} {T : u_T} {N ci index : Nat} (hlay : ∀ w ∈ u_ws C T N, w.before args s = true) (hown : s.vm.findClass own = some m.cls) (hK : va_K (dC, dI) vwCl tys s) (hP : va_P (dC, dI) vwCl (va_pl (gL G) f) H) (ha : a ∈ gL G) {fs : List Value} (he : f a = .inr (ci, fs)) (hc : vwCl[ci]? = some (C, T, N)) (k : Nat) (hk : k < N) (hlink : (Cond.fieldLink own index ref (T k).2.1 (T k).2.2.1).before args s = true) (hsame : ∀ x, s.fieldFound? (T k).1 (T k).2.1 (T k).2.2.1 = some x → s.fieldFound? ref (T k).2.1 (T k).2.2.1 = some x) {v : Value} (hv : fs[k]? = some v) (hdg : decode cc pc = .ok (.getfield index, 3))
    (kk : W p l e R s m args below meth c H locs cells slots Q (F0 m (pc + 3) ls (v :: rest))) : W p l e R s m args below meth c H locs cells slots Q (F0 m pc ls (.ref a :: rest)) := by
  obtain ⟨q, hq⟩ := th_place ha he
  exact va_get hexec hb hlay (fun _ h => h) hown hK hP q hq hc k hk hlink hsame hv hdg kk
theorem th_put (hexec : p.tables.exec = Jvm.exec) (hb : c.code = cc) {own ref C : String} {T : u_T} {N ci index : Nat} (hlay : ∀ w ∈ u_ws C T N, w.before args s = true) (ty0 : Nat → FieldType) (hty : ∀ k, k < N → parseFieldDescriptor (T k).2.2.1 = some (ty0 k)) (hnm : ∀ a, a < N → ∀ b, b < N → a ≠ b → (T a).2.1 ≠ (T b).2.1) (hown : s.vm.findClass own = some m.cls) (hK : va_K (dC, dI) vwCl tys s) (hP : va_P (dC, dI) vwCl (va_pl (gL G) f) H) (hnd : (gL G).Nodup) (hAL : ∀ a, a ∈ gL G → A a) (hS : va_S A H0 H locs) (ha : a ∈ gL G) {fs : List Value} (he : f a = .inr (ci, fs)) (hc : vwCl[ci]? = some (C, T, N)) (k : Nat) (hk : k < N) (hlink : (Cond.fieldLink own index ref (T k).2.1 (T k).2.2.1).before args s = true) (hsame : ∀ x, s.fieldFound? (T k).1 (T k).2.1 (T k).2.2.1 = some x → s.fieldFound? ref (T k).2.1 (T k).2.2.1 = some x) (hfin : (T k).2.2.2 = false) {ty : FieldType} {v : Value} (hd : parseFieldDescriptor (T k).2.2.1 = some ty) (hn : narrow ty v = v) (hfit : fits ty v = true) (hl : k < fs.length) {t2 m2 : Nat} (hok : OKT G cs t2 m2 (va_up f a (.inr (ci, fs.set k v)))) (hdg : decode cc pc = .ok (.putfield index, 3))
    (kk : ∀ (f' : Nat → va_E) (H1 : Heap) (locs1 : List Loc), f' a = .inr (ci, fs.set k v) → (∀ q, q ≠ a → f' q = f q) → OKT G cs t2 m2 f' → va_P (dC, dI) vwCl (va_pl (gL G) f') H1 → va_S A H0 H1 locs1 → W p l e R s m args below meth c H1 locs1 cells slots Q (F0 m (pc + 3) ls rest)) : W p l e R s m args below meth c H locs cells slots Q (F0 m pc ls (v :: .ref a :: rest)) := by
  obtain ⟨q, hq⟩ := th_place ha he
  refine va_put hexec hb hlay (fun _ h => h) ty0 hty hnm hown hK hP (th_D hnd hAL) hS q hq hc k hk hlink hsame hfin hd hn hfit hl hdg (fun H1 locs1 hP1 hD1 hS1 => ?_)
  rw [th_set hnd ha he hq] at hP1
  exact kk _ H1 locs1 (va_up_self _ _ _) (fun q hq => va_up_ne _ _ hq) hok hP1 hS1
theorem th_iald (hexec : p.tables.exec = Jvm.exec) (hb : c.code = cc) (hK : va_K (dC, dI) vwCl (TYS cs) s) (hP : va_P (dC, dI) vwCl (va_pl (gL G) f) H) (hok : OKT G cs tt mm f) (ht : Ty G a 21) {i : Int32} {n : Nat} (hn : gN G a = n) (hin : vp_in i n) (hdg : decode cc pc = .ok (.iaload, 1))
    (kk : ∀ x : Int32, W p l e R s m args below meth c H locs cells slots Q (F0 m (pc + 1) ls (.int x :: rest))) : W p l e R s m args below meth c H locs cells slots Q (F0 m pc ls (.int i :: .ref a :: rest)) := by
  obtain ⟨g, hg⟩ := ok_21 hok ht
  obtain ⟨q, hq⟩ := th_place ht.1 hg
  exact va_iald hexec hb hK hP q 0 hq rfl (by rw [hn]; exact hin) hdg (kk _)
theorem th_bald (hexec : p.tables.exec = Jvm.exec) (hb : c.code = cc) (hK : va_K (dC, dI) vwCl (TYS cs) s) (hP : va_P (dC, dI) vwCl (va_pl (gL G) f) H) (hok : OKT G cs tt mm f) (ht : Ty G a 22) {i : Int32} {n : Nat} (hn : gN G a = n) (hin : vp_in i n) (hdg : decode cc pc = .ok (.baload, 1))
    (kk : ∀ x : Int32, W p l e R s m args below meth c H locs cells slots Q (F0 m (pc + 1) ls (.int x :: rest))) : W p l e R s m args below meth c H locs cells slots Q (F0 m pc ls (.int i :: .ref a :: rest)) := by
  obtain ⟨g, hg⟩ := ok_22 hok ht
  obtain ⟨q, hq⟩ := th_place ht.1 hg
  exact va_bald hexec hb hK hP q 1 hq rfl (by rw [hn]; exact hin) hdg (kk _)
theorem th_lald (hexec : p.tables.exec = Jvm.exec) (hb : c.code = cc) (hK : va_K (dC, dI) vwCl (TYS cs) s) (hP : va_P (dC, dI) vwCl (va_pl (gL G) f) H) (hok : OKT G cs tt mm f) (ht : Ty G a 23) {i : Int32} {n : Nat} (hn : gN G a = n) (hin : vp_in i n) (hdg : decode cc pc = .ok (.laload, 1))
    (kk : ∀ x : Int64, W p l e R s m args below meth c H locs cells slots Q (F0 m (pc + 1) ls (.long x :: rest))) : W p l e R s m args below meth c H locs cells slots Q (F0 m pc ls (.int i :: .ref a :: rest)) := by
  obtain ⟨g, hg⟩ := ok_23 hok ht
  obtain ⟨q, hq⟩ := th_place ht.1 hg
  exact va_lald hexec hb hK hP q 2 hq rfl (by rw [hn]; exact hin) hdg (kk _)
theorem th_ald7 (hexec : p.tables.exec = Jvm.exec) (hb : c.code = cc) (hK : va_K (dC, dI) vwCl (TYS cs) s) (hP : va_P (dC, dI) vwCl (va_pl (gL G) f) H) (hok : OKT G cs tt mm f) (ht : Ty G a 24) {j n : Nat} (hn : gN G a = n) (hj : j < n) (hj2 : n < 2 ^ 31) (hdg : decode cc pc = .ok (.aaload, 1))
    (kk : W p l e R s m args below meth c H locs cells slots Q (F0 m (pc + 1) ls (.ref (gR G a j) :: rest))) : W p l e R s m args below meth c H locs cells slots Q (F0 m pc ls (.int (nI j) :: .ref a :: rest)) := by
  obtain ⟨g, hg2, hg⟩ := ok_24 hok ht
  obtain ⟨q, hq⟩ := th_place ht.1 hg
  refine va_aldq hexec hb hK hP q 3 hq rfl (by rw [hn]; exact vp_in_nI hj hj2) hdg ?_
  rw [nI_clamp (Nat.lt_trans hj hj2), hg2 j (by rw [hn]; exact hj)]
  exact kk
theorem th_ald3 (hexec : p.tables.exec = Jvm.exec) (hb : c.code = cc) (hK : va_K (dC, dI) vwCl (TYS cs) s) (hP : va_P (dC, dI) vwCl (va_pl (gL G) f) H) (hok : OKT G cs tt mm f) (ht : Ty G a 25) {j n : Nat} (hn : gN G a = n) (hj : j < n) (hj2 : n < 2 ^ 31) (hdg : decode cc pc = .ok (.aaload, 1))
    (kk : W p l e R s m args below meth c H locs cells slots Q (F0 m (pc + 1) ls (.ref (gR G a j) :: rest))) : W p l e R s m args below meth c H locs cells slots Q (F0 m pc ls (.int (nI j) :: .ref a :: rest)) := by
  obtain ⟨g, hg2, hg⟩ := ok_25 hok ht
  obtain ⟨q, hq⟩ := th_place ht.1 hg
  refine va_aldq hexec hb hK hP q 4 hq rfl (by rw [hn]; exact vp_in_nI hj hj2) hdg ?_
  rw [nI_clamp (Nat.lt_trans hj hj2), hg2 j (by rw [hn]; exact hj)]
  exact kk
theorem th_iast (hexec : p.tables.exec = Jvm.exec) (hb : c.code = cc) (hK : va_K (dC, dI) vwCl (TYS cs) s) (hP : va_P (dC, dI) vwCl (va_pl (gL G) f) H) (hok : OKT G cs tt mm f) (hnd : (gL G).Nodup) (hAL : ∀ a, a ∈ gL G → A a) (hS : va_S A H0 H locs) (ht : Ty G a 21) {i x : Int32} {n : Nat} (hn : gN G a = n) (hin : vp_in i n) (hdg : decode cc pc = .ok (.iastore, 1))
    (kk : ∀ (f' : Nat → va_E) (H1 : Heap) (locs1 : List Loc), (∀ q, q ≠ a → f' q = f q) → OKT G cs tt mm f' → va_P (dC, dI) vwCl (va_pl (gL G) f') H1 → va_S A H0 H1 locs1 → W p l e R s m args below meth c H1 locs1 cells slots Q (F0 m (pc + 1) ls rest)) : W p l e R s m args below meth c H locs cells slots Q (F0 m pc ls (.int x :: .int i :: .ref a :: rest)) := by
  obtain ⟨g, hg⟩ := ok_21 hok ht
  obtain ⟨q, hq⟩ := th_place ht.1 hg
  refine va_iast hexec hb hK hP (th_D hnd hAL) hS q 0 hq rfl (by rw [hn]; exact hin) hdg (fun H1 locs1 hP1 hD1 hS1 => ?_)
  rw [th_set hnd ht.1 hg hq] at hP1
  exact kk _ H1 locs1 (fun q hq => va_up_ne _ _ hq) (up_21 hok ht ⟨_, rfl⟩) hP1 hS1
theorem th_bast (hexec : p.tables.exec = Jvm.exec) (hb : c.code = cc) (hK : va_K (dC, dI) vwCl (TYS cs) s) (hP : va_P (dC, dI) vwCl (va_pl (gL G) f) H) (hok : OKT G cs tt mm f) (hnd : (gL G).Nodup) (hAL : ∀ a, a ∈ gL G → A a) (hS : va_S A H0 H locs) (ht : Ty G a 22) {i x : Int32} {n : Nat} (hn : gN G a = n) (hin : vp_in i n) (hdg : decode cc pc = .ok (.bastore, 1))
    (kk : ∀ (f' : Nat → va_E) (H1 : Heap) (locs1 : List Loc), (∀ q, q ≠ a → f' q = f q) → OKT G cs tt mm f' → va_P (dC, dI) vwCl (va_pl (gL G) f') H1 → va_S A H0 H1 locs1 → W p l e R s m args below meth c H1 locs1 cells slots Q (F0 m (pc + 1) ls rest)) : W p l e R s m args below meth c H locs cells slots Q (F0 m pc ls (.int x :: .int i :: .ref a :: rest)) := by
  obtain ⟨g, hg⟩ := ok_22 hok ht
  obtain ⟨q, hq⟩ := th_place ht.1 hg
  refine va_bast hexec hb hK hP (th_D hnd hAL) hS q 1 hq rfl (by rw [hn]; exact hin) hdg (fun H1 locs1 hP1 hD1 hS1 => ?_)
  rw [th_set hnd ht.1 hg hq] at hP1
  exact kk _ H1 locs1 (fun q hq => va_up_ne _ _ hq) (up_22 hok ht ⟨_, rfl⟩) hP1 hS1
theorem th_last (hexec : p.tables.exec = Jvm.exec) (hb : c.code = cc) (hK : va_K (dC, dI) vwCl (TYS cs) s) (hP : va_P (dC, dI) vwCl (va_pl (gL G) f) H) (hok : OKT G cs tt mm f) (hnd : (gL G).Nodup) (hAL : ∀ a, a ∈ gL G → A a) (hS : va_S A H0 H locs) (ht : Ty G a 23) {i : Int32} {x : Int64} {n : Nat} (hn : gN G a = n) (hin : vp_in i n) (hdg : decode cc pc = .ok (.lastore, 1))
    (kk : ∀ (f' : Nat → va_E) (H1 : Heap) (locs1 : List Loc), (∀ q, q ≠ a → f' q = f q) → OKT G cs tt mm f' → va_P (dC, dI) vwCl (va_pl (gL G) f') H1 → va_S A H0 H1 locs1 → W p l e R s m args below meth c H1 locs1 cells slots Q (F0 m (pc + 1) ls rest)) : W p l e R s m args below meth c H locs cells slots Q (F0 m pc ls (.long x :: .int i :: .ref a :: rest)) := by
  obtain ⟨g, hg⟩ := ok_23 hok ht
  obtain ⟨q, hq⟩ := th_place ht.1 hg
  refine va_last hexec hb hK hP (th_D hnd hAL) hS q 2 hq rfl (by rw [hn]; exact hin) hdg (fun H1 locs1 hP1 hD1 hS1 => ?_)
  rw [th_set hnd ht.1 hg hq] at hP1
  exact kk _ H1 locs1 (fun q hq => va_up_ne _ _ hq) (up_23 hok ht ⟨_, rfl⟩) hP1 hS1
theorem th_alen {kd t0 : Nat} {ty : FieldType} {x : vp_A} {cA : ClassId} (hexec : p.tables.exec = Jvm.exec) (hb : c.code = cc) (hK : va_K (dC, dI) vwCl (TYS cs) s) (hP : va_P (dC, dI) vwCl (va_pl (gL G) f) H) (ha : a ∈ gL G) (he : f a = .inl (cA, x)) (ht : (TYS cs)[t0]? = some (cA, ty)) (hdg : decode cc pc = .ok (.arraylength, 1))
    (kk : W p l e R s m args below meth c H locs cells slots Q (F0 m (pc + 1) ls (.int (nI x.1) :: rest))) : W p l e R s m args below meth c H locs cells slots Q (F0 m pc ls (.ref a :: rest)) := by
  obtain ⟨q, hq⟩ := th_place ha he
  exact va_alen hexec hb hK hP q t0 hq ht rfl hdg kk
theorem th_len1 (hexec : p.tables.exec = Jvm.exec) (hb : c.code = cc) (hK : va_K (dC, dI) vwCl (TYS cs) s) (hP : va_P (dC, dI) vwCl (va_pl (gL G) f) H) (hok : OKT G cs tt mm f) {n : Nat} (hn : gN G a = n) (ht : Ty G a 21 ∨ Ty G a 22 ∨ Ty G a 23 ∨ Ty G a 24 ∨ Ty G a 25) (hdg : decode cc pc = .ok (.arraylength, 1))
    (kk : W p l e R s m args below meth c H locs cells slots Q (F0 m (pc + 1) ls (.int (nI n) :: rest))) : W p l e R s m args below meth c H locs cells slots Q (F0 m pc ls (.ref a :: rest)) := by
  rcases ht with t | t | t | t | t
  · obtain ⟨g, hg⟩ := ok_21 hok t
    exact th_alen (kd := 0) (t0 := 0) hexec hb hK hP t.1 hg rfl hdg (by rw [hn]; exact kk)
  · obtain ⟨g, hg⟩ := ok_22 hok t
    exact th_alen (kd := 0) (t0 := 1) hexec hb hK hP t.1 hg rfl hdg (by rw [hn]; exact kk)
  · obtain ⟨g, hg⟩ := ok_23 hok t
    exact th_alen (kd := 0) (t0 := 2) hexec hb hK hP t.1 hg rfl hdg (by rw [hn]; exact kk)
  · obtain ⟨g, -, hg⟩ := ok_24 hok t
    exact th_alen (kd := 0) (t0 := 3) hexec hb hK hP t.1 hg rfl hdg (by rw [hn]; exact kk)
  · obtain ⟨g, -, hg⟩ := ok_25 hok t
    exact th_alen (kd := 0) (t0 := 4) hexec hb hK hP t.1 hg rfl hdg (by rw [hn]; exact kk)
theorem th_recv {ci : Nat} {q : vw_C} {fs : List Value} (hK : va_K (dC, dI) vwCl tys s) (hP : va_P (dC, dI) vwCl (va_pl (gL G) f) H) (ha : a ∈ gL G) (he : f a = .inr (ci, fs)) (hc : vwCl[ci]? = some q) : ∃ cell : Cell, H[a]? = some cell ∧ cell.vm.isStatics = false ∧ s.vm.findClass q.1 = some cell.cls := by
  obtain ⟨k, hk⟩ := th_place ha he
  exact va_recv hK hP hc hk
theorem th_pre {av : List Value} {X : (Nat → va_E) → Prop} (hX : X f) (hK : va_K (dC, dI) vwCl (TYS cs) s) (hP : va_P (dC, dI) vwCl (va_pl (gL G) f) H) (hok : OKT G cs tt mm f) (hnd : (gL G).Nodup) (hW : WT G) (hE : EX s) : ∀ U : State, U.heap = H → s.WarmedH U.vm → PT av H.size dC dI G cs tt mm X av.toArray U := fun U hU hw =>
  ⟨rfl, by rw [hU], ⟨f, hok, by rw [hU]; exact hP, hX⟩, va_K.moved hw.alike hK, hnd, hW, hE.warm hw⟩
theorem th_free (hAL : ∀ a, a ∈ gL G → A a) (hS : va_S A H0 H locs) (hA : ∀ q, H0.size ≤ q → A q) : ∀ q, AT G H.size q → A q := fun q h => h.elim (hAL q) (fun h => hA q (Nat.le_trans hS.1 h))
theorem tc_i {post : Int32 → (Nat → va_E) → Prop} {t2 m2 : Nat} (hAL : ∀ a, a ∈ gL G → A a) (hS : va_S A H0 H locs) (hA : ∀ q, H0.size ≤ q → A q) (hr : va_Run p l e R s m args below meth c H locs cells slots 0 0 (F0 m pc ls st0) rest (va_Qi post (BT dC dI G cs t2 m2) (AT G H.size) ar) (AT G H.size))
    (kk : ∀ (r : Int32) (f' : Nat → va_E) (H1 : Heap) (locs1 : List Loc), post r f' → OKT G cs t2 m2 f' → va_P (dC, dI) vwCl (va_pl (gL G) f') H1 → va_S A H0 H1 locs1 → W p l e R s m args below meth c H1 locs1 cells slots Q (F0 m (pc + 3) ls (.int r :: rest))) : W p l e R s m args below meth c H locs cells slots Q (F0 m pc ls st0) := by
  have hF := th_free hAL hS hA
  refine va_calli hr hS (fun q _ h => hF q h) hF (fun r u t H1 locs1 ht hvm hw hB hz1 hk1 hS1 => ?_)
  obtain ⟨h1, h2⟩ := hB
  rw [ht] at h2
  exact kk r u H1 locs1 hw h1 h2 hS1
theorem tc_l {post : Int64 → (Nat → va_E) → Prop} {t2 m2 : Nat} (hAL : ∀ a, a ∈ gL G → A a) (hS : va_S A H0 H locs) (hA : ∀ q, H0.size ≤ q → A q) (hr : va_Run p l e R s m args below meth c H locs cells slots 0 0 (F0 m pc ls st0) rest (va_Ql post (BT dC dI G cs t2 m2) (AT G H.size) ar) (AT G H.size))
    (kk : ∀ (r : Int64) (f' : Nat → va_E) (H1 : Heap) (locs1 : List Loc), post r f' → OKT G cs t2 m2 f' → va_P (dC, dI) vwCl (va_pl (gL G) f') H1 → va_S A H0 H1 locs1 → W p l e R s m args below meth c H1 locs1 cells slots Q (F0 m (pc + 3) ls (.long r :: rest))) : W p l e R s m args below meth c H locs cells slots Q (F0 m pc ls st0) := by
  have hF := th_free hAL hS hA
  refine va_calll hr hS (fun q _ h => hF q h) hF (fun r u t H1 locs1 ht hvm hw hB hz1 hk1 hS1 => ?_)
  obtain ⟨h1, h2⟩ := hB
  rw [ht] at h2
  exact kk r u H1 locs1 hw h1 h2 hS1
theorem tc_v {post : (Nat → va_E) → Prop} {t2 m2 : Nat} (hAL : ∀ a, a ∈ gL G → A a) (hS : va_S A H0 H locs) (hA : ∀ q, H0.size ≤ q → A q) (hr : va_Run p l e R s m args below meth c H locs cells slots 0 0 (F0 m pc ls st0) rest (va_Qv post (BT dC dI G cs t2 m2) (AT G H.size) ar) (AT G H.size))
    (kk : ∀ (f' : Nat → va_E) (H1 : Heap) (locs1 : List Loc), post f' → OKT G cs t2 m2 f' → va_P (dC, dI) vwCl (va_pl (gL G) f') H1 → va_S A H0 H1 locs1 → W p l e R s m args below meth c H1 locs1 cells slots Q (F0 m (pc + 3) ls rest)) : W p l e R s m args below meth c H locs cells slots Q (F0 m pc ls st0) := by
  have hF := th_free hAL hS hA
  refine va_callv hr hS (fun q _ h => hF q h) hF (fun u t H1 locs1 ht hvm hw hB hz1 hk1 hS1 => ?_)
  obtain ⟨h1, h2⟩ := hB
  rw [ht] at h2
  exact kk u H1 locs1 hw h1 h2 hS1
theorem th_copy {a0 : Nat} (hexec : p.tables.exec = Jvm.exec) (hb : c.code = cc) (hml : c.maxLocals = ls.size) {own : String} {index : Nat} (hown : s.vm.findClass own = some m.cls) (hlink : (Cond.methodLink own index arraycopyName).before args s = true) (hnat : (Cond.native arraycopyName).before args s = true) (hstat : (Cond.static arraycopyName).before args s = true) (hini : (Cond.initialized "java/lang/System").before args s = true)
    (hK : va_K (dC, dI) vwCl (TYS cs) s) (hP : va_P (dC, dI) vwCl (va_pl (gL G) f) H) (hok : OKT G cs tt mm f) (hnd : (gL G).Nodup) (hAL : ∀ a, a ∈ gL G → A a) (hS : va_S A H0 H locs) (t0 : Ty G a0 21) (t1 : Ty G a 21) {n0 n1 : Nat} (h0 : gN G a0 = n0) (h1 : gN G a = n1) {n : Int32} (hz : ¬ (0 : Int32) < 0) (hn : 0 ≤ n.toInt) (hn0 : n.toInt ≤ n0) (hn1 : n.toInt ≤ n1)
    (hframes : 1 ≤ R.frames) (hlocals : (rest.map fun v => v.category).sum + (nativeFrameWords "java/lang/System" "arraycopy" 5 + 11) ≤ R.locals) (hdg : decode cc pc = .ok (.invokestatic index, 3))
    (kk : ∀ (f' : Nat → va_E) (H1 : Heap) (locs1 : List Loc), (∀ q, q ≠ a → f' q = f q) → OKT G cs tt mm f' → va_P (dC, dI) vwCl (va_pl (gL G) f') H1 → va_S A H0 H1 locs1 → W p l e R s m args below meth c H1 locs1 cells slots Q (F0 m (pc + 3) ls rest)) : W p l e R s m args below meth c H locs cells slots Q (F0 m pc ls (.int n :: .int 0 :: .ref a :: .int 0 :: .ref a0 :: rest)) := by
  obtain ⟨g0, hg0⟩ := ok_21 hok t0
  obtain ⟨q0, hq0⟩ := th_place t0.1 hg0
  obtain ⟨g, hg⟩ := ok_21 hok t1
  obtain ⟨q, hq⟩ := th_place t1.1 hg
  have hc : (n.toNatClampNeg : Int) = n.toInt := by
    obtain ⟨j, hj, rfl⟩ := nI_of (show ¬ n < 0 by rw [i_lt]; exact Int.not_lt.mpr hn)
    rw [nI_clamp hj, nI_toInt hj]
  refine va_copyi (ty := .int) hexec hb hml hown hlink hnat hstat hini hK hP (th_D hnd hAL) hS q0 q 0 0 hq0 hq rfl rfl rfl hz hz (show ¬ n < 0 by rw [i_lt]; exact Int.not_lt.mpr hn) (by show 0 + n.toNatClampNeg ≤ gN G a0; omega) (by show 0 + n.toNatClampNeg ≤ gN G a; omega) (fun _ _ => rfl) hframes hlocals hdg (fun H1 locs1 hP1 hD1 hS1 => ?_)
  rw [th_set hnd t1.1 hg hq] at hP1
  exact kk _ H1 locs1 (fun q hq => va_up_ne _ _ hq) (up_21 hok t1 ⟨_, rfl⟩) hP1 hS1
theorem w_indP {I : Nat → Array Slot → Prop}
    (step : ∀ (n : Nat) (ls : Array Slot), I n ls → (∀ (n' : Nat) (ls' : Array Slot), n' < n → I n' ls' → W p l e R s m args below meth c H locs cells slots Q (F0 m pc ls' [])) → W p l e R s m args below meth c H locs cells slots Q (F0 m pc ls [])) :
    ∀ (n : Nat) (ls : Array Slot), I n ls → W p l e R s m args below meth c H locs cells slots Q (F0 m pc ls []) := by
  intro n
  induction n using Nat.strongRecOn with
  | ind n ih => intro ls hI; exact step n ls hI (fun n' ls' hn hI' => ih n' hn ls' hI')
/-- a loop: the goal at its head by a measure -/
theorem w_ind {I : Nat → (Nat → va_E) → Heap → List Loc → Array Slot → Prop}
    (step : ∀ (n : Nat) (f : Nat → va_E) (H : Heap) (locs : List Loc) (ls : Array Slot), I n f H locs ls → (∀ (n' : Nat) (f' : Nat → va_E) (H' : Heap) (locs' : List Loc) (ls' : Array Slot), n' < n → I n' f' H' locs' ls' → W p l e R s m args below meth c H' locs' cells slots Q (F0 m pc ls' [])) → W p l e R s m args below meth c H locs cells slots Q (F0 m pc ls [])) :
    ∀ (n : Nat) (f : Nat → va_E) (H : Heap) (locs : List Loc) (ls : Array Slot), I n f H locs ls → W p l e R s m args below meth c H locs cells slots Q (F0 m pc ls []) := by
  intro n
  induction n using Nat.strongRecOn with
  | ind n ih => intro f H locs ls hI; exact step n f H locs ls hI (fun n' f' H' locs' ls' hn hI' => ih n' hn f' H' locs' ls' hI')
end THR
/-! numbers -/
theorem i_rng (x : Int32) : -2147483648 ≤ x.toInt ∧ x.toInt ≤ 2147483647 := by
  have h1 := Int32.le_toInt x
  have h2 := Int32.toInt_lt x
  constructor <;> omega
theorem ic_up {x : Int32} (h : x.toInt < 2147483647) : (x + 1).toInt = x.toInt + 1 := by
  have h1 := i_rng x
  rw [Int32.toInt_add, show (1 : Int32).toInt = 1 from rfl]
  unfold Int.bmod
  dsimp only
  split <;> omega
theorem ic_dn {x : Int32} (h : -2147483648 < x.toInt) : (x + (-1)).toInt = x.toInt - 1 := by
  have h1 := i_rng x
  rw [Int32.toInt_add, show (-1 : Int32).toInt = -1 from rfl]
  unfold Int.bmod
  dsimp only
  split <;> omega
theorem i_nat {x : Int32} {n : Nat} (h0 : 0 ≤ x.toInt) (h1 : x.toInt ≤ n) : ∃ j : Nat, j ≤ n ∧ x = nI j := by
  obtain ⟨j, hj, rfl⟩ := nI_of (show ¬ x < 0 by rw [i_lt]; exact Int.not_lt.mpr h0)
  rw [nI_toInt hj] at h1
  exact ⟨j, by omega, rfl⟩
theorem z_fit {x : Int32} (h : x = 0 ∨ x = 1) : narrow .boolean (.int x) = .int x := by
  rcases h with rfl | rfl <;> rfl
theorem i_min (x y : Int32) : (if y < x then y else x) ≤ x ∧ (if y < x then y else x) ≤ y := by
  by_cases h : y < x
  · rw [if_pos h]; simp only [i_lt, i_le] at h ⊢; omega
  · rw [if_neg h]; simp only [i_lt, i_le] at h ⊢; omega
theorem lc_gt0 {x : Int64} {r : Int32} (e : r = lg_cmp x 0) (h : 0 < r.toInt) : ¬ x = 0 := by
  rintro rfl
  rw [e] at h
  exact absurd h (by decide)
theorem lc_ge1 {x : Int64} {r : Int32} (e : r = lg_cmp x 1) (h : 0 ≤ r.toInt) : ¬ x = 0 := by
  rintro rfl
  rw [e] at h
  exact absurd h (by decide)
theorem lc_gt1 {x : Int64} {r : Int32} (e : r = lg_cmp x 1) (h : 0 < r.toInt) : ¬ x = 0 := by
  rintro rfl
  rw [e] at h
  exact absurd h (by decide)
theorem i_rem {x y : Int32} (hy : 1 ≤ y.toInt) : -y.toInt < (x - x / y * y).toInt ∧ (x - x / y * y).toInt < y.toInt := by
  have h1 := i_rng x
  have h2 := i_rng y
  have e : (x - x / y * y).toInt = (x.toInt - (x.toInt.tdiv y.toInt) * y.toInt).bmod (2 ^ 32) := by
    rw [Int32.toInt_sub, Int32.toInt_mul, Int32.toInt_div]
    simp
  have e2 : x.toInt - (x.toInt.tdiv y.toInt) * y.toInt = x.toInt.tmod y.toInt := by
    rw [Int.tmod_def, Int.mul_comm]
  have b1 := Int.tmod_lt_of_pos x.toInt (show 0 < y.toInt by omega)
  have b2 : -y.toInt < x.toInt.tmod y.toInt := by
    have := Int.lt_tmod_of_pos x.toInt (show 0 < y.toInt by omega)
    omega
  rw [e, e2]
  unfold Int.bmod
  dsimp only
  split <;> omega
theorem ix_lin {a b x y : Int32} (ex : x = a * 12) (ey : y = x + b) (ha : 0 ≤ a.toInt) (ha2 : a.toInt ≤ 12) (hb : 0 ≤ b.toInt) (hb2 : b.toInt ≤ 11) : vp_in y 156 := by
  obtain ⟨j, hj, rfl⟩ := i_nat (n := 12) ha (by omega)
  obtain ⟨k, hk, rfl⟩ := i_nat (n := 11) hb (by omega)
  rw [ey, ex, show (12 : Int32) = nI 12 from rfl, pk_mul, nI_add]
  exact vp_in_nI (by omega) (by omega)
theorem i_max (x y : Int32) : x ≤ (if x < y then y else x) ∧ y ≤ (if x < y then y else x) := by
  by_cases h : x < y
  · rw [if_pos h]; simp only [i_lt, i_le] at h ⊢; omega
  · rw [if_neg h]; simp only [i_lt, i_le] at h ⊢; omega
