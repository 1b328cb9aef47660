def kTab : List Nat := [11, 7, 21, 3, 24, 7, 21, 7, 21, 7, 21, 7, 21, 7, 21, 7, 21, 7, 21, 7, 21, 24, 25, 22, 5, 9, 21, 21, 21, 22, 7, 21, 10, 21, 21, 8, 22, 10, 21, 21, 10, 21, 21, 10, 21, 21, 10, 21, 21, 10, 21, 21, 4, 10, 21, 21, 10, 21, 21, 10, 21, 21, 10, 21, 21, 1, 21, 21, 21, 10, 21, 21, 21, 1, 21, 21, 21, 10, 21, 21, 6, 21, 2, 23, 7, 21, 3, 24, 7, 21, 7, 21, 7, 21, 7, 21, 7, 21, 7, 21, 7, 21, 7, 21, 7, 21, 3, 24, 7, 21, 7, 21, 7, 21, 7, 21, 7, 21, 7, 21, 7, 21, 7, 21, 7, 21, 3, 24, 7, 21, 7, 21, 7, 21, 7, 21, 7, 21, 7, 21, 7, 21, 7, 21]
def nTab : List Nat := [0, 0, 543, 0, 8, 0, 543, 0, 543, 0, 543, 0, 543, 0, 543, 0, 543, 0, 543, 0, 543, 3, 3, 700, 0, 0, 701, 701, 701, 0, 0, 543, 0, 73, 72, 0, 178, 0, 73, 72, 0, 73, 72, 0, 73, 72, 0, 73, 72, 0, 73, 72, 0, 0, 73, 72, 0, 73, 72, 0, 73, 72, 0, 73, 72, 0, 24, 24, 24, 0, 73, 72, 6, 0, 24, 24, 24, 0, 73, 72, 0, 6, 0, 156, 0, 543, 0, 8, 0, 543, 0, 543, 0, 543, 0, 543, 0, 543, 0, 543, 0, 543, 0, 543, 0, 543, 0, 8, 0, 543, 0, 543, 0, 543, 0, 543, 0, 543, 0, 543, 0, 543, 0, 543, 0, 543, 0, 8, 0, 543, 0, 543, 0, 543, 0, 543, 0, 543, 0, 543, 0, 543, 0, 543]
def rTab : List (List Nat) := [[1, 3, 21, 22, 0, 0, 23, 0, 24, 35, 37, 40, 43, 46, 49, 52, 73, 80, 82], [2], [], [4, 0, 0], [5, 7, 9, 11, 13, 15, 17, 19], [6], [], [8], [], [10], [], [12], [], [14], [], [16], [], [18], [], [20], [], [84, 104, 124], [86, 106, 126], [], [25, 30, 32, 0, 0, 0, 0, 0, 0, 0], [26, 27, 28, 0, 29, 0], [], [], [], [], [31], [], [33, 34, 0, 0], [], [], [36, 0], [], [38, 39, 0, 0], [], [], [41, 42, 0, 0], [], [], [44, 45, 0, 0], [], [], [47, 48, 0, 0], [], [], [50, 51, 0, 0], [], [], [53, 56, 59, 62, 65, 72, 0, 0], [54, 55, 0, 0], [], [], [57, 58, 0, 0], [], [], [60, 61, 0, 0], [], [], [63, 64, 0, 0], [], [], [66, 67, 68, 69, 69], [], [], [], [70, 71, 0, 0], [], [], [], [74, 75, 76, 77, 77], [], [], [], [78, 79, 0, 0], [], [], [81, 0, 0], [], [83], [], [85], [], [87, 0, 0], [88, 90, 92, 94, 96, 98, 100, 102], [89], [], [91], [], [93], [], [95], [], [97], [], [99], [], [101], [], [103], [], [105], [], [107, 0, 0], [108, 110, 112, 114, 116, 118, 120, 122], [109], [], [111], [], [113], [], [115], [], [117], [], [119], [], [121], [], [123], [], [125], [], [127, 0, 0], [128, 130, 132, 134, 136, 138, 140, 142], [129], [], [131], [], [133], [], [135], [], [137], [], [139], [], [141], [], [143], []]
def tTab : List Nat := [1, 1, 1, 1, 1, 1, 1, 1, 1, 1, 1, 1, 1, 1, 1, 1, 1, 1, 1, 1, 1, 1, 1, 0, 0, 0, 0, 0, 0, 0, 0, 0, 0, 0, 0, 1, 1, 1, 1, 1, 1, 1, 1, 1, 1, 1, 1, 1, 1, 1, 1, 1, 1, 1, 1, 1, 1, 1, 1, 1, 1, 1, 1, 1, 1, 1, 1, 1, 1, 1, 1, 1, 1, 1, 1, 1, 1, 1, 1, 1, 1, 1, 1, 1, 1, 1, 1, 1, 1, 1, 1, 1, 1, 1, 1, 1, 1, 1, 1, 1, 1, 1, 1, 1, 1, 1, 1, 1, 1, 1, 1, 1, 1, 1, 1, 1, 1, 1, 1, 1, 1, 1, 1, 1, 1, 1, 1, 1, 1, 1, 1, 1, 1, 1, 1, 1, 1, 1, 1, 1, 1, 1, 1, 1]
def qpT : List Nat := [24, 25, 26, 27, 28, 23, 30, 31, 32, 33, 34, 0, 29]
def adX (h : Nat) (g : Nat → Nat) (k : Nat) : Nat := if k = 0 then h else g (k - 1)
def ixA (ad : Nat → Nat) (a : Nat) : Nat := ((List.range 144).find? (fun k => ad k == a)).getD 0
def GX (ad : Nat → Nat) : GT := (fun a => kTab.getD (ixA ad a) 0, fun a => nTab.getD (ixA ad a) 0, fun a j => ad ((rTab.getD (ixA ad a) []).getD j 0), ((List.range 144).filter (fun k => decide (tTab.getD k 0 = 1))).map ad)
def IJ (ad : Nat → Nat) : Prop := ∀ i j, i < 144 → j < 144 → ad i = ad j → i = j
section GXS
variable {ad : Nat → Nat}
theorem ix_ad (hI : IJ ad) {k : Nat} (hk : k < 144) : ixA ad (ad k) = k := by
  unfold ixA
  cases h : (List.range 144).find? (fun j => ad j == ad k) with
  | none => exact absurd (List.find?_eq_none.mp h k (List.mem_range.mpr hk)) (by simp)
  | some j =>
    have h1 := List.find?_some h
    have h2 := List.mem_of_find?_eq_some h
    show j = k
    exact hI j k (List.mem_range.mp h2) hk (by simpa using h1)
theorem gx_k (hI : IJ ad) {k : Nat} (hk : k < 144) : gK (GX ad) (ad k) = kTab.getD k 0 := by show kTab.getD (ixA ad (ad k)) 0 = _; rw [ix_ad hI hk]
theorem gx_n (hI : IJ ad) {k : Nat} (hk : k < 144) : gN (GX ad) (ad k) = nTab.getD k 0 := by show nTab.getD (ixA ad (ad k)) 0 = _; rw [ix_ad hI hk]
theorem gx_r (hI : IJ ad) {k : Nat} (hk : k < 144) (j : Nat) : gR (GX ad) (ad k) j = ad ((rTab.getD k []).getD j 0) := by show ad ((rTab.getD (ixA ad (ad k)) []).getD j 0) = _; rw [ix_ad hI hk]
theorem gx_mem {a : Nat} : a ∈ gL (GX ad) ↔ ∃ k, k < 144 ∧ tTab.getD k 0 = 1 ∧ ad k = a := by
  show a ∈ ((List.range 144).filter (fun k => decide (tTab.getD k 0 = 1))).map ad ↔ _
  rw [List.mem_map]
  constructor
  · rintro ⟨k, hk, h⟩
    rw [List.mem_filter, decide_eq_true_iff] at hk
    exact ⟨k, List.mem_range.mp hk.1, hk.2, h⟩
  · rintro ⟨k, hk, ht, h⟩
    exact ⟨k, by rw [List.mem_filter, decide_eq_true_iff]; exact ⟨List.mem_range.mpr hk, ht⟩, h⟩
theorem gx_ty (hI : IJ ad) {a c : Nat} (h : Ty (GX ad) a c) : ∃ k, k < 144 ∧ ad k = a ∧ tTab.getD k 0 = 1 ∧ kTab.getD k 0 = c := by
  obtain ⟨k, hk, ht, rfl⟩ := gx_mem.mp h.1
  exact ⟨k, hk, rfl, ht, (gx_k hI hk).symm.trans h.2⟩
theorem gx_mk (hI : IJ ad) {k c : Nat} (hk : k < 144) (ht : tTab.getD k 0 = 1) (h : kTab.getD k 0 = c) : Ty (GX ad) (ad k) c := ⟨gx_mem.mpr ⟨k, hk, ht, rfl⟩, (gx_k hI hk).trans h⟩
theorem gx_w {c j d : Nat} (hI : IJ ad) (ht : ∀ k, k < 144 → tTab.getD k 0 = 1 → kTab.getD k 0 = c → (rTab.getD k []).getD j 0 < 144 ∧ tTab.getD ((rTab.getD k []).getD j 0) 0 = 1 ∧ kTab.getD ((rTab.getD k []).getD j 0) 0 = d) : ∀ a, Ty (GX ad) a c → Ty (GX ad) (gR (GX ad) a j) d := fun a h => by
  obtain ⟨k, hk, rfl, h0, hc⟩ := gx_ty hI h
  obtain ⟨h1, h2, h3⟩ := ht k hk h0 hc
  rw [gx_r hI hk]
  exact gx_mk hI h1 h2 h3
theorem gx_wn {c j d n : Nat} (hI : IJ ad) (ht : ∀ k, k < 144 → tTab.getD k 0 = 1 → kTab.getD k 0 = c → (rTab.getD k []).getD j 0 < 144 ∧ tTab.getD ((rTab.getD k []).getD j 0) 0 = 1 ∧ kTab.getD ((rTab.getD k []).getD j 0) 0 = d) (hn : ∀ k, k < 144 → tTab.getD k 0 = 1 → kTab.getD k 0 = c → nTab.getD ((rTab.getD k []).getD j 0) 0 = n) : ∀ a, Ty (GX ad) a c → Ty (GX ad) (gR (GX ad) a j) d ∧ gN (GX ad) (gR (GX ad) a j) = n := fun a h => by
  refine ⟨gx_w hI ht a h, ?_⟩
  obtain ⟨k, hk, rfl, h0, hc⟩ := gx_ty hI h
  obtain ⟨h1, h2, h3⟩ := ht k hk h0 hc
  rw [gx_r hI hk, gx_n hI h1]
  exact hn k hk h0 hc
theorem gx_nd (hI : IJ ad) : (gL (GX ad)).Nodup := by
  show (((List.range 144).filter (fun k => decide (tTab.getD k 0 = 1))).map ad).Nodup
  unfold List.Nodup
  rw [List.pairwise_map]
  refine List.Pairwise.imp_of_mem ?_ (List.Pairwise.filter _ (show (List.range 144).Pairwise (fun a b => a ≠ b) from List.nodup_range))
  intro a b ha hb hab e
  rw [List.mem_filter] at ha hb
  exact hab (hI a b (List.mem_range.mp ha.1) (List.mem_range.mp hb.1) e)

theorem gx_WT (hI : IJ ad) : WT (GX ad) := ⟨gx_wn hI (by decide +kernel) (by decide +kernel),
  gx_wn hI (by decide +kernel) (by decide +kernel),
  gx_wn hI (by decide +kernel) (by decide +kernel),
  gx_w hI (by decide +kernel),
  gx_wn hI (by decide +kernel) (by decide +kernel),
  gx_wn hI (by decide +kernel) (by decide +kernel),
  gx_w hI (by decide +kernel),
  gx_w hI (by decide +kernel),
  gx_w hI (by decide +kernel),
  gx_w hI (by decide +kernel),
  gx_w hI (by decide +kernel),
  gx_wn hI (by decide +kernel) (by decide +kernel),
  gx_w hI (by decide +kernel),
  gx_w hI (by decide +kernel),
  gx_w hI (by decide +kernel),
  gx_wn hI (by decide +kernel) (by decide +kernel),
  gx_wn hI (by decide +kernel) (by decide +kernel),
  gx_wn hI (by decide +kernel) (by decide +kernel),
  gx_wn hI (by decide +kernel) (by decide +kernel),
  gx_wn hI (by decide +kernel) (by decide +kernel),
  gx_wn hI (by decide +kernel) (by decide +kernel),
  gx_wn hI (by decide +kernel) (by decide +kernel),
  gx_wn hI (by decide +kernel) (by decide +kernel),
  gx_w hI (by decide +kernel),
  gx_w hI (by decide +kernel),
  gx_wn hI (by decide +kernel) (by decide +kernel),
  gx_wn hI (by decide +kernel) (by decide +kernel),
  gx_w hI (by decide +kernel),
  gx_w hI (by decide +kernel),
  gx_w hI (by decide +kernel),
  gx_w hI (by decide +kernel),
  gx_w hI (by decide +kernel),
  gx_w hI (by decide +kernel),
  gx_w hI (by decide +kernel),
  gx_w hI (by decide +kernel),
  gx_w hI (by decide +kernel),
  gx_w hI (by decide +kernel),
  fun a h => by
    obtain ⟨k, hk, rfl, h0, hc⟩ := gx_ty hI h
    rw [gx_n hI hk]
    exact (show ∀ k, k < 144 → kTab.getD k 0 = 22 → nTab.getD k 0 ≤ 700 by decide +kernel) k hk hc,
  fun a i h hi => by
    obtain ⟨k, hk, rfl, h0, hc⟩ := gx_ty hI h
    rw [gx_n hI hk] at hi
    rw [gx_r hI hk]
    obtain ⟨q1, q2, q3⟩ := (show ∀ k, k < 144 → kTab.getD k 0 = 24 → ∀ i, i < nTab.getD k 0 → (rTab.getD k []).getD i 0 < 144 ∧ tTab.getD ((rTab.getD k []).getD i 0) 0 = 1 ∧ kTab.getD ((rTab.getD k []).getD i 0) 0 = 7 by decide +kernel) k hk hc i hi
    exact gx_mk hI q1 q2 q3,
  fun a i h hi => by
    obtain ⟨k, hk, rfl, h0, hc⟩ := gx_ty hI h
    rw [gx_n hI hk] at hi
    rw [gx_r hI hk]
    obtain ⟨q1, q2, q3⟩ := (show ∀ k, k < 144 → kTab.getD k 0 = 25 → ∀ i, i < nTab.getD k 0 → (rTab.getD k []).getD i 0 < 144 ∧ tTab.getD ((rTab.getD k []).getD i 0) 0 = 1 ∧ kTab.getD ((rTab.getD k []).getD i 0) 0 = 3 by decide +kernel) k hk hc i hi
    exact gx_mk hI q1 q2 q3,
  fun a b h g => by
    obtain ⟨k, hk, rfl, _, hc⟩ := gx_ty hI h
    obtain ⟨j, hj, rfl, _, hd⟩ := gx_ty hI g
    rw [(show ∀ k, k < 144 → kTab.getD k 0 = 11 → k = 0 by decide +kernel) k hk hc, (show ∀ k, k < 144 → kTab.getD k 0 = 11 → k = 0 by decide +kernel) j hj hd]⟩
def eTab (ad : Nat → Nat) (c2 : Nat → ClassId) : List va_E := [.inr (10, [.ref (ad 1), .ref (ad 3), .ref (ad 21), .ref (ad 22), .int 0, .int 0, .ref (ad 23), .int 0, .ref (ad 24), .ref (ad 35), .ref (ad 37), .ref (ad 40), .ref (ad 43), .ref (ad 46), .ref (ad 49), .ref (ad 52), .ref (ad 73), .ref (ad 80), .ref (ad 82)]),
  .inr (6, [.ref (ad 2)]),
  .inl (c2 0, 543, .inl (fun _ => 0)),
  .inr (2, [.ref (ad 4), .int 0, .int 0]),
  .inl (c2 1, 8, .inr (.inr (.inr (.inr (va_up (va_up (va_up (va_up (va_up (va_up (va_up (va_up (fun _ => none) 0 (some (ad 5))) 1 (some (ad 7))) 2 (some (ad 9))) 3 (some (ad 11))) 4 (some (ad 13))) 5 (some (ad 15))) 6 (some (ad 17))) 7 (some (ad 19))))))),
  .inr (6, [.ref (ad 6)]),
  .inl (c2 2, 543, .inl (fun _ => 0)),
  .inr (6, [.ref (ad 8)]),
  .inl (c2 3, 543, .inl (fun _ => 0)),
  .inr (6, [.ref (ad 10)]),
  .inl (c2 4, 543, .inl (fun _ => 0)),
  .inr (6, [.ref (ad 12)]),
  .inl (c2 5, 543, .inl (fun _ => 0)),
  .inr (6, [.ref (ad 14)]),
  .inl (c2 6, 543, .inl (fun _ => 0)),
  .inr (6, [.ref (ad 16)]),
  .inl (c2 7, 543, .inl (fun _ => 0)),
  .inr (6, [.ref (ad 18)]),
  .inl (c2 8, 543, .inl (fun _ => 0)),
  .inr (6, [.ref (ad 20)]),
  .inl (c2 9, 543, .inl (fun _ => 0)),
  .inl (c2 10, 3, .inr (.inr (.inr (.inr (va_up (va_up (va_up (fun _ => none) 0 (some (ad 84))) 1 (some (ad 104))) 2 (some (ad 124))))))),
  .inl (c2 11, 3, .inr (.inr (.inr (.inr (va_up (va_up (va_up (fun _ => none) 0 (some (ad 86))) 1 (some (ad 106))) 2 (some (ad 126))))))),
  .inl (c2 12, 700, .inl (fun _ => 0)),
  .inr (4, [.ref (ad 25), .ref (ad 30), .ref (ad 32), .int 0, .int 0, .int (-1), .int 0, .int 0, .int (-1), .int (-1)]),
  .inr (8, [.ref (ad 26), .ref (ad 27), .ref (ad 28), .int 0, .ref (ad 29), .int 0]),
  .inl (c2 13, 701, .inl (fun _ => 0)),
  .inl (c2 14, 701, .inl (fun _ => 0)),
  .inl (c2 15, 701, .inl (fun _ => 0)),
  .inl (c2 16, 0, .inl (fun _ => 0)),
  .inr (6, [.ref (ad 31)]),
  .inl (c2 17, 543, .inl (fun _ => 0)),
  .inr (9, [.ref (ad 33), .ref (ad 34), .int 0, .int 0]),
  .inl (c2 18, 73, .inl (fun _ => 0)),
  .inl (c2 19, 72, .inl (fun _ => 0)),
  .inr (7, [.ref (ad 36), .int 0]),
  .inl (c2 20, 178, .inl (fun _ => 0)),
  .inr (9, [.ref (ad 38), .ref (ad 39), .int 0, .int 0]),
  .inl (c2 21, 73, .inl (fun _ => 0)),
  .inl (c2 22, 72, .inl (fun _ => 0)),
  .inr (9, [.ref (ad 41), .ref (ad 42), .int 0, .int 0]),
  .inl (c2 23, 73, .inl (fun _ => 0)),
  .inl (c2 24, 72, .inl (fun _ => 0)),
  .inr (9, [.ref (ad 44), .ref (ad 45), .int 0, .int 0]),
  .inl (c2 25, 73, .inl (fun _ => 0)),
  .inl (c2 26, 72, .inl (fun _ => 0)),
  .inr (9, [.ref (ad 47), .ref (ad 48), .int 0, .int 0]),
  .inl (c2 27, 73, .inl (fun _ => 0)),
  .inl (c2 28, 72, .inl (fun _ => 0)),
  .inr (9, [.ref (ad 50), .ref (ad 51), .int 0, .int 0]),
  .inl (c2 29, 73, .inl (fun _ => 0)),
  .inl (c2 30, 72, .inl (fun _ => 0)),
  .inr (3, [.ref (ad 53), .ref (ad 56), .ref (ad 59), .ref (ad 62), .ref (ad 65), .ref (ad 72), .int 0, .int 0]),
  .inr (9, [.ref (ad 54), .ref (ad 55), .int 0, .int 0]),
  .inl (c2 31, 73, .inl (fun _ => 0)),
  .inl (c2 32, 72, .inl (fun _ => 0)),
  .inr (9, [.ref (ad 57), .ref (ad 58), .int 0, .int 0]),
  .inl (c2 33, 73, .inl (fun _ => 0)),
  .inl (c2 34, 72, .inl (fun _ => 0)),
  .inr (9, [.ref (ad 60), .ref (ad 61), .int 0, .int 0]),
  .inl (c2 35, 73, .inl (fun _ => 0)),
  .inl (c2 36, 72, .inl (fun _ => 0)),
  .inr (9, [.ref (ad 63), .ref (ad 64), .int 0, .int 0]),
  .inl (c2 37, 73, .inl (fun _ => 0)),
  .inl (c2 38, 72, .inl (fun _ => 0)),
  .inr (0, [.ref (ad 66), .ref (ad 67), .ref (ad 68), .ref (ad 69), .ref (ad 69)]),
  .inl (c2 39, 24, .inl (fun _ => 0)),
  .inl (c2 40, 24, .inl (fun _ => 0)),
  .inl (c2 41, 24, .inl (fun _ => 0)),
  .inr (9, [.ref (ad 70), .ref (ad 71), .int 0, .int 0]),
  .inl (c2 42, 73, .inl (fun _ => 0)),
  .inl (c2 43, 72, .inl (fun _ => 0)),
  .inl (c2 44, 6, .inl (fun _ => 0)),
  .inr (0, [.ref (ad 74), .ref (ad 75), .ref (ad 76), .ref (ad 77), .ref (ad 77)]),
  .inl (c2 45, 24, .inl (fun _ => 0)),
  .inl (c2 46, 24, .inl (fun _ => 0)),
  .inl (c2 47, 24, .inl (fun _ => 0)),
  .inr (9, [.ref (ad 78), .ref (ad 79), .int 0, .int 0]),
  .inl (c2 48, 73, .inl (fun _ => 0)),
  .inl (c2 49, 72, .inl (fun _ => 0)),
  .inr (5, [.ref (ad 81), .long 0, .long 1]),
  .inl (c2 50, 6, .inl (fun _ => 0)),
  .inr (1, [.ref (ad 83)]),
  .inl (c2 51, 156, .inr (.inl (fun _ => 0))),
  .inr (6, [.ref (ad 85)]),
  .inl (c2 52, 543, .inl (fun _ => 0)),
  .inr (2, [.ref (ad 87), .int 0, .int 0]),
  .inl (c2 53, 8, .inr (.inr (.inr (.inr (va_up (va_up (va_up (va_up (va_up (va_up (va_up (va_up (fun _ => none) 0 (some (ad 88))) 1 (some (ad 90))) 2 (some (ad 92))) 3 (some (ad 94))) 4 (some (ad 96))) 5 (some (ad 98))) 6 (some (ad 100))) 7 (some (ad 102))))))),
  .inr (6, [.ref (ad 89)]),
  .inl (c2 54, 543, .inl (fun _ => 0)),
  .inr (6, [.ref (ad 91)]),
  .inl (c2 55, 543, .inl (fun _ => 0)),
  .inr (6, [.ref (ad 93)]),
  .inl (c2 56, 543, .inl (fun _ => 0)),
  .inr (6, [.ref (ad 95)]),
  .inl (c2 57, 543, .inl (fun _ => 0)),
  .inr (6, [.ref (ad 97)]),
  .inl (c2 58, 543, .inl (fun _ => 0)),
  .inr (6, [.ref (ad 99)]),
  .inl (c2 59, 543, .inl (fun _ => 0)),
  .inr (6, [.ref (ad 101)]),
  .inl (c2 60, 543, .inl (fun _ => 0)),
  .inr (6, [.ref (ad 103)]),
  .inl (c2 61, 543, .inl (fun _ => 0)),
  .inr (6, [.ref (ad 105)]),
  .inl (c2 62, 543, .inl (fun _ => 0)),
  .inr (2, [.ref (ad 107), .int 0, .int 0]),
  .inl (c2 63, 8, .inr (.inr (.inr (.inr (va_up (va_up (va_up (va_up (va_up (va_up (va_up (va_up (fun _ => none) 0 (some (ad 108))) 1 (some (ad 110))) 2 (some (ad 112))) 3 (some (ad 114))) 4 (some (ad 116))) 5 (some (ad 118))) 6 (some (ad 120))) 7 (some (ad 122))))))),
  .inr (6, [.ref (ad 109)]),
  .inl (c2 64, 543, .inl (fun _ => 0)),
  .inr (6, [.ref (ad 111)]),
  .inl (c2 65, 543, .inl (fun _ => 0)),
  .inr (6, [.ref (ad 113)]),
  .inl (c2 66, 543, .inl (fun _ => 0)),
  .inr (6, [.ref (ad 115)]),
  .inl (c2 67, 543, .inl (fun _ => 0)),
  .inr (6, [.ref (ad 117)]),
  .inl (c2 68, 543, .inl (fun _ => 0)),
  .inr (6, [.ref (ad 119)]),
  .inl (c2 69, 543, .inl (fun _ => 0)),
  .inr (6, [.ref (ad 121)]),
  .inl (c2 70, 543, .inl (fun _ => 0)),
  .inr (6, [.ref (ad 123)]),
  .inl (c2 71, 543, .inl (fun _ => 0)),
  .inr (6, [.ref (ad 125)]),
  .inl (c2 72, 543, .inl (fun _ => 0)),
  .inr (2, [.ref (ad 127), .int 0, .int 0]),
  .inl (c2 73, 8, .inr (.inr (.inr (.inr (va_up (va_up (va_up (va_up (va_up (va_up (va_up (va_up (fun _ => none) 0 (some (ad 128))) 1 (some (ad 130))) 2 (some (ad 132))) 3 (some (ad 134))) 4 (some (ad 136))) 5 (some (ad 138))) 6 (some (ad 140))) 7 (some (ad 142))))))),
  .inr (6, [.ref (ad 129)]),
  .inl (c2 74, 543, .inl (fun _ => 0)),
  .inr (6, [.ref (ad 131)]),
  .inl (c2 75, 543, .inl (fun _ => 0)),
  .inr (6, [.ref (ad 133)]),
  .inl (c2 76, 543, .inl (fun _ => 0)),
  .inr (6, [.ref (ad 135)]),
  .inl (c2 77, 543, .inl (fun _ => 0)),
  .inr (6, [.ref (ad 137)]),
  .inl (c2 78, 543, .inl (fun _ => 0)),
  .inr (6, [.ref (ad 139)]),
  .inl (c2 79, 543, .inl (fun _ => 0)),
  .inr (6, [.ref (ad 141)]),
  .inl (c2 80, 543, .inl (fun _ => 0)),
  .inr (6, [.ref (ad 143)]),
  .inl (c2 81, 543, .inl (fun _ => 0))]
def fX (ad : Nat → Nat) (c2 : Nat → ClassId) (a : Nat) : va_E := (eTab ad c2).getD (ixA ad a) (.inr (0, []))
theorem okc_X0 {G : GT} {cs : Nat → ClassId} {a : Nat} {e : va_E} (hk : gK G a = 1) (hn : ∃ (y4 : Nat), Ty G y4 10 ∧ e = .inr (0, [.ref (gR G a 0), .ref (gR G a 1), .ref (gR G a 2), .ref (gR G a 3), .ref y4])) : OKc G cs 0 0 a e := ⟨fun _ => hn, fun q => absurd (hk.symm.trans q) (by decide), fun q => absurd (hk.symm.trans q) (by decide), fun q => absurd (hk.symm.trans q) (by decide), fun q => absurd (hk.symm.trans q) (by decide), fun q => absurd (hk.symm.trans q) (by decide), fun q => absurd (hk.symm.trans q) (by decide), fun q => absurd (hk.symm.trans q) (by decide), fun q => absurd (hk.symm.trans q) (by decide), fun q => absurd (hk.symm.trans q) (by decide), fun q => absurd (hk.symm.trans q) (by decide), fun q => absurd (hk.symm.trans q) (by decide), fun q => absurd (hk.symm.trans q) (by decide), fun q => absurd (hk.symm.trans q) (by decide), fun q => absurd (hk.symm.trans q) (by decide), fun q => absurd (hk.symm.trans q) (by decide)⟩
theorem okc_X1 {G : GT} {cs : Nat → ClassId} {a : Nat} {e : va_E} (hk : gK G a = 2) (hn : e = .inr (1, [.ref (gR G a 0)])) : OKc G cs 0 0 a e := ⟨fun q => absurd (hk.symm.trans q) (by decide), fun _ => hn, fun q => absurd (hk.symm.trans q) (by decide), fun q => absurd (hk.symm.trans q) (by decide), fun q => absurd (hk.symm.trans q) (by decide), fun q => absurd (hk.symm.trans q) (by decide), fun q => absurd (hk.symm.trans q) (by decide), fun q => absurd (hk.symm.trans q) (by decide), fun q => absurd (hk.symm.trans q) (by decide), fun q => absurd (hk.symm.trans q) (by decide), fun q => absurd (hk.symm.trans q) (by decide), fun q => absurd (hk.symm.trans q) (by decide), fun q => absurd (hk.symm.trans q) (by decide), fun q => absurd (hk.symm.trans q) (by decide), fun q => absurd (hk.symm.trans q) (by decide), fun q => absurd (hk.symm.trans q) (by decide)⟩
theorem okc_X3 {G : GT} {cs : Nat → ClassId} {a : Nat} {e : va_E} (hk : gK G a = 3) (hn : ∃ (y1 : Int32) (y2 : Int32), e = .inr (2, [.ref (gR G a 0), .int y1, .int y2])) : OKc G cs 0 0 a e := ⟨fun q => absurd (hk.symm.trans q) (by decide), fun q => absurd (hk.symm.trans q) (by decide), fun _ => hn, fun q => absurd (hk.symm.trans q) (by decide), fun q => absurd (hk.symm.trans q) (by decide), fun q => absurd (hk.symm.trans q) (by decide), fun q => absurd (hk.symm.trans q) (by decide), fun q => absurd (hk.symm.trans q) (by decide), fun q => absurd (hk.symm.trans q) (by decide), fun q => absurd (hk.symm.trans q) (by decide), fun q => absurd (hk.symm.trans q) (by decide), fun q => absurd (hk.symm.trans q) (by decide), fun q => absurd (hk.symm.trans q) (by decide), fun q => absurd (hk.symm.trans q) (by decide), fun q => absurd (hk.symm.trans q) (by decide), fun q => absurd (hk.symm.trans q) (by decide)⟩
theorem okc_X4 {G : GT} {cs : Nat → ClassId} {a : Nat} {e : va_E} (hk : gK G a = 4) (hn : ∃ (y6 : Int32) (y7 : Int32), e = .inr (3, [.ref (gR G a 0), .ref (gR G a 1), .ref (gR G a 2), .ref (gR G a 3), .ref (gR G a 4), .ref (gR G a 5), .int y6, .int y7])) : OKc G cs 0 0 a e := ⟨fun q => absurd (hk.symm.trans q) (by decide), fun q => absurd (hk.symm.trans q) (by decide), fun q => absurd (hk.symm.trans q) (by decide), fun _ => hn, fun q => absurd (hk.symm.trans q) (by decide), fun q => absurd (hk.symm.trans q) (by decide), fun q => absurd (hk.symm.trans q) (by decide), fun q => absurd (hk.symm.trans q) (by decide), fun q => absurd (hk.symm.trans q) (by decide), fun q => absurd (hk.symm.trans q) (by decide), fun q => absurd (hk.symm.trans q) (by decide), fun q => absurd (hk.symm.trans q) (by decide), fun q => absurd (hk.symm.trans q) (by decide), fun q => absurd (hk.symm.trans q) (by decide), fun q => absurd (hk.symm.trans q) (by decide), fun q => absurd (hk.symm.trans q) (by decide)⟩
theorem okc_X5 {G : GT} {cs : Nat → ClassId} {a : Nat} {e : va_E} (hk : gK G a = 5) (hn : ∃ (y3 : Int32) (y4 : Int32) (y5 : Int32) (y6 : Int32) (y7 : Int32) (y8 : Int32) (y9 : Int32), e = .inr (4, [.ref (gR G a 0), .ref (gR G a 1), .ref (gR G a 2), .int y3, .int y4, .int y5, .int y6, .int y7, .int y8, .int y9])) : OKc G cs 0 0 a e := ⟨fun q => absurd (hk.symm.trans q) (by decide), fun q => absurd (hk.symm.trans q) (by decide), fun q => absurd (hk.symm.trans q) (by decide), fun q => absurd (hk.symm.trans q) (by decide), fun _ => hn, fun q => absurd (hk.symm.trans q) (by decide), fun q => absurd (hk.symm.trans q) (by decide), fun q => absurd (hk.symm.trans q) (by decide), fun q => absurd (hk.symm.trans q) (by decide), fun q => absurd (hk.symm.trans q) (by decide), fun q => absurd (hk.symm.trans q) (by decide), fun q => absurd (hk.symm.trans q) (by decide), fun q => absurd (hk.symm.trans q) (by decide), fun q => absurd (hk.symm.trans q) (by decide), fun q => absurd (hk.symm.trans q) (by decide), fun q => absurd (hk.symm.trans q) (by decide)⟩
theorem okc_X6 {G : GT} {cs : Nat → ClassId} {a : Nat} {e : va_E} (hk : gK G a = 6) (hn : ∃ (y1 : Int64) (y2 : Int64), e = .inr (5, [.ref (gR G a 0), .long y1, .long y2])) : OKc G cs 0 0 a e := ⟨fun q => absurd (hk.symm.trans q) (by decide), fun q => absurd (hk.symm.trans q) (by decide), fun q => absurd (hk.symm.trans q) (by decide), fun q => absurd (hk.symm.trans q) (by decide), fun q => absurd (hk.symm.trans q) (by decide), fun _ => hn, fun q => absurd (hk.symm.trans q) (by decide), fun q => absurd (hk.symm.trans q) (by decide), fun q => absurd (hk.symm.trans q) (by decide), fun q => absurd (hk.symm.trans q) (by decide), fun q => absurd (hk.symm.trans q) (by decide), fun q => absurd (hk.symm.trans q) (by decide), fun q => absurd (hk.symm.trans q) (by decide), fun q => absurd (hk.symm.trans q) (by decide), fun q => absurd (hk.symm.trans q) (by decide), fun q => absurd (hk.symm.trans q) (by decide)⟩
theorem okc_X7 {G : GT} {cs : Nat → ClassId} {a : Nat} {e : va_E} (hk : gK G a = 7) (hn : e = .inr (6, [.ref (gR G a 0)])) : OKc G cs 0 0 a e := ⟨fun q => absurd (hk.symm.trans q) (by decide), fun q => absurd (hk.symm.trans q) (by decide), fun q => absurd (hk.symm.trans q) (by decide), fun q => absurd (hk.symm.trans q) (by decide), fun q => absurd (hk.symm.trans q) (by decide), fun q => absurd (hk.symm.trans q) (by decide), fun _ => hn, fun q => absurd (hk.symm.trans q) (by decide), fun q => absurd (hk.symm.trans q) (by decide), fun q => absurd (hk.symm.trans q) (by decide), fun q => absurd (hk.symm.trans q) (by decide), fun q => absurd (hk.symm.trans q) (by decide), fun q => absurd (hk.symm.trans q) (by decide), fun q => absurd (hk.symm.trans q) (by decide), fun q => absurd (hk.symm.trans q) (by decide), fun q => absurd (hk.symm.trans q) (by decide)⟩
theorem okc_X8 {G : GT} {cs : Nat → ClassId} {a : Nat} {e : va_E} (hk : gK G a = 8) (hn : ∃ (y1 : Int32), e = .inr (7, [.ref (gR G a 0), .int y1])) : OKc G cs 0 0 a e := ⟨fun q => absurd (hk.symm.trans q) (by decide), fun q => absurd (hk.symm.trans q) (by decide), fun q => absurd (hk.symm.trans q) (by decide), fun q => absurd (hk.symm.trans q) (by decide), fun q => absurd (hk.symm.trans q) (by decide), fun q => absurd (hk.symm.trans q) (by decide), fun q => absurd (hk.symm.trans q) (by decide), fun _ => hn, fun q => absurd (hk.symm.trans q) (by decide), fun q => absurd (hk.symm.trans q) (by decide), fun q => absurd (hk.symm.trans q) (by decide), fun q => absurd (hk.symm.trans q) (by decide), fun q => absurd (hk.symm.trans q) (by decide), fun q => absurd (hk.symm.trans q) (by decide), fun q => absurd (hk.symm.trans q) (by decide), fun q => absurd (hk.symm.trans q) (by decide)⟩
theorem okc_X9 {G : GT} {cs : Nat → ClassId} {a : Nat} {e : va_E} (hk : gK G a = 9) (hn : ∃ (y3 : Int32) (y4 : Nat) (y5 : Int32), Ty G y4 22 ∧ e = .inr (8, [.ref (gR G a 0), .ref (gR G a 1), .ref (gR G a 2), .int y3, .ref y4, .int y5])) : OKc G cs 0 0 a e := ⟨fun q => absurd (hk.symm.trans q) (by decide), fun q => absurd (hk.symm.trans q) (by decide), fun q => absurd (hk.symm.trans q) (by decide), fun q => absurd (hk.symm.trans q) (by decide), fun q => absurd (hk.symm.trans q) (by decide), fun q => absurd (hk.symm.trans q) (by decide), fun q => absurd (hk.symm.trans q) (by decide), fun q => absurd (hk.symm.trans q) (by decide), fun _ => hn, fun q => absurd (hk.symm.trans q) (by decide), fun q => absurd (hk.symm.trans q) (by decide), fun q => absurd (hk.symm.trans q) (by decide), fun q => absurd (hk.symm.trans q) (by decide), fun q => absurd (hk.symm.trans q) (by decide), fun q => absurd (hk.symm.trans q) (by decide), fun q => absurd (hk.symm.trans q) (by decide)⟩
theorem okc_X10 {G : GT} {cs : Nat → ClassId} {a : Nat} {e : va_E} (hk : gK G a = 10) (hn : ∃ (y2 : Int32) (y3 : Nat), y3 ≤ 72 ∧ e = .inr (9, [.ref (gR G a 0), .ref (gR G a 1), .int y2, .int (nI y3)])) : OKc G cs 0 0 a e := ⟨fun q => absurd (hk.symm.trans q) (by decide), fun q => absurd (hk.symm.trans q) (by decide), fun q => absurd (hk.symm.trans q) (by decide), fun q => absurd (hk.symm.trans q) (by decide), fun q => absurd (hk.symm.trans q) (by decide), fun q => absurd (hk.symm.trans q) (by decide), fun q => absurd (hk.symm.trans q) (by decide), fun q => absurd (hk.symm.trans q) (by decide), fun q => absurd (hk.symm.trans q) (by decide), fun _ => hn, fun q => absurd (hk.symm.trans q) (by decide), fun q => absurd (hk.symm.trans q) (by decide), fun q => absurd (hk.symm.trans q) (by decide), fun q => absurd (hk.symm.trans q) (by decide), fun q => absurd (hk.symm.trans q) (by decide), fun q => absurd (hk.symm.trans q) (by decide)⟩
theorem okc_X11 {G : GT} {cs : Nat → ClassId} {a : Nat} {e : va_E} (hk : gK G a = 11) (hn : ∃ (y5 : Int32), 0 ≤ 3 ∧ 0 ≤ 700 ∧ e = .inr (10, [.ref (gR G a 0), .ref (gR G a 1), .ref (gR G a 2), .ref (gR G a 3), .int (nI 0), .int y5, .ref (gR G a 6), .int (nI 0), .ref (gR G a 8), .ref (gR G a 9), .ref (gR G a 10), .ref (gR G a 11), .ref (gR G a 12), .ref (gR G a 13), .ref (gR G a 14), .ref (gR G a 15), .ref (gR G a 16), .ref (gR G a 17), .ref (gR G a 18)])) : OKc G cs 0 0 a e := ⟨fun q => absurd (hk.symm.trans q) (by decide), fun q => absurd (hk.symm.trans q) (by decide), fun q => absurd (hk.symm.trans q) (by decide), fun q => absurd (hk.symm.trans q) (by decide), fun q => absurd (hk.symm.trans q) (by decide), fun q => absurd (hk.symm.trans q) (by decide), fun q => absurd (hk.symm.trans q) (by decide), fun q => absurd (hk.symm.trans q) (by decide), fun q => absurd (hk.symm.trans q) (by decide), fun q => absurd (hk.symm.trans q) (by decide), fun _ => hn, fun q => absurd (hk.symm.trans q) (by decide), fun q => absurd (hk.symm.trans q) (by decide), fun q => absurd (hk.symm.trans q) (by decide), fun q => absurd (hk.symm.trans q) (by decide), fun q => absurd (hk.symm.trans q) (by decide)⟩
theorem okc_21 {G : GT} {cs : Nat → ClassId} {a : Nat} {e : va_E} (hk : gK G a = 21) (hn : ∃ g : Nat → Int32, e = .inl (cs 0, gN G a, .inl g)) : OKc G cs 0 0 a e := ⟨fun q => absurd (hk.symm.trans q) (by decide), fun q => absurd (hk.symm.trans q) (by decide), fun q => absurd (hk.symm.trans q) (by decide), fun q => absurd (hk.symm.trans q) (by decide), fun q => absurd (hk.symm.trans q) (by decide), fun q => absurd (hk.symm.trans q) (by decide), fun q => absurd (hk.symm.trans q) (by decide), fun q => absurd (hk.symm.trans q) (by decide), fun q => absurd (hk.symm.trans q) (by decide), fun q => absurd (hk.symm.trans q) (by decide), fun q => absurd (hk.symm.trans q) (by decide), fun _ => hn, fun q => absurd (hk.symm.trans q) (by decide), fun q => absurd (hk.symm.trans q) (by decide), fun q => absurd (hk.symm.trans q) (by decide), fun q => absurd (hk.symm.trans q) (by decide)⟩
theorem okc_22 {G : GT} {cs : Nat → ClassId} {a : Nat} {e : va_E} (hk : gK G a = 22) (hn : ∃ g : Nat → Int32, e = .inl (cs 1, gN G a, .inl g)) : OKc G cs 0 0 a e := ⟨fun q => absurd (hk.symm.trans q) (by decide), fun q => absurd (hk.symm.trans q) (by decide), fun q => absurd (hk.symm.trans q) (by decide), fun q => absurd (hk.symm.trans q) (by decide), fun q => absurd (hk.symm.trans q) (by decide), fun q => absurd (hk.symm.trans q) (by decide), fun q => absurd (hk.symm.trans q) (by decide), fun q => absurd (hk.symm.trans q) (by decide), fun q => absurd (hk.symm.trans q) (by decide), fun q => absurd (hk.symm.trans q) (by decide), fun q => absurd (hk.symm.trans q) (by decide), fun q => absurd (hk.symm.trans q) (by decide), fun _ => hn, fun q => absurd (hk.symm.trans q) (by decide), fun q => absurd (hk.symm.trans q) (by decide), fun q => absurd (hk.symm.trans q) (by decide)⟩
theorem okc_23 {G : GT} {cs : Nat → ClassId} {a : Nat} {e : va_E} (hk : gK G a = 23) (hn : ∃ g : Nat → Int64, e = .inl (cs 2, gN G a, .inr (.inl g))) : OKc G cs 0 0 a e := ⟨fun q => absurd (hk.symm.trans q) (by decide), fun q => absurd (hk.symm.trans q) (by decide), fun q => absurd (hk.symm.trans q) (by decide), fun q => absurd (hk.symm.trans q) (by decide), fun q => absurd (hk.symm.trans q) (by decide), fun q => absurd (hk.symm.trans q) (by decide), fun q => absurd (hk.symm.trans q) (by decide), fun q => absurd (hk.symm.trans q) (by decide), fun q => absurd (hk.symm.trans q) (by decide), fun q => absurd (hk.symm.trans q) (by decide), fun q => absurd (hk.symm.trans q) (by decide), fun q => absurd (hk.symm.trans q) (by decide), fun q => absurd (hk.symm.trans q) (by decide), fun _ => hn, fun q => absurd (hk.symm.trans q) (by decide), fun q => absurd (hk.symm.trans q) (by decide)⟩
theorem okc_24 {G : GT} {cs : Nat → ClassId} {a : Nat} {e : va_E} (hk : gK G a = 24) (hn : ∃ g : Nat → Option Nat, (∀ i, i < gN G a → g i = some (gR G a i)) ∧ e = .inl (cs 3, gN G a, .inr (.inr (.inr (.inr g))))) : OKc G cs 0 0 a e := ⟨fun q => absurd (hk.symm.trans q) (by decide), fun q => absurd (hk.symm.trans q) (by decide), fun q => absurd (hk.symm.trans q) (by decide), fun q => absurd (hk.symm.trans q) (by decide), fun q => absurd (hk.symm.trans q) (by decide), fun q => absurd (hk.symm.trans q) (by decide), fun q => absurd (hk.symm.trans q) (by decide), fun q => absurd (hk.symm.trans q) (by decide), fun q => absurd (hk.symm.trans q) (by decide), fun q => absurd (hk.symm.trans q) (by decide), fun q => absurd (hk.symm.trans q) (by decide), fun q => absurd (hk.symm.trans q) (by decide), fun q => absurd (hk.symm.trans q) (by decide), fun q => absurd (hk.symm.trans q) (by decide), fun _ => hn, fun q => absurd (hk.symm.trans q) (by decide)⟩
theorem okc_25 {G : GT} {cs : Nat → ClassId} {a : Nat} {e : va_E} (hk : gK G a = 25) (hn : ∃ g : Nat → Option Nat, (∀ i, i < gN G a → g i = some (gR G a i)) ∧ e = .inl (cs 4, gN G a, .inr (.inr (.inr (.inr g))))) : OKc G cs 0 0 a e := ⟨fun q => absurd (hk.symm.trans q) (by decide), fun q => absurd (hk.symm.trans q) (by decide), fun q => absurd (hk.symm.trans q) (by decide), fun q => absurd (hk.symm.trans q) (by decide), fun q => absurd (hk.symm.trans q) (by decide), fun q => absurd (hk.symm.trans q) (by decide), fun q => absurd (hk.symm.trans q) (by decide), fun q => absurd (hk.symm.trans q) (by decide), fun q => absurd (hk.symm.trans q) (by decide), fun q => absurd (hk.symm.trans q) (by decide), fun q => absurd (hk.symm.trans q) (by decide), fun q => absurd (hk.symm.trans q) (by decide), fun q => absurd (hk.symm.trans q) (by decide), fun q => absurd (hk.symm.trans q) (by decide), fun q => absurd (hk.symm.trans q) (by decide), fun _ => hn⟩
def CE (cs c2 : Nat → ClassId) : Prop := c2 0 = cs 0 ∧ c2 1 = cs 3 ∧ c2 2 = cs 0 ∧ c2 3 = cs 0 ∧ c2 4 = cs 0 ∧ c2 5 = cs 0 ∧ c2 6 = cs 0 ∧ c2 7 = cs 0 ∧ c2 8 = cs 0 ∧ c2 9 = cs 0 ∧ c2 10 = cs 3 ∧ c2 11 = cs 4 ∧ c2 12 = cs 1 ∧ c2 13 = cs 0 ∧ c2 14 = cs 0 ∧ c2 15 = cs 0 ∧ c2 16 = cs 1 ∧ c2 17 = cs 0 ∧ c2 18 = cs 0 ∧ c2 19 = cs 0 ∧ c2 20 = cs 1 ∧ c2 21 = cs 0 ∧ c2 22 = cs 0 ∧ c2 23 = cs 0 ∧ c2 24 = cs 0 ∧ c2 25 = cs 0 ∧ c2 26 = cs 0 ∧ c2 27 = cs 0 ∧ c2 28 = cs 0 ∧ c2 29 = cs 0 ∧ c2 30 = cs 0 ∧ c2 31 = cs 0 ∧ c2 32 = cs 0 ∧ c2 33 = cs 0 ∧ c2 34 = cs 0 ∧ c2 35 = cs 0 ∧ c2 36 = cs 0 ∧ c2 37 = cs 0 ∧ c2 38 = cs 0 ∧ c2 39 = cs 0 ∧ c2 40 = cs 0 ∧ c2 41 = cs 0 ∧ c2 42 = cs 0 ∧ c2 43 = cs 0 ∧ c2 44 = cs 0 ∧ c2 45 = cs 0 ∧ c2 46 = cs 0 ∧ c2 47 = cs 0 ∧ c2 48 = cs 0 ∧ c2 49 = cs 0 ∧ c2 50 = cs 0 ∧ c2 51 = cs 2 ∧ c2 52 = cs 0 ∧ c2 53 = cs 3 ∧ c2 54 = cs 0 ∧ c2 55 = cs 0 ∧ c2 56 = cs 0 ∧ c2 57 = cs 0 ∧ c2 58 = cs 0 ∧ c2 59 = cs 0 ∧ c2 60 = cs 0 ∧ c2 61 = cs 0 ∧ c2 62 = cs 0 ∧ c2 63 = cs 3 ∧ c2 64 = cs 0 ∧ c2 65 = cs 0 ∧ c2 66 = cs 0 ∧ c2 67 = cs 0 ∧ c2 68 = cs 0 ∧ c2 69 = cs 0 ∧ c2 70 = cs 0 ∧ c2 71 = cs 0 ∧ c2 72 = cs 0 ∧ c2 73 = cs 3 ∧ c2 74 = cs 0 ∧ c2 75 = cs 0 ∧ c2 76 = cs 0 ∧ c2 77 = cs 0 ∧ c2 78 = cs 0 ∧ c2 79 = cs 0 ∧ c2 80 = cs 0 ∧ c2 81 = cs 0
theorem ce_0 {cs c2 : Nat → ClassId} (h : CE cs c2) : c2 0 = cs 0 := h.1
theorem ce_1 {cs c2 : Nat → ClassId} (h : CE cs c2) : c2 1 = cs 3 := h.2.1
theorem ce_2 {cs c2 : Nat → ClassId} (h : CE cs c2) : c2 2 = cs 0 := h.2.2.1
theorem ce_3 {cs c2 : Nat → ClassId} (h : CE cs c2) : c2 3 = cs 0 := h.2.2.2.1
theorem ce_4 {cs c2 : Nat → ClassId} (h : CE cs c2) : c2 4 = cs 0 := h.2.2.2.2.1
theorem ce_5 {cs c2 : Nat → ClassId} (h : CE cs c2) : c2 5 = cs 0 := h.2.2.2.2.2.1
theorem ce_6 {cs c2 : Nat → ClassId} (h : CE cs c2) : c2 6 = cs 0 := h.2.2.2.2.2.2.1
theorem ce_7 {cs c2 : Nat → ClassId} (h : CE cs c2) : c2 7 = cs 0 := h.2.2.2.2.2.2.2.1
theorem ce_8 {cs c2 : Nat → ClassId} (h : CE cs c2) : c2 8 = cs 0 := h.2.2.2.2.2.2.2.2.1
theorem ce_9 {cs c2 : Nat → ClassId} (h : CE cs c2) : c2 9 = cs 0 := h.2.2.2.2.2.2.2.2.2.1
theorem ce_10 {cs c2 : Nat → ClassId} (h : CE cs c2) : c2 10 = cs 3 := h.2.2.2.2.2.2.2.2.2.2.1
theorem ce_11 {cs c2 : Nat → ClassId} (h : CE cs c2) : c2 11 = cs 4 := h.2.2.2.2.2.2.2.2.2.2.2.1
theorem ce_12 {cs c2 : Nat → ClassId} (h : CE cs c2) : c2 12 = cs 1 := h.2.2.2.2.2.2.2.2.2.2.2.2.1
theorem ce_13 {cs c2 : Nat → ClassId} (h : CE cs c2) : c2 13 = cs 0 := h.2.2.2.2.2.2.2.2.2.2.2.2.2.1
theorem ce_14 {cs c2 : Nat → ClassId} (h : CE cs c2) : c2 14 = cs 0 := h.2.2.2.2.2.2.2.2.2.2.2.2.2.2.1
theorem ce_15 {cs c2 : Nat → ClassId} (h : CE cs c2) : c2 15 = cs 0 := h.2.2.2.2.2.2.2.2.2.2.2.2.2.2.2.1
theorem ce_16 {cs c2 : Nat → ClassId} (h : CE cs c2) : c2 16 = cs 1 := h.2.2.2.2.2.2.2.2.2.2.2.2.2.2.2.2.1
theorem ce_17 {cs c2 : Nat → ClassId} (h : CE cs c2) : c2 17 = cs 0 := h.2.2.2.2.2.2.2.2.2.2.2.2.2.2.2.2.2.1
theorem ce_18 {cs c2 : Nat → ClassId} (h : CE cs c2) : c2 18 = cs 0 := h.2.2.2.2.2.2.2.2.2.2.2.2.2.2.2.2.2.2.1
theorem ce_19 {cs c2 : Nat → ClassId} (h : CE cs c2) : c2 19 = cs 0 := h.2.2.2.2.2.2.2.2.2.2.2.2.2.2.2.2.2.2.2.1
theorem ce_20 {cs c2 : Nat → ClassId} (h : CE cs c2) : c2 20 = cs 1 := h.2.2.2.2.2.2.2.2.2.2.2.2.2.2.2.2.2.2.2.2.1
theorem ce_21 {cs c2 : Nat → ClassId} (h : CE cs c2) : c2 21 = cs 0 := h.2.2.2.2.2.2.2.2.2.2.2.2.2.2.2.2.2.2.2.2.2.1
theorem ce_22 {cs c2 : Nat → ClassId} (h : CE cs c2) : c2 22 = cs 0 := h.2.2.2.2.2.2.2.2.2.2.2.2.2.2.2.2.2.2.2.2.2.2.1
theorem ce_23 {cs c2 : Nat → ClassId} (h : CE cs c2) : c2 23 = cs 0 := h.2.2.2.2.2.2.2.2.2.2.2.2.2.2.2.2.2.2.2.2.2.2.2.1
theorem ce_24 {cs c2 : Nat → ClassId} (h : CE cs c2) : c2 24 = cs 0 := h.2.2.2.2.2.2.2.2.2.2.2.2.2.2.2.2.2.2.2.2.2.2.2.2.1
theorem ce_25 {cs c2 : Nat → ClassId} (h : CE cs c2) : c2 25 = cs 0 := h.2.2.2.2.2.2.2.2.2.2.2.2.2.2.2.2.2.2.2.2.2.2.2.2.2.1
theorem ce_26 {cs c2 : Nat → ClassId} (h : CE cs c2) : c2 26 = cs 0 := h.2.2.2.2.2.2.2.2.2.2.2.2.2.2.2.2.2.2.2.2.2.2.2.2.2.2.1
theorem ce_27 {cs c2 : Nat → ClassId} (h : CE cs c2) : c2 27 = cs 0 := h.2.2.2.2.2.2.2.2.2.2.2.2.2.2.2.2.2.2.2.2.2.2.2.2.2.2.2.1
theorem ce_28 {cs c2 : Nat → ClassId} (h : CE cs c2) : c2 28 = cs 0 := h.2.2.2.2.2.2.2.2.2.2.2.2.2.2.2.2.2.2.2.2.2.2.2.2.2.2.2.2.1
theorem ce_29 {cs c2 : Nat → ClassId} (h : CE cs c2) : c2 29 = cs 0 := h.2.2.2.2.2.2.2.2.2.2.2.2.2.2.2.2.2.2.2.2.2.2.2.2.2.2.2.2.2.1
theorem ce_30 {cs c2 : Nat → ClassId} (h : CE cs c2) : c2 30 = cs 0 := h.2.2.2.2.2.2.2.2.2.2.2.2.2.2.2.2.2.2.2.2.2.2.2.2.2.2.2.2.2.2.1
theorem ce_31 {cs c2 : Nat → ClassId} (h : CE cs c2) : c2 31 = cs 0 := h.2.2.2.2.2.2.2.2.2.2.2.2.2.2.2.2.2.2.2.2.2.2.2.2.2.2.2.2.2.2.2.1
theorem ce_32 {cs c2 : Nat → ClassId} (h : CE cs c2) : c2 32 = cs 0 := h.2.2.2.2.2.2.2.2.2.2.2.2.2.2.2.2.2.2.2.2.2.2.2.2.2.2.2.2.2.2.2.2.1
theorem ce_33 {cs c2 : Nat → ClassId} (h : CE cs c2) : c2 33 = cs 0 := h.2.2.2.2.2.2.2.2.2.2.2.2.2.2.2.2.2.2.2.2.2.2.2.2.2.2.2.2.2.2.2.2.2.1
theorem ce_34 {cs c2 : Nat → ClassId} (h : CE cs c2) : c2 34 = cs 0 := h.2.2.2.2.2.2.2.2.2.2.2.2.2.2.2.2.2.2.2.2.2.2.2.2.2.2.2.2.2.2.2.2.2.2.1
theorem ce_35 {cs c2 : Nat → ClassId} (h : CE cs c2) : c2 35 = cs 0 := h.2.2.2.2.2.2.2.2.2.2.2.2.2.2.2.2.2.2.2.2.2.2.2.2.2.2.2.2.2.2.2.2.2.2.2.1
theorem ce_36 {cs c2 : Nat → ClassId} (h : CE cs c2) : c2 36 = cs 0 := h.2.2.2.2.2.2.2.2.2.2.2.2.2.2.2.2.2.2.2.2.2.2.2.2.2.2.2.2.2.2.2.2.2.2.2.2.1
theorem ce_37 {cs c2 : Nat → ClassId} (h : CE cs c2) : c2 37 = cs 0 := h.2.2.2.2.2.2.2.2.2.2.2.2.2.2.2.2.2.2.2.2.2.2.2.2.2.2.2.2.2.2.2.2.2.2.2.2.2.1
theorem ce_38 {cs c2 : Nat → ClassId} (h : CE cs c2) : c2 38 = cs 0 := h.2.2.2.2.2.2.2.2.2.2.2.2.2.2.2.2.2.2.2.2.2.2.2.2.2.2.2.2.2.2.2.2.2.2.2.2.2.2.1
theorem ce_39 {cs c2 : Nat → ClassId} (h : CE cs c2) : c2 39 = cs 0 := h.2.2.2.2.2.2.2.2.2.2.2.2.2.2.2.2.2.2.2.2.2.2.2.2.2.2.2.2.2.2.2.2.2.2.2.2.2.2.2.1
theorem ce_40 {cs c2 : Nat → ClassId} (h : CE cs c2) : c2 40 = cs 0 := h.2.2.2.2.2.2.2.2.2.2.2.2.2.2.2.2.2.2.2.2.2.2.2.2.2.2.2.2.2.2.2.2.2.2.2.2.2.2.2.2.1
theorem ce_41 {cs c2 : Nat → ClassId} (h : CE cs c2) : c2 41 = cs 0 := h.2.2.2.2.2.2.2.2.2.2.2.2.2.2.2.2.2.2.2.2.2.2.2.2.2.2.2.2.2.2.2.2.2.2.2.2.2.2.2.2.2.1
theorem ce_42 {cs c2 : Nat → ClassId} (h : CE cs c2) : c2 42 = cs 0 := h.2.2.2.2.2.2.2.2.2.2.2.2.2.2.2.2.2.2.2.2.2.2.2.2.2.2.2.2.2.2.2.2.2.2.2.2.2.2.2.2.2.2.1
theorem ce_43 {cs c2 : Nat → ClassId} (h : CE cs c2) : c2 43 = cs 0 := h.2.2.2.2.2.2.2.2.2.2.2.2.2.2.2.2.2.2.2.2.2.2.2.2.2.2.2.2.2.2.2.2.2.2.2.2.2.2.2.2.2.2.2.1
theorem ce_44 {cs c2 : Nat → ClassId} (h : CE cs c2) : c2 44 = cs 0 := h.2.2.2.2.2.2.2.2.2.2.2.2.2.2.2.2.2.2.2.2.2.2.2.2.2.2.2.2.2.2.2.2.2.2.2.2.2.2.2.2.2.2.2.2.1
theorem ce_45 {cs c2 : Nat → ClassId} (h : CE cs c2) : c2 45 = cs 0 := h.2.2.2.2.2.2.2.2.2.2.2.2.2.2.2.2.2.2.2.2.2.2.2.2.2.2.2.2.2.2.2.2.2.2.2.2.2.2.2.2.2.2.2.2.2.1
theorem ce_46 {cs c2 : Nat → ClassId} (h : CE cs c2) : c2 46 = cs 0 := h.2.2.2.2.2.2.2.2.2.2.2.2.2.2.2.2.2.2.2.2.2.2.2.2.2.2.2.2.2.2.2.2.2.2.2.2.2.2.2.2.2.2.2.2.2.2.1
theorem ce_47 {cs c2 : Nat → ClassId} (h : CE cs c2) : c2 47 = cs 0 := h.2.2.2.2.2.2.2.2.2.2.2.2.2.2.2.2.2.2.2.2.2.2.2.2.2.2.2.2.2.2.2.2.2.2.2.2.2.2.2.2.2.2.2.2.2.2.2.1
theorem ce_48 {cs c2 : Nat → ClassId} (h : CE cs c2) : c2 48 = cs 0 := h.2.2.2.2.2.2.2.2.2.2.2.2.2.2.2.2.2.2.2.2.2.2.2.2.2.2.2.2.2.2.2.2.2.2.2.2.2.2.2.2.2.2.2.2.2.2.2.2.1
theorem ce_49 {cs c2 : Nat → ClassId} (h : CE cs c2) : c2 49 = cs 0 := h.2.2.2.2.2.2.2.2.2.2.2.2.2.2.2.2.2.2.2.2.2.2.2.2.2.2.2.2.2.2.2.2.2.2.2.2.2.2.2.2.2.2.2.2.2.2.2.2.2.1
theorem ce_50 {cs c2 : Nat → ClassId} (h : CE cs c2) : c2 50 = cs 0 := h.2.2.2.2.2.2.2.2.2.2.2.2.2.2.2.2.2.2.2.2.2.2.2.2.2.2.2.2.2.2.2.2.2.2.2.2.2.2.2.2.2.2.2.2.2.2.2.2.2.2.1
theorem ce_51 {cs c2 : Nat → ClassId} (h : CE cs c2) : c2 51 = cs 2 := h.2.2.2.2.2.2.2.2.2.2.2.2.2.2.2.2.2.2.2.2.2.2.2.2.2.2.2.2.2.2.2.2.2.2.2.2.2.2.2.2.2.2.2.2.2.2.2.2.2.2.2.1
theorem ce_52 {cs c2 : Nat → ClassId} (h : CE cs c2) : c2 52 = cs 0 := h.2.2.2.2.2.2.2.2.2.2.2.2.2.2.2.2.2.2.2.2.2.2.2.2.2.2.2.2.2.2.2.2.2.2.2.2.2.2.2.2.2.2.2.2.2.2.2.2.2.2.2.2.1
theorem ce_53 {cs c2 : Nat → ClassId} (h : CE cs c2) : c2 53 = cs 3 := h.2.2.2.2.2.2.2.2.2.2.2.2.2.2.2.2.2.2.2.2.2.2.2.2.2.2.2.2.2.2.2.2.2.2.2.2.2.2.2.2.2.2.2.2.2.2.2.2.2.2.2.2.2.1
theorem ce_54 {cs c2 : Nat → ClassId} (h : CE cs c2) : c2 54 = cs 0 := h.2.2.2.2.2.2.2.2.2.2.2.2.2.2.2.2.2.2.2.2.2.2.2.2.2.2.2.2.2.2.2.2.2.2.2.2.2.2.2.2.2.2.2.2.2.2.2.2.2.2.2.2.2.2.1
theorem ce_55 {cs c2 : Nat → ClassId} (h : CE cs c2) : c2 55 = cs 0 := h.2.2.2.2.2.2.2.2.2.2.2.2.2.2.2.2.2.2.2.2.2.2.2.2.2.2.2.2.2.2.2.2.2.2.2.2.2.2.2.2.2.2.2.2.2.2.2.2.2.2.2.2.2.2.2.1
theorem ce_56 {cs c2 : Nat → ClassId} (h : CE cs c2) : c2 56 = cs 0 := h.2.2.2.2.2.2.2.2.2.2.2.2.2.2.2.2.2.2.2.2.2.2.2.2.2.2.2.2.2.2.2.2.2.2.2.2.2.2.2.2.2.2.2.2.2.2.2.2.2.2.2.2.2.2.2.2.1
theorem ce_57 {cs c2 : Nat → ClassId} (h : CE cs c2) : c2 57 = cs 0 := h.2.2.2.2.2.2.2.2.2.2.2.2.2.2.2.2.2.2.2.2.2.2.2.2.2.2.2.2.2.2.2.2.2.2.2.2.2.2.2.2.2.2.2.2.2.2.2.2.2.2.2.2.2.2.2.2.2.1
theorem ce_58 {cs c2 : Nat → ClassId} (h : CE cs c2) : c2 58 = cs 0 := h.2.2.2.2.2.2.2.2.2.2.2.2.2.2.2.2.2.2.2.2.2.2.2.2.2.2.2.2.2.2.2.2.2.2.2.2.2.2.2.2.2.2.2.2.2.2.2.2.2.2.2.2.2.2.2.2.2.2.1
theorem ce_59 {cs c2 : Nat → ClassId} (h : CE cs c2) : c2 59 = cs 0 := h.2.2.2.2.2.2.2.2.2.2.2.2.2.2.2.2.2.2.2.2.2.2.2.2.2.2.2.2.2.2.2.2.2.2.2.2.2.2.2.2.2.2.2.2.2.2.2.2.2.2.2.2.2.2.2.2.2.2.2.1
theorem ce_60 {cs c2 : Nat → ClassId} (h : CE cs c2) : c2 60 = cs 0 := h.2.2.2.2.2.2.2.2.2.2.2.2.2.2.2.2.2.2.2.2.2.2.2.2.2.2.2.2.2.2.2.2.2.2.2.2.2.2.2.2.2.2.2.2.2.2.2.2.2.2.2.2.2.2.2.2.2.2.2.2.1
theorem ce_61 {cs c2 : Nat → ClassId} (h : CE cs c2) : c2 61 = cs 0 := h.2.2.2.2.2.2.2.2.2.2.2.2.2.2.2.2.2.2.2.2.2.2.2.2.2.2.2.2.2.2.2.2.2.2.2.2.2.2.2.2.2.2.2.2.2.2.2.2.2.2.2.2.2.2.2.2.2.2.2.2.2.1
theorem ce_62 {cs c2 : Nat → ClassId} (h : CE cs c2) : c2 62 = cs 0 := h.2.2.2.2.2.2.2.2.2.2.2.2.2.2.2.2.2.2.2.2.2.2.2.2.2.2.2.2.2.2.2.2.2.2.2.2.2.2.2.2.2.2.2.2.2.2.2.2.2.2.2.2.2.2.2.2.2.2.2.2.2.2.1
theorem ce_63 {cs c2 : Nat → ClassId} (h : CE cs c2) : c2 63 = cs 3 := h.2.2.2.2.2.2.2.2.2.2.2.2.2.2.2.2.2.2.2.2.2.2.2.2.2.2.2.2.2.2.2.2.2.2.2.2.2.2.2.2.2.2.2.2.2.2.2.2.2.2.2.2.2.2.2.2.2.2.2.2.2.2.2.1
theorem ce_64 {cs c2 : Nat → ClassId} (h : CE cs c2) : c2 64 = cs 0 := h.2.2.2.2.2.2.2.2.2.2.2.2.2.2.2.2.2.2.2.2.2.2.2.2.2.2.2.2.2.2.2.2.2.2.2.2.2.2.2.2.2.2.2.2.2.2.2.2.2.2.2.2.2.2.2.2.2.2.2.2.2.2.2.2.1
theorem ce_65 {cs c2 : Nat → ClassId} (h : CE cs c2) : c2 65 = cs 0 := h.2.2.2.2.2.2.2.2.2.2.2.2.2.2.2.2.2.2.2.2.2.2.2.2.2.2.2.2.2.2.2.2.2.2.2.2.2.2.2.2.2.2.2.2.2.2.2.2.2.2.2.2.2.2.2.2.2.2.2.2.2.2.2.2.2.1
theorem ce_66 {cs c2 : Nat → ClassId} (h : CE cs c2) : c2 66 = cs 0 := h.2.2.2.2.2.2.2.2.2.2.2.2.2.2.2.2.2.2.2.2.2.2.2.2.2.2.2.2.2.2.2.2.2.2.2.2.2.2.2.2.2.2.2.2.2.2.2.2.2.2.2.2.2.2.2.2.2.2.2.2.2.2.2.2.2.2.1
theorem ce_67 {cs c2 : Nat → ClassId} (h : CE cs c2) : c2 67 = cs 0 := h.2.2.2.2.2.2.2.2.2.2.2.2.2.2.2.2.2.2.2.2.2.2.2.2.2.2.2.2.2.2.2.2.2.2.2.2.2.2.2.2.2.2.2.2.2.2.2.2.2.2.2.2.2.2.2.2.2.2.2.2.2.2.2.2.2.2.2.1
theorem ce_68 {cs c2 : Nat → ClassId} (h : CE cs c2) : c2 68 = cs 0 := h.2.2.2.2.2.2.2.2.2.2.2.2.2.2.2.2.2.2.2.2.2.2.2.2.2.2.2.2.2.2.2.2.2.2.2.2.2.2.2.2.2.2.2.2.2.2.2.2.2.2.2.2.2.2.2.2.2.2.2.2.2.2.2.2.2.2.2.2.1
theorem ce_69 {cs c2 : Nat → ClassId} (h : CE cs c2) : c2 69 = cs 0 := h.2.2.2.2.2.2.2.2.2.2.2.2.2.2.2.2.2.2.2.2.2.2.2.2.2.2.2.2.2.2.2.2.2.2.2.2.2.2.2.2.2.2.2.2.2.2.2.2.2.2.2.2.2.2.2.2.2.2.2.2.2.2.2.2.2.2.2.2.2.1
theorem ce_70 {cs c2 : Nat → ClassId} (h : CE cs c2) : c2 70 = cs 0 := h.2.2.2.2.2.2.2.2.2.2.2.2.2.2.2.2.2.2.2.2.2.2.2.2.2.2.2.2.2.2.2.2.2.2.2.2.2.2.2.2.2.2.2.2.2.2.2.2.2.2.2.2.2.2.2.2.2.2.2.2.2.2.2.2.2.2.2.2.2.2.1
theorem ce_71 {cs c2 : Nat → ClassId} (h : CE cs c2) : c2 71 = cs 0 := h.2.2.2.2.2.2.2.2.2.2.2.2.2.2.2.2.2.2.2.2.2.2.2.2.2.2.2.2.2.2.2.2.2.2.2.2.2.2.2.2.2.2.2.2.2.2.2.2.2.2.2.2.2.2.2.2.2.2.2.2.2.2.2.2.2.2.2.2.2.2.2.1
theorem ce_72 {cs c2 : Nat → ClassId} (h : CE cs c2) : c2 72 = cs 0 := h.2.2.2.2.2.2.2.2.2.2.2.2.2.2.2.2.2.2.2.2.2.2.2.2.2.2.2.2.2.2.2.2.2.2.2.2.2.2.2.2.2.2.2.2.2.2.2.2.2.2.2.2.2.2.2.2.2.2.2.2.2.2.2.2.2.2.2.2.2.2.2.2.1
theorem ce_73 {cs c2 : Nat → ClassId} (h : CE cs c2) : c2 73 = cs 3 := h.2.2.2.2.2.2.2.2.2.2.2.2.2.2.2.2.2.2.2.2.2.2.2.2.2.2.2.2.2.2.2.2.2.2.2.2.2.2.2.2.2.2.2.2.2.2.2.2.2.2.2.2.2.2.2.2.2.2.2.2.2.2.2.2.2.2.2.2.2.2.2.2.2.1
theorem ce_74 {cs c2 : Nat → ClassId} (h : CE cs c2) : c2 74 = cs 0 := h.2.2.2.2.2.2.2.2.2.2.2.2.2.2.2.2.2.2.2.2.2.2.2.2.2.2.2.2.2.2.2.2.2.2.2.2.2.2.2.2.2.2.2.2.2.2.2.2.2.2.2.2.2.2.2.2.2.2.2.2.2.2.2.2.2.2.2.2.2.2.2.2.2.2.1
theorem ce_75 {cs c2 : Nat → ClassId} (h : CE cs c2) : c2 75 = cs 0 := h.2.2.2.2.2.2.2.2.2.2.2.2.2.2.2.2.2.2.2.2.2.2.2.2.2.2.2.2.2.2.2.2.2.2.2.2.2.2.2.2.2.2.2.2.2.2.2.2.2.2.2.2.2.2.2.2.2.2.2.2.2.2.2.2.2.2.2.2.2.2.2.2.2.2.2.1
theorem ce_76 {cs c2 : Nat → ClassId} (h : CE cs c2) : c2 76 = cs 0 := h.2.2.2.2.2.2.2.2.2.2.2.2.2.2.2.2.2.2.2.2.2.2.2.2.2.2.2.2.2.2.2.2.2.2.2.2.2.2.2.2.2.2.2.2.2.2.2.2.2.2.2.2.2.2.2.2.2.2.2.2.2.2.2.2.2.2.2.2.2.2.2.2.2.2.2.2.1
theorem ce_77 {cs c2 : Nat → ClassId} (h : CE cs c2) : c2 77 = cs 0 := h.2.2.2.2.2.2.2.2.2.2.2.2.2.2.2.2.2.2.2.2.2.2.2.2.2.2.2.2.2.2.2.2.2.2.2.2.2.2.2.2.2.2.2.2.2.2.2.2.2.2.2.2.2.2.2.2.2.2.2.2.2.2.2.2.2.2.2.2.2.2.2.2.2.2.2.2.2.1
theorem ce_78 {cs c2 : Nat → ClassId} (h : CE cs c2) : c2 78 = cs 0 := h.2.2.2.2.2.2.2.2.2.2.2.2.2.2.2.2.2.2.2.2.2.2.2.2.2.2.2.2.2.2.2.2.2.2.2.2.2.2.2.2.2.2.2.2.2.2.2.2.2.2.2.2.2.2.2.2.2.2.2.2.2.2.2.2.2.2.2.2.2.2.2.2.2.2.2.2.2.2.1
theorem ce_79 {cs c2 : Nat → ClassId} (h : CE cs c2) : c2 79 = cs 0 := h.2.2.2.2.2.2.2.2.2.2.2.2.2.2.2.2.2.2.2.2.2.2.2.2.2.2.2.2.2.2.2.2.2.2.2.2.2.2.2.2.2.2.2.2.2.2.2.2.2.2.2.2.2.2.2.2.2.2.2.2.2.2.2.2.2.2.2.2.2.2.2.2.2.2.2.2.2.2.2.1
theorem ce_80 {cs c2 : Nat → ClassId} (h : CE cs c2) : c2 80 = cs 0 := h.2.2.2.2.2.2.2.2.2.2.2.2.2.2.2.2.2.2.2.2.2.2.2.2.2.2.2.2.2.2.2.2.2.2.2.2.2.2.2.2.2.2.2.2.2.2.2.2.2.2.2.2.2.2.2.2.2.2.2.2.2.2.2.2.2.2.2.2.2.2.2.2.2.2.2.2.2.2.2.2.1
theorem ce_81 {cs c2 : Nat → ClassId} (h : CE cs c2) : c2 81 = cs 0 := h.2.2.2.2.2.2.2.2.2.2.2.2.2.2.2.2.2.2.2.2.2.2.2.2.2.2.2.2.2.2.2.2.2.2.2.2.2.2.2.2.2.2.2.2.2.2.2.2.2.2.2.2.2.2.2.2.2.2.2.2.2.2.2.2.2.2.2.2.2.2.2.2.2.2.2.2.2.2.2.2.2
set_option maxHeartbeats 4000000 in
set_option maxRecDepth 100000 in
theorem gx_OKT (hI : IJ ad) {cs c2 : Nat → ClassId} (hc : CE cs c2) : OKT (GX ad) cs 0 0 (fX ad c2) := fun a ha => by
  obtain ⟨k, hk, htb, rfl⟩ := gx_mem.mp ha
  have e : fX ad c2 (ad k) = (eTab ad c2).getD k (.inr (0, [])) := by unfold fX; rw [ix_ad hI hk]
  rw [e]
  match k, hk, htb with
  | 0, _, h => exact okc_X11 (gx_k hI (show 0 < 144 by decide)) ⟨0, by decide, by decide, by rw [gx_r hI (show 0 < 144 by decide) 0, gx_r hI (show 0 < 144 by decide) 1, gx_r hI (show 0 < 144 by decide) 2, gx_r hI (show 0 < 144 by decide) 3, gx_r hI (show 0 < 144 by decide) 6, gx_r hI (show 0 < 144 by decide) 8, gx_r hI (show 0 < 144 by decide) 9, gx_r hI (show 0 < 144 by decide) 10, gx_r hI (show 0 < 144 by decide) 11, gx_r hI (show 0 < 144 by decide) 12, gx_r hI (show 0 < 144 by decide) 13, gx_r hI (show 0 < 144 by decide) 14, gx_r hI (show 0 < 144 by decide) 15, gx_r hI (show 0 < 144 by decide) 16, gx_r hI (show 0 < 144 by decide) 17, gx_r hI (show 0 < 144 by decide) 18]; rfl⟩
  | 1, _, h => exact okc_X7 (gx_k hI (show 1 < 144 by decide)) (by rw [gx_r hI (show 1 < 144 by decide) 0]; rfl)
  | 2, _, h => exact okc_21 (gx_k hI (show 2 < 144 by decide)) ⟨fun _ => 0, by rw [← ce_0 hc, gx_n hI (show 2 < 144 by decide)]; rfl⟩
  | 3, _, h => exact okc_X3 (gx_k hI (show 3 < 144 by decide)) ⟨0, 0, by rw [gx_r hI (show 3 < 144 by decide) 0]; rfl⟩
  | 4, _, h => exact okc_24 (gx_k hI (show 4 < 144 by decide)) ⟨va_up (va_up (va_up (va_up (va_up (va_up (va_up (va_up (fun _ => none) 0 (some (ad 5))) 1 (some (ad 7))) 2 (some (ad 9))) 3 (some (ad 11))) 4 (some (ad 13))) 5 (some (ad 15))) 6 (some (ad 17))) 7 (some (ad 19)), fun i hi => by
      rw [gx_n hI (show 4 < 144 by decide)] at hi
      rw [gx_r hI (show 4 < 144 by decide)]
      exact (match i, hi with | 0, _ => rfl | 1, _ => rfl | 2, _ => rfl | 3, _ => rfl | 4, _ => rfl | 5, _ => rfl | 6, _ => rfl | 7, _ => rfl | i + 8, h => absurd (show i + 8 < 8 from h) (by omega)), by rw [← ce_1 hc, gx_n hI (show 4 < 144 by decide)]; rfl⟩
  | 5, _, h => exact okc_X7 (gx_k hI (show 5 < 144 by decide)) (by rw [gx_r hI (show 5 < 144 by decide) 0]; rfl)
  | 6, _, h => exact okc_21 (gx_k hI (show 6 < 144 by decide)) ⟨fun _ => 0, by rw [← ce_2 hc, gx_n hI (show 6 < 144 by decide)]; rfl⟩
  | 7, _, h => exact okc_X7 (gx_k hI (show 7 < 144 by decide)) (by rw [gx_r hI (show 7 < 144 by decide) 0]; rfl)
  | 8, _, h => exact okc_21 (gx_k hI (show 8 < 144 by decide)) ⟨fun _ => 0, by rw [← ce_3 hc, gx_n hI (show 8 < 144 by decide)]; rfl⟩
  | 9, _, h => exact okc_X7 (gx_k hI (show 9 < 144 by decide)) (by rw [gx_r hI (show 9 < 144 by decide) 0]; rfl)
  | 10, _, h => exact okc_21 (gx_k hI (show 10 < 144 by decide)) ⟨fun _ => 0, by rw [← ce_4 hc, gx_n hI (show 10 < 144 by decide)]; rfl⟩
  | 11, _, h => exact okc_X7 (gx_k hI (show 11 < 144 by decide)) (by rw [gx_r hI (show 11 < 144 by decide) 0]; rfl)
  | 12, _, h => exact okc_21 (gx_k hI (show 12 < 144 by decide)) ⟨fun _ => 0, by rw [← ce_5 hc, gx_n hI (show 12 < 144 by decide)]; rfl⟩
  | 13, _, h => exact okc_X7 (gx_k hI (show 13 < 144 by decide)) (by rw [gx_r hI (show 13 < 144 by decide) 0]; rfl)
  | 14, _, h => exact okc_21 (gx_k hI (show 14 < 144 by decide)) ⟨fun _ => 0, by rw [← ce_6 hc, gx_n hI (show 14 < 144 by decide)]; rfl⟩
  | 15, _, h => exact okc_X7 (gx_k hI (show 15 < 144 by decide)) (by rw [gx_r hI (show 15 < 144 by decide) 0]; rfl)
  | 16, _, h => exact okc_21 (gx_k hI (show 16 < 144 by decide)) ⟨fun _ => 0, by rw [← ce_7 hc, gx_n hI (show 16 < 144 by decide)]; rfl⟩
  | 17, _, h => exact okc_X7 (gx_k hI (show 17 < 144 by decide)) (by rw [gx_r hI (show 17 < 144 by decide) 0]; rfl)
  | 18, _, h => exact okc_21 (gx_k hI (show 18 < 144 by decide)) ⟨fun _ => 0, by rw [← ce_8 hc, gx_n hI (show 18 < 144 by decide)]; rfl⟩
  | 19, _, h => exact okc_X7 (gx_k hI (show 19 < 144 by decide)) (by rw [gx_r hI (show 19 < 144 by decide) 0]; rfl)
  | 20, _, h => exact okc_21 (gx_k hI (show 20 < 144 by decide)) ⟨fun _ => 0, by rw [← ce_9 hc, gx_n hI (show 20 < 144 by decide)]; rfl⟩
  | 21, _, h => exact okc_24 (gx_k hI (show 21 < 144 by decide)) ⟨va_up (va_up (va_up (fun _ => none) 0 (some (ad 84))) 1 (some (ad 104))) 2 (some (ad 124)), fun i hi => by
      rw [gx_n hI (show 21 < 144 by decide)] at hi
      rw [gx_r hI (show 21 < 144 by decide)]
      exact (match i, hi with | 0, _ => rfl | 1, _ => rfl | 2, _ => rfl | i + 3, h => absurd (show i + 3 < 3 from h) (by omega)), by rw [← ce_10 hc, gx_n hI (show 21 < 144 by decide)]; rfl⟩
  | 22, _, h => exact okc_25 (gx_k hI (show 22 < 144 by decide)) ⟨va_up (va_up (va_up (fun _ => none) 0 (some (ad 86))) 1 (some (ad 106))) 2 (some (ad 126)), fun i hi => by
      rw [gx_n hI (show 22 < 144 by decide)] at hi
      rw [gx_r hI (show 22 < 144 by decide)]
      exact (match i, hi with | 0, _ => rfl | 1, _ => rfl | 2, _ => rfl | i + 3, h => absurd (show i + 3 < 3 from h) (by omega)), by rw [← ce_11 hc, gx_n hI (show 22 < 144 by decide)]; rfl⟩
  | 23, _, h => exact absurd h (by decide)
  | 24, _, h => exact absurd h (by decide)
  | 25, _, h => exact absurd h (by decide)
  | 26, _, h => exact absurd h (by decide)
  | 27, _, h => exact absurd h (by decide)
  | 28, _, h => exact absurd h (by decide)
  | 29, _, h => exact absurd h (by decide)
  | 30, _, h => exact absurd h (by decide)
  | 31, _, h => exact absurd h (by decide)
  | 32, _, h => exact absurd h (by decide)
  | 33, _, h => exact absurd h (by decide)
  | 34, _, h => exact absurd h (by decide)
  | 35, _, h => exact okc_X8 (gx_k hI (show 35 < 144 by decide)) ⟨0, by rw [gx_r hI (show 35 < 144 by decide) 0]; rfl⟩
  | 36, _, h => exact okc_22 (gx_k hI (show 36 < 144 by decide)) ⟨fun _ => 0, by rw [← ce_20 hc, gx_n hI (show 36 < 144 by decide)]; rfl⟩
  | 37, _, h => exact okc_X10 (gx_k hI (show 37 < 144 by decide)) ⟨0, 0, by decide, by rw [gx_r hI (show 37 < 144 by decide) 0, gx_r hI (show 37 < 144 by decide) 1]; rfl⟩
  | 38, _, h => exact okc_21 (gx_k hI (show 38 < 144 by decide)) ⟨fun _ => 0, by rw [← ce_21 hc, gx_n hI (show 38 < 144 by decide)]; rfl⟩
  | 39, _, h => exact okc_21 (gx_k hI (show 39 < 144 by decide)) ⟨fun _ => 0, by rw [← ce_22 hc, gx_n hI (show 39 < 144 by decide)]; rfl⟩
  | 40, _, h => exact okc_X10 (gx_k hI (show 40 < 144 by decide)) ⟨0, 0, by decide, by rw [gx_r hI (show 40 < 144 by decide) 0, gx_r hI (show 40 < 144 by decide) 1]; rfl⟩
  | 41, _, h => exact okc_21 (gx_k hI (show 41 < 144 by decide)) ⟨fun _ => 0, by rw [← ce_23 hc, gx_n hI (show 41 < 144 by decide)]; rfl⟩
  | 42, _, h => exact okc_21 (gx_k hI (show 42 < 144 by decide)) ⟨fun _ => 0, by rw [← ce_24 hc, gx_n hI (show 42 < 144 by decide)]; rfl⟩
  | 43, _, h => exact okc_X10 (gx_k hI (show 43 < 144 by decide)) ⟨0, 0, by decide, by rw [gx_r hI (show 43 < 144 by decide) 0, gx_r hI (show 43 < 144 by decide) 1]; rfl⟩
  | 44, _, h => exact okc_21 (gx_k hI (show 44 < 144 by decide)) ⟨fun _ => 0, by rw [← ce_25 hc, gx_n hI (show 44 < 144 by decide)]; rfl⟩
  | 45, _, h => exact okc_21 (gx_k hI (show 45 < 144 by decide)) ⟨fun _ => 0, by rw [← ce_26 hc, gx_n hI (show 45 < 144 by decide)]; rfl⟩
  | 46, _, h => exact okc_X10 (gx_k hI (show 46 < 144 by decide)) ⟨0, 0, by decide, by rw [gx_r hI (show 46 < 144 by decide) 0, gx_r hI (show 46 < 144 by decide) 1]; rfl⟩
  | 47, _, h => exact okc_21 (gx_k hI (show 47 < 144 by decide)) ⟨fun _ => 0, by rw [← ce_27 hc, gx_n hI (show 47 < 144 by decide)]; rfl⟩
  | 48, _, h => exact okc_21 (gx_k hI (show 48 < 144 by decide)) ⟨fun _ => 0, by rw [← ce_28 hc, gx_n hI (show 48 < 144 by decide)]; rfl⟩
  | 49, _, h => exact okc_X10 (gx_k hI (show 49 < 144 by decide)) ⟨0, 0, by decide, by rw [gx_r hI (show 49 < 144 by decide) 0, gx_r hI (show 49 < 144 by decide) 1]; rfl⟩
  | 50, _, h => exact okc_21 (gx_k hI (show 50 < 144 by decide)) ⟨fun _ => 0, by rw [← ce_29 hc, gx_n hI (show 50 < 144 by decide)]; rfl⟩
  | 51, _, h => exact okc_21 (gx_k hI (show 51 < 144 by decide)) ⟨fun _ => 0, by rw [← ce_30 hc, gx_n hI (show 51 < 144 by decide)]; rfl⟩
  | 52, _, h => exact okc_X4 (gx_k hI (show 52 < 144 by decide)) ⟨0, 0, by rw [gx_r hI (show 52 < 144 by decide) 0, gx_r hI (show 52 < 144 by decide) 1, gx_r hI (show 52 < 144 by decide) 2, gx_r hI (show 52 < 144 by decide) 3, gx_r hI (show 52 < 144 by decide) 4, gx_r hI (show 52 < 144 by decide) 5]; rfl⟩
  | 53, _, h => exact okc_X10 (gx_k hI (show 53 < 144 by decide)) ⟨0, 0, by decide, by rw [gx_r hI (show 53 < 144 by decide) 0, gx_r hI (show 53 < 144 by decide) 1]; rfl⟩
  | 54, _, h => exact okc_21 (gx_k hI (show 54 < 144 by decide)) ⟨fun _ => 0, by rw [← ce_31 hc, gx_n hI (show 54 < 144 by decide)]; rfl⟩
  | 55, _, h => exact okc_21 (gx_k hI (show 55 < 144 by decide)) ⟨fun _ => 0, by rw [← ce_32 hc, gx_n hI (show 55 < 144 by decide)]; rfl⟩
  | 56, _, h => exact okc_X10 (gx_k hI (show 56 < 144 by decide)) ⟨0, 0, by decide, by rw [gx_r hI (show 56 < 144 by decide) 0, gx_r hI (show 56 < 144 by decide) 1]; rfl⟩
  | 57, _, h => exact okc_21 (gx_k hI (show 57 < 144 by decide)) ⟨fun _ => 0, by rw [← ce_33 hc, gx_n hI (show 57 < 144 by decide)]; rfl⟩
  | 58, _, h => exact okc_21 (gx_k hI (show 58 < 144 by decide)) ⟨fun _ => 0, by rw [← ce_34 hc, gx_n hI (show 58 < 144 by decide)]; rfl⟩
  | 59, _, h => exact okc_X10 (gx_k hI (show 59 < 144 by decide)) ⟨0, 0, by decide, by rw [gx_r hI (show 59 < 144 by decide) 0, gx_r hI (show 59 < 144 by decide) 1]; rfl⟩
  | 60, _, h => exact okc_21 (gx_k hI (show 60 < 144 by decide)) ⟨fun _ => 0, by rw [← ce_35 hc, gx_n hI (show 60 < 144 by decide)]; rfl⟩
  | 61, _, h => exact okc_21 (gx_k hI (show 61 < 144 by decide)) ⟨fun _ => 0, by rw [← ce_36 hc, gx_n hI (show 61 < 144 by decide)]; rfl⟩
  | 62, _, h => exact okc_X10 (gx_k hI (show 62 < 144 by decide)) ⟨0, 0, by decide, by rw [gx_r hI (show 62 < 144 by decide) 0, gx_r hI (show 62 < 144 by decide) 1]; rfl⟩
  | 63, _, h => exact okc_21 (gx_k hI (show 63 < 144 by decide)) ⟨fun _ => 0, by rw [← ce_37 hc, gx_n hI (show 63 < 144 by decide)]; rfl⟩
  | 64, _, h => exact okc_21 (gx_k hI (show 64 < 144 by decide)) ⟨fun _ => 0, by rw [← ce_38 hc, gx_n hI (show 64 < 144 by decide)]; rfl⟩
  | 65, _, h => exact okc_X0 (gx_k hI (show 65 < 144 by decide)) ⟨ad 69, gx_mk hI (by decide) (by decide) (by decide), by rw [gx_r hI (show 65 < 144 by decide) 0, gx_r hI (show 65 < 144 by decide) 1, gx_r hI (show 65 < 144 by decide) 2, gx_r hI (show 65 < 144 by decide) 3]; rfl⟩
  | 66, _, h => exact okc_21 (gx_k hI (show 66 < 144 by decide)) ⟨fun _ => 0, by rw [← ce_39 hc, gx_n hI (show 66 < 144 by decide)]; rfl⟩
  | 67, _, h => exact okc_21 (gx_k hI (show 67 < 144 by decide)) ⟨fun _ => 0, by rw [← ce_40 hc, gx_n hI (show 67 < 144 by decide)]; rfl⟩
  | 68, _, h => exact okc_21 (gx_k hI (show 68 < 144 by decide)) ⟨fun _ => 0, by rw [← ce_41 hc, gx_n hI (show 68 < 144 by decide)]; rfl⟩
  | 69, _, h => exact okc_X10 (gx_k hI (show 69 < 144 by decide)) ⟨0, 0, by decide, by rw [gx_r hI (show 69 < 144 by decide) 0, gx_r hI (show 69 < 144 by decide) 1]; rfl⟩
  | 70, _, h => exact okc_21 (gx_k hI (show 70 < 144 by decide)) ⟨fun _ => 0, by rw [← ce_42 hc, gx_n hI (show 70 < 144 by decide)]; rfl⟩
  | 71, _, h => exact okc_21 (gx_k hI (show 71 < 144 by decide)) ⟨fun _ => 0, by rw [← ce_43 hc, gx_n hI (show 71 < 144 by decide)]; rfl⟩
  | 72, _, h => exact okc_21 (gx_k hI (show 72 < 144 by decide)) ⟨fun _ => 0, by rw [← ce_44 hc, gx_n hI (show 72 < 144 by decide)]; rfl⟩
  | 73, _, h => exact okc_X0 (gx_k hI (show 73 < 144 by decide)) ⟨ad 77, gx_mk hI (by decide) (by decide) (by decide), by rw [gx_r hI (show 73 < 144 by decide) 0, gx_r hI (show 73 < 144 by decide) 1, gx_r hI (show 73 < 144 by decide) 2, gx_r hI (show 73 < 144 by decide) 3]; rfl⟩
  | 74, _, h => exact okc_21 (gx_k hI (show 74 < 144 by decide)) ⟨fun _ => 0, by rw [← ce_45 hc, gx_n hI (show 74 < 144 by decide)]; rfl⟩
  | 75, _, h => exact okc_21 (gx_k hI (show 75 < 144 by decide)) ⟨fun _ => 0, by rw [← ce_46 hc, gx_n hI (show 75 < 144 by decide)]; rfl⟩
  | 76, _, h => exact okc_21 (gx_k hI (show 76 < 144 by decide)) ⟨fun _ => 0, by rw [← ce_47 hc, gx_n hI (show 76 < 144 by decide)]; rfl⟩
  | 77, _, h => exact okc_X10 (gx_k hI (show 77 < 144 by decide)) ⟨0, 0, by decide, by rw [gx_r hI (show 77 < 144 by decide) 0, gx_r hI (show 77 < 144 by decide) 1]; rfl⟩
  | 78, _, h => exact okc_21 (gx_k hI (show 78 < 144 by decide)) ⟨fun _ => 0, by rw [← ce_48 hc, gx_n hI (show 78 < 144 by decide)]; rfl⟩
  | 79, _, h => exact okc_21 (gx_k hI (show 79 < 144 by decide)) ⟨fun _ => 0, by rw [← ce_49 hc, gx_n hI (show 79 < 144 by decide)]; rfl⟩
  | 80, _, h => exact okc_X6 (gx_k hI (show 80 < 144 by decide)) ⟨0, 1, by rw [gx_r hI (show 80 < 144 by decide) 0]; rfl⟩
  | 81, _, h => exact okc_21 (gx_k hI (show 81 < 144 by decide)) ⟨fun _ => 0, by rw [← ce_50 hc, gx_n hI (show 81 < 144 by decide)]; rfl⟩
  | 82, _, h => exact okc_X1 (gx_k hI (show 82 < 144 by decide)) (by rw [gx_r hI (show 82 < 144 by decide) 0]; rfl)
  | 83, _, h => exact okc_23 (gx_k hI (show 83 < 144 by decide)) ⟨fun _ => 0, by rw [← ce_51 hc, gx_n hI (show 83 < 144 by decide)]; rfl⟩
  | 84, _, h => exact okc_X7 (gx_k hI (show 84 < 144 by decide)) (by rw [gx_r hI (show 84 < 144 by decide) 0]; rfl)
  | 85, _, h => exact okc_21 (gx_k hI (show 85 < 144 by decide)) ⟨fun _ => 0, by rw [← ce_52 hc, gx_n hI (show 85 < 144 by decide)]; rfl⟩
  | 86, _, h => exact okc_X3 (gx_k hI (show 86 < 144 by decide)) ⟨0, 0, by rw [gx_r hI (show 86 < 144 by decide) 0]; rfl⟩
  | 87, _, h => exact okc_24 (gx_k hI (show 87 < 144 by decide)) ⟨va_up (va_up (va_up (va_up (va_up (va_up (va_up (va_up (fun _ => none) 0 (some (ad 88))) 1 (some (ad 90))) 2 (some (ad 92))) 3 (some (ad 94))) 4 (some (ad 96))) 5 (some (ad 98))) 6 (some (ad 100))) 7 (some (ad 102)), fun i hi => by
      rw [gx_n hI (show 87 < 144 by decide)] at hi
      rw [gx_r hI (show 87 < 144 by decide)]
      exact (match i, hi with | 0, _ => rfl | 1, _ => rfl | 2, _ => rfl | 3, _ => rfl | 4, _ => rfl | 5, _ => rfl | 6, _ => rfl | 7, _ => rfl | i + 8, h => absurd (show i + 8 < 8 from h) (by omega)), by rw [← ce_53 hc, gx_n hI (show 87 < 144 by decide)]; rfl⟩
  | 88, _, h => exact okc_X7 (gx_k hI (show 88 < 144 by decide)) (by rw [gx_r hI (show 88 < 144 by decide) 0]; rfl)
  | 89, _, h => exact okc_21 (gx_k hI (show 89 < 144 by decide)) ⟨fun _ => 0, by rw [← ce_54 hc, gx_n hI (show 89 < 144 by decide)]; rfl⟩
  | 90, _, h => exact okc_X7 (gx_k hI (show 90 < 144 by decide)) (by rw [gx_r hI (show 90 < 144 by decide) 0]; rfl)
  | 91, _, h => exact okc_21 (gx_k hI (show 91 < 144 by decide)) ⟨fun _ => 0, by rw [← ce_55 hc, gx_n hI (show 91 < 144 by decide)]; rfl⟩
  | 92, _, h => exact okc_X7 (gx_k hI (show 92 < 144 by decide)) (by rw [gx_r hI (show 92 < 144 by decide) 0]; rfl)
  | 93, _, h => exact okc_21 (gx_k hI (show 93 < 144 by decide)) ⟨fun _ => 0, by rw [← ce_56 hc, gx_n hI (show 93 < 144 by decide)]; rfl⟩
  | 94, _, h => exact okc_X7 (gx_k hI (show 94 < 144 by decide)) (by rw [gx_r hI (show 94 < 144 by decide) 0]; rfl)
  | 95, _, h => exact okc_21 (gx_k hI (show 95 < 144 by decide)) ⟨fun _ => 0, by rw [← ce_57 hc, gx_n hI (show 95 < 144 by decide)]; rfl⟩
  | 96, _, h => exact okc_X7 (gx_k hI (show 96 < 144 by decide)) (by rw [gx_r hI (show 96 < 144 by decide) 0]; rfl)
  | 97, _, h => exact okc_21 (gx_k hI (show 97 < 144 by decide)) ⟨fun _ => 0, by rw [← ce_58 hc, gx_n hI (show 97 < 144 by decide)]; rfl⟩
  | 98, _, h => exact okc_X7 (gx_k hI (show 98 < 144 by decide)) (by rw [gx_r hI (show 98 < 144 by decide) 0]; rfl)
  | 99, _, h => exact okc_21 (gx_k hI (show 99 < 144 by decide)) ⟨fun _ => 0, by rw [← ce_59 hc, gx_n hI (show 99 < 144 by decide)]; rfl⟩
  | 100, _, h => exact okc_X7 (gx_k hI (show 100 < 144 by decide)) (by rw [gx_r hI (show 100 < 144 by decide) 0]; rfl)
  | 101, _, h => exact okc_21 (gx_k hI (show 101 < 144 by decide)) ⟨fun _ => 0, by rw [← ce_60 hc, gx_n hI (show 101 < 144 by decide)]; rfl⟩
  | 102, _, h => exact okc_X7 (gx_k hI (show 102 < 144 by decide)) (by rw [gx_r hI (show 102 < 144 by decide) 0]; rfl)
  | 103, _, h => exact okc_21 (gx_k hI (show 103 < 144 by decide)) ⟨fun _ => 0, by rw [← ce_61 hc, gx_n hI (show 103 < 144 by decide)]; rfl⟩
  | 104, _, h => exact okc_X7 (gx_k hI (show 104 < 144 by decide)) (by rw [gx_r hI (show 104 < 144 by decide) 0]; rfl)
  | 105, _, h => exact okc_21 (gx_k hI (show 105 < 144 by decide)) ⟨fun _ => 0, by rw [← ce_62 hc, gx_n hI (show 105 < 144 by decide)]; rfl⟩
  | 106, _, h => exact okc_X3 (gx_k hI (show 106 < 144 by decide)) ⟨0, 0, by rw [gx_r hI (show 106 < 144 by decide) 0]; rfl⟩
  | 107, _, h => exact okc_24 (gx_k hI (show 107 < 144 by decide)) ⟨va_up (va_up (va_up (va_up (va_up (va_up (va_up (va_up (fun _ => none) 0 (some (ad 108))) 1 (some (ad 110))) 2 (some (ad 112))) 3 (some (ad 114))) 4 (some (ad 116))) 5 (some (ad 118))) 6 (some (ad 120))) 7 (some (ad 122)), fun i hi => by
      rw [gx_n hI (show 107 < 144 by decide)] at hi
      rw [gx_r hI (show 107 < 144 by decide)]
      exact (match i, hi with | 0, _ => rfl | 1, _ => rfl | 2, _ => rfl | 3, _ => rfl | 4, _ => rfl | 5, _ => rfl | 6, _ => rfl | 7, _ => rfl | i + 8, h => absurd (show i + 8 < 8 from h) (by omega)), by rw [← ce_63 hc, gx_n hI (show 107 < 144 by decide)]; rfl⟩
  | 108, _, h => exact okc_X7 (gx_k hI (show 108 < 144 by decide)) (by rw [gx_r hI (show 108 < 144 by decide) 0]; rfl)
  | 109, _, h => exact okc_21 (gx_k hI (show 109 < 144 by decide)) ⟨fun _ => 0, by rw [← ce_64 hc, gx_n hI (show 109 < 144 by decide)]; rfl⟩
  | 110, _, h => exact okc_X7 (gx_k hI (show 110 < 144 by decide)) (by rw [gx_r hI (show 110 < 144 by decide) 0]; rfl)
  | 111, _, h => exact okc_21 (gx_k hI (show 111 < 144 by decide)) ⟨fun _ => 0, by rw [← ce_65 hc, gx_n hI (show 111 < 144 by decide)]; rfl⟩
  | 112, _, h => exact okc_X7 (gx_k hI (show 112 < 144 by decide)) (by rw [gx_r hI (show 112 < 144 by decide) 0]; rfl)
  | 113, _, h => exact okc_21 (gx_k hI (show 113 < 144 by decide)) ⟨fun _ => 0, by rw [← ce_66 hc, gx_n hI (show 113 < 144 by decide)]; rfl⟩
  | 114, _, h => exact okc_X7 (gx_k hI (show 114 < 144 by decide)) (by rw [gx_r hI (show 114 < 144 by decide) 0]; rfl)
  | 115, _, h => exact okc_21 (gx_k hI (show 115 < 144 by decide)) ⟨fun _ => 0, by rw [← ce_67 hc, gx_n hI (show 115 < 144 by decide)]; rfl⟩
  | 116, _, h => exact okc_X7 (gx_k hI (show 116 < 144 by decide)) (by rw [gx_r hI (show 116 < 144 by decide) 0]; rfl)
  | 117, _, h => exact okc_21 (gx_k hI (show 117 < 144 by decide)) ⟨fun _ => 0, by rw [← ce_68 hc, gx_n hI (show 117 < 144 by decide)]; rfl⟩
  | 118, _, h => exact okc_X7 (gx_k hI (show 118 < 144 by decide)) (by rw [gx_r hI (show 118 < 144 by decide) 0]; rfl)
  | 119, _, h => exact okc_21 (gx_k hI (show 119 < 144 by decide)) ⟨fun _ => 0, by rw [← ce_69 hc, gx_n hI (show 119 < 144 by decide)]; rfl⟩
  | 120, _, h => exact okc_X7 (gx_k hI (show 120 < 144 by decide)) (by rw [gx_r hI (show 120 < 144 by decide) 0]; rfl)
  | 121, _, h => exact okc_21 (gx_k hI (show 121 < 144 by decide)) ⟨fun _ => 0, by rw [← ce_70 hc, gx_n hI (show 121 < 144 by decide)]; rfl⟩
  | 122, _, h => exact okc_X7 (gx_k hI (show 122 < 144 by decide)) (by rw [gx_r hI (show 122 < 144 by decide) 0]; rfl)
  | 123, _, h => exact okc_21 (gx_k hI (show 123 < 144 by decide)) ⟨fun _ => 0, by rw [← ce_71 hc, gx_n hI (show 123 < 144 by decide)]; rfl⟩
  | 124, _, h => exact okc_X7 (gx_k hI (show 124 < 144 by decide)) (by rw [gx_r hI (show 124 < 144 by decide) 0]; rfl)
  | 125, _, h => exact okc_21 (gx_k hI (show 125 < 144 by decide)) ⟨fun _ => 0, by rw [← ce_72 hc, gx_n hI (show 125 < 144 by decide)]; rfl⟩
  | 126, _, h => exact okc_X3 (gx_k hI (show 126 < 144 by decide)) ⟨0, 0, by rw [gx_r hI (show 126 < 144 by decide) 0]; rfl⟩
  | 127, _, h => exact okc_24 (gx_k hI (show 127 < 144 by decide)) ⟨va_up (va_up (va_up (va_up (va_up (va_up (va_up (va_up (fun _ => none) 0 (some (ad 128))) 1 (some (ad 130))) 2 (some (ad 132))) 3 (some (ad 134))) 4 (some (ad 136))) 5 (some (ad 138))) 6 (some (ad 140))) 7 (some (ad 142)), fun i hi => by
      rw [gx_n hI (show 127 < 144 by decide)] at hi
      rw [gx_r hI (show 127 < 144 by decide)]
      exact (match i, hi with | 0, _ => rfl | 1, _ => rfl | 2, _ => rfl | 3, _ => rfl | 4, _ => rfl | 5, _ => rfl | 6, _ => rfl | 7, _ => rfl | i + 8, h => absurd (show i + 8 < 8 from h) (by omega)), by rw [← ce_73 hc, gx_n hI (show 127 < 144 by decide)]; rfl⟩
  | 128, _, h => exact okc_X7 (gx_k hI (show 128 < 144 by decide)) (by rw [gx_r hI (show 128 < 144 by decide) 0]; rfl)
  | 129, _, h => exact okc_21 (gx_k hI (show 129 < 144 by decide)) ⟨fun _ => 0, by rw [← ce_74 hc, gx_n hI (show 129 < 144 by decide)]; rfl⟩
  | 130, _, h => exact okc_X7 (gx_k hI (show 130 < 144 by decide)) (by rw [gx_r hI (show 130 < 144 by decide) 0]; rfl)
  | 131, _, h => exact okc_21 (gx_k hI (show 131 < 144 by decide)) ⟨fun _ => 0, by rw [← ce_75 hc, gx_n hI (show 131 < 144 by decide)]; rfl⟩
  | 132, _, h => exact okc_X7 (gx_k hI (show 132 < 144 by decide)) (by rw [gx_r hI (show 132 < 144 by decide) 0]; rfl)
  | 133, _, h => exact okc_21 (gx_k hI (show 133 < 144 by decide)) ⟨fun _ => 0, by rw [← ce_76 hc, gx_n hI (show 133 < 144 by decide)]; rfl⟩
  | 134, _, h => exact okc_X7 (gx_k hI (show 134 < 144 by decide)) (by rw [gx_r hI (show 134 < 144 by decide) 0]; rfl)
  | 135, _, h => exact okc_21 (gx_k hI (show 135 < 144 by decide)) ⟨fun _ => 0, by rw [← ce_77 hc, gx_n hI (show 135 < 144 by decide)]; rfl⟩
  | 136, _, h => exact okc_X7 (gx_k hI (show 136 < 144 by decide)) (by rw [gx_r hI (show 136 < 144 by decide) 0]; rfl)
  | 137, _, h => exact okc_21 (gx_k hI (show 137 < 144 by decide)) ⟨fun _ => 0, by rw [← ce_78 hc, gx_n hI (show 137 < 144 by decide)]; rfl⟩
  | 138, _, h => exact okc_X7 (gx_k hI (show 138 < 144 by decide)) (by rw [gx_r hI (show 138 < 144 by decide) 0]; rfl)
  | 139, _, h => exact okc_21 (gx_k hI (show 139 < 144 by decide)) ⟨fun _ => 0, by rw [← ce_79 hc, gx_n hI (show 139 < 144 by decide)]; rfl⟩
  | 140, _, h => exact okc_X7 (gx_k hI (show 140 < 144 by decide)) (by rw [gx_r hI (show 140 < 144 by decide) 0]; rfl)
  | 141, _, h => exact okc_21 (gx_k hI (show 141 < 144 by decide)) ⟨fun _ => 0, by rw [← ce_80 hc, gx_n hI (show 141 < 144 by decide)]; rfl⟩
  | 142, _, h => exact okc_X7 (gx_k hI (show 142 < 144 by decide)) (by rw [gx_r hI (show 142 < 144 by decide) 0]; rfl)
  | 143, _, h => exact okc_21 (gx_k hI (show 143 < 144 by decide)) ⟨fun _ => 0, by rw [← ce_81 hc, gx_n hI (show 143 < 144 by decide)]; rfl⟩
  | k + 144, h, _ => exact absurd h (by omega)
theorem gx_cell (hI : IJ ad) {c2 : Nat → ClassId} {k : Nat} (hk : k < 144) : fX ad c2 (ad k) = (eTab ad c2).getD k (.inr (0, [])) := by unfold fX; rw [ix_ad hI hk]
end GXS
set_option maxHeartbeats 4000000 in
set_option maxRecDepth 100000 in
theorem gx_world (h : Nat) (g : Nat → Nat) (c2 : Nat → ClassId) : ([(h, .inr (10, [.ref (g 0), .ref (g 2), .ref (g 20), .ref (g 21), .int 0, .int 0, .ref (g 22), .int 0, .ref (g 23), .ref (g 34), .ref (g 36), .ref (g 39), .ref (g 42), .ref (g 45), .ref (g 48), .ref (g 51), .ref (g 72), .ref (g 79), .ref (g 81)])), (g 0, .inr (6, [.ref (g 1)])), (g 1, .inl (c2 0, 543, .inl (fun _ => 0))), (g 2, .inr (2, [.ref (g 3), .int 0, .int 0])), (g 3, .inl (c2 1, 8, .inr (.inr (.inr (.inr (va_up (va_up (va_up (va_up (va_up (va_up (va_up (va_up (fun _ => none) 0 (some (g 4))) 1 (some (g 6))) 2 (some (g 8))) 3 (some (g 10))) 4 (some (g 12))) 5 (some (g 14))) 6 (some (g 16))) 7 (some (g 18)))))))), (g 4, .inr (6, [.ref (g 5)])), (g 5, .inl (c2 2, 543, .inl (fun _ => 0))), (g 6, .inr (6, [.ref (g 7)])), (g 7, .inl (c2 3, 543, .inl (fun _ => 0))), (g 8, .inr (6, [.ref (g 9)])), (g 9, .inl (c2 4, 543, .inl (fun _ => 0))), (g 10, .inr (6, [.ref (g 11)])), (g 11, .inl (c2 5, 543, .inl (fun _ => 0))), (g 12, .inr (6, [.ref (g 13)])), (g 13, .inl (c2 6, 543, .inl (fun _ => 0))), (g 14, .inr (6, [.ref (g 15)])), (g 15, .inl (c2 7, 543, .inl (fun _ => 0))), (g 16, .inr (6, [.ref (g 17)])), (g 17, .inl (c2 8, 543, .inl (fun _ => 0))), (g 18, .inr (6, [.ref (g 19)])), (g 19, .inl (c2 9, 543, .inl (fun _ => 0))), (g 20, .inl (c2 10, 3, .inr (.inr (.inr (.inr (va_up (va_up (va_up (fun _ => none) 0 (some (g 83))) 1 (some (g 103))) 2 (some (g 123)))))))), (g 21, .inl (c2 11, 3, .inr (.inr (.inr (.inr (va_up (va_up (va_up (fun _ => none) 0 (some (g 85))) 1 (some (g 105))) 2 (some (g 125)))))))), (g 22, .inl (c2 12, 700, .inl (fun _ => 0))), (g 23, .inr (4, [.ref (g 24), .ref (g 29), .ref (g 31), .int 0, .int 0, .int (-1), .int 0, .int 0, .int (-1), .int (-1)])), (g 24, .inr (8, [.ref (g 25), .ref (g 26), .ref (g 27), .int 0, .ref (g 28), .int 0])), (g 25, .inl (c2 13, 701, .inl (fun _ => 0))), (g 26, .inl (c2 14, 701, .inl (fun _ => 0))), (g 27, .inl (c2 15, 701, .inl (fun _ => 0))), (g 28, .inl (c2 16, 0, .inl (fun _ => 0))), (g 29, .inr (6, [.ref (g 30)])), (g 30, .inl (c2 17, 543, .inl (fun _ => 0))), (g 31, .inr (9, [.ref (g 32), .ref (g 33), .int 0, .int 0])), (g 32, .inl (c2 18, 73, .inl (fun _ => 0))), (g 33, .inl (c2 19, 72, .inl (fun _ => 0))), (g 34, .inr (7, [.ref (g 35), .int 0])), (g 35, .inl (c2 20, 178, .inl (fun _ => 0))), (g 36, .inr (9, [.ref (g 37), .ref (g 38), .int 0, .int 0])), (g 37, .inl (c2 21, 73, .inl (fun _ => 0))), (g 38, .inl (c2 22, 72, .inl (fun _ => 0))), (g 39, .inr (9, [.ref (g 40), .ref (g 41), .int 0, .int 0])), (g 40, .inl (c2 23, 73, .inl (fun _ => 0))), (g 41, .inl (c2 24, 72, .inl (fun _ => 0))), (g 42, .inr (9, [.ref (g 43), .ref (g 44), .int 0, .int 0])), (g 43, .inl (c2 25, 73, .inl (fun _ => 0))), (g 44, .inl (c2 26, 72, .inl (fun _ => 0))), (g 45, .inr (9, [.ref (g 46), .ref (g 47), .int 0, .int 0])), (g 46, .inl (c2 27, 73, .inl (fun _ => 0))), (g 47, .inl (c2 28, 72, .inl (fun _ => 0))), (g 48, .inr (9, [.ref (g 49), .ref (g 50), .int 0, .int 0])), (g 49, .inl (c2 29, 73, .inl (fun _ => 0))), (g 50, .inl (c2 30, 72, .inl (fun _ => 0))), (g 51, .inr (3, [.ref (g 52), .ref (g 55), .ref (g 58), .ref (g 61), .ref (g 64), .ref (g 71), .int 0, .int 0])), (g 52, .inr (9, [.ref (g 53), .ref (g 54), .int 0, .int 0])), (g 53, .inl (c2 31, 73, .inl (fun _ => 0))), (g 54, .inl (c2 32, 72, .inl (fun _ => 0))), (g 55, .inr (9, [.ref (g 56), .ref (g 57), .int 0, .int 0])), (g 56, .inl (c2 33, 73, .inl (fun _ => 0))), (g 57, .inl (c2 34, 72, .inl (fun _ => 0))), (g 58, .inr (9, [.ref (g 59), .ref (g 60), .int 0, .int 0])), (g 59, .inl (c2 35, 73, .inl (fun _ => 0))), (g 60, .inl (c2 36, 72, .inl (fun _ => 0))), (g 61, .inr (9, [.ref (g 62), .ref (g 63), .int 0, .int 0])), (g 62, .inl (c2 37, 73, .inl (fun _ => 0))), (g 63, .inl (c2 38, 72, .inl (fun _ => 0))), (g 64, .inr (0, [.ref (g 65), .ref (g 66), .ref (g 67), .ref (g 68), .ref (g 68)])), (g 65, .inl (c2 39, 24, .inl (fun _ => 0))), (g 66, .inl (c2 40, 24, .inl (fun _ => 0))), (g 67, .inl (c2 41, 24, .inl (fun _ => 0))), (g 68, .inr (9, [.ref (g 69), .ref (g 70), .int 0, .int 0])), (g 69, .inl (c2 42, 73, .inl (fun _ => 0))), (g 70, .inl (c2 43, 72, .inl (fun _ => 0))), (g 71, .inl (c2 44, 6, .inl (fun _ => 0))), (g 72, .inr (0, [.ref (g 73), .ref (g 74), .ref (g 75), .ref (g 76), .ref (g 76)])), (g 73, .inl (c2 45, 24, .inl (fun _ => 0))), (g 74, .inl (c2 46, 24, .inl (fun _ => 0))), (g 75, .inl (c2 47, 24, .inl (fun _ => 0))), (g 76, .inr (9, [.ref (g 77), .ref (g 78), .int 0, .int 0])), (g 77, .inl (c2 48, 73, .inl (fun _ => 0))), (g 78, .inl (c2 49, 72, .inl (fun _ => 0))), (g 79, .inr (5, [.ref (g 80), .long 0, .long 1])), (g 80, .inl (c2 50, 6, .inl (fun _ => 0))), (g 81, .inr (1, [.ref (g 82)])), (g 82, .inl (c2 51, 156, .inr (.inl (fun _ => 0)))), (g 83, .inr (6, [.ref (g 84)])), (g 84, .inl (c2 52, 543, .inl (fun _ => 0))), (g 85, .inr (2, [.ref (g 86), .int 0, .int 0])), (g 86, .inl (c2 53, 8, .inr (.inr (.inr (.inr (va_up (va_up (va_up (va_up (va_up (va_up (va_up (va_up (fun _ => none) 0 (some (g 87))) 1 (some (g 89))) 2 (some (g 91))) 3 (some (g 93))) 4 (some (g 95))) 5 (some (g 97))) 6 (some (g 99))) 7 (some (g 101)))))))), (g 87, .inr (6, [.ref (g 88)])), (g 88, .inl (c2 54, 543, .inl (fun _ => 0))), (g 89, .inr (6, [.ref (g 90)])), (g 90, .inl (c2 55, 543, .inl (fun _ => 0))), (g 91, .inr (6, [.ref (g 92)])), (g 92, .inl (c2 56, 543, .inl (fun _ => 0))), (g 93, .inr (6, [.ref (g 94)])), (g 94, .inl (c2 57, 543, .inl (fun _ => 0))), (g 95, .inr (6, [.ref (g 96)])), (g 96, .inl (c2 58, 543, .inl (fun _ => 0))), (g 97, .inr (6, [.ref (g 98)])), (g 98, .inl (c2 59, 543, .inl (fun _ => 0))), (g 99, .inr (6, [.ref (g 100)])), (g 100, .inl (c2 60, 543, .inl (fun _ => 0))), (g 101, .inr (6, [.ref (g 102)])), (g 102, .inl (c2 61, 543, .inl (fun _ => 0))), (g 103, .inr (6, [.ref (g 104)])), (g 104, .inl (c2 62, 543, .inl (fun _ => 0))), (g 105, .inr (2, [.ref (g 106), .int 0, .int 0])), (g 106, .inl (c2 63, 8, .inr (.inr (.inr (.inr (va_up (va_up (va_up (va_up (va_up (va_up (va_up (va_up (fun _ => none) 0 (some (g 107))) 1 (some (g 109))) 2 (some (g 111))) 3 (some (g 113))) 4 (some (g 115))) 5 (some (g 117))) 6 (some (g 119))) 7 (some (g 121)))))))), (g 107, .inr (6, [.ref (g 108)])), (g 108, .inl (c2 64, 543, .inl (fun _ => 0))), (g 109, .inr (6, [.ref (g 110)])), (g 110, .inl (c2 65, 543, .inl (fun _ => 0))), (g 111, .inr (6, [.ref (g 112)])), (g 112, .inl (c2 66, 543, .inl (fun _ => 0))), (g 113, .inr (6, [.ref (g 114)])), (g 114, .inl (c2 67, 543, .inl (fun _ => 0))), (g 115, .inr (6, [.ref (g 116)])), (g 116, .inl (c2 68, 543, .inl (fun _ => 0))), (g 117, .inr (6, [.ref (g 118)])), (g 118, .inl (c2 69, 543, .inl (fun _ => 0))), (g 119, .inr (6, [.ref (g 120)])), (g 120, .inl (c2 70, 543, .inl (fun _ => 0))), (g 121, .inr (6, [.ref (g 122)])), (g 122, .inl (c2 71, 543, .inl (fun _ => 0))), (g 123, .inr (6, [.ref (g 124)])), (g 124, .inl (c2 72, 543, .inl (fun _ => 0))), (g 125, .inr (2, [.ref (g 126), .int 0, .int 0])), (g 126, .inl (c2 73, 8, .inr (.inr (.inr (.inr (va_up (va_up (va_up (va_up (va_up (va_up (va_up (va_up (fun _ => none) 0 (some (g 127))) 1 (some (g 129))) 2 (some (g 131))) 3 (some (g 133))) 4 (some (g 135))) 5 (some (g 137))) 6 (some (g 139))) 7 (some (g 141)))))))), (g 127, .inr (6, [.ref (g 128)])), (g 128, .inl (c2 74, 543, .inl (fun _ => 0))), (g 129, .inr (6, [.ref (g 130)])), (g 130, .inl (c2 75, 543, .inl (fun _ => 0))), (g 131, .inr (6, [.ref (g 132)])), (g 132, .inl (c2 76, 543, .inl (fun _ => 0))), (g 133, .inr (6, [.ref (g 134)])), (g 134, .inl (c2 77, 543, .inl (fun _ => 0))), (g 135, .inr (6, [.ref (g 136)])), (g 136, .inl (c2 78, 543, .inl (fun _ => 0))), (g 137, .inr (6, [.ref (g 138)])), (g 138, .inl (c2 79, 543, .inl (fun _ => 0))), (g 139, .inr (6, [.ref (g 140)])), (g 140, .inl (c2 80, 543, .inl (fun _ => 0))), (g 141, .inr (6, [.ref (g 142)])), (g 142, .inl (c2 81, 543, .inl (fun _ => 0)))] : va_W) = (List.range 144).map (fun k => (adX h g k, (eTab (adX h g) c2).getD k (.inr (0, [])))) := rfl
def bqX (ad : Nat → Nat) (i : Nat) : Nat := if i < 13 then ad (qpT.getD i 0) else gR (GX ad) (ad 0) (i - 20)
def v0Q : RS := (fun k => match k with | 5 => -1 | 8 => -1 | 9 => -1 | _ => 0, fun _ _ => 0, fun _ _ => 0)
theorem gx_wat {ad : Nat → Nat} {c2 : Nat → ClassId} {k : Nat} (hk : k < 144) : ((List.range 144).map (fun k => (ad k, (eTab ad c2).getD k (.inr (0, [])))))[k]? = some (ad k, (eTab ad c2).getD k (.inr (0, []))) := by
  rw [List.getElem?_map, List.getElem?_range hk]
  rfl
set_option maxHeartbeats 4000000 in
set_option maxRecDepth 100000 in
theorem gx_Q {ad : Nat → Nat} {cs c2 : Nat → ClassId} (hc : CE cs c2) {D : va_G} {cl : List vw_C} {H : Heap} (hP : va_P D cl ((List.range 144).map (fun k => (ad k, (eTab ad c2).getD k (.inr (0, []))))) H) : va_P D cl (qV cs (bqX ad) v0Q) H := fun k q hq => by
  obtain ⟨h1, rfl⟩ := z_qv hq
  match k, h1 with
  | 0, _ => exact hP 24 _ (gx_wat (by decide))
  | 1, _ => exact hP 25 _ (gx_wat (by decide))
  | 2, _ =>
    have h := hP 26 _ (gx_wat (by decide))
    rw [show (eTab ad c2).getD 26 (.inr (0, [])) = .inl (c2 13, 701, .inl (fun _ => 0)) from rfl, ce_13 hc] at h
    exact h
  | 3, _ =>
    have h := hP 27 _ (gx_wat (by decide))
    rw [show (eTab ad c2).getD 27 (.inr (0, [])) = .inl (c2 14, 701, .inl (fun _ => 0)) from rfl, ce_14 hc] at h
    exact h
  | 4, _ =>
    have h := hP 28 _ (gx_wat (by decide))
    rw [show (eTab ad c2).getD 28 (.inr (0, [])) = .inl (c2 15, 701, .inl (fun _ => 0)) from rfl, ce_15 hc] at h
    exact h
  | 5, _ =>
    have h := hP 23 _ (gx_wat (by decide))
    rw [show (eTab ad c2).getD 23 (.inr (0, [])) = .inl (c2 12, 700, .inl (fun _ => 0)) from rfl, ce_12 hc] at h
    exact h
  | 6, _ => exact hP 30 _ (gx_wat (by decide))
  | 7, _ =>
    have h := hP 31 _ (gx_wat (by decide))
    rw [show (eTab ad c2).getD 31 (.inr (0, [])) = .inl (c2 17, 543, .inl (fun _ => 0)) from rfl, ce_17 hc] at h
    exact h
  | 8, _ => exact hP 32 _ (gx_wat (by decide))
  | 9, _ =>
    have h := hP 33 _ (gx_wat (by decide))
    rw [show (eTab ad c2).getD 33 (.inr (0, [])) = .inl (c2 18, 73, .inl (fun _ => 0)) from rfl, ce_18 hc] at h
    exact h
  | 10, _ =>
    have h := hP 34 _ (gx_wat (by decide))
    rw [show (eTab ad c2).getD 34 (.inr (0, [])) = .inl (c2 19, 72, .inl (fun _ => 0)) from rfl, ce_19 hc] at h
    exact h
  | k + 11, h => exact absurd h (by omega)
theorem gx_P {ad : Nat → Nat} (hI : IJ ad) {c2 : Nat → ClassId} {D : va_G} {cl : List vw_C} {H : Heap} (hP : va_P D cl ((List.range 144).map (fun k => (ad k, (eTab ad c2).getD k (.inr (0, []))))) H) : va_P D cl (va_pl (gL (GX ad)) (fX ad c2)) H := fun k q hq => by
  obtain ⟨h1, h2⟩ := z_pl hq
  obtain ⟨qa, qe⟩ := q
  have h1 : qa ∈ gL (GX ad) := h1
  have h2 : qe = fX ad c2 qa := h2
  subst h2
  obtain ⟨j, hj, _, rfl⟩ := gx_mem.mp h1
  rw [gx_cell hI hj]
  exact hP j _ (gx_wat hj)
theorem bqX_J {ad : Nat → Nat} (hI : IJ ad) : QJ (bqX ad) := fun i j hi hj h => by
  have e : ∀ i, i < 12 → bqX ad i = ad (qpT.getD i 0) := fun i hi => by unfold bqX; rw [if_pos (by omega)]
  rw [e i hi, e j hj] at h
  have h2 := hI _ _ ((show ∀ i, i < 12 → qpT.getD i 0 < 144 by decide) i hi) ((show ∀ i, i < 12 → qpT.getD i 0 < 144 by decide) j hj) h
  exact (show ∀ i, i < 12 → ∀ j, j < 12 → qpT.getD i 0 = qpT.getD j 0 → i = j by decide) i hi j hj h2
theorem bqX_at {ad : Nat → Nat} {i : Nat} (hi : i < 12) : ∃ k, k < 144 ∧ bqX ad i = ad k := ⟨qpT.getD i 0, (show ∀ i, i < 12 → qpT.getD i 0 < 144 by decide) i hi, by unfold bqX; rw [if_pos (by omega)]⟩
theorem bqX_no {ad : Nat → Nat} (hI : IJ ad) {i : Nat} (hi : i < 11) : bqX ad i ∉ gL (GX ad) := fun h => by
  obtain ⟨k, hk, ht, e⟩ := gx_mem.mp h
  have e2 : bqX ad i = ad (qpT.getD i 0) := by unfold bqX; rw [if_pos (by omega)]
  rw [e2] at e
  have h2 := hI _ _ hk ((show ∀ i, i < 12 → qpT.getD i 0 < 144 by decide) i (by omega)) e
  rw [h2] at ht
  exact absurd ht ((show ∀ i, i < 11 → tTab.getD (qpT.getD i 0) 0 ≠ 1 by decide) i hi)
theorem bqX_lk {ad : Nat → Nat} (hI : IJ ad) (w : RS) : RVL (GX ad) (bqX ad 11) (rF w 34) (rF w 35) (rF w 37) = qG (bqX ad) w := by
  have e6 : bqX ad 5 = gR (GX ad) (ad 0) 6 := (gx_r hI (k := 0) (by decide) 6).symm
  have e8 : bqX ad 0 = gR (GX ad) (ad 0) 8 := (gx_r hI (k := 0) (by decide) 8).symm
  unfold qG
  rw [e6, e8]
  rfl

