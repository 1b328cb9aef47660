/-! the reference as it is made: its cells in the order of making, and by their places in rW -/
abbrev ob0R : va_E := .inr (11, [.null, .int 0, .int 0, .int 0, .null, .int 0, .null, .null, .null, .null, .int 0, .int 0, .int 0, .int 0, .int 0, .int 0, .int 0, .int 0, .int 0, .int 0, .int 0, .int 0, .int 0, .null, .null, .null, .null, .null, .null, .null, .int 0])
def u0R : RS := (fun k => match k with | 17 => -1 | 18 => -1 | 19 => -1 | _ => 0, fun _ _ => 0, fun _ _ => 0)
def csR (k1 k5 C11 k9 A2 A11 B11 : ClassId) (i : Nat) : ClassId := [k1, k5, C11, k9, A2, A11, B11].getD i 0
def pTab : List Nat := [0, 1, 2, 3, 4, 5, 6, 7, 8, 9, 10, 11, 12, 13, 14, 15, 16, 17, 18, 19, 20, 21, 22, 36, 50, 64, 78, 92, 23, 24, 25, 26, 27, 28, 29, 30, 31, 32, 33, 34, 35, 37, 38, 39, 40, 41, 42, 43, 44, 45, 46, 47, 48, 49, 51, 52, 53, 54, 55, 56, 57, 58, 59, 60, 61, 62, 63, 65, 66, 67, 68, 69, 70, 71, 72, 73, 74, 75, 76, 77, 79, 80, 81, 82, 83, 84, 85, 86, 87, 88, 89, 90, 91, 93, 94, 95, 96, 97, 98, 99, 100, 101, 102, 103, 104, 105, 106, 107]
def qTab : List Nat := [0, 1, 2, 3, 4, 5, 6, 7, 8, 9, 10, 11, 12, 13, 14, 15, 16, 17, 18, 19, 20, 21, 22, 28, 29, 30, 31, 32, 33, 34, 35, 36, 37, 38, 39, 40, 23, 41, 42, 43, 44, 45, 46, 47, 48, 49, 50, 51, 52, 53, 24, 54, 55, 56, 57, 58, 59, 60, 61, 62, 63, 64, 65, 66, 25, 67, 68, 69, 70, 71, 72, 73, 74, 75, 76, 77, 78, 79, 26, 80, 81, 82, 83, 84, 85, 86, 87, 88, 89, 90, 91, 92, 27, 93, 94, 95, 96, 97, 98, 99, 100, 101, 102, 103, 104, 105, 106, 107]
def adL (a0 q1 q2 q3 q4 q5 q6 q7 q8 q9 q10 q11 q12 q13 : Nat) : List Nat := [a0, q1, q2, q2 + 1 + 0, q2 + 1 + 1, q2 + 1 + 2, q2 + 1 + 3, q2 + 1 + 4, q2 + 1 + 5, q2 + 1 + 6, q2 + 1 + 7, q2 + 1 + 8, q2 + 1 + 9, q3, q4, q5, q6, q7, q8, q9, q10, q11, q11 + 1 + 0 * (1 + 13 * 1), q11 + 1 + 0 * (1 + 13 * 1) + 1 + 0, q11 + 1 + 0 * (1 + 13 * 1) + 1 + 1, q11 + 1 + 0 * (1 + 13 * 1) + 1 + 2, q11 + 1 + 0 * (1 + 13 * 1) + 1 + 3, q11 + 1 + 0 * (1 + 13 * 1) + 1 + 4, q11 + 1 + 0 * (1 + 13 * 1) + 1 + 5, q11 + 1 + 0 * (1 + 13 * 1) + 1 + 6, q11 + 1 + 0 * (1 + 13 * 1) + 1 + 7, q11 + 1 + 0 * (1 + 13 * 1) + 1 + 8, q11 + 1 + 0 * (1 + 13 * 1) + 1 + 9, q11 + 1 + 0 * (1 + 13 * 1) + 1 + 10, q11 + 1 + 0 * (1 + 13 * 1) + 1 + 11, q11 + 1 + 0 * (1 + 13 * 1) + 1 + 12, q11 + 1 + 1 * (1 + 13 * 1), q11 + 1 + 1 * (1 + 13 * 1) + 1 + 0, q11 + 1 + 1 * (1 + 13 * 1) + 1 + 1, q11 + 1 + 1 * (1 + 13 * 1) + 1 + 2, q11 + 1 + 1 * (1 + 13 * 1) + 1 + 3, q11 + 1 + 1 * (1 + 13 * 1) + 1 + 4, q11 + 1 + 1 * (1 + 13 * 1) + 1 + 5, q11 + 1 + 1 * (1 + 13 * 1) + 1 + 6, q11 + 1 + 1 * (1 + 13 * 1) + 1 + 7, q11 + 1 + 1 * (1 + 13 * 1) + 1 + 8, q11 + 1 + 1 * (1 + 13 * 1) + 1 + 9, q11 + 1 + 1 * (1 + 13 * 1) + 1 + 10, q11 + 1 + 1 * (1 + 13 * 1) + 1 + 11, q11 + 1 + 1 * (1 + 13 * 1) + 1 + 12, q11 + 1 + 2 * (1 + 13 * 1), q11 + 1 + 2 * (1 + 13 * 1) + 1 + 0, q11 + 1 + 2 * (1 + 13 * 1) + 1 + 1, q11 + 1 + 2 * (1 + 13 * 1) + 1 + 2, q11 + 1 + 2 * (1 + 13 * 1) + 1 + 3, q11 + 1 + 2 * (1 + 13 * 1) + 1 + 4, q11 + 1 + 2 * (1 + 13 * 1) + 1 + 5, q11 + 1 + 2 * (1 + 13 * 1) + 1 + 6, q11 + 1 + 2 * (1 + 13 * 1) + 1 + 7, q11 + 1 + 2 * (1 + 13 * 1) + 1 + 8, q11 + 1 + 2 * (1 + 13 * 1) + 1 + 9, q11 + 1 + 2 * (1 + 13 * 1) + 1 + 10, q11 + 1 + 2 * (1 + 13 * 1) + 1 + 11, q11 + 1 + 2 * (1 + 13 * 1) + 1 + 12, q11 + 1 + 3 * (1 + 13 * 1), q11 + 1 + 3 * (1 + 13 * 1) + 1 + 0, q11 + 1 + 3 * (1 + 13 * 1) + 1 + 1, q11 + 1 + 3 * (1 + 13 * 1) + 1 + 2, q11 + 1 + 3 * (1 + 13 * 1) + 1 + 3, q11 + 1 + 3 * (1 + 13 * 1) + 1 + 4, q11 + 1 + 3 * (1 + 13 * 1) + 1 + 5, q11 + 1 + 3 * (1 + 13 * 1) + 1 + 6, q11 + 1 + 3 * (1 + 13 * 1) + 1 + 7, q11 + 1 + 3 * (1 + 13 * 1) + 1 + 8, q11 + 1 + 3 * (1 + 13 * 1) + 1 + 9, q11 + 1 + 3 * (1 + 13 * 1) + 1 + 10, q11 + 1 + 3 * (1 + 13 * 1) + 1 + 11, q11 + 1 + 3 * (1 + 13 * 1) + 1 + 12, q11 + 1 + 4 * (1 + 13 * 1), q11 + 1 + 4 * (1 + 13 * 1) + 1 + 0, q11 + 1 + 4 * (1 + 13 * 1) + 1 + 1, q11 + 1 + 4 * (1 + 13 * 1) + 1 + 2, q11 + 1 + 4 * (1 + 13 * 1) + 1 + 3, q11 + 1 + 4 * (1 + 13 * 1) + 1 + 4, q11 + 1 + 4 * (1 + 13 * 1) + 1 + 5, q11 + 1 + 4 * (1 + 13 * 1) + 1 + 6, q11 + 1 + 4 * (1 + 13 * 1) + 1 + 7, q11 + 1 + 4 * (1 + 13 * 1) + 1 + 8, q11 + 1 + 4 * (1 + 13 * 1) + 1 + 9, q11 + 1 + 4 * (1 + 13 * 1) + 1 + 10, q11 + 1 + 4 * (1 + 13 * 1) + 1 + 11, q11 + 1 + 4 * (1 + 13 * 1) + 1 + 12, q11 + 1 + 5 * (1 + 13 * 1), q11 + 1 + 5 * (1 + 13 * 1) + 1 + 0, q11 + 1 + 5 * (1 + 13 * 1) + 1 + 1, q11 + 1 + 5 * (1 + 13 * 1) + 1 + 2, q11 + 1 + 5 * (1 + 13 * 1) + 1 + 3, q11 + 1 + 5 * (1 + 13 * 1) + 1 + 4, q11 + 1 + 5 * (1 + 13 * 1) + 1 + 5, q11 + 1 + 5 * (1 + 13 * 1) + 1 + 6, q11 + 1 + 5 * (1 + 13 * 1) + 1 + 7, q11 + 1 + 5 * (1 + 13 * 1) + 1 + 8, q11 + 1 + 5 * (1 + 13 * 1) + 1 + 9, q11 + 1 + 5 * (1 + 13 * 1) + 1 + 10, q11 + 1 + 5 * (1 + 13 * 1) + 1 + 11, q11 + 1 + 5 * (1 + 13 * 1) + 1 + 12, q12, q13]
def brX (a0 q1 q2 q3 q4 q5 q6 q7 q8 q9 q10 q11 q12 q13 : Nat) (i : Nat) : Nat := (adL a0 q1 q2 q3 q4 q5 q6 q7 q8 q9 q10 q11 q12 q13).getD (pTab.getD i 0) 0
def rMk (a0 q1 q2 q3 q4 q5 q6 q7 q8 q9 q10 q11 q12 q13 : Nat) (k1 k5 C11 k9 A2 A11 B11 : ClassId) : va_W := (((((((((((([(a0, .inr (11, [.ref q1, .int 0, .int 0, .int 0, .ref q2, .int 0, .ref q3, .ref q4, .ref q5, .ref q6, .int 0, .int 0, .int 0, .int 0, .int 0, .int 0, .int 0, .int (-1), .int (-1), .int (-1), .int 0, .int 0, .int 0, .ref q7, .ref q8, .ref q9, .ref q10, .ref q11, .ref q12, .ref q13, .int 0])), (q1, .inl (k1, 7202, .inl (fun _ => 0)))] ++ gw_2 A2 k1 q2 10 200) ++ [(q3, .inl (k1, 200, .inl (fun _ => 0)))]) ++ [(q4, .inl (k1, 200, .inl (fun _ => 0)))]) ++ [(q5, .inl (k5, 700, .inl (fun _ => 0)))]) ++ [(q6, .inl (k5, 700, .inl (fun _ => 0)))]) ++ [(q7, .inl (k1, 400, .inl (fun _ => 0)))]) ++ [(q8, .inl (k1, 400, .inl (fun _ => 0)))]) ++ [(q9, .inl (k9, 400, .inl (fun _ => 0)))]) ++ [(q10, .inl (k1, 6, .inl (fun _ => 0)))]) ++ gw_3 A11 B11 C11 q11 6 13 13) ++ [(q12, .inl (C11, 60840, .inr (.inl (fun _ => 0))))]) ++ [(q13, .inl (k5, 400, .inl (fun _ => 0)))])
theorem pq_tab : ∀ i, i < 108 → qTab.getD (pTab.getD i 0) 0 = i := by decide +kernel
theorem p_lt : ∀ i, i < 108 → pTab.getD i 0 < 108 := by decide +kernel
theorem vp_rc {c : ClassId} {N : Nat} {f g : Nat → Option Nat} (h : ∀ j, j < N → f j = g j) : vp_cell c (N, .inr (.inr (.inr (.inr f)))) = vp_cell c (N, .inr (.inr (.inr (.inr g)))) := by
  show arrV c N (fun j => va_rf (f j)) = arrV c N (fun j => va_rf (g j))
  unfold arrV
  congr 1
  apply Array.ext
  · simp
  · intro i h1 h2
    have hi : i < N := by simpa using h1
    simp [h i hi]
theorem at_rc {D : va_G} {cl : List vw_C} {a N : Nat} {c : ClassId} {f g : Nat → Option Nat} {H : Heap} (h : ∀ j, j < N → f j = g j) (hq : va_at D cl (a, .inl (c, N, .inr (.inr (.inr (.inr f))))) H) : va_at D cl (a, .inl (c, N, .inr (.inr (.inr (.inr g))))) H := by
  have hq : H[a]? = some (vp_cell c (N, .inr (.inr (.inr (.inr f))))) := hq
  show H[a]? = some (vp_cell c (N, .inr (.inr (.inr (.inr g)))))
  rw [hq, vp_rc h]
theorem gw2_o {cA cB : ClassId} {h N K : Nat} : (h, .inl (cA, N, .inr (.inr (.inr (.inr (fun j => some (h + 1 + j * 1))))))) ∈ gw_2 cA cB h N K := List.mem_cons_self
theorem gw2_i {cA cB : ClassId} {h N K j : Nat} (hj : j < N) : (h + 1 + j, .inl (cB, K, .inl (fun _ => 0))) ∈ gw_2 cA cB h N K := List.mem_cons_of_mem _ (List.mem_map.mpr ⟨j, List.mem_range.mpr hj, rfl⟩)
theorem gw3_o {cA cB cC : ClassId} {h N K J : Nat} : (h, .inl (cA, N, .inr (.inr (.inr (.inr (fun j => some (h + 1 + j * (1 + K * 1)))))))) ∈ gw_3 cA cB cC h N K J := List.mem_cons_self
theorem gw3_m {cA cB cC : ClassId} {h N K J v : Nat} (hv : v < N) : (h + 1 + v * (1 + K * 1), .inl (cB, K, .inr (.inr (.inr (.inr (fun i => some (h + 1 + v * (1 + K * 1) + 1 + i * 1))))))) ∈ gw_3 cA cB cC h N K J := List.mem_cons_of_mem _ (List.mem_flatMap.mpr ⟨v, List.mem_range.mpr hv, List.mem_cons_self⟩)
theorem gw3_l {cA cB cC : ClassId} {h N K J v i : Nat} (hv : v < N) (hi : i < K) : (h + 1 + v * (1 + K * 1) + 1 + i, .inl (cC, J, .inr (.inl (fun _ => 0)))) ∈ gw_3 cA cB cC h N K J := List.mem_cons_of_mem _ (List.mem_flatMap.mpr ⟨v, List.mem_range.mpr hv, List.mem_cons_of_mem _ (List.mem_map.mpr ⟨i, List.mem_range.mpr hi, rfl⟩)⟩)
theorem P_mem {D : va_G} {cl : List vw_C} {ws : va_W} {H : Heap} (hP : va_P D cl ws H) {q : Nat × va_E} (hq : q ∈ ws) : va_at D cl q H := by
  obtain ⟨k, hk⟩ := List.getElem?_of_mem hq
  exact hP k q hk
section RZR
variable {a0 q1 q2 q3 q4 q5 q6 q7 q8 q9 q10 q11 q12 q13 : Nat} {k1 k5 C11 k9 A2 A11 B11 : ClassId}
set_option maxHeartbeats 4000000 in
set_option maxRecDepth 100000 in
theorem ad_mk : (rMk a0 q1 q2 q3 q4 q5 q6 q7 q8 q9 q10 q11 q12 q13 k1 k5 C11 k9 A2 A11 B11).map (·.1) = adL a0 q1 q2 q3 q4 q5 q6 q7 q8 q9 q10 q11 q12 q13 := by
  simp [rMk, gw_2, gw_3, adL, List.range, List.range.loop]
theorem ad_len : (adL a0 q1 q2 q3 q4 q5 q6 q7 q8 q9 q10 q11 q12 q13).length = 108 := rfl
theorem br_row (j : Nat) (hj : j < 10) : brX a0 q1 q2 q3 q4 q5 q6 q7 q8 q9 q10 q11 q12 q13 (3 + j) = q2 + 1 + j := match j, hj with
  | 0, _ => rfl
  | 1, _ => rfl
  | 2, _ => rfl
  | 3, _ => rfl
  | 4, _ => rfl
  | 5, _ => rfl
  | 6, _ => rfl
  | 7, _ => rfl
  | 8, _ => rfl
  | 9, _ => rfl
  | j + 10, h => absurd h (by omega)
theorem br_mid (v : Nat) (hv : v < 6) : brX a0 q1 q2 q3 q4 q5 q6 q7 q8 q9 q10 q11 q12 q13 (22 + v) = q11 + 1 + v * (1 + 13 * 1) := match v, hv with
  | 0, _ => rfl
  | 1, _ => rfl
  | 2, _ => rfl
  | 3, _ => rfl
  | 4, _ => rfl
  | 5, _ => rfl
  | v + 6, h => absurd h (by omega)
set_option maxHeartbeats 4000000 in
theorem br_leaf (v i : Nat) (hv : v < 6) (hi : i < 13) : brX a0 q1 q2 q3 q4 q5 q6 q7 q8 q9 q10 q11 q12 q13 (28 + 13 * v + i) = q11 + 1 + v * (1 + 13 * 1) + 1 + i := match v, i, hv, hi with
  | 0, 0, _, _ => rfl
  | 0, 1, _, _ => rfl
  | 0, 2, _, _ => rfl
  | 0, 3, _, _ => rfl
  | 0, 4, _, _ => rfl
  | 0, 5, _, _ => rfl
  | 0, 6, _, _ => rfl
  | 0, 7, _, _ => rfl
  | 0, 8, _, _ => rfl
  | 0, 9, _, _ => rfl
  | 0, 10, _, _ => rfl
  | 0, 11, _, _ => rfl
  | 0, 12, _, _ => rfl
  | 1, 0, _, _ => rfl
  | 1, 1, _, _ => rfl
  | 1, 2, _, _ => rfl
  | 1, 3, _, _ => rfl
  | 1, 4, _, _ => rfl
  | 1, 5, _, _ => rfl
  | 1, 6, _, _ => rfl
  | 1, 7, _, _ => rfl
  | 1, 8, _, _ => rfl
  | 1, 9, _, _ => rfl
  | 1, 10, _, _ => rfl
  | 1, 11, _, _ => rfl
  | 1, 12, _, _ => rfl
  | 2, 0, _, _ => rfl
  | 2, 1, _, _ => rfl
  | 2, 2, _, _ => rfl
  | 2, 3, _, _ => rfl
  | 2, 4, _, _ => rfl
  | 2, 5, _, _ => rfl
  | 2, 6, _, _ => rfl
  | 2, 7, _, _ => rfl
  | 2, 8, _, _ => rfl
  | 2, 9, _, _ => rfl
  | 2, 10, _, _ => rfl
  | 2, 11, _, _ => rfl
  | 2, 12, _, _ => rfl
  | 3, 0, _, _ => rfl
  | 3, 1, _, _ => rfl
  | 3, 2, _, _ => rfl
  | 3, 3, _, _ => rfl
  | 3, 4, _, _ => rfl
  | 3, 5, _, _ => rfl
  | 3, 6, _, _ => rfl
  | 3, 7, _, _ => rfl
  | 3, 8, _, _ => rfl
  | 3, 9, _, _ => rfl
  | 3, 10, _, _ => rfl
  | 3, 11, _, _ => rfl
  | 3, 12, _, _ => rfl
  | 4, 0, _, _ => rfl
  | 4, 1, _, _ => rfl
  | 4, 2, _, _ => rfl
  | 4, 3, _, _ => rfl
  | 4, 4, _, _ => rfl
  | 4, 5, _, _ => rfl
  | 4, 6, _, _ => rfl
  | 4, 7, _, _ => rfl
  | 4, 8, _, _ => rfl
  | 4, 9, _, _ => rfl
  | 4, 10, _, _ => rfl
  | 4, 11, _, _ => rfl
  | 4, 12, _, _ => rfl
  | 5, 0, _, _ => rfl
  | 5, 1, _, _ => rfl
  | 5, 2, _, _ => rfl
  | 5, 3, _, _ => rfl
  | 5, 4, _, _ => rfl
  | 5, 5, _, _ => rfl
  | 5, 6, _, _ => rfl
  | 5, 7, _, _ => rfl
  | 5, 8, _, _ => rfl
  | 5, 9, _, _ => rfl
  | 5, 10, _, _ => rfl
  | 5, 11, _, _ => rfl
  | 5, 12, _, _ => rfl
  | v + 6, _, h, _ => absurd h (by omega)
  | _, i + 13, _, h => absurd h (by omega)
theorem br_at (i : Nat) (hi : i < 108) : ∃ x : va_E, (rMk a0 q1 q2 q3 q4 q5 q6 q7 q8 q9 q10 q11 q12 q13 k1 k5 C11 k9 A2 A11 B11)[pTab.getD i 0]? = some (brX a0 q1 q2 q3 q4 q5 q6 q7 q8 q9 q10 q11 q12 q13 i, x) := by
  have h1 : pTab.getD i 0 < (adL a0 q1 q2 q3 q4 q5 q6 q7 q8 q9 q10 q11 q12 q13).length := by rw [ad_len]; exact p_lt i hi
  have h2 : (adL a0 q1 q2 q3 q4 q5 q6 q7 q8 q9 q10 q11 q12 q13)[pTab.getD i 0]? = some (brX a0 q1 q2 q3 q4 q5 q6 q7 q8 q9 q10 q11 q12 q13 i) := by
    unfold brX
    generalize pTab.getD i 0 = n at h1 ⊢
    rw [List.getD_eq_getElem?_getD, List.getElem?_eq_getElem h1]
    rfl
  rw [← ad_mk (a0 := a0) (q1 := q1) (q2 := q2) (q3 := q3) (q4 := q4) (q5 := q5) (q6 := q6) (q7 := q7) (q8 := q8) (q9 := q9) (q10 := q10) (q11 := q11) (q12 := q12) (q13 := q13) (k1 := k1) (k5 := k5) (C11 := C11) (k9 := k9) (A2 := A2) (A11 := A11) (B11 := B11), List.getElem?_map] at h2
  obtain ⟨⟨y, x⟩, h3, h4⟩ := Option.map_eq_some_iff.mp h2
  have h4 : y = brX a0 q1 q2 q3 q4 q5 q6 q7 q8 q9 q10 q11 q12 q13 i := h4
  subst h4
  exact ⟨x, h3⟩
end RZR
theorem rmk_D {A : Nat → Prop} (a0 q1 q2 q3 q4 q5 q6 q7 q8 q9 q10 q11 q12 q13 : Nat) (k1 k5 C11 k9 A2 A11 B11 : ClassId) (hD : va_D A (rMk a0 q1 q2 q3 q4 q5 q6 q7 q8 q9 q10 q11 q12 q13 k1 k5 C11 k9 A2 A11 B11)) : va_D A (rW (csR k1 k5 C11 k9 A2 A11 B11) (brX a0 q1 q2 q3 q4 q5 q6 q7 q8 q9 q10 q11 q12 q13) u0R) := by
  have hl : ∀ (k : Nat) (q : Nat × va_E), (rW (csR k1 k5 C11 k9 A2 A11 B11) (brX a0 q1 q2 q3 q4 q5 q6 q7 q8 q9 q10 q11 q12 q13) u0R)[k]? = some q → k < 108 := fun k q hq => by have := (List.getElem?_eq_some_iff.mp hq).1; rw [rW_len] at this; exact this
  refine ⟨fun i j p q hp hq e => ?_, fun k q hq => ?_⟩
  · have hi := hl i p hp
    have hj := hl j q hq
    rw [rW_at hi] at hp
    rw [rW_at hj] at hq
    cases hp
    cases hq
    obtain ⟨x, h1⟩ := br_at (a0 := a0) (q1 := q1) (q2 := q2) (q3 := q3) (q4 := q4) (q5 := q5) (q6 := q6) (q7 := q7) (q8 := q8) (q9 := q9) (q10 := q10) (q11 := q11) (q12 := q12) (q13 := q13) (k1 := k1) (k5 := k5) (C11 := C11) (k9 := k9) (A2 := A2) (A11 := A11) (B11 := B11) i hi
    obtain ⟨y, g1⟩ := br_at (a0 := a0) (q1 := q1) (q2 := q2) (q3 := q3) (q4 := q4) (q5 := q5) (q6 := q6) (q7 := q7) (q8 := q8) (q9 := q9) (q10 := q10) (q11 := q11) (q12 := q12) (q13 := q13) (k1 := k1) (k5 := k5) (C11 := C11) (k9 := k9) (A2 := A2) (A11 := A11) (B11 := B11) j hj
    have h5 := hD.1 _ _ _ _ h1 g1 e
    rw [← pq_tab i hi, ← pq_tab j hj, h5]
  · have hk := hl k q hq
    rw [rW_at hk] at hq
    cases hq
    obtain ⟨x, h1⟩ := br_at (a0 := a0) (q1 := q1) (q2 := q2) (q3 := q3) (q4 := q4) (q5 := q5) (q6 := q6) (q7 := q7) (q8 := q8) (q9 := q9) (q10 := q10) (q11 := q11) (q12 := q12) (q13 := q13) (k1 := k1) (k5 := k5) (C11 := C11) (k9 := k9) (A2 := A2) (A11 := A11) (B11 := B11) k hk
    have h9 := hD.2 _ _ h1
    exact h9
set_option maxHeartbeats 4000000 in
set_option maxRecDepth 100000 in
theorem rmk_P {D : va_G} {cl : List vw_C} {H : Heap} (a0 q1 q2 q3 q4 q5 q6 q7 q8 q9 q10 q11 q12 q13 : Nat) (k1 k5 C11 k9 A2 A11 B11 : ClassId) (hP : va_P D cl (rMk a0 q1 q2 q3 q4 q5 q6 q7 q8 q9 q10 q11 q12 q13 k1 k5 C11 k9 A2 A11 B11) H) : va_P D cl (rW (csR k1 k5 C11 k9 A2 A11 B11) (brX a0 q1 q2 q3 q4 q5 q6 q7 q8 q9 q10 q11 q12 q13) u0R) H := fun k q hq => by
  have hk : k < 108 := by have := (List.getElem?_eq_some_iff.mp hq).1; rw [rW_len] at this; exact this
  rw [rW_at hk] at hq
  cases hq
  rcases (show k = 0 ∨ k = 1 ∨ k = 2 ∨ (3 ≤ k ∧ k ≤ 12) ∨ k = 13 ∨ k = 14 ∨ k = 15 ∨ k = 16 ∨ k = 17 ∨ k = 18 ∨ k = 19 ∨ k = 20 ∨ k = 21 ∨ (22 ≤ k ∧ k ≤ 27) ∨ (28 ≤ k ∧ k ≤ 105) ∨ k = 106 ∨ k = 107 by omega) with rfl | rfl | rfl | h | rfl | rfl | rfl | rfl | rfl | rfl | rfl | rfl | rfl | h | h | rfl | rfl
  · exact P_mem hP (q := (a0, .inr (11, [.ref q1, .int 0, .int 0, .int 0, .ref q2, .int 0, .ref q3, .ref q4, .ref q5, .ref q6, .int 0, .int 0, .int 0, .int 0, .int 0, .int 0, .int 0, .int (-1), .int (-1), .int (-1), .int 0, .int 0, .int 0, .ref q7, .ref q8, .ref q9, .ref q10, .ref q11, .ref q12, .ref q13, .int 0]))) (List.mem_append_left _ (List.mem_append_left _ (List.mem_append_left _ (List.mem_append_left _ (List.mem_append_left _ (List.mem_append_left _ (List.mem_append_left _ (List.mem_append_left _ (List.mem_append_left _ (List.mem_append_left _ (List.mem_append_left _ (List.mem_append_left _ (List.mem_cons_self)))))))))))))
  · exact P_mem hP (q := (q1, .inl (k1, 7202, .inl (fun _ => 0)))) (List.mem_append_left _ (List.mem_append_left _ (List.mem_append_left _ (List.mem_append_left _ (List.mem_append_left _ (List.mem_append_left _ (List.mem_append_left _ (List.mem_append_left _ (List.mem_append_left _ (List.mem_append_left _ (List.mem_append_left _ (List.mem_append_left _ (List.mem_cons_of_mem _ List.mem_cons_self)))))))))))))
  · exact at_rc (fun j hj => congrArg some (by rw [Nat.mul_one j]; exact (br_row (a0 := a0) (q1 := q1) (q2 := q2) (q3 := q3) (q4 := q4) (q5 := q5) (q6 := q6) (q7 := q7) (q8 := q8) (q9 := q9) (q10 := q10) (q11 := q11) (q12 := q12) (q13 := q13) j hj).symm)) (P_mem hP (List.mem_append_left _ (List.mem_append_left _ (List.mem_append_left _ (List.mem_append_left _ (List.mem_append_left _ (List.mem_append_left _ (List.mem_append_left _ (List.mem_append_left _ (List.mem_append_left _ (List.mem_append_left _ (List.mem_append_left _ (List.mem_append_right _ (gw2_o))))))))))))))
  · obtain ⟨j, rfl⟩ : ∃ j, k = 3 + j := ⟨k - 3, by omega⟩
    rw [rE_row (by omega), br_row (a0 := a0) (q1 := q1) (q2 := q2) (q3 := q3) (q4 := q4) (q5 := q5) (q6 := q6) (q7 := q7) (q8 := q8) (q9 := q9) (q10 := q10) (q11 := q11) (q12 := q12) (q13 := q13) j (by omega)]
    exact P_mem hP (List.mem_append_left _ (List.mem_append_left _ (List.mem_append_left _ (List.mem_append_left _ (List.mem_append_left _ (List.mem_append_left _ (List.mem_append_left _ (List.mem_append_left _ (List.mem_append_left _ (List.mem_append_left _ (List.mem_append_left _ (List.mem_append_right _ (gw2_i (by omega))))))))))))))
  · exact P_mem hP (q := (q3, .inl (k1, 200, .inl (fun _ => 0)))) (List.mem_append_left _ (List.mem_append_left _ (List.mem_append_left _ (List.mem_append_left _ (List.mem_append_left _ (List.mem_append_left _ (List.mem_append_left _ (List.mem_append_left _ (List.mem_append_left _ (List.mem_append_left _ (List.mem_append_right _ (List.mem_singleton.mpr rfl))))))))))))
  · exact P_mem hP (q := (q4, .inl (k1, 200, .inl (fun _ => 0)))) (List.mem_append_left _ (List.mem_append_left _ (List.mem_append_left _ (List.mem_append_left _ (List.mem_append_left _ (List.mem_append_left _ (List.mem_append_left _ (List.mem_append_left _ (List.mem_append_left _ (List.mem_append_right _ (List.mem_singleton.mpr rfl)))))))))))
  · exact P_mem hP (q := (q5, .inl (k5, 700, .inl (fun _ => 0)))) (List.mem_append_left _ (List.mem_append_left _ (List.mem_append_left _ (List.mem_append_left _ (List.mem_append_left _ (List.mem_append_left _ (List.mem_append_left _ (List.mem_append_left _ (List.mem_append_right _ (List.mem_singleton.mpr rfl))))))))))
  · exact P_mem hP (q := (q6, .inl (k5, 700, .inl (fun _ => 0)))) (List.mem_append_left _ (List.mem_append_left _ (List.mem_append_left _ (List.mem_append_left _ (List.mem_append_left _ (List.mem_append_left _ (List.mem_append_left _ (List.mem_append_right _ (List.mem_singleton.mpr rfl)))))))))
  · exact P_mem hP (q := (q7, .inl (k1, 400, .inl (fun _ => 0)))) (List.mem_append_left _ (List.mem_append_left _ (List.mem_append_left _ (List.mem_append_left _ (List.mem_append_left _ (List.mem_append_left _ (List.mem_append_right _ (List.mem_singleton.mpr rfl))))))))
  · exact P_mem hP (q := (q8, .inl (k1, 400, .inl (fun _ => 0)))) (List.mem_append_left _ (List.mem_append_left _ (List.mem_append_left _ (List.mem_append_left _ (List.mem_append_left _ (List.mem_append_right _ (List.mem_singleton.mpr rfl)))))))
  · exact P_mem hP (q := (q9, .inl (k9, 400, .inl (fun _ => 0)))) (List.mem_append_left _ (List.mem_append_left _ (List.mem_append_left _ (List.mem_append_left _ (List.mem_append_right _ (List.mem_singleton.mpr rfl))))))
  · exact P_mem hP (q := (q10, .inl (k1, 6, .inl (fun _ => 0)))) (List.mem_append_left _ (List.mem_append_left _ (List.mem_append_left _ (List.mem_append_right _ (List.mem_singleton.mpr rfl)))))
  · exact at_rc (fun j hj => congrArg some (br_mid (a0 := a0) (q1 := q1) (q2 := q2) (q3 := q3) (q4 := q4) (q5 := q5) (q6 := q6) (q7 := q7) (q8 := q8) (q9 := q9) (q10 := q10) (q11 := q11) (q12 := q12) (q13 := q13) j hj).symm) (P_mem hP (List.mem_append_left _ (List.mem_append_left _ (List.mem_append_right _ (gw3_o)))))
  · obtain ⟨v, rfl⟩ : ∃ v, k = 22 + v := ⟨k - 22, by omega⟩
    rw [rE_home1 (by omega), br_mid (a0 := a0) (q1 := q1) (q2 := q2) (q3 := q3) (q4 := q4) (q5 := q5) (q6 := q6) (q7 := q7) (q8 := q8) (q9 := q9) (q10 := q10) (q11 := q11) (q12 := q12) (q13 := q13) v (by omega), show 22 + v - 22 = v by omega]
    exact at_rc (fun j hj => congrArg some (by rw [Nat.mul_one j]; exact (br_leaf (a0 := a0) (q1 := q1) (q2 := q2) (q3 := q3) (q4 := q4) (q5 := q5) (q6 := q6) (q7 := q7) (q8 := q8) (q9 := q9) (q10 := q10) (q11 := q11) (q12 := q12) (q13 := q13) v j (by omega) hj).symm)) (P_mem hP (List.mem_append_left _ (List.mem_append_left _ (List.mem_append_right _ (gw3_m (by omega))))))
  · obtain ⟨v, i, hv, hi, rfl⟩ : ∃ v i, v < 6 ∧ i < 13 ∧ k = 28 + 13 * v + i := ⟨(k - 28) / 13, (k - 28) % 13, by omega, by omega, by omega⟩
    rw [rE_home2 (by omega), br_leaf (a0 := a0) (q1 := q1) (q2 := q2) (q3 := q3) (q4 := q4) (q5 := q5) (q6 := q6) (q7 := q7) (q8 := q8) (q9 := q9) (q10 := q10) (q11 := q11) (q12 := q12) (q13 := q13) v i hv hi]
    exact P_mem hP (List.mem_append_left _ (List.mem_append_left _ (List.mem_append_right _ (gw3_l hv hi))))
  · exact P_mem hP (q := (q12, .inl (C11, 60840, .inr (.inl (fun _ => 0))))) (List.mem_append_left _ (List.mem_append_right _ (List.mem_singleton.mpr rfl)))
  · exact P_mem hP (q := (q13, .inl (k5, 400, .inl (fun _ => 0)))) (List.mem_append_right _ (List.mem_singleton.mpr rfl))
theorem iv_u0 : IV u0R 0 0 := ⟨fun i hi => bg_zero (fun k hk => rfl), ⟨0, by decide, rfl⟩, rfl, rfl, ⟨0, by decide, rfl⟩, 0, by decide, rfl⟩
/-- a contract's start, the names of the components with it -/
def PcX (av : List Value) (sz : Nat) (dC : Nat → ClassId) (dI : Nat → Nat → Nat) (tys : List (ClassId × FieldType)) (ws : va_W) : Array Value → State → Prop :=
  va_Pc av (fun U => (U.heap.size = sz ∧ va_P (dC, dI) vwCl ws U.heap ∧ va_K (dC, dI) vwCl tys U ∧ va_D (fun _ => True) ws ∧ EX U) ∧ AMX U)
theorem PcX.blind {av : List Value} {sz : Nat} {dC : Nat → ClassId} {dI : Nat → Nat → Nat} {tys : List (ClassId × FieldType)} {ws : va_W} : FrameBlind (PcX av sz dC dI tys ws) := fun a U g mk q => by
  obtain ⟨q0, ⟨q1, qP, qK, qD, qE⟩, qM⟩ := q
  exact ⟨q0, ⟨q1, qP, va_K.moved (u := U) (U := U.calling g mk a) (Vm.Alike.refl U.vm) qK, qD, qE.blind⟩, AMX.moved (u := U) (U := U.calling g mk a) (Vm.Alike.refl U.vm) qM⟩
