/-! the new cells as one list behind the old ones -/
theorem gw_run {A : Nat → Prop} {w : va_W} {h : Nat} (hk : ∀ (k : Nat) (q : Nat × va_E), w[k]? = some q → q.1 = h + k) (hA : ∀ q, h ≤ q → A q) : va_D A w :=
  ⟨fun i j p q hp hq e => by have h1 := hk i p hp; have h2 := hk j q hq; omega, fun k q hq => hA _ (by have := hk k q hq; omega)⟩
theorem gw_more {A : Nat → Prop} {D : va_G} {cl : List vw_C} {ws w : va_W} {H : Heap} (hD : va_D A ws) (hP : va_P D cl ws H) (hk : ∀ (k : Nat) (q : Nat × va_E), w[k]? = some q → q.1 = H.size + k) (hA : ∀ q, H.size ≤ q → A q) : va_D A (ws ++ w) :=
  hD.app (gw_run hk hA) (fun i j p q hp hq e => by have h1 := (hP i p hp).lt; have h2 := hk j q hq; omega)
theorem gw_addr {w : va_W} {h n : Nat} (e : w.map (·.1) = (List.range n).map (h + ·)) : ∀ (k : Nat) (q : Nat × va_E), w[k]? = some q → q.1 = h + k := by
  intro k q hq
  have h1 : (w.map (·.1))[k]? = some q.1 := by rw [List.getElem?_map, hq]; rfl
  rw [e, List.getElem?_map] at h1
  obtain ⟨x, hx, ex⟩ := Option.map_eq_some_iff.mp h1
  obtain ⟨hl, hx'⟩ := List.getElem?_eq_some_iff.mp hx
  rw [List.getElem_range] at hx'
  omega
/-- the cells of new int[N][K], in the order of making -/
def gw_2 (cA cB : ClassId) (h N K : Nat) : va_W := (h, .inl (cA, N, .inr (.inr (.inr (.inr (fun j => some (h + 1 + j * 1))))))) :: (List.range N).map (fun j => (h + 1 + j, .inl (cB, K, .inl (fun _ => 0))))
theorem gw_2P {D : va_G} {cl : List vw_C} {cA cB : ClassId} {h N K : Nat} {H1 : Heap} (z1 : H1[h]? = some (vp_cell cA (N, .inr (.inr (.inr (.inr (fun j => some (h + 1 + j * 1)))))))) (z2 : ∀ j, j < N → H1[h + 1 + j]? = some (vp_cell cB (K, .inl (fun _ => 0)))) : va_P D cl (gw_2 cA cB h N K) H1 := by
  intro k q hq
  rcases List.mem_cons.mp (List.mem_of_getElem? hq) with e | e
  · subst e
    exact z1
  · obtain ⟨j, hj, e⟩ := List.mem_map.mp e
    subst e
    exact z2 j (List.mem_range.mp hj)
/-- the cells of new long[N][K][J], in the order of making -/
def gw_3 (cA cB cC : ClassId) (h N K J : Nat) : va_W := (h, .inl (cA, N, .inr (.inr (.inr (.inr (fun j => some (h + 1 + j * (1 + K * 1)))))))) :: (List.range N).flatMap (fun v => (h + 1 + v * (1 + K * 1), .inl (cB, K, .inr (.inr (.inr (.inr (fun i => some (h + 1 + v * (1 + K * 1) + 1 + i * 1))))))) :: (List.range K).map (fun i => (h + 1 + v * (1 + K * 1) + 1 + i, .inl (cC, J, .inr (.inl (fun _ => 0))))))
theorem gw_3P {D : va_G} {cl : List vw_C} {cA cB cC : ClassId} {h N K J : Nat} {H1 : Heap} (z1 : H1[h]? = some (vp_cell cA (N, .inr (.inr (.inr (.inr (fun j => some (h + 1 + j * (1 + K * 1))))))))) (z2 : ∀ j, j < N → H1[h + 1 + j * (1 + K * 1)]? = some (vp_cell cB (K, .inr (.inr (.inr (.inr (fun i => some (h + 1 + j * (1 + K * 1) + 1 + i * 1))))))) ∧ ∀ i, i < K → H1[h + 1 + j * (1 + K * 1) + 1 + i]? = some (vp_cell cC (J, .inr (.inl (fun _ => 0))))) : va_P D cl (gw_3 cA cB cC h N K J) H1 := by
  intro k q hq
  rcases List.mem_cons.mp (List.mem_of_getElem? hq) with e | e
  · subst e
    exact z1
  · obtain ⟨v, hv, e⟩ := List.mem_flatMap.mp e
    have hv := List.mem_range.mp hv
    rcases List.mem_cons.mp e with e | e
    · subst e
      exact (z2 v hv).1
    · obtain ⟨i, hi, e⟩ := List.mem_map.mp e
      subst e
      exact (z2 v hv).2 i (List.mem_range.mp hi)
theorem gw_2A (cA cB : ClassId) (h : Nat) : ∀ (k : Nat) (q : Nat × va_E), (gw_2 cA cB h 10 200)[k]? = some q → q.1 = h + k := gw_addr (n := 11) (by simp [gw_2, List.range, List.range.loop, Nat.add_assoc])
theorem gw_3A (cA cB cC : ClassId) (h : Nat) : ∀ (k : Nat) (q : Nat × va_E), (gw_3 cA cB cC h 6 13 13)[k]? = some q → q.1 = h + k := gw_addr (n := 85) (by simp [gw_3, List.range, List.range.loop, Nat.add_assoc])
