theorem lt_mul_pos {x y z : Nat} (h : x < y * z) : 0 < z := by
  rcases Nat.eq_zero_or_pos z with e | e
  · rw [e, Nat.mul_zero] at h
    omega
  · exact e
theorem hM_0 {a : Nat → Int32} {g v k x : Nat} (h : x < hM a g 0 v k) : v = g ∧ x < od a g := by
  have h2 : x < (if v = g then od a g else 0) := h
  by_cases e : v = g
  · rw [if_pos e] at h2
    exact ⟨e, h2⟩
  · rw [if_neg e] at h2
    omega
theorem hM_in {a : Nat → Int32} {g n v k x y q : Nat} (hn : 1 ≤ n) (h : x < hM a g n v k) (hy : y + usum a v k (fun s => hM a g (n - 1) (dst a s) (s + 1)) q = x) (hq : q ≤ 2 * eN a) : q < 2 * eN a := by
  rcases Nat.lt_or_ge q (2 * eN a) with z | z
  · exact z
  · have e : q = 2 * eN a := by omega
    rw [hM_s hn] at h
    have := hsum_le (a := a) (v := v) (k := k) (f := fun s => hM a g (n - 1) (dst a s) (s + 1)) (2 * eN a)
    rw [e] at hy
    omega

set_option maxHeartbeats 4000000 in
set_option maxRecDepth 100000 in
theorem r_X12_spell (l : Launch) (dC : Nat → ClassId) (dI : Nat → Nat → Nat) (sz : Nat) (cs : Nat → ClassId) (b : Nat → Nat) (u : RS) (a : Nat → Int32) (hA1 : rA u 1 = a) (x : Int32) (y : Int32) (z : Int32) (ac : Nat) (hF2 : rF u 2 = nI ac) (hp0 : AB a) (hp1 : ac ≤ 8) : Met l yX12_spell [.code yX12_spell cX12_spell 12 (some .int)] ({ frames := 22, cells := 0, slots := 0, locals := 880 }) (PR [.ref (b 0), .int x, .int y, .int z] sz dC dI cs b u) (va_Qi (fun (r : Int32) (u' : RS) => (True) ∧ (AB (rA u' 1)) ∧ (∃ k : Nat, k ≤ 8 ∧ rF u' 2 = nI k) ∧ FR [1, 3, 4, 5, 6, 7, 8, 9, 10, 11, 12, 13, 14, 17, 18, 19, 20] [1, 2, 5, 21, 22] true u u') (BR dC dI cs b) (AR b sz)) 0 0 (AR b sz) := sorry
