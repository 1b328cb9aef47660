/-! the reader's world with the text constants -/
def PQX (av : List Value) (sz : Nat) (dC : Nat → ClassId) (dI : Nat → Nat → Nat) (cs : Nat → ClassId) (b : Nat → Nat) (u : RS) (adK adV : Nat → Nat) : Array Value → State → Prop :=
  va_Pc av (fun U => U.heap.size = sz ∧ va_P (dC, dI) vwCl (qW cs b u) U.heap ∧ va_K (dC, dI) vwCl (QTY cs) U ∧ QJ b ∧ EX U ∧ SX adK adV (AQ b sz) U U.heap ∧ vk_R "GluedWords$Tokens" 68 "vertex" (adK 0) U ∧ vk_R "GluedWords$Tokens" 74 "edge" (adK 1) U ∧ vk_R "GluedWords$Tokens" 76 "word" (adK 2) U)
theorem PQX.blind {av : List Value} {sz : Nat} {dC : Nat → ClassId} {dI : Nat → Nat → Nat} {cs : Nat → ClassId} {b : Nat → Nat} {u : RS} {adK adV : Nat → Nat} : FrameBlind (PQX av sz dC dI cs b u adK adV) := fun a U g mk q => by
  obtain ⟨q0, q1, qP, qK, qD, qE, qX, z0, z1, z2⟩ := q
  exact ⟨q0, q1, qP, va_K.moved (u := U) (U := U.calling g mk a) (Vm.Alike.refl U.vm) qK, qD, qE.blind, SX.moved (u := U) (U := U.calling g mk a) (Vm.Alike.refl U.vm) qX, vk_R.same (u := U) (U := U.calling g mk a) rfl z0, vk_R.same (u := U) (U := U.calling g mk a) rfl z1, vk_R.same (u := U) (U := U.calling g mk a) rfl z2⟩
theorem qx_pre {av : List Value} {dC : Nat → ClassId} {dI : Nat → Nat → Nat} {cs : Nat → ClassId} {b : Nat → Nat} {u : RS} {adK adV : Nat → Nat} {s : State} {H : Heap} {locs : List Loc} (hK : va_K (dC, dI) vwCl (QTY cs) s) (hP : va_P (dC, dI) vwCl (qW cs b u) H) (hJ : QJ b) (hE : EX s) (hX : SX adK adV (AQ b s.heap.size) s s.heap) (z0 : vk_R "GluedWords$Tokens" 68 "vertex" (adK 0) s) (z1 : vk_R "GluedWords$Tokens" 74 "edge" (adK 1) s) (z2 : vk_R "GluedWords$Tokens" 76 "word" (adK 2) s) (hS : va_S (AQ b s.heap.size) s.heap H locs) : ∀ U : State, U.heap = H → s.WarmedH U.vm → PQX av H.size dC dI cs b u adK adV av.toArray U := fun U hU hw =>
  ⟨rfl, by rw [hU], by rw [hU]; exact hP, va_K.moved hw.alike hK, hJ, hE.warm hw, by rw [hU]; exact ((hX.kept hS.2.1).narrow (fun q h => h.elim Or.inl (fun h => Or.inr (Nat.le_trans hS.1 h)))).moved hw.alike, z0.warm hw, z1.warm hw, z2.warm hw⟩
theorem chq_0 : ∀ i, i < 6 → chS 0 i = wVx.getD i 0 ∧ 0 ≤ (wVx.getD i 0).toInt ∧ (wVx.getD i 0).toInt ≤ 127 := by decide
theorem chq_1 : ∀ i, i < 4 → chS 1 i = wEd.getD i 0 ∧ 0 ≤ (wEd.getD i 0).toInt ∧ (wEd.getD i 0).toInt ≤ 127 := by decide
theorem chq_2 : ∀ i, i < 4 → chS 2 i = wWo.getD i 0 ∧ 0 ≤ (wWo.getD i 0).toInt ∧ (wWo.getD i 0).toInt ≤ 127 := by decide
theorem mx_f {x y z : Int32} {X Y : Int} (h : z = if x < y then y else x) (ex : x.toInt = X) (ey : y.toInt = Y) : (z.toInt = X ∧ Y ≤ X) ∨ (z.toInt = Y ∧ X ≤ Y) := by
  by_cases q : x < y
  · rw [if_pos q] at h
    rw [b_lt ex ey] at q
    rw [h]
    omega
  · rw [if_neg q] at h
    rw [b_lt ex ey] at q
    rw [h]
    omega
