/-! a graph in a row of ints, and words in it -/
def vN (a : Nat → Int32) : Nat := (a 0).toNatClampNeg
def eN (a : Nat → Int32) : Nat := (a 1).toNatClampNeg
def wN (a : Nat → Int32) : Nat := (a 2).toNatClampNeg
def od (a : Nat → Int32) (v : Nat) : Nat := (a (4 + v)).toNatClampNeg
def ev (a : Nat → Int32) (e k : Nat) : Nat := (a (10 + 4 * e + k)).toNatClampNeg
def fl (s : Nat) : Nat := if s % 2 = 0 then s + 1 else s - 1
def src (a : Nat → Int32) (s : Nat) : Nat := ev a (s / 2) (if s % 2 = 0 then 0 else 2)
def idx (a : Nat → Int32) (s : Nat) : Nat := ev a (s / 2) (if s % 2 = 0 then 1 else 3)
def dst (a : Nat → Int32) (s : Nat) : Nat := src a (fl s)
def jdx (a : Nat → Int32) (s : Nat) : Nat := idx a (fl s)
theorem fl_half (s : Nat) : fl s / 2 = s / 2 := by unfold fl; split <;> omega
theorem fl_mod (s : Nat) : fl s % 2 = 1 - s % 2 := by unfold fl; split <;> omega
theorem fl_fl (s : Nat) : fl (fl s) = s := by
  unfold fl
  split <;> split <;> omega
theorem fl_lt {s E : Nat} (h : s < 2 * E) : fl s < 2 * E := by unfold fl; split <;> omega
theorem fl_ne (s : Nat) : fl s ≠ s := by unfold fl; split <;> omega
theorem nI_fl {s : Nat} (h : s < 64) : nI s ^^^ 1 = nI (fl s) := by
  have key : ∀ n : Fin 64, nI n.val ^^^ 1 = nI (fl n.val) := by decide +kernel
  exact key ⟨s, h⟩
/-- an edge: vertices that are there, indices that divide the orders, with one quotient -/
def EG (a : Nat → Int32) (e : Nat) : Prop := (∀ k, k < 4 → a (10 + 4 * e + k) = nI (ev a e k)) ∧ ev a e 0 < vN a ∧ ev a e 2 < vN a ∧ ∃ c, od a (ev a e 0) = c * ev a e 1 ∧ od a (ev a e 2) = c * ev a e 3
def GG (a : Nat → Int32) : Prop := a 0 = nI (vN a) ∧ vN a ≤ 6 ∧ a 1 = nI (eN a) ∧ eN a ≤ 6 ∧ (∀ v, v < vN a → a (4 + v) = nI (od a v) ∧ 1 ≤ od a v ∧ od a v ≤ 60) ∧ ∀ e, e < eN a → EG a e
section GRF
variable {a w : Nat → Int32}
theorem gg_v (h : GG a) : a 0 = nI (vN a) := h.1
theorem gg_e (h : GG a) : a 1 = nI (eN a) := h.2.2.1
theorem gg_le (h : GG a) : vN a ≤ 6 ∧ eN a ≤ 6 := ⟨h.2.1, h.2.2.2.1⟩
theorem gg_od (h : GG a) {v : Nat} (hv : v < vN a) : a (4 + v) = nI (od a v) ∧ 1 ≤ od a v ∧ od a v ≤ 60 := h.2.2.2.2.1 v hv
theorem gg_edge (h : GG a) {e : Nat} (he : e < eN a) : EG a e := h.2.2.2.2.2 e he
theorem gg_ev (h : GG a) {e k : Nat} (he : e < eN a) (hk : k < 4) : a (10 + 4 * e + k) = nI (ev a e k) := (gg_edge h he).1 k hk
theorem gg_src (h : GG a) {s : Nat} (hs : s < 2 * eN a) : src a s < vN a := by
  obtain ⟨-, h0, h2, -⟩ := gg_edge h (e := s / 2) (by omega)
  unfold src
  split
  · exact h0
  · exact h2
theorem gg_dst (h : GG a) {s : Nat} (hs : s < 2 * eN a) : dst a s < vN a := gg_src h (fl_lt hs)
theorem mul_pos1 {c x n : Nat} (h : n = c * x) (hn : 1 ≤ n) : 1 ≤ x ∧ x ≤ n ∧ 1 ≤ c := by
  have hx : x ≠ 0 := fun e => by rw [e, Nat.mul_zero] at h; omega
  have hc : c ≠ 0 := fun e => by rw [e, Nat.zero_mul] at h; omega
  have : 1 * x ≤ c * x := Nat.mul_le_mul_right x (by omega)
  omega
theorem gg_idx (h : GG a) {s : Nat} (hs : s < 2 * eN a) : 1 ≤ idx a s ∧ idx a s ≤ 60 := by
  obtain ⟨-, h0, h2, c, e1, e2⟩ := gg_edge h (e := s / 2) (by omega)
  have o0 := gg_od h h0
  have o2 := gg_od h h2
  have q1 := mul_pos1 e1 o0.2.1
  have q2 := mul_pos1 e2 o2.2.1
  unfold idx
  split <;> omega
theorem gg_jdx (h : GG a) {s : Nat} (hs : s < 2 * eN a) : 1 ≤ jdx a s ∧ jdx a s ≤ 60 := gg_idx h (fl_lt hs)
theorem gg_quot (h : GG a) {s : Nat} (hs : s < 2 * eN a) : ∃ c, od a (src a s) = c * idx a s ∧ od a (dst a s) = c * jdx a s := by
  obtain ⟨-, h0, h2, c, e1, e2⟩ := gg_edge h (e := s / 2) (by omega)
  refine ⟨c, ?_⟩
  unfold dst jdx src idx
  rw [fl_half, fl_mod]
  by_cases q : s % 2 = 0
  · rw [if_pos q, if_pos q, if_neg (by omega), if_neg (by omega)]
    exact ⟨e1, e2⟩
  · rw [if_neg q, if_neg q, if_pos (by omega), if_pos (by omega)]
    exact ⟨e2, e1⟩
/-- a number that goes along an edge stays below the order there -/
theorem gg_carry (h : GG a) {s n : Nat} (hs : s < 2 * eN a) (hn : n < od a (src a s)) : n / idx a s * jdx a s < od a (dst a s) := by
  obtain ⟨c, e1, e2⟩ := gg_quot h hs
  have hi := gg_idx h hs
  have hj := gg_jdx h hs
  have h1 : n / idx a s < c := by rw [Nat.div_lt_iff_lt_mul (by omega)]; omega
  rw [e2]
  exact Nat.mul_lt_mul_of_pos_right h1 (by omega)
/-! words -/
def rb (w : Nat → Int32) : Nat := (w 0).toNatClampNeg
def rn (w : Nat → Int32) : Nat := (w 1).toNatClampNeg
def rs (w : Nat → Int32) (i : Nat) : Nat := (w (3 + 2 * i)).toNatClampNeg
def vx (a w : Nat → Int32) (i : Nat) : Nat := if i = 0 then rb w else dst a (rs w (i - 1))
def vend (a w : Nat → Int32) : Nat := vx a w (rn w)
/-- steps that hang together -/
def PG (a w : Nat → Int32) : Prop := w 0 = nI (rb w) ∧ rb w < vN a ∧ w 1 = nI (rn w) ∧ rn w ≤ 98 ∧ ∀ i, i < rn w → w (3 + 2 * i) = nI (rs w i) ∧ rs w i < 2 * eN a ∧ src a (rs w i) = vx a w i
/-- the last number is one of the last vertex -/
def LG (a w : Nat → Int32) : Prop := 0 ≤ (w (2 + 2 * rn w)).toInt ∧ (w (2 + 2 * rn w)).toInt < od a (vend a w)
theorem pg_b (h : PG a w) : w 0 = nI (rb w) := h.1
theorem pg_n (h : PG a w) : w 1 = nI (rn w) := h.2.2.1
theorem pg_le (h : PG a w) : rb w < vN a ∧ rn w ≤ 98 := ⟨h.2.1, h.2.2.2.1⟩
theorem pg_s (h : PG a w) {i : Nat} (hi : i < rn w) : w (3 + 2 * i) = nI (rs w i) := (h.2.2.2.2 i hi).1
theorem pg_sl (h : PG a w) {i : Nat} (hi : i < rn w) : rs w i < 2 * eN a := (h.2.2.2.2 i hi).2.1
theorem pg_sv (h : PG a w) {i : Nat} (hi : i < rn w) : src a (rs w i) = vx a w i := (h.2.2.2.2 i hi).2.2
theorem vx_s {i : Nat} : vx a w (i + 1) = dst a (rs w i) := by
  unfold vx
  rw [if_neg (by omega), Nat.add_sub_cancel]
theorem vx_0 : vx a w 0 = rb w := if_pos rfl
theorem vx_p {i : Nat} (h : 0 < i) : vx a w i = dst a (rs w (i - 1)) := if_neg (by omega)
theorem pg_v (hG : GG a) (h : PG a w) {i : Nat} (hi : i ≤ rn w) : vx a w i < vN a := by
  by_cases q : i = 0
  · subst q
    rw [vx_0]
    exact h.2.1
  · obtain ⟨k, rfl⟩ : ∃ k, i = k + 1 := ⟨i - 1, by omega⟩
    rw [vx_s]
    exact gg_dst hG (pg_sl h (by omega))
theorem pg_end (hG : GG a) (h : PG a w) : vend a w < vN a := pg_v hG h (Nat.le_refl _)
theorem vend_0 (h : rn w = 0) : vend a w = rb w := by
  unfold vend
  rw [h, vx_0]
theorem vend_s (h : 0 < rn w) : vend a w = dst a (rs w (rn w - 1)) := by
  unfold vend
  rw [vx_p h]
/-- two rows that are one as far as their words go -/
theorem rw_same {w w' : Nat → Int32} (h : ∀ k, k ≤ 2 + 2 * rn w → w' k = w k) : rb w' = rb w ∧ rn w' = rn w ∧ ∀ i, i < rn w → rs w' i = rs w i := by
  refine ⟨?_, ?_, fun i hi => ?_⟩
  · unfold rb; rw [h 0 (by omega)]
  · show (w' 1).toNatClampNeg = rn w; rw [h 1 (by omega)]; rfl
  · unfold rs; rw [h (3 + 2 * i) (by omega)]
theorem vx_same {w w' : Nat → Int32} (hb : rb w' = rb w) {n : Nat} (hs : ∀ i, i < n → rs w' i = rs w i) {i : Nat} (hi : i ≤ n) : vx a w' i = vx a w i := by
  unfold vx
  rw [hb]
  by_cases q : i = 0
  · rw [if_pos q, if_pos q]
  · rw [if_neg q, if_neg q, hs (i - 1) (by omega)]
theorem pg_same {w w' : Nat → Int32} (h : ∀ k, k ≤ 2 + 2 * rn w → w' k = w k) (hp : PG a w) : PG a w' ∧ rb w' = rb w ∧ rn w' = rn w ∧ vend a w' = vend a w := by
  obtain ⟨e1, e2, e3⟩ := rw_same h
  refine ⟨⟨?_, ?_, ?_, ?_, fun i hi => ?_⟩, e1, e2, ?_⟩
  · rw [h 0 (by omega), e1]; exact hp.1
  · rw [e1]; exact hp.2.1
  · rw [h 1 (by omega), e2]; exact hp.2.2.1
  · rw [e2]; exact hp.2.2.2.1
  · rw [e2] at hi
    rw [h (3 + 2 * i) (by omega), e3 i hi, vx_same e1 e3 (Nat.le_of_lt hi)]
    exact hp.2.2.2.2 i hi
  · unfold vend
    rw [e2, vx_same e1 e3 (Nat.le_refl _)]
theorem lg_same {w w' : Nat → Int32} (h : ∀ k, k ≤ 2 + 2 * rn w → w' k = w k) (hp : PG a w) (hl : LG a w) : LG a w' := by
  obtain ⟨-, -, e2, e3⟩ := pg_same h hp
  unfold LG
  rw [e2, e3, h _ (Nat.le_refl _)]
  exact hl
/-- numbers may change -/
theorem pg_num {w w' : Nat → Int32} (h0 : w' 0 = w 0) (h1 : w' 1 = w 1) (ho : ∀ i, i < rn w → w' (3 + 2 * i) = w (3 + 2 * i)) (hp : PG a w) : PG a w' ∧ rb w' = rb w ∧ rn w' = rn w ∧ vend a w' = vend a w ∧ ∀ i, i < rn w → rs w' i = rs w i := by
  have e1 : rb w' = rb w := by unfold rb; rw [h0]
  have e2 : rn w' = rn w := by unfold rn; rw [h1]
  have e3 : ∀ i, i < rn w → rs w' i = rs w i := fun i hi => by unfold rs; rw [ho i hi]
  refine ⟨⟨?_, ?_, ?_, ?_, fun i hi => ?_⟩, e1, e2, ?_, e3⟩
  · rw [h0, e1]; exact hp.1
  · rw [e1]; exact hp.2.1
  · rw [h1, e2]; exact hp.2.2.1
  · rw [e2]; exact hp.2.2.2.1
  · rw [e2] at hi
    rw [ho i hi, e3 i hi, vx_same e1 e3 (Nat.le_of_lt hi)]
    exact hp.2.2.2.2 i hi
  · unfold vend
    rw [e2, vx_same e1 e3 (Nat.le_refl _)]
/-- a number is put -/
theorem pg_put {w w' : Nat → Int32} {n : Nat} {x : Int32} (h : w' = upd w (2 + 2 * n) x) (hp : PG a w) : PG a w' ∧ rb w' = rb w ∧ rn w' = rn w ∧ vend a w' = vend a w ∧ ∀ i, i < rn w → rs w' i = rs w i :=
  pg_num (by rw [h, pk_un (by omega)]) (by rw [h, pk_un (by omega)]) (fun i _ => by rw [h, pk_un (by omega)]) hp
/-- a word of no step -/
theorem pg_single {v : Nat} (hv : v < vN a) (h6 : vN a ≤ 6) (h0 : w 0 = nI v) (h1 : w 1 = 0) : PG a w ∧ rn w = 0 ∧ rb w = v ∧ vend a w = v := by
  have e1 : rn w = 0 := by unfold rn; rw [h1]; rfl
  have e2 : rb w = v := by unfold rb; rw [h0, nI_clamp (by omega)]
  exact ⟨⟨by rw [e2]; exact h0, by rw [e2]; exact hv, by rw [e1]; exact h1, by omega, fun i hi => absurd hi (by omega)⟩, e1, e2, by rw [vend_0 e1, e2]⟩
/-- a step more -/
theorem pg_goes {w w' : Nat → Int32} {n s : Nat} (hp : PG a w) (hn : rn w = n) (hle : n ≤ 97) (hs : s < 2 * eN a) (h6 : eN a ≤ 6) (hv : src a s = vend a w) (h0 : w' 0 = w 0) (h1 : w' 1 = nI (n + 1)) (hs1 : w' (3 + 2 * n) = nI s) (ho : ∀ i, i < n → w' (3 + 2 * i) = w (3 + 2 * i)) : PG a w' ∧ rn w' = n + 1 ∧ rb w' = rb w ∧ vend a w' = dst a s ∧ (∀ i, i < n → rs w' i = rs w i) ∧ rs w' n = s := by
  have e1 : rn w' = n + 1 := by unfold rn; rw [h1, nI_clamp (by omega)]
  have e2 : rb w' = rb w := by unfold rb; rw [h0]
  have e3 : ∀ i, i < n → rs w' i = rs w i := fun i hi => by unfold rs; rw [ho i hi]
  have e4 : rs w' n = s := by unfold rs; rw [hs1, nI_clamp (by omega)]
  refine ⟨⟨by rw [h0, e2]; exact hp.1, by rw [e2]; exact hp.2.1, by rw [e1]; exact h1, by omega, fun i hi => ?_⟩, e1, e2, ?_, e3, e4⟩
  · by_cases q : i = n
    · subst q
      rw [hs1, e4, vx_same e2 e3 (Nat.le_refl _)]
      refine ⟨rfl, hs, ?_⟩
      rw [hv, vend, hn]
    · have hi2 : i < n := by omega
      rw [ho i hi2, e3 i hi2, vx_same e2 e3 (Nat.le_of_lt hi2)]
      exact hp.2.2.2.2 i (by omega)
  · unfold vend
    rw [e1, vx_s, e4]
/-- a step less -/
theorem pg_cut {w w' : Nat → Int32} {n : Nat} (hp : PG a w) (hn : rn w = n + 1) (h0 : w' 0 = w 0) (h1 : w' 1 = nI n) (ho : ∀ i, i < n → w' (3 + 2 * i) = w (3 + 2 * i)) : PG a w' ∧ rn w' = n ∧ rb w' = rb w ∧ vend a w' = src a (rs w n) ∧ (∀ i, i < n → rs w' i = rs w i) := by
  have hle := hp.2.2.2.1
  have e1 : rn w' = n := by unfold rn; rw [h1, nI_clamp (by omega)]
  have e2 : rb w' = rb w := by unfold rb; rw [h0]
  have e3 : ∀ i, i < n → rs w' i = rs w i := fun i hi => by unfold rs; rw [ho i hi]
  refine ⟨⟨by rw [h0, e2]; exact hp.1, by rw [e2]; exact hp.2.1, by rw [e1]; exact h1, by omega, fun i hi => ?_⟩, e1, e2, ?_, e3⟩
  · have hi2 : i < n := by omega
    rw [ho i hi2, e3 i hi2, vx_same e2 e3 (Nat.le_of_lt hi2)]
    exact hp.2.2.2.2 i (by omega)
  · unfold vend
    rw [e1, vx_same e2 e3 (Nat.le_refl _)]
    exact (pg_sv hp (by omega)).symm
theorem lg_mk {n v k : Nat} (hn : rn w = n) (hv : vend a w = v) (hx : w (2 + 2 * n) = nI k) (hk : k < od a v) (h60 : od a v ≤ 60) : LG a w := by
  unfold LG
  rw [hn, hv, hx, nI_toInt (by omega)]
  omega
theorem lg_num (h : LG a w) (h0 : rn w = 0) : 0 ≤ (w 2).toInt ∧ (w 2).toInt < od a (rb w) := by
  unfold LG at h
  rw [vend_0 h0, h0] at h
  exact h
theorem lg_of {n v : Nat} {x : Int32} (hn : rn w = n) (hv : vend a w = v) (hx : w (2 + 2 * n) = x) (h0 : 0 ≤ x.toInt) (h1 : x.toInt < od a v) : LG a w := by
  unfold LG
  rw [hn, hv, hx]
  exact ⟨h0, h1⟩
end GRF
/-- a graph that keeps what another one has -/
def GM (a a' : Nat → Int32) : Prop := vN a ≤ vN a' ∧ eN a ≤ eN a' ∧ (∀ v, v < vN a → od a' v = od a v) ∧ ∀ e k, e < eN a → k < 4 → ev a' e k = ev a e k
theorem gm_src {a a' : Nat → Int32} (h : GM a a') {s : Nat} (hs : s < 2 * eN a) : src a' s = src a s := by
  unfold src
  exact h.2.2.2 _ _ (by omega) (by split <;> decide)
theorem gm_dst {a a' : Nat → Int32} (h : GM a a') {s : Nat} (hs : s < 2 * eN a) : dst a' s = dst a s := gm_src h (fl_lt hs)
theorem pg_grow {a a' w : Nat → Int32} (h : GM a a') (hp : PG a w) : PG a' w ∧ vend a' w = vend a w := by
  have hv : ∀ i, i ≤ rn w → vx a' w i = vx a w i := fun i hi => by
    unfold vx
    by_cases q : i = 0
    · rw [if_pos q, if_pos q]
    · rw [if_neg q, if_neg q, gm_dst h (pg_sl hp (by omega))]
  have h1 := h.1
  have h2 := h.2.1
  have h3 := hp.2.1
  refine ⟨⟨hp.1, by omega, hp.2.2.1, hp.2.2.2.1, fun i hi => ⟨pg_s hp hi, ?_, ?_⟩⟩, hv _ (Nat.le_refl _)⟩
  · have := pg_sl hp hi
    omega
  · rw [gm_src h (pg_sl hp hi), hv i (Nat.le_of_lt hi)]
    exact pg_sv hp hi
theorem lg_grow {a a' w : Nat → Int32} (h : GM a a') (hG : GG a) (hp : PG a w) (hl : LG a w) : LG a' w := by
  unfold LG
  rw [(pg_grow h hp).2, h.2.2.1 _ (pg_end hG hp)]
  exact hl
/-! blocks -/
def row (a : Nat → Int32) (w : Nat) : Nat → Int32 := fun k => a (34 + 52 * w + k)
def sh (a : Nat → Int32) (i : Nat) : Nat → Int32 := fun k => a (554 * i + k)
/-- the words of a block, the first n -/
def WG (a : Nat → Int32) (n : Nat) : Prop := ∀ w, w < n → PG a (row a w) ∧ LG a (row a w) ∧ rn (row a w) ≤ 24
def BG (a : Nat → Int32) : Prop := GG a ∧ a 2 = nI (wN a) ∧ wN a ≤ 10 ∧ WG a (wN a)
theorem gm_same {a a' : Nat → Int32} (h : ∀ k, k < 34 → a' k = a k) (hG : GG a) : GM a a' ∧ vN a' = vN a ∧ eN a' = eN a := by
  have e1 : vN a' = vN a := by unfold vN; rw [h 0 (by omega)]
  have e2 : eN a' = eN a := by unfold eN; rw [h 1 (by omega)]
  have := gg_le hG
  refine ⟨⟨by omega, by omega, fun v hv => ?_, fun e k he hk => ?_⟩, e1, e2⟩
  · unfold od; rw [h (4 + v) (by omega)]
  · unfold ev; rw [h (10 + 4 * e + k) (by omega)]
theorem gg_same {a a' : Nat → Int32} (h : ∀ k, k < 34 → a' k = a k) (hG : GG a) : GG a' := by
  obtain ⟨⟨-, -, h3, h4⟩, e1, e2⟩ := gm_same h hG
  have hle := gg_le hG
  refine ⟨by rw [h 0 (by omega), e1]; exact gg_v hG, by omega, by rw [h 1 (by omega), e2]; exact gg_e hG, by omega, fun v hv => ?_, fun e he => ?_⟩
  · rw [e1] at hv
    rw [h (4 + v) (by omega), h3 v hv]
    exact gg_od hG hv
  · rw [e2] at he
    obtain ⟨q1, q2, q3, c, q4, q5⟩ := gg_edge hG he
    refine ⟨fun k hk => by rw [h _ (by omega), h4 e k he hk]; exact q1 k hk, by rw [h4 e 0 he (by decide), e1]; exact q2, by rw [h4 e 2 he (by decide), e1]; exact q3, c, ?_, ?_⟩
    · rw [h4 e 0 he (by decide), h4 e 1 he (by decide), h3 _ q2]; exact q4
    · rw [h4 e 2 he (by decide), h4 e 3 he (by decide), h3 _ q3]; exact q5
theorem wg_one {a a' : Nat → Int32} (hm : GM a a') (hG : GG a) {w w' : Nat} (h : ∀ k, k < 52 → a' (34 + 52 * w' + k) = a (34 + 52 * w + k)) (hw : PG a (row a w) ∧ LG a (row a w) ∧ rn (row a w) ≤ 24) : PG a' (row a' w') ∧ LG a' (row a' w') ∧ rn (row a' w') ≤ 24 := by
  obtain ⟨h1, h2, h3⟩ := hw
  have hk : ∀ k, k ≤ 2 + 2 * rn (row a w) → row a' w' k = row a w k := fun k hk => h k (by omega)
  obtain ⟨p1, -, p3, -⟩ := pg_same (a := a) hk h1
  exact ⟨(pg_grow hm p1).1, lg_grow hm hG p1 (lg_same hk h1 h2), by omega⟩
theorem bg_same {a a' : Nat → Int32} (h : ∀ k, k < 554 → a' k = a k) (hB : BG a) : BG a' := by
  obtain ⟨hG, h2, h3, h4⟩ := hB
  have hm := (gm_same (fun k hk => h k (by omega)) hG).1
  have e3 : wN a' = wN a := by unfold wN; rw [h 2 (by omega)]
  refine ⟨gg_same (fun k hk => h k (by omega)) hG, by rw [h 2 (by omega), e3]; exact h2, by omega, fun w hw => ?_⟩
  rw [e3] at hw
  exact wg_one hm hG (fun k hk => h _ (by omega)) (h4 w hw)
/-- all blocks: the graph that is now, what is aside, acts and marks -/
def AB (a : Nat → Int32) : Prop := ∀ i, i < 13 → BG (sh a i)
theorem sh_0 {a : Nat → Int32} : sh a 0 = a := funext fun k => by unfold sh; rw [Nat.mul_zero, Nat.zero_add]
theorem ab_0 {a : Nat → Int32} (h : AB a) : BG a := by have := h 0 (by decide); rw [sh_0] at this; exact this
theorem bg_g {a : Nat → Int32} (h : BG a) : GG a := h.1
theorem bg_w {a : Nat → Int32} (h : BG a) : a 2 = nI (wN a) ∧ wN a ≤ 10 := ⟨h.2.1, h.2.2.1⟩
theorem bg_row {a : Nat → Int32} (h : BG a) {w : Nat} (hw : w < wN a) : PG a (row a w) ∧ LG a (row a w) ∧ rn (row a w) ≤ 24 := h.2.2.2 w hw
theorem ab_copy {a a' : Nat → Int32} {i j : Nat} (hi : i < 13) (h : AB a) (h1 : ∀ k, k < 554 → a' (554 * j + k) = a (554 * i + k)) (h2 : ∀ k, (k < 554 * j ∨ 554 * j + 554 ≤ k) → a' k = a k) : AB a' := fun q hq => by
  by_cases e : q = j
  · subst e
    exact bg_same (a := sh a i) (fun k hk => h1 k hk) (h i hi)
  · exact bg_same (a := sh a q) (fun k hk => h2 _ (by omega)) (h q hq)
/-- the block that is now changes; the others stay -/
theorem ab_now {a a' : Nat → Int32} (h : AB a) (hB : BG a') (h2 : ∀ k, 554 ≤ k → a' k = a k) : AB a' := fun q hq => by
  by_cases e : q = 0
  · subst e
    rw [sh_0]
    exact hB
  · exact bg_same (a := sh a q) (fun k hk => h2 _ (by omega)) (h q hq)
/-- a word more -/
theorem bg_keep {a a' w : Nat → Int32} (hB : BG a) (h9 : wN a ≤ 9) (hp : PG a w) (hl : LG a w) (h24 : rn w ≤ 24) (h2 : a' 2 = nI (wN a + 1)) (hw : ∀ k, k < 52 → a' (34 + 52 * wN a + k) = w k) (ho : ∀ k, k ≠ 2 → (k < 34 + 52 * wN a ∨ 34 + 52 * wN a + 52 ≤ k) → a' k = a k) : BG a' ∧ wN a' = wN a + 1 ∧ GM a a' ∧ vN a' = vN a ∧ eN a' = eN a := by
  have hG := bg_g hB
  have hle := gg_le hG
  have e1 : vN a' = vN a := by unfold vN; rw [ho 0 (by omega) (by omega)]
  have e2 : eN a' = eN a := by unfold eN; rw [ho 1 (by omega) (by omega)]
  have e3 : wN a' = wN a + 1 := by unfold wN; rw [h2, nI_clamp (by show wN a + 1 < _; omega)]; rfl
  have hod : ∀ v, v < vN a → od a' v = od a v := fun v hv => by unfold od; rw [ho _ (by omega) (by omega)]
  have hev : ∀ e k, e < eN a → k < 4 → ev a' e k = ev a e k := fun e k he hk => by unfold ev; rw [ho _ (by omega) (by omega)]
  have hm : GM a a' := ⟨by omega, by omega, hod, hev⟩
  have hG' : GG a' := by
    refine ⟨by rw [ho 0 (by omega) (by omega), e1]; exact gg_v hG, by omega, by rw [ho 1 (by omega) (by omega), e2]; exact gg_e hG, by omega, fun v hv => ?_, fun e he => ?_⟩
    · rw [e1] at hv
      rw [ho _ (by omega) (by omega), hod v hv]
      exact gg_od hG hv
    · rw [e2] at he
      obtain ⟨q1, q2, q3, c, q4, q5⟩ := gg_edge hG he
      refine ⟨fun k hk => by rw [ho _ (by omega) (by omega), hev e k he hk]; exact q1 k hk, by rw [hev e 0 he (by decide), e1]; exact q2, by rw [hev e 2 he (by decide), e1]; exact q3, c, ?_, ?_⟩
      · rw [hev e 0 he (by decide), hev e 1 he (by decide), hod _ q2]; exact q4
      · rw [hev e 2 he (by decide), hev e 3 he (by decide), hod _ q3]; exact q5
  refine ⟨⟨hG', by rw [e3]; exact h2, by omega, fun q hq => ?_⟩, e3, hm, e1, e2⟩
  by_cases hqe : q = wN a
  · subst hqe
    have hk : ∀ k, k ≤ 2 + 2 * rn w → row a' (wN a) k = w k := fun k hk => hw k (by omega)
    obtain ⟨p1, -, p3, -⟩ := pg_same (a := a) hk hp
    exact ⟨(pg_grow hm p1).1, lg_grow hm hG p1 (lg_same hk hp hl), by omega⟩
  · exact wg_one hm hG (fun k hk => ho _ (by omega) (by omega)) (bg_row hB (by omega))
/-- one word is another one now -/
theorem bg_put {a a' w : Nat → Int32} {q : Nat} (hB : BG a) (hq : q < wN a) (hp : PG a w) (hl : LG a w) (h24 : rn w ≤ 24) (hw : ∀ k, k < 52 → a' (34 + 52 * q + k) = w k) (ho : ∀ k, (k < 34 + 52 * q ∨ 34 + 52 * q + 52 ≤ k) → a' k = a k) : BG a' := by
  have hG := bg_g hB
  obtain ⟨hm, e1, e2⟩ := gm_same (a := a) (a' := a') (fun k hk => ho k (by omega)) hG
  have e3 : wN a' = wN a := by unfold wN; rw [ho 2 (by omega)]
  have hw10 := bg_w hB
  refine ⟨gg_same (fun k hk => ho k (by omega)) hG, by rw [e3, ho 2 (by omega)]; exact hw10.1, by omega, fun x hx => ?_⟩
  rw [e3] at hx
  by_cases hqe : x = q
  · subst hqe
    have hk : ∀ k, k ≤ 2 + 2 * rn w → row a' x k = w k := fun k hk => hw k (by omega)
    obtain ⟨p1, -, p3, -⟩ := pg_same (a := a) hk hp
    exact ⟨(pg_grow hm p1).1, lg_grow hm hG p1 (lg_same hk hp hl), by omega⟩
  · exact wg_one hm hG (fun k hk => ho _ (by omega)) (bg_row hB hx)
/-- one word is gone -/
theorem bg_drop {a a' : Nat → Int32} {q : Nat} (hB : BG a) (hq : q < wN a) (h2 : a' 2 = nI (wN a - 1)) (h1 : ∀ k, k ≠ 2 → k < 34 + 52 * q → a' k = a k) (hw : ∀ k, 34 + 52 * q ≤ k → k < 34 + 52 * (wN a - 1) → a' k = a (k + 52)) : BG a' := by
  have hG := bg_g hB
  have hle := gg_le hG
  have hw10 := bg_w hB
  have e1 : vN a' = vN a := by unfold vN; rw [h1 0 (by omega) (by omega)]
  have e2 : eN a' = eN a := by unfold eN; rw [h1 1 (by omega) (by omega)]
  have e3 : wN a' = wN a - 1 := by unfold wN; rw [h2, nI_clamp (by show wN a - 1 < _; omega)]; rfl
  have hod : ∀ v, v < vN a → od a' v = od a v := fun v hv => by unfold od; rw [h1 _ (by omega) (by omega)]
  have hev : ∀ e k, e < eN a → k < 4 → ev a' e k = ev a e k := fun e k he hk => by unfold ev; rw [h1 _ (by omega) (by omega)]
  have hm : GM a a' := ⟨by omega, by omega, hod, hev⟩
  have hG' : GG a' := by
    refine ⟨by rw [h1 0 (by omega) (by omega), e1]; exact gg_v hG, by omega, by rw [h1 1 (by omega) (by omega), e2]; exact gg_e hG, by omega, fun v hv => ?_, fun e he => ?_⟩
    · rw [e1] at hv
      rw [h1 _ (by omega) (by omega), hod v hv]
      exact gg_od hG hv
    · rw [e2] at he
      obtain ⟨q1, q2, q3, c, q4, q5⟩ := gg_edge hG he
      refine ⟨fun k hk => by rw [h1 _ (by omega) (by omega), hev e k he hk]; exact q1 k hk, by rw [hev e 0 he (by decide), e1]; exact q2, by rw [hev e 2 he (by decide), e1]; exact q3, c, ?_, ?_⟩
      · rw [hev e 0 he (by decide), hev e 1 he (by decide), hod _ q2]; exact q4
      · rw [hev e 2 he (by decide), hev e 3 he (by decide), hod _ q3]; exact q5
  refine ⟨hG', by rw [e3]; exact h2, by omega, fun x hx => ?_⟩
  by_cases hqe : x < q
  · exact wg_one hm hG (fun k hk => h1 _ (by omega) (by omega)) (bg_row hB (by omega))
  · refine wg_one (w := x + 1) hm hG (fun k hk => ?_) (bg_row hB (by omega))
    rw [hw _ (by omega) (by omega)]
    exact congrArg a (by omega)
/-! how many places of a row are marked -/
def cn (f : Nat → Int32) : Nat → Nat
  | 0 => 0
  | m + 1 => cn f m + (if f m = 0 then 0 else 1)
theorem cn_le (f : Nat → Int32) : ∀ m, cn f m ≤ m
  | 0 => Nat.le_refl 0
  | m + 1 => by
    have := cn_le f m
    unfold cn
    split <;> omega
theorem cn_out {f : Nat → Int32} {q : Nat} {x : Int32} : ∀ m, m ≤ q → cn (upd f q x) m = cn f m
  | 0, _ => rfl
  | m + 1, h => by
    unfold cn
    rw [cn_out m (by omega), pk_un (by omega)]
theorem cn_in {f : Nat → Int32} {q : Nat} {x : Int32} (h0 : f q = 0) (hx : x ≠ 0) : ∀ m, q < m → cn (upd f q x) m = cn f m + 1
  | 0, h => absurd h (by omega)
  | m + 1, h => by
    unfold cn
    by_cases e : q = m
    · subst e
      rw [cn_out q (Nat.le_refl _), pk_us, h0, if_neg hx, if_pos rfl]
    · rw [cn_in h0 hx m (by omega), pk_un (fun e2 => e e2.symm)]
      omega
theorem cn_0 {f : Nat → Int32} : ∀ m, (∀ q, q < m → f q = 0) → cn f m = 0
  | 0, _ => rfl
  | m + 1, h => by
    unfold cn
    rw [cn_0 m (fun q hq => h q (by omega)), if_pos (h m (by omega))]
def qn (f : Nat → Int32) (i : Nat) : Nat := (f i).toNatClampNeg
/-- a queue of numbers of vertices -/
def QV (a f : Nat → Int32) (n : Nat) : Prop := ∀ i, i < n → f i = nI (qn f i) ∧ qn f i / 60 < vN a ∧ qn f i % 60 < od a (qn f i / 60)
theorem qv_put {a f f' : Nat → Int32} {n x : Nat} (h : QV a f n) (hx : x / 60 < vN a) (hx2 : x % 60 < od a (x / 60)) (h31 : x < 1000) (he : f' = upd f n (nI x)) : QV a f' (n + 1) ∧ (∀ i, i < n → qn f' i = qn f i) ∧ qn f' n = x := by
  have e1 : ∀ i, i < n → f' i = f i := fun i hi => by rw [he, pk_un (by omega)]
  have e2 : ∀ i, i < n → qn f' i = qn f i := fun i hi => by unfold qn; rw [e1 i hi]
  have e3 : f' n = nI x := by rw [he]; exact pk_us
  have e4 : qn f' n = x := by unfold qn; rw [e3, nI_clamp (by omega)]
  refine ⟨fun i hi => ?_, e2, e4⟩
  by_cases q : i = n
  · subst q
    rw [e4]
    exact ⟨e3, hx, hx2⟩
  · rw [e1 i (by omega), e2 i (by omega)]
    exact h i (by omega)
