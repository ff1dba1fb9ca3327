/-! ===== THE TEXT, as numbers: widths, parts, where they begin ===== -/
def w1 (s : Nat) : Nat := if s < 128 then 1 else 2
def wideL (L : List Nat) : Bool := L.any (fun s => decide (160 ≤ s))
def septL (L : List Nat) : Nat := (L.map w1).sum
def szL (L : List Nat) : List Nat := L.map (fun s => if wideL L then 1 else w1 s)
def roomL (L : List Nat) : Nat := if wideL L then (if L.length ≤ 70 then 70 else 67) else (if septL L ≤ 160 then 160 else 153)
/-- how many of the sizes, from the first on, fit into r -/
def takeN : Nat → List Nat → Nat
  | _, [] => 0
  | r, s :: z => if s ≤ r then takeN (r - s) z + 1 else 0
def posn (r : Nat) (Z : List Nat) : Nat → Nat
  | 0 => 0
  | k + 1 => posn r Z k + takeN r (Z.drop (posn r Z k))
def posL (L : List Nat) (k : Nat) : Nat := posn (roomL L) (szL L) k
def npL (L : List Nat) : Nat := ((List.range 6).filter (fun k => decide (posL L k < L.length))).length
theorem w1_12 (s : Nat) : w1 s = 1 ∨ w1 s = 2 := by unfold w1; split <;> simp
theorem szL_len (L : List Nat) : (szL L).length = L.length := by simp [szL]
theorem szL_12 {L : List Nat} : ∀ s ∈ szL L, 1 ≤ s ∧ s ≤ 2 := by
  intro s hs
  obtain ⟨x, -, rfl⟩ := List.mem_map.mp hs
  split
  · decide
  · rcases w1_12 x with h | h <;> rw [h] <;> decide
theorem takeN_le : ∀ (Z : List Nat) (r : Nat), takeN r Z ≤ Z.length
  | [], _ => Nat.le_refl _
  | s :: z, r => by
    unfold takeN
    split
    · have := takeN_le z (r - s); simp; omega
    · simp
theorem takeN_iff : ∀ (Z : List Nat) (r t : Nat), t ≤ Z.length → ((Z.take t).sum ≤ r ↔ t ≤ takeN r Z)
  | [], r, t, h => by simp at h; subst h; simp
  | s :: z, r, 0, _ => by simp
  | s :: z, r, t + 1, h => by
    have h1 : t ≤ z.length := by simpa using h
    rw [List.take_succ_cons, List.sum_cons, takeN]
    by_cases hs : s ≤ r
    · rw [if_pos hs]
      have := takeN_iff z (r - s) t h1
      constructor
      · intro hh
        have := this.mp (by omega)
        omega
      · intro hh
        have := this.mpr (by omega)
        omega
    · rw [if_neg hs]
      constructor
      · intro hh; omega
      · intro hh; omega
theorem posn_le (r : Nat) (Z : List Nat) : ∀ k, posn r Z k ≤ Z.length
  | 0 => Nat.zero_le _
  | k + 1 => by
    have h1 := posn_le r Z k
    have h2 := takeN_le (Z.drop (posn r Z k)) r
    rw [List.length_drop] at h2
    unfold posn
    omega
theorem posn_mono (r : Nat) (Z : List Nat) (k : Nat) : posn r Z k ≤ posn r Z (k + 1) := by
  show posn r Z k ≤ posn r Z k + _
  omega
theorem posn_mono_le (r : Nat) (Z : List Nat) {j k : Nat} (h : j ≤ k) : posn r Z j ≤ posn r Z k := by
  induction k with
  | zero => rw [Nat.le_zero.mp h]; exact Nat.le_refl _
  | succ k ih =>
    rcases Nat.lt_or_ge j (k + 1) with h1 | h1
    · exact Nat.le_trans (ih (by omega)) (posn_mono r Z k)
    · rw [show j = k + 1 by omega]; exact Nat.le_refl _
theorem sum_take_add (Z : List Nat) (a b : Nat) : (Z.take (a + b)).sum = (Z.take a).sum + ((Z.drop a).take b).sum := by
  rw [List.take_add, List.sum_append]
theorem posn_lt {r : Nat} {Z : List Nat} (hr : 2 ≤ r) (hZ : ∀ s ∈ Z, 1 ≤ s ∧ s ≤ 2) {k : Nat} (h : posn r Z k < Z.length) : posn r Z k < posn r Z (k + 1) := by
  have h1 : 1 ≤ takeN r (Z.drop (posn r Z k)) := by
    refine (takeN_iff _ _ 1 (by rw [List.length_drop]; omega)).mp ?_
    rw [List.drop_eq_getElem_cons h, List.take_succ_cons, List.take_zero, List.sum_cons, List.sum_nil]
    have := (hZ _ (List.getElem_mem h)).2
    omega
  show posn r Z k < posn r Z k + _
  omega
/-- a part that isn't the last one leaves no room for one more sign -/
theorem part_full {r : Nat} {Z : List Nat} (hZ : ∀ s ∈ Z, 1 ≤ s ∧ s ≤ 2) {k : Nat} (h : posn r Z (k + 1) < Z.length) : r ≤ ((Z.drop (posn r Z k)).take (takeN r (Z.drop (posn r Z k)))).sum + Z[posn r Z (k + 1)] - 1 := by
  obtain ⟨t, ht⟩ : ∃ t, t = takeN r (Z.drop (posn r Z k)) := ⟨_, rfl⟩
  have hp : posn r Z (k + 1) = posn r Z k + t := by rw [ht]; rfl
  have h1 : ¬ ((Z.drop (posn r Z k)).take (t + 1)).sum ≤ r := fun hh => by
    have := (takeN_iff _ _ (t + 1) (by rw [List.length_drop]; omega)).mp hh
    omega
  have e : (Z.drop (posn r Z k)).take (t + 1) = (Z.drop (posn r Z k)).take t ++ [Z[posn r Z (k + 1)]] := by
    rw [List.take_add_one, List.getElem?_drop, ← hp, List.getElem?_eq_getElem h]
    rfl
  rw [e, List.sum_append] at h1
  rw [← ht]
  simp at h1
  omega
theorem sums_ge {r m : Nat} {Z : List Nat} (hZ : ∀ s ∈ Z, 1 ≤ s ∧ s ≤ 2) (hm : ∀ s ∈ Z, m + s ≤ r + 1) : ∀ k, posn r Z k < Z.length → k * m ≤ (Z.take (posn r Z k)).sum := by
  intro k
  induction k with
  | zero => intro _; simp
  | succ k ih =>
    intro h
    have h1 := ih (Nat.lt_of_le_of_lt (posn_mono r Z k) h)
    have h2 := part_full hZ h
    have h3 := hm _ (List.getElem_mem h)
    have h5 := (hZ _ (List.getElem_mem h)).1
    have h4 : (Z.take (posn r Z (k + 1))).sum = (Z.take (posn r Z k)).sum + ((Z.drop (posn r Z k)).take (takeN r (Z.drop (posn r Z k)))).sum := sum_take_add _ _ _
    rw [h4, Nat.succ_mul]
    omega
theorem one_part {r : Nat} {Z : List Nat} (h : Z.sum ≤ r) : posn r Z 1 = Z.length := by
  have h1 : Z.length ≤ takeN r Z := (takeN_iff Z r Z.length (Nat.le_refl _)).mp (by rw [List.take_length]; exact h)
  have h2 := takeN_le Z r
  show 0 + takeN r (Z.drop 0) = _
  rw [List.drop_zero]
  omega
theorem sum_take_le (Z : List Nat) (t : Nat) : (Z.take t).sum ≤ Z.sum := by
  have h := sum_take_add Z t Z.length
  rw [List.take_of_length_le (by omega)] at h
  omega
theorem sum_le_two : ∀ (Z : List Nat), (∀ s ∈ Z, 1 ≤ s ∧ s ≤ 2) → Z.sum ≤ 2 * Z.length
  | [], _ => by simp
  | s :: z, h => by
    have h1 := (h s List.mem_cons_self).2
    have h2 := sum_le_two z (fun x hx => h x (List.mem_cons_of_mem _ hx))
    simp
    omega
theorem sz_wide {L : List Nat} (h : wideL L = true) : ∀ s ∈ szL L, s = 1 := by
  intro s hs
  obtain ⟨x, -, rfl⟩ := List.mem_map.mp hs
  rw [if_pos h]
theorem sum_ones : ∀ (Z : List Nat), (∀ s ∈ Z, s = 1) → Z.sum = Z.length
  | [], _ => rfl
  | s :: z, h => by
    rw [List.sum_cons, sum_ones z (fun x hx => h x (List.mem_cons_of_mem _ hx)), h s List.mem_cons_self, List.length_cons]
    omega
theorem sz_small {L : List Nat} (h : wideL L = false) : szL L = L.map w1 := by
  unfold szL
  rw [h]
  rfl
theorem roomL_ge (L : List Nat) : 67 ≤ roomL L ∧ roomL L ≤ 160 := by
  unfold roomL
  (repeat' split) <;> decide
/-- at most six parts -/
theorem posL_6 {L : List Nat} (hL : L.length ≤ 400) : posL L 6 = L.length := by
  have h0 : posL L 6 ≤ L.length := by have := posn_le (roomL L) (szL L) 6; rw [szL_len] at this; exact this
  rcases Nat.lt_or_ge (posL L 6) L.length with h | h
  · exfalso
    have hlt : posn (roomL L) (szL L) 6 < (szL L).length := by rw [szL_len]; exact h
    have hs := szL_12 (L := L)
    by_cases hw : wideL L = true
    · have h1 := sz_wide hw
      have hsum := sum_ones _ h1
      rw [szL_len] at hsum
      by_cases h7 : L.length ≤ 70
      · have e : roomL L = 70 := by unfold roomL; rw [if_pos hw, if_pos h7]
        have := one_part (r := 70) (Z := szL L) (by omega)
        have h2 := posn_mono_le 70 (szL L) (show 1 ≤ 6 by decide)
        rw [e] at hlt
        omega
      · have e : roomL L = 67 := by unfold roomL; rw [if_pos hw, if_neg h7]
        have := sums_ge (m := 67) hs (fun s hs2 => by rw [h1 s hs2, e]; decide) 6 hlt
        have h2 := sum_take_le (szL L) (posn (roomL L) (szL L) 6)
        omega
    · have hw : wideL L = false := by simpa using hw
      have e0 : (szL L).sum = septL L := by rw [sz_small hw]; rfl
      by_cases h7 : septL L ≤ 160
      · have e : roomL L = 160 := by unfold roomL; rw [if_neg (by rw [hw]; decide), if_pos h7]
        have := one_part (r := 160) (Z := szL L) (by omega)
        have h2 := posn_mono_le 160 (szL L) (show 1 ≤ 6 by decide)
        rw [e] at hlt
        omega
      · have e : roomL L = 153 := by unfold roomL; rw [if_neg (by rw [hw]; decide), if_neg h7]
        have := sums_ge (m := 152) hs (fun s hs2 => by have := (hs s hs2).2; omega) 6 hlt
        have h2 := sum_take_le (szL L) (posn (roomL L) (szL L) 6)
        have h3 := sum_le_two _ hs
        rw [szL_len] at h3
        omega
  · omega
theorem posL_le (L : List Nat) (k : Nat) : posL L k ≤ L.length := by have := posn_le (roomL L) (szL L) k; rw [szL_len] at this; exact this
theorem posL_mono (L : List Nat) {j k : Nat} (h : j ≤ k) : posL L j ≤ posL L k := posn_mono_le _ _ h
theorem posL_lt {L : List Nat} {k : Nat} (h : posL L k < L.length) : posL L k < posL L (k + 1) := posn_lt (by have := (roomL_ge L).1; omega) szL_12 (by rw [szL_len]; exact h)
theorem posL_ge6 {L : List Nat} (hL : L.length ≤ 400) {k : Nat} (h : 6 ≤ k) : posL L k = L.length := Nat.le_antisymm (posL_le L k) (by have := posL_mono L h; rw [posL_6 hL] at this; exact this)
/-- counting what holds below a border -/
theorem cnt_below {p : Nat → Bool} (m : Nat) : ∀ n, m ≤ n → (∀ k, k < n → (p k = true ↔ k < m)) → ((List.range n).filter p).length = m := by
  intro n
  induction n with
  | zero => intro h _; simp; omega
  | succ n ih =>
    intro hm hp
    rw [List.range_succ, List.filter_append, List.length_append]
    by_cases h : n < m
    · have : m = n + 1 := by omega
      subst this
      have h1 : ((List.range n).filter p).length = n := by
        rw [List.filter_eq_self.mpr (fun k hk => (hp k (by have := List.mem_range.mp hk; omega)).mpr (by have := List.mem_range.mp hk; omega)), List.length_range]
      rw [h1, List.filter_cons_of_pos ((hp n (by omega)).mpr h)]
      simp
    · rw [ih (by omega) (fun k hk => hp k (by omega)), List.filter_cons_of_neg (by rw [hp n (by omega)]; exact h)]
      simp
/-- the number of parts: the first place where all is taken -/
theorem npL_eq {L : List Nat} {m : Nat} (h1 : ∀ k, k < m → posL L k < L.length) (h2 : posL L m = L.length) (hm : m ≤ 6) : npL L = m := by
  refine cnt_below m 6 hm (fun k _ => ?_)
  simp only [decide_eq_true_eq]
  constructor
  · intro h
    rcases Nat.lt_or_ge k m with h3 | h3
    · exact h3
    · have := posL_mono L h3; omega
  · exact h1 k
theorem npL_ex {L : List Nat} (hL : L.length ≤ 400) : ∃ m, m ≤ 6 ∧ (∀ k, k < m → posL L k < L.length) ∧ posL L m = L.length := by
  obtain ⟨m, h1, h2⟩ := pk_least (fun k => posL L k = L.length) ⟨6, posL_6 hL⟩
  refine ⟨m, ?_, fun k hk => ?_, h1⟩
  · rcases Nat.lt_or_ge 6 m with h | h
    · exact absurd (posL_6 hL) (h2 6 h)
    · exact h
  · have := h2 k hk
    have h3 := posL_le L k
    omega
theorem npL_spec {L : List Nat} (hL : L.length ≤ 400) : npL L ≤ 6 ∧ (∀ k, k < npL L → posL L k < L.length) ∧ posL L (npL L) = L.length := by
  obtain ⟨m, h1, h2, h3⟩ := npL_ex hL
  rw [npL_eq h2 h3 h1]
  exact ⟨h1, h2, h3⟩
theorem npL_nil : npL [] = 0 := npL_eq (fun k hk => absurd hk (Nat.not_lt_zero k)) rfl (by decide)
theorem npL_pos {L : List Nat} (hL : L.length ≤ 400) (h : L ≠ []) : 0 < npL L := by
  obtain ⟨-, -, h3⟩ := npL_spec hL
  rcases Nat.eq_zero_or_pos (npL L) with h0 | h0
  · rw [h0] at h3
    have : L.length = 0 := h3.symm
    exact absurd (List.length_eq_zero_iff.mp this) h
  · exact h0
