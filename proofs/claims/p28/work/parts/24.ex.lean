/-! ===== what more always holds, call by call ===== -/
/-- a message is delivered just where none of its parts is lacking -/
def X1 (s : St) : Prop := ∀ m, m < zMc s → (zSt s m = 1 ↔ zLk s m = 0)
/-- each receipt is of a message that waits no more, and tells how it stands -/
def X2 (s : St) : Prop := ∀ x ∈ zRcp s, ∃ m, m < zMc s ∧ zSt s m ≠ 0 ∧ x = 10 * m + zSt s m
/-- each lacking part of a message that waits, but the one with the code c0, stands in a row of its link -/
def X3 (s : St) (c0 : Nat) : Prop := ∀ m, m < zMc s → zSt s m = 0 → ∀ p, p < npL (zMs s m) → (zLk s m).testBit p = true → 100 + 10 * m + p ≠ c0 → 100 + 10 * m + p ∈ zRw s (2 * (zRc s m % 3)) ∨ 100 + 10 * m + p ∈ zRw s (2 * (zRc s m % 3) + 1)
/-- what is under way: at most ten, and nothing on a link that is down -/
def X4 (s : St) : Prop := ∀ l, l < 3 → (zRw s (2 * l + 1)).length ≤ 10 ∧ (zUp s l = 0 → zRw s (2 * l + 1) = [])
/-- keywords are apart -/
def X5 (kw : Nat → Int32) : Prop := ∀ j k, 0 < j → j < 5 → 0 < k → k < 5 → kw j = kw k → j = k ∨ kw j = -1
def Ex (s : St) : Prop := X1 s ∧ X2 s ∧ X3 s 0 ∧ X4 s ∧ X5 (zKw s)
/-- what ended stays so, receipts stay -/
def Mo (s t : St) : Prop := zMc s ≤ zMc t ∧ (∀ m, m < zMc s → zSt s m ≠ 0 → zSt t m = zSt s m) ∧ (zRcp s).length ≤ (zRcp t).length
theorem Mo.rf {s : St} : Mo s s := ⟨Nat.le_refl _, fun _ _ _ => rfl, Nat.le_refl _⟩
theorem Mo.tr {s t u : St} (h : Mo s t) (g : Mo t u) : Mo s u := ⟨Nat.le_trans h.1 g.1, fun m hm h0 => by
  have e := h.2.1 m hm h0
  rw [g.2.1 m (Nat.lt_of_lt_of_le hm h.1) (by rw [e]; exact h0), e], Nat.le_trans h.2.2 g.2.2⟩
theorem x1_fin {s : St} {m how : Nat} (h : ∀ k, k < zMc s → k ≠ m → (zSt s k = 1 ↔ zLk s k = 0)) (hl : how = 1 ↔ zLk s m = 0) : X1 (finS s m how) := fun k hk => by
  show va_up (zSt s) m how k = 1 ↔ zLk s k = 0
  by_cases e : k = m
  · subst e; rw [up_s]; exact hl
  · rw [up_n e]; exact h k hk e
theorem x2_fin {s : St} {m how : Nat} (h : X2 s) (hm : m < zMc s) (h0 : zSt s m = 0) (hh : how ≠ 0) : X2 (finS s m how) := fun x hx => by
  have hx : x ∈ zRcp s ++ [10 * m + how] := hx
  rcases List.mem_append.mp hx with hx | hx
  · obtain ⟨k, k1, k2, k3⟩ := h x hx
    have e : k ≠ m := fun e => k2 (by rw [e]; exact h0)
    refine ⟨k, k1, ?_, ?_⟩
    · show va_up (zSt s) m how k ≠ 0
      rw [up_n e]; exact k2
    · show x = 10 * k + va_up (zSt s) m how k
      rw [up_n e]; exact k3
  · refine ⟨m, hm, ?_, ?_⟩
    · show va_up (zSt s) m how m ≠ 0
      rw [up_s]; exact hh
    · show x = 10 * m + va_up (zSt s) m how m
      rw [up_s]; exact List.mem_singleton.mp hx
theorem x3_fin {s : St} {m how c0 : Nat} (hI : ∀ k, k < zMc s → (zMs s k).length ≤ 400) (h : X3 s c0) (hh : how ≠ 0) (hc : ∀ k p, p < 10 → k ≠ m → 100 + 10 * k + p ≠ c0) : X3 (finS s m how) 0 := fun k hk h0 p hp hb _ => by
  have h0 : va_up (zSt s) m how k = 0 := h0
  have e : k ≠ m := fun e => hh (by rw [e, up_s] at h0; exact h0)
  rw [up_n e] at h0
  have hp6 := (npL_spec (hI k hk)).1
  have hp : p < npL (zMs s k) := hp
  rcases h k hk h0 p hp hb (hc k p (by omega) e) with g | g
  · left
    show _ ∈ va_up (zRw s) (2 * (zRc s m % 3)) _ (2 * (zRc s k % 3))
    by_cases e2 : 2 * (zRc s k % 3) = 2 * (zRc s m % 3)
    · rw [e2, up_s]
      rw [e2] at g
      exact List.mem_filter.mpr ⟨g, by rw [mOf_c (by omega)]; exact decide_eq_true e⟩
    · rw [up_n e2]; exact g
  · right
    show _ ∈ va_up (zRw s) (2 * (zRc s m % 3)) _ (2 * (zRc s k % 3) + 1)
    rw [up_n (by omega)]; exact g
theorem sent_fin (s : St) (m how l : Nat) : zRw (finS s m how) (2 * l + 1) = zRw s (2 * l + 1) := up_n (by omega)
theorem x4_fin {s : St} {m how : Nat} (h : X4 s) : X4 (finS s m how) := fun l hl => by
  rw [sent_fin]
  exact h l hl
theorem mo_fin {s : St} {m how : Nat} (h0 : zSt s m = 0) : Mo s (finS s m how) := ⟨Nat.le_refl _, fun k hk h1 => by
  show va_up (zSt s) m how k = zSt s k
  rw [up_n (fun e => h1 (by rw [e]; exact h0))], by
  show _ ≤ (zRcp s ++ [10 * m + how]).length
  rw [List.length_append]
  exact Nat.le_add_right _ _⟩
theorem ex_fin {s : St} {m how c0 : Nat} (hI : Inv s) (h1 : ∀ k, k < zMc s → k ≠ m → (zSt s k = 1 ↔ zLk s k = 0)) (h2 : X2 s) (h3 : X3 s c0) (h4 : X4 s) (h5 : X5 (zKw s)) (hm : m < zMc s) (h0 : zSt s m = 0) (hh : how ≠ 0) (hl : how = 1 ↔ zLk s m = 0) (hc : ∀ k p, p < 10 → k ≠ m → 100 + 10 * k + p ≠ c0) : Ex (finS s m how) :=
  ⟨x1_fin h1 hl, x2_fin h2 hm h0 hh, x3_fin (fun k hk => (hI.2.2.2.2.2.1 k hk).2.1) h3 hh hc, x4_fin h4, h5⟩
theorem lk_ne {s : St} {m : Nat} (h : X1 s) (hm : m < zMc s) (h0 : zSt s m = 0) : zLk s m ≠ 0 := fun e => by
  have := (h m hm).mpr e
  omega
theorem ex_expN {s : St} (hI : Inv s) (hE : Ex s) : ∀ i, i ≤ zMc s → Ex (expN s i) ∧ Mo s (expN s i) ∧ ∀ l, zRw (expN s i) (2 * l + 1) = zRw s (2 * l + 1)
  | 0, _ => ⟨hE, Mo.rf, fun _ => rfl⟩
  | i + 1, h => by
    obtain ⟨g, g2, g3⟩ := ex_expN hI hE i (by omega)
    have hI1 := inv_exp hI i (by omega)
    by_cases h2 : zSt (expN s i) i = 0 ∧ zEn (expN s i) i ≤ zNow (expN s i)
    · have e : expN s (i + 1) = finS (expN s i) i 3 := if_pos h2
      have hm : i < zMc (expN s i) := by rw [(expN_now s i).2]; omega
      rw [e]
      exact ⟨ex_fin (c0 := 0) hI1 (fun k hk _ => g.1 k hk) g.2.1 g.2.2.1 g.2.2.2.1 g.2.2.2.2 hm h2.1 (by decide) ⟨fun e => absurd e (by decide), fun e => absurd e (lk_ne g.1 hm h2.1)⟩ (fun k p _ _ => by omega), g2.tr (mo_fin h2.1), fun l => (sent_fin _ _ _ _).trans (g3 l)⟩
    · have e : expN s (i + 1) = expN s i := if_neg h2
      rw [e]
      exact ⟨g, g2, g3⟩
theorem snd1_eq {rd : Nat → Bool} {up : Bool} {wn : Nat} {q q' : Lst} (h : snd1 rd up wn q = some q') : up = true ∧ q.2.1.length < wn ∧ ∃ i c, q.1[i]? = some c ∧ q' = (q.1.eraseIdx i, q.2.1 ++ [c], q.2.2 - 1) := by
  simp only [snd1] at h
  split at h
  · rename_i hc
    cases hf : q.1.findIdx? rd with
    | none => rw [hf] at h; cases h
    | some i =>
      rw [hf] at h
      obtain ⟨hi, -, -⟩ := List.findIdx?_eq_some_iff_getElem.mp hf
      cases h
      exact ⟨hc.1, hc.2.2, i, q.1.getD i 0, by rw [List.getD_eq_getElem?_getD, List.getElem?_eq_getElem hi]; rfl, rfl⟩
  · cases h
theorem mem_er {L : List Nat} {i c x : Nat} (h : L[i]? = some c) (hx : x ∈ L) : x = c ∨ x ∈ L.eraseIdx i := List.mem_cons.mp ((er_perm h).mem_iff.mp hx)
theorem sndN_more {rd : Nat → Bool} {up : Bool} {wn : Nat} : ∀ (n : Nat) (q : Lst), (∀ x, x ∈ q.1 ∨ x ∈ q.2.1 → x ∈ (sndN rd up wn n q).1.1 ∨ x ∈ (sndN rd up wn n q).1.2.1) ∧ (sndN rd up wn n q).1.2.1.length = q.2.1.length + (sndN rd up wn n q).2 ∧ (q.2.1.length ≤ 10 → wn ≤ 10 → (sndN rd up wn n q).1.2.1.length ≤ 10) ∧ (up = false → (sndN rd up wn n q).1.2.1 = q.2.1)
  | 0, q => ⟨fun _ h => h, rfl, fun h _ => h, fun _ => rfl⟩
  | n + 1, q => by
    cases hs : snd1 rd up wn q with
    | none =>
      have e : sndN rd up wn (n + 1) q = (q, 0) := by simp only [sndN, hs]
      rw [e]
      exact ⟨fun _ h => h, rfl, fun h _ => h, fun _ => rfl⟩
    | some q' =>
      have e : sndN rd up wn (n + 1) q = ((sndN rd up wn n q').1, (sndN rd up wn n q').2 + 1) := by simp only [sndN, hs]
      rw [e]
      obtain ⟨h1, h2, i, c, h3, rfl⟩ := snd1_eq hs
      obtain ⟨g1, g2, g3, g4⟩ := sndN_more n (q.1.eraseIdx i, q.2.1 ++ [c], q.2.2 - 1) (rd := rd) (up := up) (wn := wn)
      have el : (q.2.1 ++ [c]).length = q.2.1.length + 1 := by simp
      refine ⟨fun x hx => g1 x ?_, ?_, fun _ hw => g3 (by show (q.2.1 ++ [c]).length ≤ 10; omega) hw, fun hu => absurd hu (by rw [h1]; decide)⟩
      · rcases hx with hx | hx
        · rcases mem_er h3 hx with rfl | hx
          · exact Or.inr (List.mem_append_right _ List.mem_cons_self)
          · exact Or.inl hx
        · exact Or.inr (List.mem_append_left _ hx)
      · have g2 : (sndN rd up wn n (q.1.eraseIdx i, q.2.1 ++ [c], q.2.2 - 1)).1.2.1.length = (q.2.1 ++ [c]).length + (sndN rd up wn n (q.1.eraseIdx i, q.2.1 ++ [c], q.2.2 - 1)).2 := g2
        show (sndN rd up wn n (q.1.eraseIdx i, q.2.1 ++ [c], q.2.2 - 1)).1.2.1.length = q.2.1.length + ((sndN rd up wn n (q.1.eraseIdx i, q.2.1 ++ [c], q.2.2 - 1)).2 + 1)
        omega
theorem lk_rows (s : St) (l j : Nat) : zRw (lkS s l) j = if j = 2 * l then (lkQ s l).1.1 else if j = 2 * l + 1 then (lkQ s l).1.2.1 else zRw s j := by
  show va_up (va_up (zRw s) (2 * l) _) (2 * l + 1) _ j = _
  by_cases e : j = 2 * l + 1
  · subst e; rw [up_s, if_neg (by omega), if_pos rfl]
  · rw [up_n e]
    by_cases e2 : j = 2 * l
    · subst e2; rw [up_s, if_pos rfl]
    · rw [up_n e2, if_neg e2, if_neg e]
theorem ex_lk {s : St} {l : Nat} (hI : Inv s) (hE : Ex s) (hl : l < 3) : Ex (lkS s l) ∧ Mo s (lkS s l) ∧ (∀ j, j ≠ l → zRw (lkS s l) (2 * j + 1) = zRw s (2 * j + 1)) ∧ (zRw (lkS s l) (2 * l + 1)).length = (zRw s (2 * l + 1)).length + (lkQ s l).2 := by
  obtain ⟨e1, e2, e3, e4, e5⟩ := hE
  obtain ⟨g1, g2, g3, g4⟩ := sndN_more (rd := rdB (nI (zNow s)) (fun c => nI (zPt s c)) (fun c => nI (zPw s c))) (up := decide (¬ nI (zUp s l) = 0)) (wn := zWn s l) 5 (zRw s (2 * l), zRw s (2 * l + 1), if zTk s l < 5 then zTk s l + 1 else zTk s l)
  refine ⟨⟨e1, e2, fun m hm h0 p hp hb hc => ?_, fun j hj => ?_, e5⟩, ⟨Nat.le_refl _, fun _ _ _ => rfl, Nat.le_refl _⟩, fun j hj => ?_, ?_⟩
  · have h := e3 m hm h0 p hp hb hc
    show _ ∈ zRw (lkS s l) (2 * (zRc s m % 3)) ∨ _ ∈ zRw (lkS s l) (2 * (zRc s m % 3) + 1)
    rw [lk_rows, lk_rows]
    by_cases e : zRc s m % 3 = l
    · rw [e] at h ⊢
      rw [if_pos rfl, if_neg (by omega), if_pos rfl]
      exact g1 _ h
    · rw [if_neg (by omega), if_neg (by omega), if_neg (by omega), if_neg (by omega)]
      exact h
  · rw [lk_rows, if_neg (by omega)]
    by_cases e : j = l
    · subst e
      rw [if_pos rfl]
      refine ⟨g3 (e4 j hj).1 (hI.2.2.2.2.2.2.1 j hj).2.2.1, fun hu => ?_⟩
      have hu : zUp s j = 0 := hu
      have := g4 (by rw [hu]; decide +kernel)
      exact this.trans ((e4 j hj).2 hu)
    · rw [if_neg (by omega)]
      exact e4 j hj
  · rw [lk_rows, if_neg (by omega), if_neg (by omega)]
  · rw [lk_rows, if_neg (by omega), if_pos rfl]
    exact g2
/-- how many parts are under way -/
def tS (s : St) : Nat := (zRw s 1).length + (zRw s 3).length + (zRw s 5).length
theorem ts_lk {s : St} {l : Nat} (hI : Inv s) (hE : Ex s) (hl : l < 3) : tS (lkS s l) = tS s + (lkQ s l).2 := by
  obtain ⟨-, -, h1, h2⟩ := ex_lk hI hE hl
  unfold tS
  rcases (show l = 0 ∨ l = 1 ∨ l = 2 by omega) with rfl | rfl | rfl
  · have h2 : (zRw (lkS s 0) 1).length = (zRw s 1).length + (lkQ s 0).2 := h2
    rw [show zRw (lkS s 0) 3 = zRw s 3 from h1 1 (by decide), show zRw (lkS s 0) 5 = zRw s 5 from h1 2 (by decide)]
    omega
  · have h2 : (zRw (lkS s 1) 3).length = (zRw s 3).length + (lkQ s 1).2 := h2
    rw [show zRw (lkS s 1) 1 = zRw s 1 from h1 0 (by decide), show zRw (lkS s 1) 5 = zRw s 5 from h1 2 (by decide)]
    omega
  · have h2 : (zRw (lkS s 2) 5).length = (zRw s 5).length + (lkQ s 2).2 := h2
    rw [show zRw (lkS s 2) 1 = zRw s 1 from h1 0 (by decide), show zRw (lkS s 2) 3 = zRw s 3 from h1 1 (by decide)]
    omega
theorem ex_lks {s : St} (hI : Inv s) (hE : Ex s) : ∀ i, i ≤ 3 → Ex (lksN s i).1 ∧ Mo s (lksN s i).1 ∧ tS (lksN s i).1 = tS s + (lksN s i).2
  | 0, _ => ⟨hE, Mo.rf, rfl⟩
  | i + 1, h => by
    obtain ⟨g1, g2, g3⟩ := ex_lks hI hE i (by omega)
    have hI1 := inv_lks hI i (by omega)
    have k := ex_lk hI1 g1 (show i < 3 by omega)
    have k2 := ts_lk hI1 g1 (show i < 3 by omega)
    refine ⟨k.1, g2.tr k.2.1, ?_⟩
    show tS (lkS (lksN s i).1 i) = tS s + ((lksN s i).2 + (lkQ (lksN s i).1 i).2)
    omega
theorem ex_tick {s : St} (hI : Inv s) (hE : Ex s) (hb : zNow s + 1 ≤ 200000) : Ex (tickS s).1 ∧ Mo s (tickS s).1 ∧ tS (tickS s).1 = tS s + (tickS s).2 := by
  have hI1 := inv_now (n := zNow s + 1) hI (Nat.le_succ _) hb
  have hE1 : Ex (sNow s (zNow s + 1)) := hE
  obtain ⟨g1, g2, g3⟩ := ex_expN hI1 hE1 (zMc s) (Nat.le_refl _)
  have hI2 := inv_exp hI1 (zMc s) (Nat.le_refl _)
  obtain ⟨k1, k2, k3⟩ := ex_lks hI2 g1 3 (Nat.le_refl _)
  have g2 : Mo s (expN (sNow s (zNow s + 1)) (zMc s)) := g2
  refine ⟨k1, g2.tr k2, k3.trans ?_⟩
  have e : tS (expN (sNow s (zNow s + 1)) (zMc s)) = tS s := by
    unfold tS
    rw [show zRw (expN (sNow s (zNow s + 1)) (zMc s)) 1 = zRw s 1 from g3 0, show zRw (expN (sNow s (zNow s + 1)) (zMc s)) 3 = zRw s 3 from g3 1, show zRw (expN (sNow s (zNow s + 1)) (zMc s)) 5 = zRw s 5 from g3 2]
  rw [e]
  rfl
theorem ex_pas {s : St} (hI : Inv s) (hE : Ex s) : ∀ i, zNow s + i ≤ 200000 → Ex (pasN s i).1 ∧ Mo s (pasN s i).1 ∧ tS (pasN s i).1 = tS s + (pasN s i).2
  | 0, _ => ⟨hE, Mo.rf, rfl⟩
  | i + 1, h => by
    obtain ⟨g1, g2, g3⟩ := ex_pas hI hE i (by omega)
    have hI1 := inv_pas hI i (by omega)
    obtain ⟨k1, k2, k3⟩ := ex_tick hI1 g1 (by rw [pas_now]; omega)
    refine ⟨k1, g2.tr k2, ?_⟩
    show tS (tickS (pasN s i).1).1 = tS s + ((pasN s i).2 + (tickS (pasN s i).1).2)
    omega
