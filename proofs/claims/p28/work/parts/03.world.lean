/-! ===== WORLDS BY CODES: every cell that the two sides hold has a number (its code); ad tells its address, F what it holds ===== -/
/-- classes, fields' slots, arrays' classes; the law's script: where it lies, how long it is, what it holds -/
abbrev Dx : Type := (Nat → ClassId) × (Nat → Nat → Nat) × (Nat → ClassId) × Nat × Nat × (Nat → Int32)
/-- the kinds of arrays, by their places (1 and 2 aren't used here: in whole they were booleans and longs) -/
def tysD (aC : Nat → ClassId) : List (ClassId × FieldType) := [(aC 0, .int), (aC 1, .int), (aC 2, .int), (aC 3, .object RX2), (aC 4, .object RX1), (aC 5, .object RX0)]
def Bo (b0 : Nat) : Nat → Prop := fun q => b0 ≤ q
def SX (D : Dx) (b0 : Nat) (U : State) : Prop := va_X D.2.2.2.1 D.2.2.2.2.1 D.2.2.2.2.2 U U.heap ∧ D.2.2.2.1 < U.heap.size ∧ ¬ Bo b0 D.2.2.2.1 ∧ D.2.2.2.2.1 < 2 ^ 31
abbrev Fn : Type := Nat → Option va_E
def WD (D : Dx) (b0 : Nat) (ad : Nat → Nat) (F : Fn) (H : Heap) : Prop :=
  (∃ ws : va_W, va_P (D.1, D.2.1) vwCl ws H ∧ va_D (Bo b0) ws ∧ ∀ (c : Nat) (e : va_E), F c = some e → ∃ i : Nat, ws[i]? = some (ad c, e)) ∧
  ∀ c c' : Nat, F c ≠ none → F c' ≠ none → ad c = ad c' → c = c'
theorem up_s {α : Type} {f : Nat → α} {k : Nat} {v : α} : va_up f k v k = v := by simp [va_up]
theorem up_n {α : Type} {f : Nat → α} {k j : Nat} {v : α} (h : j ≠ k) : va_up f k v j = f j := by simp [va_up, h]
/-- a cell's contents change -/
theorem WD.put {D : Dx} {b0 : Nat} {ad : Nat → Nat} {F : Fn} {H1 : Heap} {ws : va_W} {c i : Nat} {e0 e : va_E}
    (hi : ∀ c c' : Nat, F c ≠ none → F c' ≠ none → ad c = ad c' → c = c') (hw : ∀ (c : Nat) (e : va_E), F c = some e → ∃ i : Nat, ws[i]? = some (ad c, e))
    (h0 : F c = some e0) (hx : ws[i]? = some (ad c, e0)) (hP : va_P (D.1, D.2.1) vwCl (ws.set i (ad c, e)) H1) (hD : va_D (Bo b0) (ws.set i (ad c, e))) : WD D b0 ad (va_up F c (some e)) H1 := by
  have hn : ∀ x : Nat, va_up F c (some e) x ≠ none → F x ≠ none := by
    intro x hx2
    by_cases hc : x = c
    · subst hc; rw [h0]; simp
    · rwa [up_n hc] at hx2
  refine ⟨⟨ws.set i (ad c, e), hP, hD, fun x e' hx2 => ?_⟩, fun x y hx2 hy2 hxy => hi x y (hn x hx2) (hn y hy2) hxy⟩
  by_cases hc : x = c
  · subst hc
    rw [up_s] at hx2
    cases hx2
    exact ⟨i, List.getElem?_set_self (List.getElem?_eq_some_iff.mp hx).1⟩
  · rw [up_n hc] at hx2
    obtain ⟨j, hj⟩ := hw x e' hx2
    refine ⟨j, ?_⟩
    rw [List.getElem?_set_ne, hj]
    intro hij
    subst hij
    rw [hx] at hj
    have h2 : ad c = ad x := congrArg Prod.fst (Option.some.inj hj)
    exact hc (hi x c (by rw [hx2]; simp) (by rw [h0]; simp) h2.symm)
/-- a new cell -/
theorem WD.push {D : Dx} {b0 : Nat} {ad : Nat → Nat} {F : Fn} {H1 : Heap} {ws : va_W} {c q : Nat} {e : va_E}
    (hi : ∀ c c' : Nat, F c ≠ none → F c' ≠ none → ad c = ad c' → c = c') (hw : ∀ (c : Nat) (e : va_E), F c = some e → ∃ i : Nat, ws[i]? = some (ad c, e))
    (h0 : F c = none) (hP : va_P (D.1, D.2.1) vwCl (ws ++ [(q, e)]) H1) (hD : va_D (Bo b0) (ws ++ [(q, e)])) : WD D b0 (va_up ad c q) (va_up F c (some e)) H1 := by
  have hl : (ws ++ [(q, e)])[ws.length]? = some (q, e) := by simp
  have hold : ∀ (x : Nat) (e' : va_E), F x = some e' → ∃ j : Nat, (ws ++ [(q, e)])[j]? = some (ad x, e') ∧ j < ws.length := by
    intro x e' h
    obtain ⟨j, hj⟩ := hw x e' h
    have hlt := (List.getElem?_eq_some_iff.mp hj).1
    exact ⟨j, by rw [List.getElem?_append_left hlt, hj], hlt⟩
  have hfr : ∀ x : Nat, F x ≠ none → ad x ≠ q := by
    intro x hx2 hq
    obtain ⟨e', he'⟩ := Option.ne_none_iff_exists'.mp hx2
    obtain ⟨j, hj, hlt⟩ := hold x e' he'
    have := hD.1 j ws.length _ _ hj hl hq
    omega
  refine ⟨⟨_, hP, hD, fun x e' hx2 => ?_⟩, fun x y hx2 hy2 hxy => ?_⟩
  · by_cases hc : x = c
    · subst hc
      rw [up_s] at hx2
      cases hx2
      exact ⟨ws.length, by rw [up_s]; exact hl⟩
    · rw [up_n hc] at hx2
      obtain ⟨j, hj, -⟩ := hold x e' hx2
      exact ⟨j, by rw [up_n hc]; exact hj⟩
  · by_cases hc : x = c <;> by_cases hd : y = c
    · rw [hc, hd]
    · subst hc
      rw [up_s, up_n hd] at hxy
      rw [up_n hd] at hy2
      exact absurd hxy.symm (hfr y hy2)
    · subst hd
      rw [up_s, up_n hc] at hxy
      rw [up_n hc] at hx2
      exact absurd hxy (hfr x hx2)
    · rw [up_n hc] at hx2 hxy
      rw [up_n hd] at hy2 hxy
      exact hi x y hx2 hy2 hxy
theorem WD.kept {D : Dx} {b0 : Nat} {ad : Nat → Nat} {F : Fn} {H H1 : Heap} (h : WD D b0 ad F H) (hq : ∀ q : Nat, q < H.size → H1[q]? = H[q]?) : WD D b0 ad F H1 := by
  obtain ⟨⟨ws, hP, hD, hw⟩, hi⟩ := h
  exact ⟨⟨ws, hP.kept fun k x hx => hq x.1 (hP k x hx).lt, hD, hw⟩, hi⟩
/-- the words that are no good words: nest mates, strings, arrays of objects, not castable, the two statics of Throwable -/
def nestF : List (String × Nat × String × String × String) := [(RX6, 57, "Shortmessage$Text", "count", "I"), (RX6, 78, "Shortmessage$Text", "septetCount", "I"), (RX6, 72, "Shortmessage$Text", "wide", "Z"), (RX1, 44, "Shortmessage$Text", "partCount", "I"), (RX6, 81, "Shortmessage$Text", "partCount", "I"), (RX0, 36, "Shortmessage$Row", "count", "I"), (RX6, 196, "Shortmessage$Row", "count", "I"), (RX6, 125, "Shortmessage$Link", "queue", "LShortmessage$Row;"), (RX6, 197, "Shortmessage$Link", "sent", "LShortmessage$Row;"), (RX6, 185, "Shortmessage$Link", "up", "Z"), (RX6, 193, "Shortmessage$Link", "window", "I"), (RX6, 200, "Shortmessage$Link", "tokens", "I"), (RX6, 140, "Shortmessage$Message", "number", "I"), (RX4, 44, "Shortmessage$Message", "receiver", "I"), (RX6, 225, "Shortmessage$Message", "end", "I"), (RX6, 121, "Shortmessage$Message", "link", "LShortmessage$Link;"), (RX6, 153, "Shortmessage$Message", "signs", "[I"), (RX6, 120, "Shortmessage$Message", "partCount", "I"), (RX0, 56, "Shortmessage$Message", "state", "I"), (RX6, 147, "Shortmessage$Message", "state", "I"), (RX6, 150, "Shortmessage$Message", "lacking", "I"), (RX0, 50, "Shortmessage$Part", "message", "LShortmessage$Message;"), (RX4, 36, "Shortmessage$Part", "message", "LShortmessage$Message;"), (RX6, 211, "Shortmessage$Part", "message", "LShortmessage$Message;"), (RX6, 219, "Shortmessage$Part", "number", "I"), (RX6, 241, "Shortmessage$Part", "failures", "I"), (RX0, 61, "Shortmessage$Part", "tryAt", "I"), (RX6, 244, "Shortmessage$Part", "tryAt", "I"), (RX4, 40, "Shortmessage$Part", "waitsForAlert", "Z"), (RX6, 247, "Shortmessage$Part", "waitsForAlert", "Z")]
def nestM : List (String × Nat × MethodName) := [(RX6, 9, yX5_init), (RX6, 49, yX0_init), (RX0, 11, yX4_init)]
def strW : List (Nat × String) := [(52, "sign or times out of range"), (62, "the text would be too long"), (76, "the text is wide"), (104, "no such part"), (97, "no such place"), (167, "receiver out of range"), (109, "validity out of range"), (111, "no text, or no room for a message"), (223, "no such link"), (165, "no such message"), (163, "no such receipt"), (173, "ticks out of range"), (191, "window out of range"), (203, "outcome out of range"), (209, "no part is under way"), (250, "service or sign out of range"), (255, "person or sign out of range")]
def notC : List (String × String) := [("java/lang/IllegalStateException", "java/lang/IllegalArgumentException"), ("java/lang/IllegalArgumentException", "java/lang/IndexOutOfBoundsException"), ("java/lang/IllegalStateException", "java/lang/IndexOutOfBoundsException")]
def excW : List String := ["java/lang/IllegalArgumentException", "java/lang/IllegalStateException", "java/lang/IndexOutOfBoundsException"]
def decW : List MethodName := [Bundle.initS "java/lang/RuntimeException", Bundle.initS "java/lang/Exception", Bundle.initS Bundle.tN]
def Ev (D : Dx) (b0 : Nat) (U : State) : Prop :=
  va_K (D.1, D.2.1) vwCl (tysD D.2.2.1) U ∧ (∀ q ∈ nestF, va_Nw (.fieldLinkNest q.1 q.2.1 q.2.2.1 q.2.2.2.1 q.2.2.2.2 RX6) U) ∧ (∀ q ∈ nestM, va_Nw (.methodLinkNest q.1 q.2.1 q.2.2 RX6) U) ∧
  (∀ q ∈ strW, ∃ a : Nat, vk_R RX6 q.1 q.2 a U) ∧ (∀ q ∈ notC, va_Nc q.1 q.2 U) ∧ ((∀ q ∈ excW, va_Nw (.castable q q) U) ∧ (∀ q ∈ decW, va_Nw (.declares q) U) ∧ va_Nw (.castable "[I" "java/lang/Cloneable") U) ∧ (va_AO RX2 U ∧ va_AO RX1 U ∧ va_AO RX0 U) ∧
  vx_Zq Bundle.tN "UNASSIGNED_STACK" Bundle.steD (Bo b0) U U.heap ∧ vx_Zq Bundle.tN "SUPPRESSED_SENTINEL" Bundle.listD (Bo b0) U U.heap ∧ b0 ≤ U.heap.size ∧ SX D b0 U
theorem Ev.moved {D : Dx} {b0 : Nat} {s U : State} (h : Ev D b0 s) (hW : s.WarmedH U.vm) (hz : s.heap.size ≤ U.heap.size) (hq : ∀ q : Nat, q < s.heap.size → ¬ Bo b0 q → U.heap[q]? = s.heap[q]?) : Ev D b0 U := by
  obtain ⟨h1, h2, h3, h4, h5, h10, h6, h7, h8, h9, h11⟩ := h
  exact ⟨va_K.moved hW.alike h1, fun q hq => va_Nw.warmF hW (h2 q hq), fun q hq => va_Nw.warmM hW (h3 q hq), fun q hq => (h4 q hq).imp fun a ha => vk_R.warm hW ha, fun q hq => va_Nc.moved hW.alike (h5 q hq), ⟨fun q hq => va_Nw.warmC hW (h10.1 q hq), fun q hq => va_Nw.warmD hW (h10.2.1 q hq), va_Nw.warmC hW h10.2.2⟩,
    ⟨va_AO.moved hW.alike h6.1, va_AO.moved hW.alike h6.2.1, va_AO.moved hW.alike h6.2.2⟩, vx_Zq.moved hW.alike (h7.kept hq), vx_Zq.moved hW.alike (h8.kept hq), Nat.le_trans h9 hz, (h11.1.kept (hq _ h11.2.1 h11.2.2.1)).moved hW.alike, Nat.lt_of_lt_of_le h11.2.1 hz, h11.2.2.1, h11.2.2.2⟩
theorem Ev.blind {D : Dx} {b0 : Nat} {U : State} {g : JFrame} {mk : MethodId} {a : Array Value} (h : Ev D b0 U) : Ev D b0 (U.calling g mk a) :=
  h.moved (State.WarmedH.refl U) (Nat.le_refl _) (fun _ _ _ => rfl)
