/-! ===== THE STATE, as numbers and lists; how the class holds it ===== -/
abbrev St : Type := Nat × Nat × List Nat × List Nat × (Nat → Nat) × (Nat → Nat) × (Nat → Nat) × (Nat → List Nat) × (Nat → Nat) × (Nat → Nat) × (Nat → Nat) × (Nat → Nat) × (Nat → List Nat) × (Nat → Nat) × (Nat → Nat) × (Nat → Nat) × (Nat → Int32) × (Nat → Int32) × (Nat → Int32)
abbrev zNow (s : St) : Nat := s.1
abbrev zMc (s : St) : Nat := s.2.1
abbrev zTxt (s : St) : List Nat := s.2.2.1
abbrev zRcp (s : St) : List Nat := s.2.2.2.1
abbrev zUp (s : St) : Nat → Nat := s.2.2.2.2.1
abbrev zWn (s : St) : Nat → Nat := s.2.2.2.2.2.1
abbrev zTk (s : St) : Nat → Nat := s.2.2.2.2.2.2.1
abbrev zRw (s : St) : Nat → List Nat := s.2.2.2.2.2.2.2.1
abbrev zSt (s : St) : Nat → Nat := s.2.2.2.2.2.2.2.2.1
abbrev zRc (s : St) : Nat → Nat := s.2.2.2.2.2.2.2.2.2.1
abbrev zEn (s : St) : Nat → Nat := s.2.2.2.2.2.2.2.2.2.2.1
abbrev zLk (s : St) : Nat → Nat := s.2.2.2.2.2.2.2.2.2.2.2.1
abbrev zMs (s : St) : Nat → List Nat := s.2.2.2.2.2.2.2.2.2.2.2.2.1
abbrev zPf (s : St) : Nat → Nat := s.2.2.2.2.2.2.2.2.2.2.2.2.2.1
abbrev zPt (s : St) : Nat → Nat := s.2.2.2.2.2.2.2.2.2.2.2.2.2.2.1
abbrev zPw (s : St) : Nat → Nat := s.2.2.2.2.2.2.2.2.2.2.2.2.2.2.2.1
abbrev zKw (s : St) : Nat → Int32 := s.2.2.2.2.2.2.2.2.2.2.2.2.2.2.2.2.1
abbrev zSe (s : St) : Nat → Int32 := s.2.2.2.2.2.2.2.2.2.2.2.2.2.2.2.2.2.1
abbrev zLa (s : St) : Nat → Int32 := s.2.2.2.2.2.2.2.2.2.2.2.2.2.2.2.2.2.2
/-- with another text; another time; .. -/
abbrev sTxt (s : St) (v : List Nat) : St := (zNow s, zMc s, v, zRcp s, zUp s, zWn s, zTk s, zRw s, zSt s, zRc s, zEn s, zLk s, zMs s, zPf s, zPt s, zPw s, zKw s, zSe s, zLa s)
abbrev sNow (s : St) (v : Nat) : St := (v, zMc s, zTxt s, zRcp s, zUp s, zWn s, zTk s, zRw s, zSt s, zRc s, zEn s, zLk s, zMs s, zPf s, zPt s, zPw s, zKw s, zSe s, zLa s)
abbrev sUp (s : St) (v : Nat → Nat) : St := (zNow s, zMc s, zTxt s, zRcp s, v, zWn s, zTk s, zRw s, zSt s, zRc s, zEn s, zLk s, zMs s, zPf s, zPt s, zPw s, zKw s, zSe s, zLa s)
abbrev sWn (s : St) (v : Nat → Nat) : St := (zNow s, zMc s, zTxt s, zRcp s, zUp s, v, zTk s, zRw s, zSt s, zRc s, zEn s, zLk s, zMs s, zPf s, zPt s, zPw s, zKw s, zSe s, zLa s)
abbrev sTk (s : St) (v : Nat → Nat) : St := (zNow s, zMc s, zTxt s, zRcp s, zUp s, zWn s, v, zRw s, zSt s, zRc s, zEn s, zLk s, zMs s, zPf s, zPt s, zPw s, zKw s, zSe s, zLa s)
abbrev sRw (s : St) (v : Nat → List Nat) : St := (zNow s, zMc s, zTxt s, zRcp s, zUp s, zWn s, zTk s, v, zSt s, zRc s, zEn s, zLk s, zMs s, zPf s, zPt s, zPw s, zKw s, zSe s, zLa s)
abbrev sLk (s : St) (v : Nat → Nat) : St := (zNow s, zMc s, zTxt s, zRcp s, zUp s, zWn s, zTk s, zRw s, zSt s, zRc s, zEn s, v, zMs s, zPf s, zPt s, zPw s, zKw s, zSe s, zLa s)
abbrev sPf (s : St) (v : Nat → Nat) : St := (zNow s, zMc s, zTxt s, zRcp s, zUp s, zWn s, zTk s, zRw s, zSt s, zRc s, zEn s, zLk s, zMs s, v, zPt s, zPw s, zKw s, zSe s, zLa s)
abbrev sPt (s : St) (v : Nat → Nat) : St := (zNow s, zMc s, zTxt s, zRcp s, zUp s, zWn s, zTk s, zRw s, zSt s, zRc s, zEn s, zLk s, zMs s, zPf s, v, zPw s, zKw s, zSe s, zLa s)
abbrev sPw (s : St) (v : Nat → Nat) : St := (zNow s, zMc s, zTxt s, zRcp s, zUp s, zWn s, zTk s, zRw s, zSt s, zRc s, zEn s, zLk s, zMs s, zPf s, zPt s, v, zKw s, zSe s, zLa s)
abbrev sKw (s : St) (v : Nat → Int32) : St := (zNow s, zMc s, zTxt s, zRcp s, zUp s, zWn s, zTk s, zRw s, zSt s, zRc s, zEn s, zLk s, zMs s, zPf s, zPt s, zPw s, v, zSe s, zLa s)
abbrev sSL (s : St) (v w : Nat → Int32) : St := (zNow s, zMc s, zTxt s, zRcp s, zUp s, zWn s, zTk s, zRw s, zSt s, zRc s, zEn s, zLk s, zMs s, zPf s, zPt s, zPw s, zKw s, v, w)
/-- codes: the message, the part of a code -/
def mOf (c : Nat) : Nat := (c - 100) / 10
def pOf (c : Nat) : Nat := (c - 100) % 10
theorem mOf_c {m p : Nat} (h : p < 10) : mOf (100 + 10 * m + p) = m := by unfold mOf; omega
theorem pOf_c {m p : Nat} (h : p < 10) : pOf (100 + 10 * m + p) = p := by unfold pOf; omega
/-- the class's cells, kind by kind -/
def kMain (ad : Nat → Nat) (F : Fn) (now mc rc : Nat) : Prop := F 0 = some (oB 6 [.ref (ad 1), .ref (ad 4), .int (nI mc), .ref (ad 5), .int (nI rc), .ref (ad 6), .ref (ad 7), .int (nI now)])
def kMsA (D : Dx) (ad : Nat → Nat) (F : Fn) (mc : Nat) : Prop := ∃ f : Nat → Option Nat, F 4 = some (aQ D 4 20 f) ∧ ∀ m, m < 20 → f m = if m < mc then some (ad (30 + 3 * m)) else none
def kRcp (D : Dx) (F : Fn) (rc : List Nat) : Prop := ∃ f : Nat → Int32, F 5 = some (aI D 20 f) ∧ ∀ j, j < rc.length → f j = nI (rc.getD j 0)
def kLkA (D : Dx) (ad : Nat → Nat) (F : Fn) : Prop := ∃ f : Nat → Option Nat, F 6 = some (aQ D 5 3 f) ∧ ∀ l, l < 3 → f l = some (ad (11 + l))
def kRec (D : Dx) (ad : Nat → Nat) (F : Fn) (kw se la : Nat → Int32) : Prop := RcpAt ad F 7 8 9 10 ∧ (∃ f : Nat → Int32, F 8 = some (aI D 5 f) ∧ ∀ j, j < 5 → f j = kw j) ∧ (∃ f : Nat → Int32, F 9 = some (aI D 9 f) ∧ ∀ j, j < 9 → f j = se j) ∧ ∃ f : Nat → Int32, F 10 = some (aI D 9 f) ∧ ∀ j, j < 9 → f j = la j
def kLnk (ad : Nat → Nat) (F : Fn) (up wn tk : Nat → Nat) : Prop := ∀ l, l < 3 → LinkAt ad F (11 + l) (14 + 2 * l) (15 + 2 * l) (nI (up l)) (nI (wn l)) (nI (tk l))
def kRow (D : Dx) (ad : Nat → Nat) (F : Fn) (rw : Nat → List Nat) : Prop := ∀ r, r < 6 → RowAt D ad F (14 + r) (20 + r) (rw r)
def kMsg (D : Dx) (ad : Nat → Nat) (F : Fn) (mc : Nat) (ms : Nat → List Nat) (st rc en lk : Nat → Nat) : Prop := ∀ m, m < mc →
  MsgAt F (30 + 3 * m) (nI m) (nI (rc m)) (nI (en m)) (ad (11 + rc m % 3)) (ad (31 + 3 * m)) (ad (32 + 3 * m)) (nI (npL (ms m))) (nI (st m)) (nI (lk m)) ∧
  (∃ f : Nat → Int32, F (31 + 3 * m) = some (aI D (ms m).length f) ∧ ∀ j, j < (ms m).length → f j = nI ((ms m).getD j 0)) ∧
  ∃ f : Nat → Int32, F (32 + 3 * m) = some (aI D (npL (ms m) + 1) f) ∧ ∀ j, j ≤ npL (ms m) → f j = nI (posL (ms m) j)
def kPrt (ad : Nat → Nat) (F : Fn) (mc : Nat) (ms : Nat → List Nat) (pf pt pw : Nat → Nat) : Prop := ∀ m, m < mc → ∀ p, p < npL (ms m) →
  F (100 + 10 * m + p) = some (oB 2 [.ref (ad (30 + 3 * m)), .int (nI p), .int (nI (pf (100 + 10 * m + p))), .int (nI (pt (100 + 10 * m + p))), .int (nI (pw (100 + 10 * m + p)))])
def kFre (F : Fn) (mc : Nat) : Prop := ∀ m, mc ≤ m → m < 20 → F (30 + 3 * m) = none ∧ F (31 + 3 * m) = none ∧ F (32 + 3 * m) = none ∧ ∀ p, p < 10 → F (100 + 10 * m + p) = none
def CRep (D : Dx) (ad : Nat → Nat) (F : Fn) (s : St) : Prop :=
  kMain ad F (zNow s) (zMc s) (zRcp s).length ∧ TextAt D ad F 1 2 3 (zTxt s) ∧ kMsA D ad F (zMc s) ∧ kRcp D F (zRcp s) ∧ kLkA D ad F ∧ kRec D ad F (zKw s) (zSe s) (zLa s) ∧
  kLnk ad F (zUp s) (zWn s) (zTk s) ∧ kRow D ad F (zRw s) ∧ kMsg D ad F (zMc s) (zMs s) (zSt s) (zRc s) (zEn s) (zLk s) ∧ kPrt ad F (zMc s) (zMs s) (zPf s) (zPt s) (zPw s) ∧ kFre F (zMc s)
/-- what always holds of the numbers -/
def InRow (s : St) (l c : Nat) : Prop := ∃ m p, m < zMc s ∧ p < npL (zMs s m) ∧ c = 100 + 10 * m + p ∧ zRc s m % 3 = l ∧ (zSt s m = 0 → (zLk s m).testBit p = true)
def Inv (s : St) : Prop :=
  zNow s ≤ 200000 ∧ zMc s ≤ 20 ∧ (zTxt s).length ≤ 400 ∧ (∀ x ∈ zTxt s, x < 1000) ∧
  (zRcp s).length = ((List.range (zMc s)).filter (fun m => decide (zSt s m ≠ 0))).length ∧
  (∀ m, m < zMc s → zMs s m ≠ [] ∧ (zMs s m).length ≤ 400 ∧ (∀ x ∈ zMs s m, x < 1000) ∧ zRc s m < 9 ∧ zSt s m < 4 ∧ zEn s m ≤ 300000 ∧ zLk s m < 2 ^ npL (zMs s m) ∧ ∀ p, p < npL (zMs s m) → zPf s (100 + 10 * m + p) ≤ 4 ∧ zPt s (100 + 10 * m + p) ≤ 300000 ∧ zPw s (100 + 10 * m + p) ≤ 1) ∧
  (∀ l, l < 3 → zUp s l ≤ 1 ∧ 1 ≤ zWn s l ∧ zWn s l ≤ 10 ∧ zTk s l ≤ 5 ∧ (zRw s (2 * l) ++ zRw s (2 * l + 1)).Nodup ∧ (∀ c ∈ zRw s (2 * l), InRow s l c ∧ zSt s (mOf c) = 0) ∧ (∀ c ∈ zRw s (2 * l + 1), InRow s l c ∧ zPw s c = 0)) ∧
  (∀ j, j < 5 → zKw s j = -1 ∨ ∃ x, x < 1000 ∧ zKw s j = nI x) ∧ (∀ p, p < 9 → ∃ x, x < 5 ∧ zSe s p = nI x) ∧ ∀ p, p < 9 → ∃ x, x ≤ zNow s ∧ zLa s p = nI x
/-- kept, where the cells are -/
theorem kMain.kept {ad : Nat → Nat} {F G : Fn} {a b c : Nat} (h : kMain ad F a b c) (e : G 0 = F 0) : kMain ad G a b c := e.trans h
theorem TxtK {D : Dx} {ad : Nat → Nat} {F G : Fn} {t r s : Nat} {L : List Nat} (h : TextAt D ad F t r s L) (e1 : G t = F t) (e2 : G r = F r) (e3 : G s = F s) : TextAt D ad G t r s L := by
  obtain ⟨h1, ⟨h2, h3, f, h4, h5⟩, g, h6, h7⟩ := h
  exact ⟨e1.trans h1, ⟨h2, h3, f, e2.trans h4, h5⟩, g, e3.trans h6, h7⟩
theorem kMsA.kept {D : Dx} {ad : Nat → Nat} {F G : Fn} {mc : Nat} (h : kMsA D ad F mc) (e : G 4 = F 4) : kMsA D ad G mc := h.imp fun f hf => ⟨e.trans hf.1, hf.2⟩
theorem kRcp.kept {D : Dx} {F G : Fn} {rc : List Nat} (h : kRcp D F rc) (e : G 5 = F 5) : kRcp D G rc := h.imp fun f hf => ⟨e.trans hf.1, hf.2⟩
theorem kLkA.kept {D : Dx} {ad : Nat → Nat} {F G : Fn} (h : kLkA D ad F) (e : G 6 = F 6) : kLkA D ad G := h.imp fun f hf => ⟨e.trans hf.1, hf.2⟩
theorem kRec.kept {D : Dx} {ad : Nat → Nat} {F G : Fn} {kw se la : Nat → Int32} (h : kRec D ad F kw se la) (e7 : G 7 = F 7) (e8 : G 8 = F 8) (e9 : G 9 = F 9) (e10 : G 10 = F 10) : kRec D ad G kw se la :=
  ⟨e7.trans h.1, h.2.1.imp fun f hf => ⟨e8.trans hf.1, hf.2⟩, h.2.2.1.imp fun f hf => ⟨e9.trans hf.1, hf.2⟩, h.2.2.2.imp fun f hf => ⟨e10.trans hf.1, hf.2⟩⟩
theorem kLnk.kept {ad : Nat → Nat} {F G : Fn} {up wn tk : Nat → Nat} (h : kLnk ad F up wn tk) (e : ∀ l, l < 3 → G (11 + l) = F (11 + l)) : kLnk ad G up wn tk := fun l hl => (e l hl).trans (h l hl)
theorem kRow.kept {D : Dx} {ad : Nat → Nat} {F G : Fn} {rw : Nat → List Nat} (h : kRow D ad F rw) (e : ∀ r, r < 6 → G (14 + r) = F (14 + r) ∧ G (20 + r) = F (20 + r)) : kRow D ad G rw := fun r hr => (h r hr).kept (e r hr).1 (e r hr).2
theorem kMsg.kept {D : Dx} {ad : Nat → Nat} {F G : Fn} {mc : Nat} {ms : Nat → List Nat} {st rc en lk : Nat → Nat} (h : kMsg D ad F mc ms st rc en lk) (e : ∀ m, m < mc → G (30 + 3 * m) = F (30 + 3 * m) ∧ G (31 + 3 * m) = F (31 + 3 * m) ∧ G (32 + 3 * m) = F (32 + 3 * m)) : kMsg D ad G mc ms st rc en lk := fun m hm =>
  ⟨(e m hm).1.trans (h m hm).1, (h m hm).2.1.imp fun f hf => ⟨(e m hm).2.1.trans hf.1, hf.2⟩, (h m hm).2.2.imp fun f hf => ⟨(e m hm).2.2.trans hf.1, hf.2⟩⟩
theorem kPrt.kept {ad : Nat → Nat} {F G : Fn} {mc : Nat} {ms : Nat → List Nat} {pf pt pw : Nat → Nat} (h : kPrt ad F mc ms pf pt pw) (e : ∀ m, m < mc → ∀ p, p < npL (ms m) → G (100 + 10 * m + p) = F (100 + 10 * m + p)) : kPrt ad G mc ms pf pt pw := fun m hm p hp => (e m hm p hp).trans (h m hm p hp)
theorem kFre.kept {F G : Fn} {mc : Nat} (h : kFre F mc) (e : ∀ c, 30 ≤ c → c < 300 → F c = none → G c = none) : kFre G mc := fun m h1 h2 =>
  ⟨e _ (by omega) (by omega) (h m h1 h2).1, e _ (by omega) (by omega) (h m h1 h2).2.1, e _ (by omega) (by omega) (h m h1 h2).2.2.1, fun p hp => e _ (by omega) (by omega) ((h m h1 h2).2.2.2 p hp)⟩
/-- the other side's cells stay -/
def FrK (ad : Nat → Nat) (F : Fn) (ad1 : Nat → Nat) (F1 : Fn) : Prop := ∀ c, 300 ≤ c → (ad1 c, ad1 0) = (ad c, ad 0) ∧ F1 c = F c
theorem FrK.ad {ad : Nat → Nat} {F : Fn} {ad1 : Nat → Nat} {F1 : Fn} (h : FrK ad F ad1 F1) {c : Nat} (hc : 300 ≤ c) : ad1 c = ad c := (Prod.mk.inj (h c hc).1).1
theorem FrK.a0 {ad : Nat → Nat} {F : Fn} {ad1 : Nat → Nat} {F1 : Fn} (h : FrK ad F ad1 F1) : ad1 0 = ad 0 := (Prod.mk.inj (h 300 (Nat.le_refl _)).1).2
theorem FrK.rf {ad : Nat → Nat} {F : Fn} : FrK ad F ad F := fun _ _ => ⟨rfl, rfl⟩
/-- an answer of a call: which exception (0: none), what it answers, the state behind it -/
abbrev Ans : Type := Nat × Int32 × St
def PoS (D : Dx) (ad : Nat → Nat) (F : Fn) (r : Ans) : Pst := fun v ad1 F1 => r.1 = 0 ∧ v = some (.int r.2.1) ∧ CRep D ad1 F1 r.2.2 ∧ FrK ad F ad1 F1
def PxS (D : Dx) (ad : Nat → Nat) (F : Fn) (ex : List String) (r : Ans) : Pxt := fun E ad1 F1 => (∃ i, r.1 = i + 1 ∧ ex[i]? = some E) ∧ CRep D ad1 F1 r.2.2 ∧ FrK ad F ad1 F1
/-- the room of a call that may throw, over k levels -/
abbrev rX (k : Nat) : Room := { frames := k, cells := 1, slots := 6, locals := 30 * k + 90 }
theorem V_inj {X : Cxt} {k n pc : Nat} {lv : Lv} {st : List Value} {ad : Nat → Nat} {F : Fn} (K : (∀ c c' : Nat, F c ≠ none → F c' ≠ none → ad c = ad c' → c = c') → V X k n pc lv st ad F) : V X k n pc lv st ad F := fun H locs ls hW hS hl => K hW.2 H locs ls hW hS hl
