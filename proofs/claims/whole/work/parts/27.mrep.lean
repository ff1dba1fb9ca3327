/-! ===== how the model holds a state ===== -/
/-- an int array whose first n places are g -/
def aN (D : Dx) (F : Fn) (c N n : Nat) (g : Nat → Int32) : Prop := ∃ f : Nat → Int32, F c = some (aI D N f) ∧ ∀ j, j < n → f j = g j
/-- a boolean array whose first n places are g -/
def aB (D : Dx) (F : Fn) (c N n : Nat) (g : Nat → Int32) : Prop := ∃ f : Nat → Int32, F c = some (aZ D N f) ∧ ∀ j, j < n → f j = g j
/-- of the places of parts, those that are there: ints, booleans -/
def pN (D : Dx) (F : Fn) (c mc : Nat) (ms : Nat → List Nat) (g : Nat → Nat) : Prop := ∃ f : Nat → Int32, F c = some (aI D 200 f) ∧ ∀ m, m < mc → ∀ p, p < npL (ms m) → f (10 * m + p) = nI (g (100 + 10 * m + p))
def pB (D : Dx) (F : Fn) (c mc : Nat) (ms : Nat → List Nat) (g : Nat → Nat) : Prop := ∃ f : Nat → Int32, F c = some (aZ D 200 f) ∧ ∀ m, m < mc → ∀ p, p < npL (ms m) → f (10 * m + p) = nI (g (100 + 10 * m + p))
theorem aN.kept {D : Dx} {F G : Fn} {c N n : Nat} {g : Nat → Int32} (h : aN D F c N n g) (e : G c = F c) : aN D G c N n g := h.imp fun f hf => ⟨e.trans hf.1, hf.2⟩
theorem aB.kept {D : Dx} {F G : Fn} {c N n : Nat} {g : Nat → Int32} (h : aB D F c N n g) (e : G c = F c) : aB D G c N n g := h.imp fun f hf => ⟨e.trans hf.1, hf.2⟩
theorem pN.kept {D : Dx} {F G : Fn} {c mc : Nat} {ms : Nat → List Nat} {g : Nat → Nat} (h : pN D F c mc ms g) (e : G c = F c) : pN D G c mc ms g := h.imp fun f hf => ⟨e.trans hf.1, hf.2⟩
theorem pB.kept {D : Dx} {F G : Fn} {c mc : Nat} {ms : Nat → List Nat} {g : Nat → Nat} (h : pB D F c mc ms g) (e : G c = F c) : pB D G c mc ms g := h.imp fun f hf => ⟨e.trans hf.1, hf.2⟩
/-- the rows of the links, in one array: link l from 200 l on -/
def mRow (D : Dx) (F : Fn) (c : Nat) (rw : Nat → List Nat) : Prop := ∃ f : Nat → Int32, F c = some (aI D 600 f) ∧ ∀ l, l < 3 → ∀ j, j < (rw l).length → f (200 * l + j) = nI ((rw l).getD j 0 - 100)
def dlF (u : St) (c : Nat) : Int32 := if c / 10 < zMc u ∧ c % 10 < npL (zMs u (c / 10)) ∧ (zLk u (c / 10)).testBit (c % 10) = false then 1 else 0
def MRep (D : Dx) (ad : Nat → Nat) (F : Fn) (u : St) (th : Int32) : Prop :=
  mObj ad F (zNow u) (zTxt u).length (zMc u) (zRcp u).length th ∧ RwA D F 302 400 0 (zTxt u) ∧ (∀ m, m < zMc u → RwA D F 304 8000 (400 * m) (zMs u m)) ∧ (∃ f : Nat → Int32, F 304 = some (aI D 8000 f)) ∧
  aN D F 305 20 (zMc u) (fun m => nI (zMs u m).length) ∧ aN D F 306 20 (zMc u) (fun m => nI (zRc u m)) ∧ aN D F 307 20 (zMc u) (fun m => nI (zEn u m)) ∧ aN D F 308 20 20 (fun m => if m < zMc u then nI (zSt u m) else 0) ∧
  aN D F 310 20 (zRcp u).length (fun j => nI ((zRcp u).getD j 0)) ∧ pN D F 311 (zMc u) (zMs u) (zPt u) ∧ aN D F 312 200 200 (fun c => if c / 10 < zMc u then nI (zPf u (100 + c)) else 0) ∧ pB D F 313 (zMc u) (zMs u) (zPw u) ∧
  aB D F 314 200 200 (dlF u) ∧
  aN D F 315 3 3 (fun l => nI (zRw u (2 * l)).length) ∧ mRow D F 316 (fun l => zRw u (2 * l)) ∧ aN D F 317 3 3 (fun l => nI (zRw u (2 * l + 1)).length) ∧ mRow D F 318 (fun l => zRw u (2 * l + 1)) ∧
  aB D F 319 3 3 (fun l => if zUp u l = 0 then 1 else 0) ∧ aN D F 320 3 3 (fun l => nI (zTk u l)) ∧ aN D F 321 3 3 (fun l => nI (zWn u l)) ∧ aN D F 322 5 5 (zKw u) ∧ aN D F 323 9 9 (zSe u) ∧ aN D F 324 9 9 (zLa u)
theorem RwA.kept {D : Dx} {F G : Fn} {c N fr : Nat} {L : List Nat} (h : RwA D F c N fr L) (e : G c = F c) : RwA D G c N fr L := ⟨h.1, h.2.1, h.2.2.1, h.2.2.2.imp fun f hf => ⟨e.trans hf.1, hf.2⟩⟩
theorem mRow.kept {D : Dx} {F G : Fn} {c : Nat} {rw : Nat → List Nat} (h : mRow D F c rw) (e : G c = F c) : mRow D G c rw := h.imp fun f hf => ⟨e.trans hf.1, hf.2⟩
/-- only what the last call has thrown is other -/
theorem MRep.th {D : Dx} {ad : Nat → Nat} {F G : Fn} {u : St} {th a : Int32} (h : MRep D ad F u th) (hO1 : mObj ad G (zNow u) (zTxt u).length (zMc u) (zRcp u).length a) (hK : ∀ x, x ≠ 300 → G x = F x) : MRep D ad G u a := by
  obtain ⟨k0, k1, k2, k3, k4, k5, k6, k7, k8, k9, k10, k11, k12, k13, k14, k15, k16, k17, k18, k19, k20, k21, k22⟩ := h
  exact ⟨hO1, k1.kept (hK _ (by decide)), fun m hm => (k2 m hm).kept (hK _ (by decide)), k3.imp fun f hf => (hK _ (by decide)).trans hf, k4.kept (hK _ (by decide)), k5.kept (hK _ (by decide)), k6.kept (hK _ (by decide)), k7.kept (hK _ (by decide)), k8.kept (hK _ (by decide)), k9.kept (hK _ (by decide)), k10.kept (hK _ (by decide)), k11.kept (hK _ (by decide)), k12.kept (hK _ (by decide)), k13.kept (hK _ (by decide)), k14.kept (hK _ (by decide)), k15.kept (hK _ (by decide)), k16.kept (hK _ (by decide)), k17.kept (hK _ (by decide)), k18.kept (hK _ (by decide)), k19.kept (hK _ (by decide)), k20.kept (hK _ (by decide)), k21.kept (hK _ (by decide)), k22.kept (hK _ (by decide))⟩
theorem isB_0 {v a b : Int32} (h : isB v a b = 0) : v < a ∨ b < v := by
  unfold isB at h
  split at h
  · exact absurd h (by decide)
  · rename_i h2
    rcases Int32.lt_or_le v a with h3 | h3
    · exact Or.inl h3
    · rcases Int32.lt_or_le b v with h4 | h4
      · exact Or.inr h4
      · exact absurd ⟨h3, h4⟩ h2
theorem isB_1 {v a b : Int32} (h : ¬ isB v a b = 0) : ¬ v < a ∧ ¬ b < v := by
  unfold isB at h
  split at h
  · rename_i h2
    exact ⟨Int32.not_lt.mpr h2.1, Int32.not_lt.mpr h2.2⟩
  · exact absurd rfl h
