/-! ===== how the model holds a state ===== -/
/-- an int array whose first n places are g -/
def aN (D : Dx) (F : Fn) (c N n : Nat) (g : Nat → Int32) : Prop := ∃ f : Nat → Int32, F c = some (aI D N f) ∧ ∀ j, j < n → f j = g j
/-- a boolean array whose first n places are g -/
def aB (D : Dx) (F : Fn) (c N n : Nat) (g : Nat → Int32) : Prop := ∃ f : Nat → Int32, F c = some (aZ D N f) ∧ ∀ j, j < n → f j = g j
theorem aN.kept {D : Dx} {F G : Fn} {c N n : Nat} {g : Nat → Int32} (h : aN D F c N n g) (e : G c = F c) : aN D G c N n g := h.imp fun f hf => ⟨e.trans hf.1, hf.2⟩
theorem aB.kept {D : Dx} {F G : Fn} {c N n : Nat} {g : Nat → Int32} (h : aB D F c N n g) (e : G c = F c) : aB D G c N n g := h.imp fun f hf => ⟨e.trans hf.1, hf.2⟩
/-- the rows of the links, in one array: link l from 200 l on -/
def mRow (D : Dx) (F : Fn) (c : Nat) (rw : Nat → List Nat) : Prop := ∃ f : Nat → Int32, F c = some (aI D 600 f) ∧ ∀ l, l < 3 → (rw l).length ≤ 200 ∧ ∀ j, j < (rw l).length → f (200 * l + j) = nI ((rw l).getD j 0 - 100)
def MRep (D : Dx) (ad : Nat → Nat) (F : Fn) (u : St) (th : Int32) : Prop :=
  mObj ad F (zNow u) (zTxt u).length (zMc u) (zRcp u).length th ∧ RwA D F 302 400 0 (zTxt u) ∧ (∀ m, m < zMc u → RwA D F 304 8000 (400 * m) (zMs u m)) ∧ (∃ f : Nat → Int32, F 304 = some (aI D 8000 f)) ∧
  aN D F 305 20 (zMc u) (fun m => nI (zMs u m).length) ∧ aN D F 306 20 (zMc u) (fun m => nI (zRc u m)) ∧ aN D F 307 20 (zMc u) (fun m => nI (zEn u m)) ∧ aN D F 308 20 20 (fun m => if m < zMc u then nI (zSt u m) else 0) ∧
  aN D F 310 20 (zRcp u).length (fun j => nI ((zRcp u).getD j 0)) ∧ aN D F 311 200 200 (fun c => nI (zPt u (100 + c))) ∧ aN D F 312 200 200 (fun c => if c / 10 < zMc u then nI (zPf u (100 + c)) else 0) ∧ aB D F 313 200 200 (fun c => nI (zPw u (100 + c))) ∧
  aB D F 314 200 200 (fun c => if c / 10 < zMc u ∧ c % 10 < npL (zMs u (c / 10)) ∧ (zLk u (c / 10)).testBit (c % 10) = false then 1 else 0) ∧
  aN D F 315 3 3 (fun l => nI (zRw u (2 * l)).length) ∧ mRow D F 316 (fun l => zRw u (2 * l)) ∧ aN D F 317 3 3 (fun l => nI (zRw u (2 * l + 1)).length) ∧ mRow D F 318 (fun l => zRw u (2 * l + 1)) ∧
  aB D F 319 3 3 (fun l => if zUp u l = 0 then 1 else 0) ∧ aN D F 320 3 3 (fun l => nI (zTk u l)) ∧ aN D F 321 3 3 (fun l => nI (zWn u l)) ∧ aN D F 322 5 5 (zKw u) ∧ aN D F 323 9 9 (zSe u) ∧ aN D F 324 9 9 (zLa u)
theorem RwA.kept {D : Dx} {F G : Fn} {c N fr : Nat} {L : List Nat} (h : RwA D F c N fr L) (e : G c = F c) : RwA D G c N fr L := ⟨h.1, h.2.1, h.2.2.1, h.2.2.2.imp fun f hf => ⟨e.trans hf.1, hf.2⟩⟩
theorem mRow.kept {D : Dx} {F G : Fn} {c : Nat} {rw : Nat → List Nat} (h : mRow D F c rw) (e : G c = F c) : mRow D G c rw := h.imp fun f hf => ⟨e.trans hf.1, hf.2⟩
/-- only what the last call has thrown is other -/
theorem MRep.th {D : Dx} {ad : Nat → Nat} {F G : Fn} {u : St} {th a : Int32} (h : MRep D ad F u th) (g : mObj ad G (zNow u) (zTxt u).length (zMc u) (zRcp u).length a) (hK : ∀ x, x ≠ 300 → G x = F x) : MRep D ad G u a := by
  obtain ⟨-, h1, h2, h3, h4, h5, h6, h7, h8, h9, h10, h11, h12, h13, h14, h15, h16, h17, h18, h19, h20, h21, h22⟩ := h
  exact ⟨g, h1.kept (hK _ (by decide)), fun m hm => (h2 m hm).kept (hK _ (by decide)), h3.imp fun f hf => (hK _ (by decide)).trans hf, h4.kept (hK _ (by decide)), h5.kept (hK _ (by decide)), h6.kept (hK _ (by decide)), h7.kept (hK _ (by decide)), h8.kept (hK _ (by decide)), h9.kept (hK _ (by decide)), h10.kept (hK _ (by decide)), h11.kept (hK _ (by decide)), h12.kept (hK _ (by decide)), h13.kept (hK _ (by decide)), h14.kept (hK _ (by decide)), h15.kept (hK _ (by decide)), h16.kept (hK _ (by decide)), h17.kept (hK _ (by decide)), h18.kept (hK _ (by decide)), h19.kept (hK _ (by decide)), h20.kept (hK _ (by decide)), h21.kept (hK _ (by decide)), h22.kept (hK _ (by decide))⟩
