/-! ===== the model's cells, one kind changed ===== -/
theorem aN.cg {D : Dx} {F : Fn} {c N n : Nat} {g g' : Nat → Int32} (h : aN D F c N n g) (e : ∀ j, j < n → g j = g' j) : aN D F c N n g' := h.imp fun _ hf => ⟨hf.1, fun j hj => (hf.2 j hj).trans (e j hj)⟩
theorem aB.cg {D : Dx} {F : Fn} {c N n : Nat} {g g' : Nat → Int32} (h : aB D F c N n g) (e : ∀ j, j < n → g j = g' j) : aB D F c N n g' := h.imp fun _ hf => ⟨hf.1, fun j hj => (hf.2 j hj).trans (e j hj)⟩
theorem mRow.cg {D : Dx} {F : Fn} {c : Nat} {g g' : Nat → List Nat} (h : mRow D F c g) (e : ∀ r, r < 3 → g r = g' r) : mRow D F c g' := h.imp fun _ hf => ⟨hf.1, fun r hr j hj => by rw [← e r hr] at hj ⊢; exact hf.2 r hr j hj⟩
theorem vq {g : Nat → List Nat} {l r : Nat} {A : List Nat} : va_up (fun r => g (2 * r)) l A r = va_up g (2 * l) A (2 * r) := by
  by_cases e : r = l
  · subst e; rw [up_s, up_s]
  · rw [up_n e, up_n (by omega)]
theorem vs {g : Nat → List Nat} {l r : Nat} {A : List Nat} : va_up (fun r => g (2 * r + 1)) l A r = va_up g (2 * l + 1) A (2 * r + 1) := by
  by_cases e : r = l
  · subst e; rw [up_s, up_s]
  · rw [up_n e, up_n (by omega)]
theorem rw_len {g : Nat → List Nat} {f : Nat → Int32} {l : Nat} {A : List Nat} (h : ∀ r, r < 3 → f r = nI (g r).length) : ∀ r, r < 3 → upd f l (nI A.length) r = nI (va_up g l A r).length := fun r hr => by
  by_cases e : r = l
  · subst e; rw [pk_us, up_s]
  · rw [pk_un e, up_n e]; exact h r hr
theorem rw_row {g : Nat → List Nat} {f f0 : Nat → Int32} {l : Nat} {A : List Nat} (h0 : ∀ r, r < 3 → ∀ j, j < (g r).length → f0 (200 * r + j) = nI ((g r).getD j 0 - 100)) (hc : ∀ r, r < 3 → (g r).length ≤ 200) (hA : ∀ j, j < A.length → f (200 * l + j) = nI (A.getD j 0 - 100)) (ho : ∀ i, i < 200 * l ∨ 200 * l + 200 ≤ i → f i = f0 i) : ∀ r, r < 3 → ∀ j, j < (va_up g l A r).length → f (200 * r + j) = nI ((va_up g l A r).getD j 0 - 100) := fun r hr j hj => by
  by_cases e : r = l
  · subst e; rw [up_s] at hj ⊢; exact hA j hj
  · rw [up_n e] at hj ⊢
    have h1 := hc r hr
    rw [ho _ (by omega)]
    exact h0 r hr j hj
/-- a row moved down by one, from the place i on, up to k -/
def Shf (f f0 : Nat → Int32) (b i k : Nat) : Prop := (∀ x, x < b + i → f x = f0 x) ∧ (∀ x, b + i ≤ x → x < b + k → f x = f0 (x + 1)) ∧ ∀ x, b + k ≤ x → f x = f0 x
theorem Shf.rf {f0 : Nat → Int32} {b i : Nat} : Shf f0 f0 b i i := ⟨fun _ _ => rfl, fun _ h1 h2 => absurd h2 (by omega), fun _ _ => rfl⟩
theorem Shf.step {f f0 : Nat → Int32} {b i k : Nat} (h : Shf f f0 b i k) (hik : i ≤ k) : Shf (upd f (b + k) (f (b + k + 1))) f0 b i (k + 1) := by
  obtain ⟨h1, h2, h3⟩ := h
  refine ⟨fun x hx => ?_, fun x hx1 hx2 => ?_, fun x hx => ?_⟩
  · rw [pk_un (by omega)]; exact h1 x hx
  · by_cases e : x = b + k
    · subst e; rw [pk_us]; exact h3 _ (by omega)
    · rw [pk_un e]; exact h2 x hx1 (by omega)
  · rw [pk_un (by omega)]; exact h3 x (by omega)
theorem Shf.done {f f0 : Nat → Int32} {b i k : Nat} {L : List Nat} (h : Shf f f0 b i k) (hk : k + 1 = L.length) (hi : i ≤ k) (h0 : ∀ j, j < L.length → f0 (b + j) = nI (L.getD j 0 - 100)) : ∀ j, j < (L.eraseIdx i).length → f (b + j) = nI ((L.eraseIdx i).getD j 0 - 100) := fun j hj => by
  obtain ⟨h1, h2, h3⟩ := h
  rw [List.length_eraseIdx_of_lt (by omega)] at hj
  rw [List.getD_eq_getElem?_getD, List.getElem?_eraseIdx]
  by_cases e : j < i
  · rw [if_pos e, h1 _ (by omega), h0 j (by omega), List.getD_eq_getElem?_getD]
  · rw [if_neg e, h2 _ (by omega) (by omega), show b + j + 1 = b + (j + 1) by omega, h0 (j + 1) (by omega), List.getD_eq_getElem?_getD]
theorem Shf.out {f f0 : Nat → Int32} {b i k n : Nat} (h : Shf f f0 b i k) (hk : k ≤ n) : ∀ x, x < b ∨ b + n ≤ x → f x = f0 x := fun x hx => by
  rcases hx with hx | hx
  · exact h.1 x (by omega)
  · exact h.2.2 x (by omega)
/-- a row moved up by one, from its end down to k -/
def Shb (f f0 : Nat → Int32) (b n k : Nat) : Prop := (∀ x, b + k < x → x ≤ b + n → f x = f0 (x - 1)) ∧ ∀ x, x ≤ b + k ∨ b + n < x → f x = f0 x
theorem Shb.rf {f0 : Nat → Int32} {b n : Nat} : Shb f0 f0 b n n := ⟨fun _ h1 h2 => absurd h2 (by omega), fun _ _ => rfl⟩
theorem Shb.step {f f0 : Nat → Int32} {b n k : Nat} (h : Shb f f0 b n (k + 1)) (hk : k + 1 ≤ n) : Shb (upd f (b + (k + 1)) (f (b + (k + 1) - 1))) f0 b n k := by
  obtain ⟨h1, h2⟩ := h
  refine ⟨fun x hx1 hx2 => ?_, fun x hx => ?_⟩
  · by_cases e : x = b + (k + 1)
    · subst e; rw [pk_us]; exact h2 _ (by omega)
    · rw [pk_un e]; exact h1 x (by omega) hx2
  · rw [pk_un (by omega)]; exact h2 x (by omega)
theorem Shb.done {f f0 : Nat → Int32} {b c : Nat} {L : List Nat} (h : Shb f f0 b L.length 0) (h0 : ∀ j, j < L.length → f0 (b + j) = nI (L.getD j 0 - 100)) : ∀ j, j < (c :: L).length → upd f b (nI (c - 100)) (b + j) = nI ((c :: L).getD j 0 - 100) := fun j hj => by
  rw [List.length_cons] at hj
  cases j with
  | zero => rw [Nat.add_zero, pk_us]; rfl
  | succ j =>
    rw [pk_un (by omega), h.1 _ (by omega) (by omega), show b + (j + 1) - 1 = b + j by omega, h0 j (by omega)]
    rfl
theorem Shb.out {f f0 : Nat → Int32} {b n m : Nat} {v : Int32} (h : Shb f f0 b n 0) (hk : n < m) : ∀ x, x < b ∨ b + m ≤ x → upd f b v x = f0 x := fun x hx => by
  rw [pk_un (by omega)]
  exact h.2 x (by omega)
theorem MRep.rq {D : Dx} {ad : Nat → Nat} {F G : Fn} {u : St} {th : Int32} {l : Nat} {A : List Nat} (h : MRep D ad F u th) (hq : aN D G 315 3 3 (fun r => nI (va_up (fun r => zRw u (2 * r)) l A r).length)) (hr : mRow D G 316 (va_up (fun r => zRw u (2 * r)) l A)) (hK : ∀ x, x ∉ [315, 316] → G x = F x) : MRep D ad G (sRw u (va_up (zRw u) (2 * l) A)) th := by
  obtain ⟨k0, k1, k2, k3, k4, k5, k6, k7, k8, k9, k10, k11, k12, k13, k14, k15, k16, k17, k18, k19, k20, k21, k22⟩ := h
  exact ⟨k0.kept (hK _ (by decide)), k1.kept (hK _ (by decide)), fun m hm => (k2 m hm).kept (hK _ (by decide)), k3.imp fun f hf => (hK _ (by decide)).trans hf, k4.kept (hK _ (by decide)), k5.kept (hK _ (by decide)), k6.kept (hK _ (by decide)), k7.kept (hK _ (by decide)), k8.kept (hK _ (by decide)), k9.kept (hK _ (by decide)), k10.kept (hK _ (by decide)), k11.kept (hK _ (by decide)), k12.kept (hK _ (by decide)), hq.cg (fun r _ => by rw [vq]), hr.cg (fun r _ => vq), (k15.kept (hK _ (by decide))).cg (fun r _ => congrArg (fun L => nI (List.length L)) (up_n (by omega)).symm), (k16.kept (hK _ (by decide))).cg (fun r _ => (up_n (by omega)).symm), k17.kept (hK _ (by decide)), k18.kept (hK _ (by decide)), k19.kept (hK _ (by decide)), k20.kept (hK _ (by decide)), k21.kept (hK _ (by decide)), k22.kept (hK _ (by decide))⟩
theorem MRep.rs {D : Dx} {ad : Nat → Nat} {F G : Fn} {u : St} {th : Int32} {l : Nat} {A : List Nat} (h : MRep D ad F u th) (hq : aN D G 317 3 3 (fun r => nI (va_up (fun r => zRw u (2 * r + 1)) l A r).length)) (hr : mRow D G 318 (va_up (fun r => zRw u (2 * r + 1)) l A)) (hK : ∀ x, x ∉ [317, 318] → G x = F x) : MRep D ad G (sRw u (va_up (zRw u) (2 * l + 1) A)) th := by
  obtain ⟨k0, k1, k2, k3, k4, k5, k6, k7, k8, k9, k10, k11, k12, k13, k14, k15, k16, k17, k18, k19, k20, k21, k22⟩ := h
  exact ⟨k0.kept (hK _ (by decide)), k1.kept (hK _ (by decide)), fun m hm => (k2 m hm).kept (hK _ (by decide)), k3.imp fun f hf => (hK _ (by decide)).trans hf, k4.kept (hK _ (by decide)), k5.kept (hK _ (by decide)), k6.kept (hK _ (by decide)), k7.kept (hK _ (by decide)), k8.kept (hK _ (by decide)), k9.kept (hK _ (by decide)), k10.kept (hK _ (by decide)), k11.kept (hK _ (by decide)), k12.kept (hK _ (by decide)), (k13.kept (hK _ (by decide))).cg (fun r _ => congrArg (fun L => nI (List.length L)) (up_n (by omega)).symm), (k14.kept (hK _ (by decide))).cg (fun r _ => (up_n (by omega)).symm), hq.cg (fun r _ => by rw [vs]), hr.cg (fun r _ => vs), k17.kept (hK _ (by decide)), k18.kept (hK _ (by decide)), k19.kept (hK _ (by decide)), k20.kept (hK _ (by decide)), k21.kept (hK _ (by decide)), k22.kept (hK _ (by decide))⟩
theorem MRep.tk {D : Dx} {ad : Nat → Nat} {F G : Fn} {u : St} {th : Int32} {tk : Nat → Nat} (h : MRep D ad F u th) (hN : aN D G 320 3 3 (fun l => nI (tk l))) (hK : ∀ x, x ≠ 320 → G x = F x) : MRep D ad G (sTk u tk) th := by
  obtain ⟨k0, k1, k2, k3, k4, k5, k6, k7, k8, k9, k10, k11, k12, k13, k14, k15, k16, k17, k18, k19, k20, k21, k22⟩ := h
  exact ⟨k0.kept (hK _ (by decide)), k1.kept (hK _ (by decide)), fun m hm => (k2 m hm).kept (hK _ (by decide)), k3.imp fun f hf => (hK _ (by decide)).trans hf, k4.kept (hK _ (by decide)), k5.kept (hK _ (by decide)), k6.kept (hK _ (by decide)), k7.kept (hK _ (by decide)), k8.kept (hK _ (by decide)), k9.kept (hK _ (by decide)), k10.kept (hK _ (by decide)), k11.kept (hK _ (by decide)), k12.kept (hK _ (by decide)), k13.kept (hK _ (by decide)), k14.kept (hK _ (by decide)), k15.kept (hK _ (by decide)), k16.kept (hK _ (by decide)), k17.kept (hK _ (by decide)), hN, k19.kept (hK _ (by decide)), k20.kept (hK _ (by decide)), k21.kept (hK _ (by decide)), k22.kept (hK _ (by decide))⟩
theorem MRep.up {D : Dx} {ad : Nat → Nat} {F G : Fn} {u : St} {th : Int32} {up : Nat → Nat} (h : MRep D ad F u th) (hN : aB D G 319 3 3 (fun l => if up l = 0 then 1 else 0)) (hK : ∀ x, x ≠ 319 → G x = F x) : MRep D ad G (sUp u up) th := by
  obtain ⟨k0, k1, k2, k3, k4, k5, k6, k7, k8, k9, k10, k11, k12, k13, k14, k15, k16, k17, k18, k19, k20, k21, k22⟩ := h
  exact ⟨k0.kept (hK _ (by decide)), k1.kept (hK _ (by decide)), fun m hm => (k2 m hm).kept (hK _ (by decide)), k3.imp fun f hf => (hK _ (by decide)).trans hf, k4.kept (hK _ (by decide)), k5.kept (hK _ (by decide)), k6.kept (hK _ (by decide)), k7.kept (hK _ (by decide)), k8.kept (hK _ (by decide)), k9.kept (hK _ (by decide)), k10.kept (hK _ (by decide)), k11.kept (hK _ (by decide)), k12.kept (hK _ (by decide)), k13.kept (hK _ (by decide)), k14.kept (hK _ (by decide)), k15.kept (hK _ (by decide)), k16.kept (hK _ (by decide)), hN, k18.kept (hK _ (by decide)), k19.kept (hK _ (by decide)), k20.kept (hK _ (by decide)), k21.kept (hK _ (by decide)), k22.kept (hK _ (by decide))⟩
theorem MRep.pt {D : Dx} {ad : Nat → Nat} {F G : Fn} {u : St} {th : Int32} {pt : Nat → Nat} (h : MRep D ad F u th) (hN : pN D G 311 (zMc u) (zMs u) pt) (hK : ∀ x, x ≠ 311 → G x = F x) : MRep D ad G (sPt u pt) th := by
  obtain ⟨k0, k1, k2, k3, k4, k5, k6, k7, k8, k9, k10, k11, k12, k13, k14, k15, k16, k17, k18, k19, k20, k21, k22⟩ := h
  exact ⟨k0.kept (hK _ (by decide)), k1.kept (hK _ (by decide)), fun m hm => (k2 m hm).kept (hK _ (by decide)), k3.imp fun f hf => (hK _ (by decide)).trans hf, k4.kept (hK _ (by decide)), k5.kept (hK _ (by decide)), k6.kept (hK _ (by decide)), k7.kept (hK _ (by decide)), k8.kept (hK _ (by decide)), hN, k10.kept (hK _ (by decide)), k11.kept (hK _ (by decide)), k12.kept (hK _ (by decide)), k13.kept (hK _ (by decide)), k14.kept (hK _ (by decide)), k15.kept (hK _ (by decide)), k16.kept (hK _ (by decide)), k17.kept (hK _ (by decide)), k18.kept (hK _ (by decide)), k19.kept (hK _ (by decide)), k20.kept (hK _ (by decide)), k21.kept (hK _ (by decide)), k22.kept (hK _ (by decide))⟩
theorem MRep.pw {D : Dx} {ad : Nat → Nat} {F G : Fn} {u : St} {th : Int32} {pw : Nat → Nat} (h : MRep D ad F u th) (hN : pB D G 313 (zMc u) (zMs u) pw) (hK : ∀ x, x ≠ 313 → G x = F x) : MRep D ad G (sPw u pw) th := by
  obtain ⟨k0, k1, k2, k3, k4, k5, k6, k7, k8, k9, k10, k11, k12, k13, k14, k15, k16, k17, k18, k19, k20, k21, k22⟩ := h
  exact ⟨k0.kept (hK _ (by decide)), k1.kept (hK _ (by decide)), fun m hm => (k2 m hm).kept (hK _ (by decide)), k3.imp fun f hf => (hK _ (by decide)).trans hf, k4.kept (hK _ (by decide)), k5.kept (hK _ (by decide)), k6.kept (hK _ (by decide)), k7.kept (hK _ (by decide)), k8.kept (hK _ (by decide)), k9.kept (hK _ (by decide)), k10.kept (hK _ (by decide)), hN, k12.kept (hK _ (by decide)), k13.kept (hK _ (by decide)), k14.kept (hK _ (by decide)), k15.kept (hK _ (by decide)), k16.kept (hK _ (by decide)), k17.kept (hK _ (by decide)), k18.kept (hK _ (by decide)), k19.kept (hK _ (by decide)), k20.kept (hK _ (by decide)), k21.kept (hK _ (by decide)), k22.kept (hK _ (by decide))⟩
theorem MRep.pf {D : Dx} {ad : Nat → Nat} {F G : Fn} {u : St} {th : Int32} {pf : Nat → Nat} (h : MRep D ad F u th) (hN : aN D G 312 200 200 (fun c => if c / 10 < zMc u then nI (pf (100 + c)) else 0)) (hK : ∀ x, x ≠ 312 → G x = F x) : MRep D ad G (sPf u pf) th := by
  obtain ⟨k0, k1, k2, k3, k4, k5, k6, k7, k8, k9, k10, k11, k12, k13, k14, k15, k16, k17, k18, k19, k20, k21, k22⟩ := h
  exact ⟨k0.kept (hK _ (by decide)), k1.kept (hK _ (by decide)), fun m hm => (k2 m hm).kept (hK _ (by decide)), k3.imp fun f hf => (hK _ (by decide)).trans hf, k4.kept (hK _ (by decide)), k5.kept (hK _ (by decide)), k6.kept (hK _ (by decide)), k7.kept (hK _ (by decide)), k8.kept (hK _ (by decide)), k9.kept (hK _ (by decide)), hN, k11.kept (hK _ (by decide)), k12.kept (hK _ (by decide)), k13.kept (hK _ (by decide)), k14.kept (hK _ (by decide)), k15.kept (hK _ (by decide)), k16.kept (hK _ (by decide)), k17.kept (hK _ (by decide)), k18.kept (hK _ (by decide)), k19.kept (hK _ (by decide)), k20.kept (hK _ (by decide)), k21.kept (hK _ (by decide)), k22.kept (hK _ (by decide))⟩
theorem MRep.lk {D : Dx} {ad : Nat → Nat} {F G : Fn} {u : St} {th : Int32} {lk : Nat → Nat} (h : MRep D ad F u th) (hN : aB D G 314 200 200 (dlF (sLk u lk))) (hK : ∀ x, x ≠ 314 → G x = F x) : MRep D ad G (sLk u lk) th := by
  obtain ⟨k0, k1, k2, k3, k4, k5, k6, k7, k8, k9, k10, k11, k12, k13, k14, k15, k16, k17, k18, k19, k20, k21, k22⟩ := h
  exact ⟨k0.kept (hK _ (by decide)), k1.kept (hK _ (by decide)), fun m hm => (k2 m hm).kept (hK _ (by decide)), k3.imp fun f hf => (hK _ (by decide)).trans hf, k4.kept (hK _ (by decide)), k5.kept (hK _ (by decide)), k6.kept (hK _ (by decide)), k7.kept (hK _ (by decide)), k8.kept (hK _ (by decide)), k9.kept (hK _ (by decide)), k10.kept (hK _ (by decide)), k11.kept (hK _ (by decide)), hN, k13.kept (hK _ (by decide)), k14.kept (hK _ (by decide)), k15.kept (hK _ (by decide)), k16.kept (hK _ (by decide)), k17.kept (hK _ (by decide)), k18.kept (hK _ (by decide)), k19.kept (hK _ (by decide)), k20.kept (hK _ (by decide)), k21.kept (hK _ (by decide)), k22.kept (hK _ (by decide))⟩
theorem MRep.nw {D : Dx} {ad : Nat → Nat} {F G : Fn} {u : St} {th : Int32} {n : Nat} (h : MRep D ad F u th) (hO1 : mObj ad G n (zTxt u).length (zMc u) (zRcp u).length th) (hK : ∀ x, x ≠ 300 → G x = F x) : MRep D ad G (sNow u n) th := by
  obtain ⟨k0, k1, k2, k3, k4, k5, k6, k7, k8, k9, k10, k11, k12, k13, k14, k15, k16, k17, k18, k19, k20, k21, k22⟩ := h
  exact ⟨hO1, k1.kept (hK _ (by decide)), fun m hm => (k2 m hm).kept (hK _ (by decide)), k3.imp fun f hf => (hK _ (by decide)).trans hf, k4.kept (hK _ (by decide)), k5.kept (hK _ (by decide)), k6.kept (hK _ (by decide)), k7.kept (hK _ (by decide)), k8.kept (hK _ (by decide)), k9.kept (hK _ (by decide)), k10.kept (hK _ (by decide)), k11.kept (hK _ (by decide)), k12.kept (hK _ (by decide)), k13.kept (hK _ (by decide)), k14.kept (hK _ (by decide)), k15.kept (hK _ (by decide)), k16.kept (hK _ (by decide)), k17.kept (hK _ (by decide)), k18.kept (hK _ (by decide)), k19.kept (hK _ (by decide)), k20.kept (hK _ (by decide)), k21.kept (hK _ (by decide)), k22.kept (hK _ (by decide))⟩
/-- a message ends, but for the queue -/
abbrev feS (u : St) (m how : Nat) : St := (zNow u, zMc u, zTxt u, zRcp u ++ [10 * m + how], zUp u, zWn u, zTk u, zRw u, va_up (zSt u) m how, zRc u, zEn u, zLk u, zMs u, zPf u, zPt u, zPw u, zKw u, zSe u, zLa u)
theorem MRep.fe {D : Dx} {ad : Nat → Nat} {F G : Fn} {u : St} {th : Int32} {m how : Nat} (h : MRep D ad F u th) (hO1 : mObj ad G (zNow u) (zTxt u).length (zMc u) ((zRcp u).length + 1) th) (h8 : aN D G 308 20 20 (fun k => if k < zMc u then nI (va_up (zSt u) m how k) else 0)) (h10 : aN D G 310 20 ((zRcp u).length + 1) (fun j => nI ((zRcp u ++ [10 * m + how]).getD j 0))) (hK : ∀ x, x ∉ [300, 308, 310] → G x = F x) : MRep D ad G (feS u m how) th := by
  obtain ⟨k0, k1, k2, k3, k4, k5, k6, k7, k8, k9, k10, k11, k12, k13, k14, k15, k16, k17, k18, k19, k20, k21, k22⟩ := h
  exact ⟨(by rw [List.length_append]; exact hO1), k1.kept (hK _ (by decide)), fun m hm => (k2 m hm).kept (hK _ (by decide)), k3.imp fun f hf => (hK _ (by decide)).trans hf, k4.kept (hK _ (by decide)), k5.kept (hK _ (by decide)), k6.kept (hK _ (by decide)), h8, by rw [List.length_append]; exact h10, k9.kept (hK _ (by decide)), k10.kept (hK _ (by decide)), k11.kept (hK _ (by decide)), k12.kept (hK _ (by decide)), k13.kept (hK _ (by decide)), k14.kept (hK _ (by decide)), k15.kept (hK _ (by decide)), k16.kept (hK _ (by decide)), k17.kept (hK _ (by decide)), k18.kept (hK _ (by decide)), k19.kept (hK _ (by decide)), k20.kept (hK _ (by decide)), k21.kept (hK _ (by decide)), k22.kept (hK _ (by decide))⟩
theorem row_200 {u : St} (hI : Inv u) : (∀ r, r < 3 → (zRw u (2 * r)).length ≤ 120) ∧ ∀ r, r < 3 → (zRw u (2 * r + 1)).length ≤ 120 :=
  ⟨fun r hr => by have := row_cap hI hr; omega, fun r hr => by have := row_cap hI hr; omega⟩
