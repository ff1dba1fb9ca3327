/-! ===== ROWS OF THE HEAP, over a world by codes ===== -/
abbrev ALL : List Cond := wsL_law
/-- field kf of the class ci is what the pool's entry idx of the class own names -/
def FR (own : String) (idx ci kf : Nat) : Prop := ∃ (Cn : String) (T : u_T) (N : Nat), vwCl[ci]? = some (Cn, T, N) ∧ kf < N ∧ (∀ w ∈ u_ws Cn T N, w ∈ ALL) ∧
  (Cond.fieldLink own idx (T kf).1 (T kf).2.1 (T kf).2.2.1 ∈ ALL ∨ (own, idx, (T kf).1, (T kf).2.1, (T kf).2.2.1) ∈ nestF)
/-- .. and it can be written there: fin tells whether it is final, ty its type -/
def FP (own : String) (idx ci kf : Nat) (fin : Bool) (ty : FieldType) : Prop := ∃ (Cn : String) (T : u_T) (N : Nat) (ty0 : Nat → FieldType), vwCl[ci]? = some (Cn, T, N) ∧ kf < N ∧ (∀ w ∈ u_ws Cn T N, w ∈ ALL) ∧
  (∀ j, j < N → parseFieldDescriptor (T j).2.2.1 = some (ty0 j)) ∧ (∀ a, a < N → ∀ b, b < N → a ≠ b → (T a).2.1 ≠ (T b).2.1) ∧ (T kf).2.2.2 = fin ∧ (fin = true → (T kf).1 = own ∧ Cond.fieldLink own idx (T kf).1 (T kf).2.1 (T kf).2.2.1 ∈ ALL) ∧ parseFieldDescriptor (T kf).2.2.1 = some ty ∧
  (Cond.fieldLink own idx (T kf).1 (T kf).2.1 (T kf).2.2.1 ∈ ALL ∨ (own, idx, (T kf).1, (T kf).2.1, (T kf).2.2.1) ∈ nestF)
/-- the class ci is what the pool's entry idx of the class own makes, with these first values -/
def NW (own : String) (idx ci N : Nat) (fs : List Value) : Prop := ∃ (Cn : String) (T : u_T) (ty0 : Nat → FieldType), vwCl[ci]? = some (Cn, T, N) ∧ (∀ w ∈ u_ws Cn T N, w ∈ ALL) ∧
  (∀ j, j < N → parseFieldDescriptor (T j).2.2.1 = some (ty0 j)) ∧ (∀ j, j < N → defaultValue (ty0 j) = vp_V fs j) ∧ Cond.classLink own idx Cn ∈ ALL ∧ Cond.instantiable Cn N ∈ ALL ∧ Cond.initialized Cn ∈ ALL
/-- arrays: of ints, booleans, longs; of references of the kind t -/
abbrev aI (D : Dx) (N : Nat) (f : Nat → Int32) : va_E := .inl (D.2.2.1 0, N, .inl f)
abbrev aQ (D : Dx) (t N : Nat) (f : Nat → Option Nat) : va_E := .inl (D.2.2.1 t, N, .inr (.inr (.inr (.inr f))))
abbrev oB (ci : Nat) (fs : List Value) : va_E := .inr (ci, fs)
variable {X : Cxt} {cc : ByteArray} {nL : Nat} {y : MethodName} {R : Room} {ret : Option FieldType} {tb : List ExceptionTableEntry} {k n pc : Nat} {lv : Lv} {st : List Value} {ad : Nat → Nat} {F : Fn}
abbrev Ok (X : Cxt) (cc : ByteArray) (nL : Nat) (y : MethodName) (R : Room) (ret : Option FieldType) (tb : List ExceptionTableEntry) : Prop := Okx X cc nL y ALL R ret tb
theorem Ok.ts (C : Ok X cc nL y R ret tb) : ∀ w ∈ ALL, w.before (xa X) (xs X) = true := C.2.2.2.2.1
theorem Ok.own (C : Ok X cc nL y R ret tb) : (xs X).vm.findClass y.cls = some (xm X).cls := C.2.2.2.1
theorem Ok.ev (C : Ok X cc nL y R ret tb) : Ev (xD X) (xb X) (xs X) := C.2.2.2.2.2.2.1
theorem Ok.room (C : Ok X cc nL y R ret tb) : xR X = R := C.2.2.2.2.2.2.2.1
theorem Ok.rty (C : Ok X cc nL y R ret tb) : (xt X).sig.returnType = ret := C.2.2.2.2.2.2.2.2.1
theorem Ok.tab (C : Ok X cc nL y R ret tb) : (xc X).exceptionTable.toList = tb := C.2.2.2.2.2.2.2.2.2.1
theorem Ok.nm (C : Ok X cc nL y R ret tb) : (xt X).name = y.name := C.2.2.2.2.2.2.2.2.2.2.1
theorem Ok.nl (C : Ok X cc nL y R ret tb) : xn X = nL := C.2.2.2.2.2.2.2.2.2.2.2.1
theorem Ok.notr (C : Ok X cc nL y R ret tb) : (xl X).stackTraces = false := C.2.2.2.2.2.2.2.2.2.2.2.2
theorem Ok.fresh (C : Ok X cc nL y R ret tb) : ∀ q : Nat, (xs X).heap.size ≤ q → Bo (xb X) q := fun _ h => Nat.le_trans C.ev.2.2.2.2.2.2.2.2.2.1 h
theorem V_slen (C : Ok X cc nL y R ret tb) (d : decode cc pc = .ok (.arraylength, 1)) (K : V X k n (pc + 1) lv (.int (nI (xD X).2.2.2.2.1) :: st) ad F) : V X k n pc lv (.ref (xD X).2.2.2.1 :: st) ad F := by
  intro H locs ls hW hSS hl
  have hX := C.ev.2.2.2.2.2.2.2.2.2.2
  exact va_slen C.1 C.2.1 hX.1 hX.2.1 hX.2.2.1 hSS d (K H locs ls hW hSS hl)
theorem V_get {idx ci kf c0 : Nat} {fs : List Value} {v : Value} (C : Ok X cc nL y R ret tb) (d : decode cc pc = .ok (.getfield idx, 3)) (hf : FR y.cls idx ci kf) (hc : F c0 = some (oB ci fs)) (hv : fs[kf]? = some v) (K : V X k n (pc + 3) lv (v :: st) ad F) : V X k n pc lv (.ref (ad c0) :: st) ad F := by
  intro H locs ls hW hS hl
  obtain ⟨⟨ws, hP, hD, hw⟩, hi⟩ := id hW
  obtain ⟨i, hx⟩ := hw _ _ hc
  obtain ⟨Cn, T, N, h1, h2, h3, h4⟩ := hf
  rcases h4 with h4 | h4
  · exact va_get C.1 C.2.1 C.ts h3 C.own C.ev.1 hP i hx h1 kf h2 (C.ts _ h4) (fun _ h => h) hv d (K H locs ls hW hS hl)
  · exact va_getN C.1 C.2.1 C.ts h3 C.own C.ev.1 hP i hx h1 kf h2 (va_Nw.use rfl (C.ev.2.1 _ h4)) (fun _ h => h) hv d (K H locs ls hW hS hl)
theorem V_put {idx ci kf c0 : Nat} {fs : List Value} {v : Value} {ty : FieldType} (C : Ok X cc nL y R ret tb) (d : decode cc pc = .ok (.putfield idx, 3)) (hf : FP y.cls idx ci kf false ty) (hc : F c0 = some (oB ci fs)) (hn : narrow ty v = v) (hfit : fits ty v = true) (hlt : kf < fs.length) (K : V X k n (pc + 3) lv st ad (va_up F c0 (some (oB ci (fs.set kf v))))) : V X k n pc lv (v :: .ref (ad c0) :: st) ad F := by
  intro H locs ls hW hS hl
  obtain ⟨⟨ws, hP, hD, hw⟩, hi⟩ := id hW
  obtain ⟨i, hx⟩ := hw _ _ hc
  obtain ⟨Cn, T, N, ty0, h1, h2, h3, h5, h6, h7, -, h8, h4⟩ := hf
  rcases h4 with h4 | h4
  · exact va_put C.1 C.2.1 C.ts h3 ty0 h5 h6 C.own C.ev.1 hP hD hS i hx h1 kf h2 (C.ts _ h4) (fun _ h => h) h7 h8 hn hfit hlt d (fun H1 locs1 hP1 hD1 hS1 => K H1 locs1 ls (WD.put hi hw hc hx hP1 hD1) hS1 hl)
  · exact va_putN C.1 C.2.1 C.ts h3 ty0 h5 h6 C.own C.ev.1 hP hD hS i hx h1 kf h2 (va_Nw.use rfl (C.ev.2.1 _ h4)) (fun _ h => h) h7 h8 hn hfit hlt d (fun H1 locs1 hP1 hD1 hS1 => K H1 locs1 ls (WD.put hi hw hc hx hP1 hD1) hS1 hl)
theorem V_putF {idx ci kf c0 : Nat} {fs : List Value} {v : Value} {ty : FieldType} (C : Ok X cc nL y R ret tb) (hin : y.name = "<init>") (d : decode cc pc = .ok (.putfield idx, 3)) (hf : FP y.cls idx ci kf true ty) (hc : F c0 = some (oB ci fs)) (hn : narrow ty v = v) (hfit : fits ty v = true) (hlt : kf < fs.length) (K : V X k n (pc + 3) lv st ad (va_up F c0 (some (oB ci (fs.set kf v))))) : V X k n pc lv (v :: .ref (ad c0) :: st) ad F := by
  intro H locs ls hW hS hl
  obtain ⟨⟨ws, hP, hD, hw⟩, hi⟩ := id hW
  obtain ⟨i, hx⟩ := hw _ _ hc
  obtain ⟨Cn, T, N, ty0, h1, h2, h3, h5, h6, h7, h9, h8, -⟩ := hf
  obtain ⟨h9, h4⟩ := h9 rfl
  exact va_putF C.1 C.2.1 C.ts h3 ty0 h5 h6 C.own C.ev.1 hP hD hS i hx h1 kf h2 (C.ts _ h4) (fun _ h => h) h7 (C.nm.trans hin) h9 h8 hn hfit hlt d (fun H1 locs1 hP1 hD1 hS1 => K H1 locs1 ls (WD.put hi hw hc hx hP1 hD1) hS1 hl)
theorem nI_cl {j : Nat} {i : Int32} {N : Nat} (hi : i = nI j) (hj : j < N) (hN : N < 2 ^ 31) : vp_in i N ∧ i.toNatClampNeg = j := by
  subst hi
  exact ⟨vp_in_nI hj hN, nI_clamp (by omega)⟩
theorem V_sld {i : Nat} {v : Int32} (C : Ok X cc nL y R ret tb) (d : decode cc pc = .ok (.iaload, 1)) (hi : v = nI i) (hlt : i < (xD X).2.2.2.2.1) (K : V X k n (pc + 1) lv (.int ((xD X).2.2.2.2.2 i) :: st) ad F) : V X k n pc lv (.int v :: .ref (xD X).2.2.2.1 :: st) ad F := by
  intro H locs ls hW hSS hl
  have hX := C.ev.2.2.2.2.2.2.2.2.2.2
  obtain ⟨h1, h2⟩ := nI_cl hi hlt hX.2.2.2
  exact va_sld C.1 C.2.1 hX.1 hX.2.1 hX.2.2.1 hSS h1 d (by rw [h2]; exact K H locs ls hW hSS hl)
theorem V_iald {c0 N j : Nat} {f : Nat → Int32} {i : Int32} (C : Ok X cc nL y R ret tb) (d : decode cc pc = .ok (.iaload, 1)) (hc : F c0 = some (aI (xD X) N f)) (hi : i = nI j) (hj : j < N) (hN : N < 2 ^ 31) (K : V X k n (pc + 1) lv (.int (f j) :: st) ad F) : V X k n pc lv (.int i :: .ref (ad c0) :: st) ad F := by
  intro H locs ls hW hS hl
  obtain ⟨⟨ws, hP, hD, hw⟩, -⟩ := id hW
  obtain ⟨p, hx⟩ := hw _ _ hc
  obtain ⟨h1, h2⟩ := nI_cl hi hj hN
  exact va_iald C.1 C.2.1 C.ev.1 hP p 0 hx rfl h1 d (by rw [h2]; exact K H locs ls hW hS hl)
theorem V_aald {t c0 N j : Nat} {Cn : String} {f : Nat → Option Nat} {i : Int32} (C : Ok X cc nL y R ret tb) (d : decode cc pc = .ok (.aaload, 1)) (hc : F c0 = some (aQ (xD X) t N f)) (ht : (tysD (xD X).2.2.1)[t]? = some ((xD X).2.2.1 t, .object Cn)) (hi : i = nI j) (hj : j < N) (hN : N < 2 ^ 31) (K : V X k n (pc + 1) lv (va_rf (f j) :: st) ad F) : V X k n pc lv (.int i :: .ref (ad c0) :: st) ad F := by
  intro H locs ls hW hS hl
  obtain ⟨⟨ws, hP, hD, hw⟩, -⟩ := id hW
  obtain ⟨p, hx⟩ := hw _ _ hc
  obtain ⟨h1, h2⟩ := nI_cl hi hj hN
  exact va_aldq C.1 C.2.1 C.ev.1 hP p t hx ht h1 d (by rw [h2]; exact K H locs ls hW hS hl)
theorem V_iast {c0 N j : Nat} {f : Nat → Int32} {i x : Int32} (C : Ok X cc nL y R ret tb) (d : decode cc pc = .ok (.iastore, 1)) (hc : F c0 = some (aI (xD X) N f)) (hi : i = nI j) (hj : j < N) (hN : N < 2 ^ 31) (K : V X k n (pc + 1) lv st ad (va_up F c0 (some (aI (xD X) N (upd f j x))))) : V X k n pc lv (.int x :: .int i :: .ref (ad c0) :: st) ad F := by
  intro H locs ls hW hS hl
  obtain ⟨⟨ws, hP, hD, hw⟩, hin⟩ := id hW
  obtain ⟨p, hx⟩ := hw _ _ hc
  obtain ⟨h1, h2⟩ := nI_cl hi hj hN
  refine va_iast C.1 C.2.1 C.ev.1 hP hD hS p 0 hx rfl h1 d (fun H1 locs1 hP1 hD1 hS1 => ?_)
  rw [h2] at hP1 hD1
  exact K H1 locs1 ls (WD.put hin hw hc hx hP1 hD1) hS1 hl
theorem V_aast {t c0 cv ci N j : Nat} {r : vw_C} {vs : List Value} {f : Nat → Option Nat} {i : Int32} (C : Ok X cc nL y R ret tb) (d : decode cc pc = .ok (.aastore, 1)) (hc : F c0 = some (aQ (xD X) t N f)) (ht : (tysD (xD X).2.2.1)[t]? = some ((xD X).2.2.1 t, .object r.1)) (hv : F cv = some (oB ci vs)) (hcl : vwCl[ci]? = some r) (hi : i = nI j) (hj : j < N) (hN : N < 2 ^ 31) (K : V X k n (pc + 1) lv st ad (va_up F c0 (some (aQ (xD X) t N (va_up f j (some (ad cv))))))) : V X k n pc lv (.ref (ad cv) :: .int i :: .ref (ad c0) :: st) ad F := by
  intro H locs ls hW hS hl
  obtain ⟨⟨ws, hP, hD, hw⟩, hin⟩ := id hW
  obtain ⟨p, hx⟩ := hw _ _ hc
  obtain ⟨pv, hxv⟩ := hw _ _ hv
  obtain ⟨h1, h2⟩ := nI_cl hi hj hN
  refine va_astq C.1 C.2.1 C.ev.1 hP hD hS p t pv ci hx ht hxv hcl h1 d (fun H1 locs1 hP1 hD1 hS1 => ?_)
  rw [h2] at hP1 hD1
  exact K H1 locs1 ls (WD.put hin hw hc hx hP1 hD1) hS1 hl
theorem V_aastN {t c0 N j : Nat} {Cn : String} {f : Nat → Option Nat} {i : Int32} (C : Ok X cc nL y R ret tb) (d : decode cc pc = .ok (.aastore, 1)) (hc : F c0 = some (aQ (xD X) t N f)) (ht : (tysD (xD X).2.2.1)[t]? = some ((xD X).2.2.1 t, .object Cn)) (hi : i = nI j) (hj : j < N) (hN : N < 2 ^ 31) (K : V X k n (pc + 1) lv st ad (va_up F c0 (some (aQ (xD X) t N (va_up f j none))))) : V X k n pc lv (.null :: .int i :: .ref (ad c0) :: st) ad F := by
  intro H locs ls hW hS hl
  obtain ⟨⟨ws, hP, hD, hw⟩, hin⟩ := id hW
  obtain ⟨p, hx⟩ := hw _ _ hc
  obtain ⟨h1, h2⟩ := nI_cl hi hj hN
  refine va_astqN C.1 C.2.1 C.ev.1 hP hD hS p t hx ht h1 d (fun H1 locs1 hP1 hD1 hS1 => ?_)
  rw [h2] at hP1 hD1
  exact K H1 locs1 ls (WD.put hin hw hc hx hP1 hD1) hS1 hl
theorem V_alen {t c0 N : Nat} {x : (Nat → Int32) ⊕ (Nat → Int64) ⊕ (Nat → UInt32) ⊕ (Nat → UInt64) ⊕ (Nat → Option Nat)} {ty : FieldType} (C : Ok X cc nL y R ret tb) (d : decode cc pc = .ok (.arraylength, 1)) (hc : F c0 = some (.inl ((xD X).2.2.1 t, N, x))) (ht : (tysD (xD X).2.2.1)[t]? = some ((xD X).2.2.1 t, ty)) (K : V X k n (pc + 1) lv (.int (nI N) :: st) ad F) : V X k n pc lv (.ref (ad c0) :: st) ad F := by
  intro H locs ls hW hS hl
  obtain ⟨⟨ws, hP, hD, hw⟩, -⟩ := id hW
  obtain ⟨p, hx⟩ := hw _ _ hc
  exact va_alen C.1 C.2.1 C.ev.1 hP p t hx ht rfl d (K H locs ls hW hS hl)
theorem V_new {idx ci N : Nat} {fs : List Value} (c0 : Nat) (C : Ok X cc nL y R ret tb) (d : decode cc pc = .ok (.new idx, 3)) (hf : NW y.cls idx ci N fs) (hc : F c0 = none) (h1 : k + 1 ≤ R.cells) (h2 : n + N ≤ R.slots) (K : ∀ q : Nat, V X (k + 1) (n + N) (pc + 3) lv (.ref q :: st) (va_up ad c0 q) (va_up F c0 (some (oB ci fs)))) : V X k n pc lv st ad F := by
  intro H locs ls hW hS hl
  obtain ⟨⟨ws, hP, hD, hw⟩, hi⟩ := id hW
  obtain ⟨Cn, T, ty0, g1, g2, g3, g4, g5, g6, g7⟩ := hf
  have hR := C.room
  exact va_new C.1 C.2.1 C.ts g2 ty0 g3 C.own (C.ts _ g5) (C.ts _ g6) (C.ts _ g7) C.ev.1 hP hD hS C.fresh g1 g4 (by rw [hR]; exact h1) (by rw [hR]; exact h2) d (fun q H1 hP1 hD1 hS1 => K q H1 locs ls (WD.push hi hw hc hP1 hD1) hS1 hl)
theorem tys_same {D : Dx} {cA : ClassId} {t : Nat} {ty : FieldType} {s : State} (hK : va_K (D.1, D.2.1) vwCl (tysD D.2.2.1) s) (ht : (tysD D.2.2.1)[t]? = some (D.2.2.1 t, ty)) (hK1 : va_K (D.1, D.2.1) vwCl (tysD D.2.2.1 ++ [(cA, ty)]) s) : cA = D.2.2.1 t := by
  have h1 := (hK.2 t _ ht).2
  have h2 := (hK1.2 6 (cA, ty) (by rfl)).2
  cases ty with
  | object Cn =>
    obtain ⟨_, _, _, _, _, e1⟩ := h1
    obtain ⟨_, _, _, _, _, e2⟩ := h2
    exact Option.some.inj (e2.symm.trans e1)
  | _ => exact Option.some.inj ((show s.vm.findClass _ = some cA from h2).symm.trans h1)
theorem V_newi {N : Nat} {i : Int32} (c0 : Nat) (C : Ok X cc nL y R ret tb) (d : decode cc pc = .ok (.newarray .int, 2)) (hA : Cond.arrayClass .int ∈ ALL) (hc : F c0 = none) (hi : i = nI N) (hN : N * 4 ≤ 536870912) (h1 : k + 1 ≤ R.cells) (h2 : n + N ≤ R.slots) (K : ∀ q : Nat, V X (k + 1) (n + N) (pc + 2) lv (.ref q :: st) (va_up ad c0 q) (va_up F c0 (some (aI (xD X) N (fun _ => 0))))) : V X k n pc lv (.int i :: st) ad F := by
  intro H locs ls hW hS hl
  obtain ⟨⟨ws, hP, hD, hw⟩, hin⟩ := id hW
  have hR := C.room
  have hc1 : i.toNatClampNeg = N := by rw [hi]; exact nI_clamp (by omega)
  refine va_newa (atype := .int) (a0 := (N, .inl (fun _ => 0))) C.1 C.2.1 (C.ts _ hA) rfl C.ev.1 hP hD hS C.fresh (fun _ => rfl) (by rw [hi]; exact nI_pos (by omega)) hc1 hN (by rw [hR]; exact h1) (by rw [hR]; exact h2) d (fun q cA H1 hK1 hP1 hD1 hS1 => ?_)
  cases tys_same (t := 0) C.ev.1 rfl hK1
  exact K q H1 locs ls (WD.push hin hw hc hP1 hD1) hS1 hl
theorem V_newq {idx t N : Nat} {Cn : String} {i : Int32} (c0 : Nat) (C : Ok X cc nL y R ret tb) (d : decode cc pc = .ok (.anewarray idx, 3)) (hA : Cond.classLink y.cls idx Cn ∈ ALL) (hao : va_AO Cn (xs X)) (ht : (tysD (xD X).2.2.1)[t]? = some ((xD X).2.2.1 t, .object Cn)) (hc : F c0 = none) (hi : i = nI N) (hN : N * 4 ≤ 536870912) (h1 : k + 1 ≤ R.cells) (h2 : n + N ≤ R.slots) (K : ∀ q : Nat, V X (k + 1) (n + N) (pc + 3) lv (.ref q :: st) (va_up ad c0 q) (va_up F c0 (some (aQ (xD X) t N (fun _ => none))))) : V X k n pc lv (.int i :: st) ad F := by
  intro H locs ls hW hS hl
  obtain ⟨⟨ws, hP, hD, hw⟩, hin⟩ := id hW
  have hR := C.room
  have hc1 : i.toNatClampNeg = N := by rw [hi]; exact nI_clamp (by omega)
  refine va_newq C.1 C.2.1 C.own (C.ts _ hA) hao C.ev.1 hP hD hS C.fresh (by rw [hi]; exact nI_pos (by omega)) hc1 hN (by rw [hR]; exact h1) (by rw [hR]; exact h2) d (fun q cA H1 hK1 hP1 hD1 hS1 => ?_)
  cases tys_same (t := t) C.ev.1 ht hK1
  exact K q H1 locs ls (WD.push hin hw hc hP1 hD1) hS1 hl
