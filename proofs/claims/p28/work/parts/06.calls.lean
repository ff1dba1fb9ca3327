/-! ===== CONTRACTS over worlds by codes; calls, ends, throws ===== -/
abbrev Pst : Type := Option Value → (Nat → Nat) → Fn → Prop
abbrev Pxt : Type := String → (Nat → Nat) → Fn → Prop
def noX : Pxt := fun _ _ _ => False
def qcP (D : Dx) (b0 : Nat) (Po : Pst) : Array Value → State → Outcome → State → Prop := fun _ st oc t => (∃ (v : Option Value) (ad : Nat → Nat) (F : Fn), oc = .returned v ∧ Po v ad F ∧ WD D b0 ad F t.heap) ∧ va_F (Bo b0) st t
def xcP (D : Dx) (b0 : Nat) (Px : Pxt) : String → State → State → Prop := fun E st t => ∃ (ad : Nat → Nat) (F : Fn), Px E ad F ∧ WD D b0 ad F t.heap ∧ va_F (Bo b0) st t
/-- THE CONTRACT: from the world (ad, F), with these arguments, the method returns with Po or throws with Px -/
def Ct (l : Launch) (D : Dx) (b0 : Nat) (y : MethodName) (ws : List Cond) (rm : Room) (av : List Value) (ad : Nat → Nat) (F : Fn) (Po : Pst) (Px : Pxt) : Prop :=
  l.stackTraces = false → vx_Met l y ws rm (va_Pc av (fun U => Ev D b0 U ∧ WD D b0 ad F U.heap)) (qcP D b0 Po) (xcP D b0 Px) rm.cells rm.slots (Bo b0)
abbrev wsA (y : MethodName) (cc : ByteArray) (maxL : Nat) (ret : Option FieldType) : List Cond := .code y cc maxL ret :: ALL
abbrev wsH (y : MethodName) (cc : ByteArray) (maxL : Nat) (ret : Option FieldType) (hh : List (Nat × Nat × Nat × Nat)) : List Cond := .codeWith y cc maxL ret hh :: ALL
def Rx (X : Cxt) (Po : Pst) (Px : Pxt) : Prop := xQ X = vx_MQ (xo X) (qcP (xD X) (xb X) Po) (xcP (xD X) (xb X) Px) (xa X) (xs X) (xR X).cells (xR X).slots (Bo (xb X))
def enL : Nat → List Value → Lv
  | _, [] => []
  | i, v :: r => (i, v) :: enL (i + 1) r
theorem enL_args : ∀ (vs : List Value) (i : Nat), (∀ q ∈ vs, q.category = 1) → lv_args i vs = enL i vs
  | [], _, _ => rfl
  | v :: r, i, h => by
    have h1 := h v List.mem_cons_self
    simp only [lv_args, enL, h1]
    rw [if_neg (by decide), enL_args r (i + 1) (fun q hq => h q (List.mem_cons_of_mem _ hq))]
theorem enL_mem : ∀ (vs : List Value) (i : Nat) (q : Nat × Value), q ∈ enL i vs → q.1 < i + vs.length ∧ q.2 ∈ vs
  | [], _, q, h => by simp [enL] at h
  | v :: r, i, q, h => by
    rcases List.mem_cons.mp h with rfl | h
    · exact ⟨by simp, List.mem_cons_self⟩
    · have := enL_mem r (i + 1) q h
      exact ⟨by simp only [List.length_cons]; omega, List.mem_cons_of_mem _ this.2⟩
theorem alk_mem : ∀ {lv : Lv} {i : Nat} {v : Value}, alk i lv = some v → (i, v) ∈ lv
  | [], i, v, h => by simp [alk] at h
  | (j, w) :: r, i, v, h => by
    by_cases hj : j = i
    · subst hj
      rw [alk_s] at h
      cases h
      exact List.mem_cons_self
    · rw [alk_n hj] at h
      exact List.mem_cons_of_mem _ (alk_mem h)
theorem sl_len : ∀ (vs : List Value), (∀ q ∈ vs, q.category = 1) → (lg_sl vs).length = vs.length
  | [], _ => rfl
  | v :: r, h => by
    have h1 := h v List.mem_cons_self
    have h2 := sl_len r (fun q hq => h q (List.mem_cons_of_mem _ hq))
    simp only [lg_sl, List.flatMap_cons, List.length_append, List.length_cons] at h2 ⊢
    rw [h1, if_neg (by decide), h2]
    simp [Nat.add_comm]
theorem lh_entry {av : List Value} {n : Nat} (hc : ∀ q ∈ av, q.category = 1) (hn : av.length ≤ n) : lh ((lg_sl av ++ List.replicate (n - (lg_sl av).length) Slot.unset).toArray) n (enL 0 av) := by
  have h := lv_entry av (n := n) (by rw [sl_len av hc]; exact hn)
  rw [enL_args av 0 hc] at h
  refine ⟨⟨h.1, h.2.1, fun q hq => ?_⟩, fun i v hv => ?_⟩
  · obtain ⟨j, w⟩ := q
    exact h.2.2 _ (alk_mem (flatL_mem.mp hq).2)
  · obtain ⟨a1, a2⟩ := enL_mem av 0 (i, v) (alk_mem hv)
    exact ⟨by simp only at a1; omega, hc _ a2⟩
theorem Ct.of {l : Launch} {D : Dx} {b0 : Nat} {y : MethodName} {cc : ByteArray} {maxL : Nat} {ret : Option FieldType} {rm : Room} {av : List Value} {ad : Nat → Nat} {F : Fn} {Po : Pst} {Px : Pxt} (hy : plainName y.cls = true) (hc : ∀ q ∈ av, q.category = 1) (hn : av.length ≤ maxL)
    (body : ∀ X : Cxt, xD X = D → xb X = b0 → xl X = l → Ok X cc maxL y rm ret [] → Rx X Po Px → V X 0 0 0 (enL 0 av) [] ad F) : Ct l D b0 y (wsA y cc maxL ret) rm av ad F Po Px := by
  intro hl0
  refine vx_ofW hy rfl ?_
  intro p e s m args below meth c s₁ B hml hte hv
  obtain ⟨rfl, hEv, hW⟩ := hv
  have hts := atoms_spec (ws := wsA y cc maxL ret) B.pre
  have K := body (p, l, e, rm, s, m, av.toArray, below, meth, c, maxL, D, b0, vx_MQ below (qcP D b0 Po) (xcP D b0 Px) av.toArray s rm.cells rm.slots (Bo b0)) rfl rfl rfl
    ⟨B.exec, B.bytes, hml, findClass_of_methodNamed B.named, fun w h => hts w (List.mem_cons_of_mem _ h), B.notSynchronized, hEv, rfl, B.returns, List.eq_nil_iff_forall_not_mem.mpr hte, (name_of_methodNamed B.named B.method).1, rfl, hl0⟩ rfl
  rw [lg_entry_eq]
  exact K s.heap [] _ hW va_S.rf (lh_entry hc hn)
theorem Ct.ofH {l : Launch} {D : Dx} {b0 : Nat} {y : MethodName} {cc : ByteArray} {maxL : Nat} {ret : Option FieldType} {hh : List (Nat × Nat × Nat × Nat)} {rm : Room} {av : List Value} {ad : Nat → Nat} {F : Fn} {Po : Pst} {Px : Pxt} (hy : plainName y.cls = true) (hc : ∀ q ∈ av, q.category = 1) (hn : av.length ≤ maxL)
    (body : ∀ X : Cxt, xD X = D → xb X = b0 → xl X = l → Ok X cc maxL y rm ret (tableOf hh) → Rx X Po Px → V X 0 0 0 (enL 0 av) [] ad F) : Ct l D b0 y (wsH y cc maxL ret hh) rm av ad F Po Px := by
  intro hl0
  refine vx_ofWH hy rfl ?_
  intro p e s m args below meth c s₁ B hml hv
  obtain ⟨rfl, hEv, hW⟩ := hv
  have hts := atoms_spec (ws := wsH y cc maxL ret hh) B.pre
  have K := body (p, l, e, rm, s, m, av.toArray, below, meth, c, maxL, D, b0, vx_MQ below (qcP D b0 Po) (xcP D b0 Px) av.toArray s rm.cells rm.slots (Bo b0)) rfl rfl rfl
    ⟨B.exec, B.bytes, hml, findClass_of_methodNamed B.named, fun w h => hts w (List.mem_cons_of_mem _ h), B.notSynchronized, hEv, rfl, B.returns, vx_table (x := y) B (hts _ List.mem_cons_self), (name_of_methodNamed B.named B.method).1, rfl, hl0⟩ rfl
  rw [lg_entry_eq]
  exact K s.heap [] _ hW va_S.rf (lh_entry hc hn)
/-- a contract says less, of a smaller world's facts -/
theorem Ct.weaken {l : Launch} {D : Dx} {b0 : Nat} {y : MethodName} {ws : List Cond} {rm : Room} {av : List Value} {ad : Nat → Nat} {F : Fn} {Po Po' : Pst} {Px Px' : Pxt} (h : Ct l D b0 y ws rm av ad F Po Px) (hp : ∀ v a G, Po v a G → Po' v a G) (hx : ∀ E a G, Px E a G → Px' E a G) : Ct l D b0 y ws rm av ad F Po' Px' := by
  intro hl
  intro p e ha hc hk s m args below hf happ hP hK
  obtain ⟨t, o, h1, h2, h3, h4⟩ := h hl p e ha hc hk s m args below hf happ hP hK
  refine ⟨t, o, h1, h2, h3, ?_⟩
  rcases h4 with ⟨⟨⟨v, a, G, e1, e2, e3⟩, e4⟩, e5⟩ | ⟨q, e0, E, ce, L, ⟨a, G, e1, e2, e3⟩, e5⟩
  · exact Or.inl ⟨⟨⟨v, a, G, e1, hp _ _ _ e2, e3⟩, e4⟩, e5⟩
  · exact Or.inr ⟨q, e0, E, ce, L, ⟨a, G, hx _ _ _ e1, e2, e3⟩, e5⟩
variable {X : Cxt} {cc : ByteArray} {nL : Nat} {y : MethodName} {R : Room} {ret : Option FieldType} {tb : List ExceptionTableEntry} {k n pc : Nat} {lv : Lv} {st : List Value} {ad : Nat → Nat} {F : Fn} {Po : Pst} {Px : Pxt}
/-- the frame, with an exception of the class E over it -/
def VT (X : Cxt) (k n pc : Nat) (lv : Lv) (rest : List Value) (ad : Nat → Nat) (F : Fn) (E : String) : Prop :=
  ∀ (H : Heap) (locs : List Loc) (ls : Array Slot) (q : Addr) (ce : Cell), WD (xD X) (xb X) ad F H → va_S (Bo (xb X)) (xs X).heap H locs → lh ls (xn X) lv → H[q]? = some ce → ce.vm = .none → (xs X).vm.findClass E = some ce.cls →
    vx_W (xp X) (xl X) (xe X) (xR X) (xs X) (xm X) (xa X) (xo X) (xt X) (xc X) H locs k n (xQ X) (F0 (xm X) pc ls rest) q
theorem V_ofRun {mc ms : Nat} {rest : List Value} {a : Array Value} {Po Px} (hr : ∀ (H : Heap) (locs : List Loc) (ls : Array Slot), WD (xD X) (xb X) ad F H → va_S (Bo (xb X)) (xs X).heap H locs → lh ls (xn X) lv →
      vx_Run (xp X) (xl X) (xe X) (xR X) (xs X) (xm X) (xa X) (xo X) (xt X) (xc X) H locs k n mc ms (F0 (xm X) pc ls st) rest (qcP (xD X) (xb X) Po a) (xcP (xD X) (xb X) Px) (Bo (xb X)))
    (Kx : ∀ (E : String) (ad' : Nat → Nat) (F' : Fn), Px E ad' F' → VT X (k + mc) (n + ms) pc lv rest ad' F' E)
    (K : ∀ (v : Option Value) (ad' : Nat → Nat) (F' : Fn), Po v ad' F' → V X (k + mc) (n + ms) (pc + 3) lv (v.toList ++ rest) ad' F') : V X k n pc lv st ad F := by
  intro H locs ls hW hS hl T hT XX
  rcases hr H locs ls hW hS hl T hT XX with ⟨v, st₀, t, T', L, h0, X', hL, e1, e2, ⟨⟨v', ad', F', hv, hp, hw⟩, hF⟩, go⟩ | ⟨q, st₀, t, T', L, E, ce, h0, X', hL, e1, e2, ⟨ad', F', hp, hw, hF⟩, hce, hcv, hcl, go⟩
  · cases hv
    obtain ⟨k1, k2, k3⟩ := vx_keep h0 e1 hS (fun _ _ h => h) (fun _ h => h) hL hF
    obtain ⟨t2, a1, b1⟩ := K v ad' F' hp T'.heap (locs ++ L) ls (by rw [e1]; exact hw) k3 hl T' rfl X'
    exact ⟨t2, go t2 a1, b1⟩
  · obtain ⟨k1, k2, k3⟩ := vx_keep h0 e1 hS (fun _ _ h => h) (fun _ h => h) hL hF
    obtain ⟨t2, a1, b1⟩ := Kx E ad' F' hp T'.heap (locs ++ L) ls q ce (by rw [e1]; exact hw) k3 hl (by rw [e1]; exact hce) hcv hcl T' rfl X'
    exact ⟨t2, go.trans a1, b1⟩
theorem pre_blind {D : Dx} {b0 : Nat} {av : List Value} : FrameBlind (va_Pc av (fun U => Ev D b0 U ∧ WD D b0 ad F U.heap)) := fun _ _ _ _ h => ⟨h.1, h.2.1.blind, h.2.2⟩
theorem pre_at (C : Ok X cc nL y R ret tb) {H : Heap} {locs : List Loc} {av : List Value} (hW : WD (xD X) (xb X) ad F H) (hS : va_S (Bo (xb X)) (xs X).heap H locs) : ∀ U : State, U.heap = H → (xs X).WarmedH U.vm → va_Pc av (fun U => Ev (xD X) (xb X) U ∧ WD (xD X) (xb X) ad F U.heap) av.toArray U :=
  fun U hU hWm => ⟨rfl, C.ev.moved hWm (by rw [hU]; exact hS.1) (fun q h1 h2 => by rw [hU]; exact hS.2.1 q h1 h2), by rw [hU]; exact hW⟩
theorem goodALL : GoodIn ALL ALL := goodIn_sub (fun _ h => h) (by decide +kernel)
/-- what a caller of the class own needs of the method yc, by its pool's entry idx -/
def MB (yc : MethodName) (bytes : ByteArray) (maxL : Nat) (retc : Option FieldType) (na : Nat) : Prop := Cond.code yc bytes maxL retc ∈ ALL ∧ Cond.initialized yc.cls ∈ ALL ∧
  (yc.cls ≠ "java/lang/invoke/MethodHandle" ∧ yc.cls ≠ "java/lang/invoke/VarHandle" ∧ (parseMethodDescriptor yc.desc).map (fun d => d.parameters.length) = some na)
def MV (own : String) (idx : Nat) (yc : MethodName) (bytes : ByteArray) (maxL : Nat) (retc : Option FieldType) (na : Nat) : Prop := MB yc bytes maxL retc na ∧ Cond.methodLink own idx yc ∈ ALL ∧ Cond.instanceMethod yc ∈ ALL ∧ Cond.selects yc.cls yc yc ∈ ALL
def MS (own : String) (idx : Nat) (yc : MethodName) (bytes : ByteArray) (maxL : Nat) (retc : Option FieldType) (na : Nat) : Prop := MB yc bytes maxL retc na ∧ Cond.methodLink own idx yc ∈ ALL ∧ Cond.static yc ∈ ALL
def MI (own : String) (idx : Nat) (yc : MethodName) (bytes : ByteArray) (maxL na : Nat) : Prop := MB yc bytes maxL none na ∧ yc.name = "<init>" ∧ Cond.instanceMethod yc ∈ ALL ∧ (Cond.methodLink own idx yc ∈ ALL ∨ (own, idx, yc) ∈ nestM)
def MH (own : String) (idx : Nat) (yc : MethodName) (bytes : ByteArray) (maxL : Nat) (retc : Option FieldType) (hh : List (Nat × Nat × Nat × Nat)) (na : Nat) : Prop := Cond.codeWith yc bytes maxL retc hh ∈ ALL ∧ Cond.initialized yc.cls ∈ ALL ∧
  (yc.cls ≠ "java/lang/invoke/MethodHandle" ∧ yc.cls ≠ "java/lang/invoke/VarHandle" ∧ (parseMethodDescriptor yc.desc).map (fun d => d.parameters.length) = some na) ∧ Cond.methodLink own idx yc ∈ ALL ∧ Cond.static yc ∈ ALL
theorem MB.good {yc : MethodName} {bytes : ByteArray} {maxL na : Nat} {retc : Option FieldType} (h : MB yc bytes maxL retc na) : GoodIn ALL (wsA yc bytes maxL retc) := fun w hw => by
  rcases List.mem_cons.mp hw with rfl | hw
  · exact goodALL _ h.1
  · exact goodALL _ hw
theorem MB.callB (C : Ok X cc nL y R ret tb) {idx maxL na : Nat} {yc : MethodName} {bytes : ByteArray} {retc : Option FieldType} {rm : Room} (h : MB yc bytes maxL retc na) (hl : Cond.methodLink y.cls idx yc ∈ ALL) (hR : rm.frames + 1 ≤ R.frames ∧ 8 + (maxL + 11) + rm.locals ≤ R.locals) : CallB (xR X) (xs X) (xa X) y.cls idx yc bytes maxL retc (wsA yc bytes maxL retc) rm rm.cells rm.slots na :=
  callB_of na C.ts h.good rfl rfl rfl (C.ts _ h.2.1) (C.ts _ hl) h.2.2 (by rw [C.room]; exact hR)
theorem V_invV {idx maxL c0 ci : Nat} {yc : MethodName} {bytes : ByteArray} {retc : Option FieldType} {rm : Room} {As rest fs : List Value} {T : u_T} {N : Nat} {Pc Xc} (C : Ok X cc nL y R ret tb) (d : decode cc pc = .ok (.invokevirtual idx, 3))
    (hc : F c0 = some (oB ci fs)) (hcl : vwCl[ci]? = some (yc.cls, T, N)) (hM : Ct (xl X) (xD X) (xb X) yc (wsA yc bytes maxL retc) rm (.ref (ad c0) :: As) ad F Pc Xc) (hg : MV y.cls idx yc bytes maxL retc As.length) (hst : st = As.reverse ++ .ref (ad c0) :: rest)
    (hcat : (rest.map fun v => v.category).sum ≤ 8) (hR : rm.frames + 1 ≤ R.frames ∧ 8 + (maxL + 11) + rm.locals ≤ R.locals) (hk : k + rm.cells ≤ R.cells ∧ n + rm.slots ≤ R.slots)
    (Kx : ∀ (E : String) (ad' : Nat → Nat) (F' : Fn), Xc E ad' F' → VT X (k + rm.cells) (n + rm.slots) pc lv rest ad' F' E)
    (K : ∀ (v : Option Value) (ad' : Nat → Nat) (F' : Fn), Pc v ad' F' → V X (k + rm.cells) (n + rm.slots) (pc + 3) lv (v.toList ++ rest) ad' F') : V X k n pc lv st ad F := by
  subst hst
  refine V_ofRun (a := (Value.ref (ad c0) :: As).toArray) (fun H locs ls hW hS hl => ?_) Kx K
  obtain ⟨⟨ws, hP, hD, hw⟩, -⟩ := id hW
  obtain ⟨i, hx⟩ := hw _ _ hc
  exact vx_runV ⟨C.1, C.2.1, C.2.2.1, C.own, C.ts⟩ (hM C.notr) ⟨hg.1.callB C hg.2.1 hR, C.ts _ hg.2.2.1, C.ts _ hg.2.2.2⟩ ⟨pre_blind, va_recv C.ev.1 hP hcl hx, pre_at C hW hS⟩ rfl rfl hl.1.1 rfl (by show 2 * 0 + _ ≤ 8; omega) d (by rw [C.room]; exact hk)
theorem V_invS {idx maxL : Nat} {yc : MethodName} {bytes : ByteArray} {retc : Option FieldType} {rm : Room} {As rest : List Value} {Pc Xc} (C : Ok X cc nL y R ret tb) (d : decode cc pc = .ok (.invokestatic idx, 3))
    (hM : Ct (xl X) (xD X) (xb X) yc (wsA yc bytes maxL retc) rm As ad F Pc Xc) (hg : MS y.cls idx yc bytes maxL retc As.length) (hst : st = As.reverse ++ rest)
    (hcat : (rest.map fun v => v.category).sum ≤ 8) (hR : rm.frames + 1 ≤ R.frames ∧ 8 + (maxL + 11) + rm.locals ≤ R.locals) (hk : k + rm.cells ≤ R.cells ∧ n + rm.slots ≤ R.slots)
    (Kx : ∀ (E : String) (ad' : Nat → Nat) (F' : Fn), Xc E ad' F' → VT X (k + rm.cells) (n + rm.slots) pc lv rest ad' F' E)
    (K : ∀ (v : Option Value) (ad' : Nat → Nat) (F' : Fn), Pc v ad' F' → V X (k + rm.cells) (n + rm.slots) (pc + 3) lv (v.toList ++ rest) ad' F') : V X k n pc lv st ad F := by
  subst hst
  refine V_ofRun (a := As.toArray) (fun H locs ls hW hS hl => ?_) Kx K
  exact vx_runS ⟨C.1, C.2.1, C.2.2.1, C.own, C.ts⟩ (hM C.notr) ⟨hg.1.callB C hg.2.1 hR, C.ts _ hg.2.2⟩ ⟨pre_blind, pre_at C hW hS⟩ rfl rfl hl.1.1 rfl (by show 2 * 0 + _ ≤ 8; omega) d (by rw [C.room]; exact hk)
theorem V_invH {idx maxL : Nat} {yc : MethodName} {bytes : ByteArray} {retc : Option FieldType} {hh : List (Nat × Nat × Nat × Nat)} {rm : Room} {As rest : List Value} {Pc Xc} (C : Ok X cc nL y R ret tb) (d : decode cc pc = .ok (.invokestatic idx, 3))
    (hM : Ct (xl X) (xD X) (xb X) yc (wsH yc bytes maxL retc hh) rm As ad F Pc Xc) (hg : MH y.cls idx yc bytes maxL retc hh As.length) (hst : st = As.reverse ++ rest)
    (hcat : (rest.map fun v => v.category).sum ≤ 8) (hR : rm.frames + 1 ≤ R.frames ∧ 8 + (maxL + 11) + rm.locals ≤ R.locals) (hk : k + rm.cells ≤ R.cells ∧ n + rm.slots ≤ R.slots)
    (Kx : ∀ (E : String) (ad' : Nat → Nat) (F' : Fn), Xc E ad' F' → VT X (k + rm.cells) (n + rm.slots) pc lv rest ad' F' E)
    (K : ∀ (v : Option Value) (ad' : Nat → Nat) (F' : Fn), Pc v ad' F' → V X (k + rm.cells) (n + rm.slots) (pc + 3) lv (v.toList ++ rest) ad' F') : V X k n pc lv st ad F := by
  subst hst
  refine V_ofRun (a := As.toArray) (fun H locs ls hW hS hl => ?_) Kx K
  obtain ⟨h1, h2, h3, h4, h5⟩ := hg
  have hG : GoodIn ALL (va_wsS y.cls idx yc (wsH yc bytes maxL retc hh)) := fun w hw => by
    unfold va_wsS at hw
    simp only [List.mem_append, List.mem_cons, List.not_mem_nil, or_false] at hw
    rcases hw with (rfl | rfl | rfl) | rfl | hw
    · exact goodALL _ h4
    · exact goodALL _ h5
    · exact goodALL _ h2
    · exact goodALL _ h1
    · exact goodALL _ hw
  exact vx_runSX ⟨C.1, C.2.1, C.2.2.1, C.own, C.ts⟩ (hM C.notr) (vx_cwSW As.length C.ts hG rfl rfl rfl h3 (by rw [C.room]; exact hR)) ⟨pre_blind, pre_at C hW hS⟩ rfl rfl hl.1.1 rfl (by show 2 * 0 + _ ≤ 8; omega) d (by rw [C.room]; exact hk)
theorem V_invI {idx maxL b : Nat} {yc : MethodName} {bytes : ByteArray} {rm : Room} {As rest : List Value} {Pc Xc} (C : Ok X cc nL y R ret tb) (d : decode cc pc = .ok (.invokespecial idx, 3))
    (hM : Ct (xl X) (xD X) (xb X) yc (wsA yc bytes maxL none) rm (.ref b :: As) ad F Pc Xc) (hg : MI y.cls idx yc bytes maxL As.length) (hst : st = As.reverse ++ .ref b :: rest)
    (hcat : (rest.map fun v => v.category).sum ≤ 8) (hR : rm.frames + 1 ≤ R.frames ∧ 8 + (maxL + 11) + rm.locals ≤ R.locals) (hk : k + rm.cells ≤ R.cells ∧ n + rm.slots ≤ R.slots)
    (Kx : ∀ (E : String) (ad' : Nat → Nat) (F' : Fn), Xc E ad' F' → VT X (k + rm.cells) (n + rm.slots) pc lv rest ad' F' E)
    (K : ∀ (v : Option Value) (ad' : Nat → Nat) (F' : Fn), Pc v ad' F' → V X (k + rm.cells) (n + rm.slots) (pc + 3) lv (v.toList ++ rest) ad' F') : V X k n pc lv st ad F := by
  subst hst
  refine V_ofRun (a := (Value.ref b :: As).toArray) (fun H locs ls hW hS hl => ?_) Kx K
  obtain ⟨h1, h2, h3, h4⟩ := hg
  rcases h4 with h4 | h4
  · exact vx_runI ⟨C.1, C.2.1, C.2.2.1, C.own, C.ts⟩ (hM C.notr) ⟨h1.callB C h4 hR, h2, C.ts _ h3⟩ ⟨pre_blind, pre_at C hW hS⟩ rfl rfl hl.1.1 rfl (by show 2 * 0 + _ ≤ 8; omega) d (by rw [C.room]; exact hk)
  · exact vx_runIN ⟨C.1, C.2.1, C.2.2.1, C.own, C.ts⟩ (hM C.notr) ⟨va_cnB As.length C.ts h1.good rfl rfl rfl (C.ev.2.2.1 _ h4) (C.ts _ h1.2.1) h1.2.2 (by rw [C.room]; exact hR), h2, C.ts _ h3⟩ ⟨pre_blind, pre_at C hW hS⟩ rfl rfl hl.1.1 rfl (by show 2 * 0 + _ ≤ 8; omega) d (by rw [C.room]; exact hk)
theorem VT_no {E : String} {rest : List Value} : noX E ad F → VT X k n pc lv rest ad F E := fun h => h.elim
theorem V_objInit {idx b : Nat} (C : Ok X cc nL y R ret tb) (d : decode cc pc = .ok (.invokespecial idx, 3)) (h1 : Cond.methodLink y.cls idx objectInit ∈ ALL) (h2 : Cond.instanceMethod objectInit ∈ ALL) (h3 : Cond.code objectInit ⟨#[0xb1]⟩ 1 none ∈ ALL) (hf : 1 ≤ R.frames) (hlo : 12 ≤ R.locals) (hst : st = []) (K : V X k n (pc + 3) lv st ad F) : V X k n pc lv (.ref b :: st) ad F := by
  subst hst
  intro H locs ls hW hS hl
  refine W.objInit C.1 C.2.1 C.own (C.ts _ h1) (C.ts _ h2) (C.ts _ h3) rfl (by rw [C.2.2.1]; exact hl.1.1) rfl d (by rw [C.room]; exact hf) (by rw [C.room]; exact hlo) ?_
  exact K H locs ls hW hS hl
theorem V_ireturn {v : Int32} {ty : FieldType} (C : Ok X cc nL y R (some ty) tb) (Q : Rx X Po Px) (d : decode cc pc = .ok (.ireturn, 1)) (hn : narrow ty (.int v) = .int v) (hk : k ≤ R.cells) (hs : n ≤ R.slots) (h : Po (some (.int v)) ad F) : V X k n pc lv [.int v] ad F := by
  intro H locs ls hW hS hl
  rw [Q, C.room]
  refine W.widen hk hs (vx_ret ?_)
  exact W.zret C.1 C.2.1 C.rty hn (fun t ht _ => ⟨⟨_, ad, F, rfl, h, by rw [ht]; exact hW⟩, hS.F ht⟩) hS.2.2 d C.2.2.2.2.2.1
theorem V_return (C : Ok X cc nL y R none tb) (Q : Rx X Po Px) (d : decode cc pc = .ok (.return_, 1)) (hk : k ≤ R.cells) (hs : n ≤ R.slots) (h : Po none ad F) : V X k n pc lv [] ad F := by
  intro H locs ls hW hS hl
  rw [Q, C.room]
  refine W.widen hk hs (vx_ret ?_)
  exact W.vret C.1 C.2.1 C.rty (fun t ht _ => ⟨⟨_, ad, F, rfl, h, by rw [ht]; exact hW⟩, hS.F ht⟩) hS.2.2 d C.2.2.2.2.2.1
theorem V_areturn {v : Value} {ty : FieldType} (C : Ok X cc nL y R (some ty) tb) (Q : Rx X Po Px) (d : decode cc pc = .ok (.areturn, 1)) (hty : (∃ n, ty = .object n) ∨ ∃ t, ty = .array t) (hv : v = .null ∨ ∃ a, v = .ref a) (hk : k ≤ R.cells) (hs : n ≤ R.slots) (h : Po (some v) ad F) : V X k n pc lv [v] ad F := by
  intro H locs ls hW hS hl
  rw [Q, C.room]
  refine W.widen hk hs (vx_ret ?_)
  exact W.aret C.1 C.2.1 C.rty hty hv (fun t ht _ => ⟨⟨_, ad, F, rfl, h, by rw [ht]; exact hW⟩, hS.F ht⟩) hS.2.2 d C.2.2.2.2.2.1
theorem VT_out {E : String} {rest : List Value} (C : Ok X cc nL y R ret []) (Q : Rx X Po Px) (hk : k ≤ R.cells) (hs : n ≤ R.slots) (h : Px E ad F) : VT X k n pc lv rest ad F E := by
  intro H locs ls q ce hW hS hl h1 h2 h3
  rw [Q, C.room]
  exact vx_out (by rw [C.tab]; exact fun _ h => nomatch h) C.2.2.2.2.2.1 h1 h2 h3 (fun t ht _ => ⟨ad, F, h, by rw [ht]; exact hW, hS.F ht⟩) hS.2.2 hk hs
theorem VT_catch {E : String} {rest : List Value} (pre : List ExceptionTableEntry) (x : ExceptionTableEntry) (suf : List ExceptionTableEntry) (C : Ok X cc nL y R ret tb) (hsplit : tb = pre ++ x :: suf) (hpass : ∀ z ∈ pre, covers z pc = false ∨ (z.catchType ≠ 0 ∧ ∃ nm : String, Cond.classLink y.cls z.catchType nm ∈ ALL ∧ (E, nm) ∈ notC)) (hx : covers x pc = true) (h0 : x.catchType ≠ 0) (hl : Cond.classLink y.cls x.catchType E ∈ ALL) (hE : E ∈ excW) (K : ∀ q : Nat, V X k n x.handlerPc lv [.ref q] ad F) : VT X k n pc lv rest ad F E := by
  intro H locs ls q ce hW hS hlh h1 h2 h3
  exact vx_catch C.own pre x suf (C.tab.trans hsplit) (fun z hz => (hpass z hz).imp id fun h => ⟨h.1, h.2.imp fun nm hn => ⟨C.ts _ hn.1, C.ev.2.2.2.2.1 _ hn.2⟩⟩) hx h0 (C.ts _ hl) (va_Nw.use rfl (C.ev.2.2.2.2.2.1.1 _ hE)) h1 h2 h3 (K q H locs ls hW hS hlh)
def exN : List String := ["java/lang/RuntimeException", "java/lang/Exception"]
/-- the words of 'throw new E(text)' -/
def TH (ik is ic : Nat) (E text : String) : Prop := Bundle.fit E = true ∧ Cond.classLink RX6 ik E ∈ ALL ∧ Cond.initialized E ∈ ALL ∧ (is, text) ∈ strW ∧ E ∈ excW ∧ (∀ w ∈ (vx_atS RX6 ic E exN).filter goodWord, w ∈ ALL) ∧ (∀ w ∈ (vx_atS RX6 ic E exN).filter (fun w => !goodWord w), w ∈ Cond.castable E E :: decW.map Cond.declares) ∧ (∀ w ∈ Cond.classLink RX6 ik E :: Cond.initialized E :: vx_atS RX6 ic E exN, vx_ot w = true)
theorem TH.hat {ik is ic : Nat} {E text : String} (C : Ok X cc nL y R ret tb) (h : TH ik is ic E text) : ∀ w ∈ vx_atS RX6 ic E exN, w.before (xa X) (xs X) = true :=
  vx_hat (fun w hw => C.ts _ (h.2.2.2.2.2.1 w hw)) h.2.2.2.2.2.2.1 (vx_c (va_Nw.use rfl (C.ev.2.2.2.2.2.1.1 _ h.2.2.2.2.1)) (fun w hw => by
    obtain ⟨q, hq, rfl⟩ := List.mem_map.mp hw
    exact va_Nw.use rfl (C.ev.2.2.2.2.2.1.2.1 _ hq)))
theorem exN_fit : ∀ n ∈ exN, Bundle.fit n = true := by decide +kernel
theorem V_throwS {ik is ic : Nat} {E text : String} (C : Ok X cc nL y R ret []) (Q : Rx X Po Px) (ho : y.cls = RX6) (h : TH ik is ic E text)
    (d0 : decode cc pc = .ok (.new ik, 3)) (d3 : decode cc (pc + 3) = .ok (.dup, 1)) (d4 : decode cc (pc + 4) = .ok (.ldc is, 2)) (d6 : decode cc (pc + 6) = .ok (.invokespecial ic, 3)) (d9 : decode cc (pc + 9) = .ok (.athrow, 1))
    (hR : 5 < R.frames ∧ (st.map fun v => v.category).sum + 82 ≤ R.locals) (hk : k + 1 ≤ R.cells) (hs : n + 6 ≤ R.slots) (hp : Px E ad F) : V X k n pc lv st ad F := by
  intro H locs ls hW hS hl
  obtain ⟨a, ha⟩ := C.ev.2.2.2.1 _ h.2.2.2.1
  have hown : (xs X).vm.findClass RX6 = some (xm X).cls := by rw [← ho]; exact C.own
  rw [Q, C.room]
  refine vx_throwS (names := exN) C.1 C.2.1 C.notr hown h.1 exN_fit (C.ts _ h.2.1) (C.ts _ h.2.2.1) ha (h.hat C) h.2.2.2.2.2.2.2 C.ev.2.2.2.2.2.2.2.1 C.ev.2.2.2.2.2.2.2.2.1 hS (by rw [C.2.2.1]; exact hl.1.1) d0 d3 d4 d6 d9 (by rw [C.tab]; exact fun _ h => nomatch h) ?_ ?_ hk hs C.2.2.2.2.2.1 (fun t _ h1 h2 => ⟨ad, F, hp, hW.kept h2, ⟨Nat.le_trans hS.1 h1, fun q g1 g2 => (h2 q (Nat.lt_of_lt_of_le g1 hS.1)).trans (hS.2.1 q g1 g2)⟩⟩) hS.2.2 hk hs
  · exact hR.1
  · exact hR.2
theorem V_throwSW {ik is ic : Nat} {E text : String} (C : Ok X cc nL y R ret []) (Q : Rx X Po Px) (ho : y.cls = RX6) (h : TH ik is ic E text)
    (d0 : decode cc pc = .ok (.new ik, 3)) (d3 : decode cc (pc + 3) = .ok (.dup, 1)) (d4 : decode cc (pc + 4) = .ok (.ldc_w is, 3)) (d7 : decode cc (pc + 7) = .ok (.invokespecial ic, 3)) (d10 : decode cc (pc + 10) = .ok (.athrow, 1))
    (hR : 5 < R.frames ∧ (st.map fun v => v.category).sum + 82 ≤ R.locals) (hk : k + 1 ≤ R.cells) (hs : n + 6 ≤ R.slots) (hp : Px E ad F) : V X k n pc lv st ad F := by
  intro H locs ls hW hS hl
  obtain ⟨a, ha⟩ := C.ev.2.2.2.1 _ h.2.2.2.1
  have hown : (xs X).vm.findClass RX6 = some (xm X).cls := by rw [← ho]; exact C.own
  rw [Q, C.room]
  refine vx_throwSW (names := exN) C.1 C.2.1 C.notr hown h.1 exN_fit (C.ts _ h.2.1) (C.ts _ h.2.2.1) ha (h.hat C) h.2.2.2.2.2.2.2 C.ev.2.2.2.2.2.2.2.1 C.ev.2.2.2.2.2.2.2.2.1 hS (by rw [C.2.2.1]; exact hl.1.1) d0 d3 d4 d7 d10 (by rw [C.tab]; exact fun _ h => nomatch h) ?_ ?_ hk hs C.2.2.2.2.2.1 (fun t _ h1 h2 => ⟨ad, F, hp, hW.kept h2, ⟨Nat.le_trans hS.1 h1, fun q g1 g2 => (h2 q (Nat.lt_of_lt_of_le g1 hS.1)).trans (hS.2.1 q g1 g2)⟩⟩) hS.2.2 hk hs
  · exact hR.1
  · exact hR.2
/-! System.arraycopy of ints, Math.min -/
theorem V_copyi {idx ca cb na nb sp dp m : Nat} {f g : Nat → Int32} {isp idp im : Int32} (C : Ok X cc nL y R ret tb) (d : decode cc pc = .ok (.invokestatic idx, 3)) (h1 : Cond.methodLink y.cls idx arraycopyName ∈ ALL) (h2 : Cond.native arraycopyName ∈ ALL) (h3 : Cond.static arraycopyName ∈ ALL) (h4 : Cond.initialized "java/lang/System" ∈ ALL)
    (ha : F ca = some (aI (xD X) na f)) (hb : F cb = some (aI (xD X) nb g)) (e1 : isp = nI sp) (e2 : idp = nI dp) (e3 : im = nI m) (l1 : sp + m ≤ na) (l2 : dp + m ≤ nb) (hN : na < 2 ^ 31 ∧ nb < 2 ^ 31) (hf : 1 ≤ R.frames) (hlo : (st.map fun v => v.category).sum + (nativeFrameWords "java/lang/System" "arraycopy" 5 + 11) ≤ R.locals)
    (K : V X k n (pc + 3) lv st ad (va_up F cb (some (aI (xD X) nb (va_cpy f g sp dp m))))) : V X k n pc lv (.int im :: .int idp :: .ref (ad cb) :: .int isp :: .ref (ad ca) :: st) ad F := by
  intro H locs ls hW hS hl
  obtain ⟨⟨ws, hP, hD, hw⟩, hin⟩ := id hW
  obtain ⟨pa, hxa⟩ := hw _ _ ha
  obtain ⟨pb, hxb⟩ := hw _ _ hb
  subst e1; subst e2; subst e3
  have c1 : (nI sp).toNatClampNeg = sp := nI_clamp (by omega)
  have c2 : (nI dp).toNatClampNeg = dp := nI_clamp (by omega)
  have c3 : (nI m).toNatClampNeg = m := nI_clamp (by omega)
  have hR := C.room
  refine va_copyi C.1 C.2.1 (by rw [C.2.2.1]; exact hl.1.1.symm) C.own (C.ts _ h1) (C.ts _ h2) (C.ts _ h3) (C.ts _ h4) C.ev.1 hP hD hS pa pb 0 0 hxa hxb rfl rfl rfl (nI_pos (by omega)) (nI_pos (by omega)) (nI_pos (by omega)) (by rw [c1, c3]; exact l1) (by rw [c2, c3]; exact l2) (fun _ _ => rfl) (by rw [hR]; exact hf) (by rw [hR]; exact hlo) d (fun H1 locs1 hP1 hD1 hS1 => ?_)
  rw [c1, c2, c3] at hP1 hD1
  exact K H1 locs1 ls (WD.put hin hw hb hxb hP1 hD1) hS1 hl
theorem V_min {idx : Nat} {x z : Int32} (C : Ok X cc nL y R ret tb) (d : decode cc pc = .ok (.invokestatic idx, 3)) (h1 : Cond.methodLink y.cls idx Lib.Math.min.name ∈ ALL) (h2 : Cond.static Lib.Math.min.name ∈ ALL) (h3 : Cond.initialized "java/lang/Math" ∈ ALL) (h4 : Cond.code Lib.Math.min.name Lib.Math.min.code 2 (some .int) ∈ ALL)
    (hf : 1 ≤ R.frames) (hlo : (st.map fun v => v.category).sum + 13 ≤ R.locals) (hk : k ≤ R.cells) (hs : n ≤ R.slots) (K : V X k n (pc + 3) lv (.int (if z < x then z else x) :: st) ad F) : V X k n pc lv (.int z :: .int x :: st) ad F := by
  intro H locs ls hW hS hl
  have hR := C.room
  exact va_mmin C.1 C.2.1 (by rw [C.2.2.1]; exact hl.1.1.symm) C.own (C.ts _ h1) (C.ts _ h2) (C.ts _ h3) (C.ts _ h4) (by rw [hR]; exact hf) (by rw [hR]; exact hlo) (by rw [hR]; exact hk) (by rw [hR]; exact hs) d (K H locs ls hW hS hl)
/-! stores whose world gets a name -/
theorem up_or {F F' : Fn} {c0 : Nat} {e : va_E} (h : F' = va_up F c0 (some e)) : F' c0 = some e ∧ ∀ c : Nat, c ≠ c0 → F' c = F c := by
  subst h
  exact ⟨up_s, fun c hc => up_n hc⟩
theorem fr_step {F F0 F1 : Fn} {c0 : Nat} {L : List Nat} (h : ∀ c : Nat, c ∉ L → F c = F0 c) (h1 : ∀ c : Nat, c ≠ c0 → F1 c = F c) (hm : c0 ∈ L) : ∀ c : Nat, c ∉ L → F1 c = F0 c := fun c hc => (h1 c (fun e => hc (e ▸ hm))).trans (h c hc)
theorem fr_join {F F0 F1 : Fn} {L L1 : List Nat} (h : ∀ c : Nat, c ∉ L → F c = F0 c) (h1 : ∀ c : Nat, c ∉ L1 → F1 c = F c) (hm : ∀ c ∈ L1, c ∈ L) : ∀ c : Nat, c ∉ L → F1 c = F0 c := fun c hc => (h1 c (fun e => hc (hm c e))).trans (h c hc)
theorem G_put {idx ci kf c0 : Nat} {fs : List Value} {v : Value} {ty : FieldType} (C : Ok X cc nL y R ret tb) (d : decode cc pc = .ok (.putfield idx, 3)) (hf : FP y.cls idx ci kf false ty) (hc : F c0 = some (oB ci fs)) (hn : narrow ty v = v) (hfit : fits ty v = true) (hlt : kf < fs.length) (K : ∀ F' : Fn, F' c0 = some (oB ci (fs.set kf v)) → (∀ c : Nat, c ≠ c0 → F' c = F c) → V X k n (pc + 3) lv st ad F') : V X k n pc lv (v :: .ref (ad c0) :: st) ad F :=
  V_put C d hf hc hn hfit hlt (K _ (up_or rfl).1 (up_or rfl).2)
theorem G_putF {idx ci kf c0 : Nat} {fs : List Value} {v : Value} {ty : FieldType} (C : Ok X cc nL y R ret tb) (hin : y.name = "<init>") (d : decode cc pc = .ok (.putfield idx, 3)) (hf : FP y.cls idx ci kf true ty) (hc : F c0 = some (oB ci fs)) (hn : narrow ty v = v) (hfit : fits ty v = true) (hlt : kf < fs.length) (K : ∀ F' : Fn, F' c0 = some (oB ci (fs.set kf v)) → (∀ c : Nat, c ≠ c0 → F' c = F c) → V X k n (pc + 3) lv st ad F') : V X k n pc lv (v :: .ref (ad c0) :: st) ad F :=
  V_putF C hin d hf hc hn hfit hlt (K _ (up_or rfl).1 (up_or rfl).2)
theorem G_iast {c0 N j : Nat} {f : Nat → Int32} {i x : Int32} (C : Ok X cc nL y R ret tb) (d : decode cc pc = .ok (.iastore, 1)) (hc : F c0 = some (aI (xD X) N f)) (hi : i = nI j) (hj : j < N) (hN : N < 2 ^ 31) (K : ∀ F' : Fn, F' c0 = some (aI (xD X) N (upd f j x)) → (∀ c : Nat, c ≠ c0 → F' c = F c) → V X k n (pc + 1) lv st ad F') : V X k n pc lv (.int x :: .int i :: .ref (ad c0) :: st) ad F :=
  V_iast C d hc hi hj hN (K _ (up_or rfl).1 (up_or rfl).2)
theorem G_aast {t c0 cv ci N j : Nat} {r : vw_C} {vs : List Value} {f : Nat → Option Nat} {i : Int32} (C : Ok X cc nL y R ret tb) (d : decode cc pc = .ok (.aastore, 1)) (hc : F c0 = some (aQ (xD X) t N f)) (ht : (tysD (xD X).2.2.1)[t]? = some ((xD X).2.2.1 t, .object r.1)) (hv : F cv = some (oB ci vs)) (hcl : vwCl[ci]? = some r) (hi : i = nI j) (hj : j < N) (hN : N < 2 ^ 31) (K : ∀ F' : Fn, F' c0 = some (aQ (xD X) t N (va_up f j (some (ad cv)))) → (∀ c : Nat, c ≠ c0 → F' c = F c) → V X k n (pc + 1) lv st ad F') : V X k n pc lv (.ref (ad cv) :: .int i :: .ref (ad c0) :: st) ad F :=
  V_aast C d hc ht hv hcl hi hj hN (K _ (up_or rfl).1 (up_or rfl).2)
theorem G_aastN {t c0 N j : Nat} {Cn : String} {f : Nat → Option Nat} {i : Int32} (C : Ok X cc nL y R ret tb) (d : decode cc pc = .ok (.aastore, 1)) (hc : F c0 = some (aQ (xD X) t N f)) (ht : (tysD (xD X).2.2.1)[t]? = some ((xD X).2.2.1 t, .object Cn)) (hi : i = nI j) (hj : j < N) (hN : N < 2 ^ 31) (K : ∀ F' : Fn, F' c0 = some (aQ (xD X) t N (va_up f j none)) → (∀ c : Nat, c ≠ c0 → F' c = F c) → V X k n (pc + 1) lv st ad F') : V X k n pc lv (.null :: .int i :: .ref (ad c0) :: st) ad F :=
  V_aastN C d hc ht hi hj hN (K _ (up_or rfl).1 (up_or rfl).2)
/-- a new cell, at an address that is told apart: the world and the addresses get names -/
theorem G_new {idx ci N : Nat} {fs : List Value} (c0 : Nat) (C : Ok X cc nL y R ret tb) (d : decode cc pc = .ok (.new idx, 3)) (hf : NW y.cls idx ci N fs) (hc : F c0 = none) (h1 : k + 1 ≤ R.cells) (h2 : n + N ≤ R.slots) (K : ∀ (ad' : Nat → Nat) (F' : Fn), (∀ c : Nat, c ≠ c0 → ad' c = ad c) → F' c0 = some (oB ci fs) → (∀ c : Nat, c ≠ c0 → F' c = F c) → V X (k + 1) (n + N) (pc + 3) lv (.ref (ad' c0) :: st) ad' F') : V X k n pc lv st ad F :=
  V_new c0 C d hf hc h1 h2 (fun q => by have h := K (va_up ad c0 q) _ (fun c hc => up_n hc) (up_or rfl).1 (up_or rfl).2; rwa [up_s] at h)
theorem G_newi {N : Nat} {i : Int32} (c0 : Nat) (C : Ok X cc nL y R ret tb) (d : decode cc pc = .ok (.newarray .int, 2)) (hA : Cond.arrayClass .int ∈ ALL) (hc : F c0 = none) (hi : i = nI N) (hN : N * 4 ≤ 536870912) (h1 : k + 1 ≤ R.cells) (h2 : n + N ≤ R.slots) (K : ∀ (ad' : Nat → Nat) (F' : Fn), (∀ c : Nat, c ≠ c0 → ad' c = ad c) → F' c0 = some (aI (xD X) N (fun _ => 0)) → (∀ c : Nat, c ≠ c0 → F' c = F c) → V X (k + 1) (n + N) (pc + 2) lv (.ref (ad' c0) :: st) ad' F') : V X k n pc lv (.int i :: st) ad F :=
  V_newi c0 C d hA hc hi hN h1 h2 (fun q => by have h := K (va_up ad c0 q) _ (fun c hc => up_n hc) (up_or rfl).1 (up_or rfl).2; rwa [up_s] at h)
theorem G_newq {idx t N : Nat} {Cn : String} {i : Int32} (c0 : Nat) (C : Ok X cc nL y R ret tb) (d : decode cc pc = .ok (.anewarray idx, 3)) (hA : Cond.classLink y.cls idx Cn ∈ ALL) (hao : va_AO Cn (xs X)) (ht : (tysD (xD X).2.2.1)[t]? = some ((xD X).2.2.1 t, .object Cn)) (hc : F c0 = none) (hi : i = nI N) (hN : N * 4 ≤ 536870912) (h1 : k + 1 ≤ R.cells) (h2 : n + N ≤ R.slots) (K : ∀ (ad' : Nat → Nat) (F' : Fn), (∀ c : Nat, c ≠ c0 → ad' c = ad c) → F' c0 = some (aQ (xD X) t N (fun _ => none)) → (∀ c : Nat, c ≠ c0 → F' c = F c) → V X (k + 1) (n + N) (pc + 3) lv (.ref (ad' c0) :: st) ad' F') : V X k n pc lv (.int i :: st) ad F :=
  V_newq c0 C d hA hao ht hc hi hN h1 h2 (fun q => by have h := K (va_up ad c0 q) _ (fun c hc => up_n hc) (up_or rfl).1 (up_or rfl).2; rwa [up_s] at h)
