/-! ===== A METHOD'S FRAME over a world, its surroundings in one tuple ===== -/
abbrev Cxt : Type := Program × Launch × Env × Room × State × MethodId × Array Value × List Frame × Method × Code × Nat × Dx × Nat × (State → Prop)
abbrev xp (X : Cxt) : Program := X.1
abbrev xl (X : Cxt) : Launch := X.2.1
abbrev xe (X : Cxt) : Env := X.2.2.1
abbrev xR (X : Cxt) : Room := X.2.2.2.1
abbrev xs (X : Cxt) : State := X.2.2.2.2.1
abbrev xm (X : Cxt) : MethodId := X.2.2.2.2.2.1
abbrev xa (X : Cxt) : Array Value := X.2.2.2.2.2.2.1
abbrev xo (X : Cxt) : List Frame := X.2.2.2.2.2.2.2.1
abbrev xt (X : Cxt) : Method := X.2.2.2.2.2.2.2.2.1
abbrev xc (X : Cxt) : Code := X.2.2.2.2.2.2.2.2.2.1
abbrev xn (X : Cxt) : Nat := X.2.2.2.2.2.2.2.2.2.2.1
abbrev xD (X : Cxt) : Dx := X.2.2.2.2.2.2.2.2.2.2.2.1
abbrev xb (X : Cxt) : Nat := X.2.2.2.2.2.2.2.2.2.2.2.2.1
abbrev xQ (X : Cxt) : State → Prop := X.2.2.2.2.2.2.2.2.2.2.2.2.2
/-- the newest value of a place of the locals -/
def alk (i : Nat) : List (Nat × Value) → Option Value
  | [] => none
  | (j, v) :: r => match Nat.beq j i with
    | true => some v
    | false => alk i r
abbrev Lv : Type := List (Nat × Value)
def flatL (nL : Nat) (lv : Lv) : Lv := (List.range nL).filterMap (fun i => (alk i lv).map (fun v => (i, v)))
def lh (ls : Array Slot) (nL : Nat) (lv : Lv) : Prop := lv_has ls nL (flatL nL lv) ∧ ∀ (i : Nat) (v : Value), alk i lv = some v → i < nL ∧ v.category = 1
theorem flatL_mem {nL i : Nat} {lv : Lv} {v : Value} : (i, v) ∈ flatL nL lv ↔ i < nL ∧ alk i lv = some v := by
  simp only [flatL, List.mem_filterMap, List.mem_range, Option.map_eq_some_iff, Prod.mk.injEq]
  constructor
  · rintro ⟨a, h1, w, h2, rfl, rfl⟩
    exact ⟨h1, h2⟩
  · rintro ⟨h1, h2⟩
    exact ⟨i, h1, v, h2, rfl, rfl⟩
theorem lh.at {ls : Array Slot} {nL i : Nat} {lv : Lv} {v : Value} (h : lh ls nL lv) (ha : alk i lv = some v) : ls[i]? = some (.val v) := h.1.2.2 (i, v) (flatL_mem.mpr ⟨(h.2 i v ha).1, ha⟩)
theorem alk_s {i : Nat} {v : Value} {lv : Lv} : alk i ((i, v) :: lv) = some v := by simp [alk]
theorem alk_n {i j : Nat} {v : Value} {lv : Lv} (h : j ≠ i) : alk i ((j, v) :: lv) = alk i lv := by
  have : Nat.beq j i = false := by
    cases hb : Nat.beq j i with
    | false => rfl
    | true => exact absurd (Nat.eq_of_beq_eq_true hb) h
  simp [alk, this]
theorem lh.of {ls ls' : Array Slot} {nL i : Nat} {lv : Lv} {v : Value} (h : lh ls nL lv) (hi : i < nL) (hc : v.category = 1) (h' : lv_has ls' nL ((i, v) :: (flatL nL lv).filter (fun q => !(q.1 == i) && !(q.1 + 1 == i && q.2.category == 2)))) : lh ls' nL ((i, v) :: lv) := by
  refine ⟨⟨h'.1, h'.2.1, fun q hq => ?_⟩, fun j w hw => ?_⟩
  · obtain ⟨j, w⟩ := q
    obtain ⟨h1, h2⟩ := flatL_mem.mp hq
    by_cases hj : i = j
    · subst hj
      rw [alk_s] at h2
      cases h2
      exact h'.2.2 _ List.mem_cons_self
    · rw [alk_n hj] at h2
      refine h'.2.2 _ (List.mem_cons_of_mem _ (List.mem_filter.mpr ⟨flatL_mem.mpr ⟨h1, h2⟩, ?_⟩))
      have hc1 := (h.2 j w h2).2
      simp [hc1, Ne.symm hj]
  · by_cases hj : i = j
    · subst hj
      rw [alk_s] at hw
      cases hw
      exact ⟨hi, hc⟩
    · rw [alk_n hj] at hw
      exact h.2 j w hw
/-- fewer locals -/
def alls (lv : Lv) : Lv → Prop
  | [] => True
  | (i, v) :: r => alk i lv = some v ∧ alls lv r
theorem alls_at {lv : Lv} : ∀ {l : Lv}, alls lv l → ∀ (i : Nat) (v : Value), alk i l = some v → alk i lv = some v
  | [], _, i, v, h => by simp [alk] at h
  | (j, w) :: r, hs, i, v, h => by
    by_cases hj : j = i
    · subst hj
      rw [alk_s] at h
      cases h
      exact hs.1
    · rw [alk_n hj] at h
      exact alls_at hs.2 i v h
theorem lh.sub {ls : Array Slot} {nL : Nat} {lv lv' : Lv} (h : lh ls nL lv) (hs : alls lv lv') : lh ls nL lv' := by
  refine ⟨⟨h.1.1, h.1.2.1, fun q hq => ?_⟩, fun i v hv => h.2 i v (alls_at hs i v hv)⟩
  obtain ⟨j, w⟩ := q
  exact h.at (alls_at hs j w (flatL_mem.mp hq).2)
def V (X : Cxt) (k n pc : Nat) (lv : Lv) (st : List Value) (ad : Nat → Nat) (F : Fn) : Prop :=
  ∀ (H : Heap) (locs : List Loc) (ls : Array Slot), WD (xD X) (xb X) ad F H → va_S (Bo (xb X)) (xs X).heap H locs → lh ls (xn X) lv →
    W (xp X) (xl X) (xe X) (xR X) (xs X) (xm X) (xa X) (xo X) (xt X) (xc X) H locs k n (xQ X) (F0 (xm X) pc ls st)
/-- what a body knows of its surroundings: the machine, its bytes, its words, its room, its result's kind, its table of handlers -/
abbrev Okx (X : Cxt) (cc : ByteArray) (nL : Nat) (y : MethodName) (Ts : List Cond) (R : Room) (ret : Option FieldType) (tb : List ExceptionTableEntry) : Prop :=
  (xp X).tables.exec = Jvm.exec ∧ (xc X).code = cc ∧ (xc X).maxLocals = xn X ∧ (xs X).vm.findClass y.cls = some (xm X).cls ∧ (∀ w ∈ Ts, w.before (xa X) (xs X) = true) ∧
  (xt X).locks = false ∧ Ev (xD X) (xb X) (xs X) ∧ xR X = R ∧ (xt X).sig.returnType = ret ∧ (xc X).exceptionTable.toList = tb ∧ (xt X).name = y.name ∧ xn X = nL ∧ (xl X).stackTraces = false
variable {X : Cxt} {cc : ByteArray} {nL : Nat} {y : MethodName} {Ts : List Cond} {R : Room} {ret : Option FieldType} {tb : List ExceptionTableEntry} {k n pc : Nat} {lv : Lv} {st : List Value} {ad : Nat → Nat} {F : Fn}
theorem V_sub {lv' : Lv} (hs : alls lv lv') (K : V X k n pc lv' st ad F) : V X k n pc lv st ad F := fun H locs ls hW hS hl => K H locs ls hW hS (hl.sub hs)
theorem V_wide {k' n' : Nat} (h1 : k ≤ k') (h2 : n ≤ n') (K : V X k' n' pc lv st ad F) : V X k n pc lv st ad F := fun H locs ls hW hS hl => W.widen h1 h2 (K H locs ls hW hS hl)
theorem V_eq {st' : List Value} {F' : Fn} (hs : st = st') (hF : F = F') (K : V X k n pc lv st' ad F') : V X k n pc lv st ad F := hs ▸ hF ▸ K
/-- a number on the stack gets a name -/
theorem V_nm {v w : Int32} (h : v = w) (K : V X k n pc lv (.int w :: st) ad F) : V X k n pc lv (.int v :: st) ad F := h ▸ K
theorem V_nm2 {u v w x : Int32} (h : v = w) (h2 : u = x) (K : V X k n pc lv (.int x :: .int w :: st) ad F) : V X k n pc lv (.int u :: .int v :: st) ad F := h ▸ h2 ▸ K
theorem V_rf {r r' : Option Nat} (h : r = r') (K : V X k n pc lv (va_rf r' :: st) ad F) : V X k n pc lv (va_rf r :: st) ad F := h ▸ K

theorem V_iconst {i : Int} {v : Int32} (C : Okx X cc nL y Ts R ret tb) (d : decode cc pc = .ok (.iconst i, 1)) (hv : Int32.ofInt i = v) (K : V X k n (pc + 1) lv (.int v :: st) ad F) : V X k n pc lv (st) ad F := fun H locs ls hW hS hl => lv_iconst C.1 C.2.1 d hv (K H locs ls hW hS hl)
theorem V_bipush {i : Int} {v : Int32} (C : Okx X cc nL y Ts R ret tb) (d : decode cc pc = .ok (.bipush i, 2)) (hv : (Int8.ofInt i).toInt32 = v) (K : V X k n (pc + 2) lv (.int v :: st) ad F) : V X k n pc lv (st) ad F := fun H locs ls hW hS hl => lv_bipush C.1 C.2.1 d hv (K H locs ls hW hS hl)
theorem V_sipush {i : Int} {v : Int32} (C : Okx X cc nL y Ts R ret tb) (d : decode cc pc = .ok (.sipush i, 3)) (hv : (Int16.ofInt i).toInt32 = v) (K : V X k n (pc + 3) lv (.int v :: st) ad F) : V X k n pc lv (st) ad F := fun H locs ls hW hS hl => lv_sipush C.1 C.2.1 d hv (K H locs ls hW hS hl)
theorem V_lconst {i : Fin 2} {v : Int64} (C : Okx X cc nL y Ts R ret tb) (d : decode cc pc = .ok (.lconst i, 1)) (hv : Int64.ofNat (i : Nat) = v) (K : V X k n (pc + 1) lv (.long v :: st) ad F) : V X k n pc lv (st) ad F := fun H locs ls hW hS hl => lv_lconst C.1 C.2.1 d hv (K H locs ls hW hS hl)
theorem V_iload_n {i : Fin 4} {x : Int32} (C : Okx X cc nL y Ts R ret tb) (d : decode cc pc = .ok (.iload_n i, 1)) (h : alk (i : Nat) lv = some (.int x)) (K : V X k n (pc + 1) lv (.int x :: st) ad F) : V X k n pc lv (st) ad F := fun H locs ls hW hS hl => lv_iload_n C.1 C.2.1 d rfl (hl.at h) (K H locs ls hW hS hl)
theorem V_iload {i : Nat} {x : Int32} (C : Okx X cc nL y Ts R ret tb) (d : decode cc pc = .ok (.iload i, 2)) (h : alk i lv = some (.int x)) (K : V X k n (pc + 2) lv (.int x :: st) ad F) : V X k n pc lv (st) ad F := fun H locs ls hW hS hl => lv_iload C.1 C.2.1 d (hl.at h) (K H locs ls hW hS hl)
theorem V_aload_n {i : Fin 4} {x : Nat} (C : Okx X cc nL y Ts R ret tb) (d : decode cc pc = .ok (.aload_n i, 1)) (h : alk (i : Nat) lv = some (.ref x)) (K : V X k n (pc + 1) lv (.ref x :: st) ad F) : V X k n pc lv (st) ad F := fun H locs ls hW hS hl => lv_aload_n C.1 C.2.1 d rfl (hl.at h) (K H locs ls hW hS hl)
theorem V_aload {i : Nat} {x : Nat} (C : Okx X cc nL y Ts R ret tb) (d : decode cc pc = .ok (.aload i, 2)) (h : alk i lv = some (.ref x)) (K : V X k n (pc + 2) lv (.ref x :: st) ad F) : V X k n pc lv (st) ad F := fun H locs ls hW hS hl => lv_aload C.1 C.2.1 d (hl.at h) (K H locs ls hW hS hl)
theorem V_aload_nN {i : Fin 4} (C : Okx X cc nL y Ts R ret tb) (d : decode cc pc = .ok (.aload_n i, 1)) (h : alk (i : Nat) lv = some .null) (K : V X k n (pc + 1) lv (.null :: st) ad F) : V X k n pc lv (st) ad F := fun H locs ls hW hS hl => lv_aload_nN C.1 C.2.1 d rfl (hl.at h) (K H locs ls hW hS hl)
theorem V_aloadN {i : Nat} (C : Okx X cc nL y Ts R ret tb) (d : decode cc pc = .ok (.aload i, 2)) (h : alk i lv = some .null) (K : V X k n (pc + 2) lv (.null :: st) ad F) : V X k n pc lv (st) ad F := fun H locs ls hW hS hl => lv_aloadN C.1 C.2.1 d (hl.at h) (K H locs ls hW hS hl)
theorem V_istore_n {i : Fin 4} {x : Int32} (C : Okx X cc nL y Ts R ret tb) (d : decode cc pc = .ok (.istore_n i, 1)) (hn : (i : Nat) < nL) (K : V X k n (pc + 1) (((i : Nat), .int x) :: lv) st ad F) : V X k n pc lv (.int x :: st) ad F := fun H locs ls hW hS hl => lv_istore_n C.1 C.2.1 d rfl hl.1 (by rw [C.2.2.2.2.2.2.2.2.2.2.2.1]; exact hn) rfl fun ls' hl' => K H locs ls' hW hS (hl.of (by rw [C.2.2.2.2.2.2.2.2.2.2.2.1]; exact hn) rfl hl')
theorem V_istore {i : Nat} {x : Int32} (C : Okx X cc nL y Ts R ret tb) (d : decode cc pc = .ok (.istore i, 2)) (hn : i < nL) (K : V X k n (pc + 2) ((i, .int x) :: lv) st ad F) : V X k n pc lv (.int x :: st) ad F := fun H locs ls hW hS hl => lv_istore C.1 C.2.1 d hl.1 (by rw [C.2.2.2.2.2.2.2.2.2.2.2.1]; exact hn) rfl fun ls' hl' => K H locs ls' hW hS (hl.of (by rw [C.2.2.2.2.2.2.2.2.2.2.2.1]; exact hn) rfl hl')
theorem V_astore_n {i : Fin 4} {x : Nat} (C : Okx X cc nL y Ts R ret tb) (d : decode cc pc = .ok (.astore_n i, 1)) (hn : (i : Nat) < nL) (K : V X k n (pc + 1) (((i : Nat), .ref x) :: lv) st ad F) : V X k n pc lv (.ref x :: st) ad F := fun H locs ls hW hS hl => lv_astore_n C.1 C.2.1 d rfl hl.1 (by rw [C.2.2.2.2.2.2.2.2.2.2.2.1]; exact hn) rfl fun ls' hl' => K H locs ls' hW hS (hl.of (by rw [C.2.2.2.2.2.2.2.2.2.2.2.1]; exact hn) rfl hl')
theorem V_astore {i : Nat} {x : Nat} (C : Okx X cc nL y Ts R ret tb) (d : decode cc pc = .ok (.astore i, 2)) (hn : i < nL) (K : V X k n (pc + 2) ((i, .ref x) :: lv) st ad F) : V X k n pc lv (.ref x :: st) ad F := fun H locs ls hW hS hl => lv_astore C.1 C.2.1 d hl.1 (by rw [C.2.2.2.2.2.2.2.2.2.2.2.1]; exact hn) rfl fun ls' hl' => K H locs ls' hW hS (hl.of (by rw [C.2.2.2.2.2.2.2.2.2.2.2.1]; exact hn) rfl hl')
theorem V_astore_nN {i : Fin 4} (C : Okx X cc nL y Ts R ret tb) (d : decode cc pc = .ok (.astore_n i, 1)) (hn : (i : Nat) < nL) (K : V X k n (pc + 1) (((i : Nat), .null) :: lv) st ad F) : V X k n pc lv (.null :: st) ad F := fun H locs ls hW hS hl => lv_astore_nN C.1 C.2.1 d rfl hl.1 (by rw [C.2.2.2.2.2.2.2.2.2.2.2.1]; exact hn) rfl fun ls' hl' => K H locs ls' hW hS (hl.of (by rw [C.2.2.2.2.2.2.2.2.2.2.2.1]; exact hn) rfl hl')
theorem V_astoreN {i : Nat} (C : Okx X cc nL y Ts R ret tb) (d : decode cc pc = .ok (.astore i, 2)) (hn : i < nL) (K : V X k n (pc + 2) ((i, .null) :: lv) st ad F) : V X k n pc lv (.null :: st) ad F := fun H locs ls hW hS hl => lv_astoreN C.1 C.2.1 d hl.1 (by rw [C.2.2.2.2.2.2.2.2.2.2.2.1]; exact hn) rfl fun ls' hl' => K H locs ls' hW hS (hl.of (by rw [C.2.2.2.2.2.2.2.2.2.2.2.1]; exact hn) rfl hl')
theorem V_iinc {i : Nat} {a : Int} {x v : Int32} (C : Okx X cc nL y Ts R ret tb) (d : decode cc pc = .ok (.iinc i a, 3)) (h : alk i lv = some (.int x)) (hv : x + Int32.ofInt a = v) (hn : i < nL) (K : V X k n (pc + 3) ((i, .int v) :: lv) st ad F) : V X k n pc lv st ad F := fun H locs ls hW hS hl => by
  obtain ⟨j, hj⟩ := List.getElem?_of_mem (flatL_mem.mpr ⟨(hl.2 i _ h).1, h⟩ : (i, Value.int x) ∈ flatL (xn X) lv)
  exact lv_iinc C.1 C.2.1 d hl.1 hj hv (by rw [C.2.2.2.2.2.2.2.2.2.2.2.1]; exact hn) rfl fun ls' hl' => K H locs ls' hW hS (hl.of (by rw [C.2.2.2.2.2.2.2.2.2.2.2.1]; exact hn) rfl hl')
theorem V_iadd {x z : Int32} (C : Okx X cc nL y Ts R ret tb) (d : decode cc pc = .ok (.iadd, 1))  (K : V X k n (pc + 1) lv (.int (x + z) :: st) ad F) : V X k n pc lv (.int z :: .int x :: st) ad F := fun H locs ls hW hS hl => lv_iadd C.1 C.2.1 d (K H locs ls hW hS hl)
theorem V_isub {x z : Int32} (C : Okx X cc nL y Ts R ret tb) (d : decode cc pc = .ok (.isub, 1))  (K : V X k n (pc + 1) lv (.int (x - z) :: st) ad F) : V X k n pc lv (.int z :: .int x :: st) ad F := fun H locs ls hW hS hl => lv_isub C.1 C.2.1 d (K H locs ls hW hS hl)
theorem V_imul {x z : Int32} (C : Okx X cc nL y Ts R ret tb) (d : decode cc pc = .ok (.imul, 1))  (K : V X k n (pc + 1) lv (.int (x * z) :: st) ad F) : V X k n pc lv (.int z :: .int x :: st) ad F := fun H locs ls hW hS hl => lv_imul C.1 C.2.1 d (K H locs ls hW hS hl)
theorem V_iand {x z : Int32} (C : Okx X cc nL y Ts R ret tb) (d : decode cc pc = .ok (.iand, 1))  (K : V X k n (pc + 1) lv (.int (x &&& z) :: st) ad F) : V X k n pc lv (.int z :: .int x :: st) ad F := fun H locs ls hW hS hl => lv_iand C.1 C.2.1 d (K H locs ls hW hS hl)
theorem V_ior {x z : Int32} (C : Okx X cc nL y Ts R ret tb) (d : decode cc pc = .ok (.ior, 1))  (K : V X k n (pc + 1) lv (.int (x ||| z) :: st) ad F) : V X k n pc lv (.int z :: .int x :: st) ad F := fun H locs ls hW hS hl => lv_ior C.1 C.2.1 d (K H locs ls hW hS hl)
theorem V_ixor {x z : Int32} (C : Okx X cc nL y Ts R ret tb) (d : decode cc pc = .ok (.ixor, 1))  (K : V X k n (pc + 1) lv (.int (x ^^^ z) :: st) ad F) : V X k n pc lv (.int z :: .int x :: st) ad F := fun H locs ls hW hS hl => lv_ixor C.1 C.2.1 d (K H locs ls hW hS hl)
theorem V_ishl {x z : Int32} (C : Okx X cc nL y Ts R ret tb) (d : decode cc pc = .ok (.ishl, 1))  (K : V X k n (pc + 1) lv (.int (x <<< (z &&& 31)) :: st) ad F) : V X k n pc lv (.int z :: .int x :: st) ad F := fun H locs ls hW hS hl => lv_ishl C.1 C.2.1 d (K H locs ls hW hS hl)
theorem V_ishr {x z : Int32} (C : Okx X cc nL y Ts R ret tb) (d : decode cc pc = .ok (.ishr, 1))  (K : V X k n (pc + 1) lv (.int (x >>> (z &&& 31)) :: st) ad F) : V X k n pc lv (.int z :: .int x :: st) ad F := fun H locs ls hW hS hl => lv_ishr C.1 C.2.1 d (K H locs ls hW hS hl)
theorem V_idiv {x z : Int32} (C : Okx X cc nL y Ts R ret tb) (d : decode cc pc = .ok (.idiv, 1)) (h : ¬ z = 0) (K : V X k n (pc + 1) lv (.int (x / z) :: st) ad F) : V X k n pc lv (.int z :: .int x :: st) ad F := fun H locs ls hW hS hl => lv_idiv C.1 C.2.1 d h (K H locs ls hW hS hl)
theorem V_irem {x z : Int32} (C : Okx X cc nL y Ts R ret tb) (d : decode cc pc = .ok (.irem, 1)) (h : ¬ z = 0) (K : V X k n (pc + 1) lv (.int (x - x / z * z) :: st) ad F) : V X k n pc lv (.int z :: .int x :: st) ad F := fun H locs ls hW hS hl => lv_irem C.1 C.2.1 d h (K H locs ls hW hS hl)
theorem V_i2l {x : Int32} {v : Int64} (C : Okx X cc nL y Ts R ret tb) (d : decode cc pc = .ok (.i2l, 1)) (hv : x.toInt64 = v) (K : V X k n (pc + 1) lv (.long v :: st) ad F) : V X k n pc lv (.int x :: st) ad F := fun H locs ls hW hS hl => lv_i2l C.1 C.2.1 d hv (K H locs ls hW hS hl)
theorem V_lcmp {x z : Int64} (C : Okx X cc nL y Ts R ret tb) (d : decode cc pc = .ok (.lcmp, 1))  (K : V X k n (pc + 1) lv (.int (lg_cmp x z) :: st) ad F) : V X k n pc lv (.long z :: .long x :: st) ad F := fun H locs ls hW hS hl => W.lcmp C.1 C.2.1 d (K H locs ls hW hS hl)
theorem V_dup {v : Value} (C : Okx X cc nL y Ts R ret tb) (d : decode cc pc = .ok (.dup, 1)) (hv : v.category = 1) (K : V X k n (pc + 1) lv (v :: v :: st) ad F) : V X k n pc lv (v :: st) ad F := fun H locs ls hW hS hl => lv_dup C.1 C.2.1 d hv (K H locs ls hW hS hl)
theorem V_pop {v : Value} (C : Okx X cc nL y Ts R ret tb) (d : decode cc pc = .ok (.pop, 1)) (hv : v.category = 1) (K : V X k n (pc + 1) lv (st) ad F) : V X k n pc lv (v :: st) ad F := fun H locs ls hW hS hl => lv_pop C.1 C.2.1 d hv (K H locs ls hW hS hl)
theorem V_dup2 {v w : Value} (C : Okx X cc nL y Ts R ret tb) (d : decode cc pc = .ok (.dup2, 1)) (hv : v.category = 1) (hw : w.category = 1) (K : V X k n (pc + 1) lv (v :: w :: v :: w :: st) ad F) : V X k n pc lv (v :: w :: st) ad F := fun H locs ls hW hS hl => lv_dup2_11 C.1 C.2.1 d hv hw (K H locs ls hW hS hl)
theorem V_null  (C : Okx X cc nL y Ts R ret tb) (d : decode cc pc = .ok (.aconst_null, 1))  (K : V X k n (pc + 1) lv (.null :: st) ad F) : V X k n pc lv (st) ad F := fun H locs ls hW hS hl => lv_null C.1 C.2.1 d (K H locs ls hW hS hl)
theorem V_goto {off : Int} {tgt : Nat} (C : Okx X cc nL y Ts R ret tb) (d : decode cc pc = .ok (.goto off, 3)) (ht : (pc : Int) + off = (tgt : Int)) (K : V X k n tgt lv st ad F) : V X k n pc lv st ad F := fun H locs ls hW hS hl => lv_goto C.1 C.2.1 d ht (K H locs ls hW hS hl)
theorem V_ifeq {x : Int32} {off : Int} {tgt : Nat} (C : Okx X cc nL y Ts R ret tb) (d : decode cc pc = .ok (.ifCond .eq off, 3)) (ht : (pc : Int) + off = (tgt : Int)) (Kt : x = 0 → V X k n tgt lv st ad F) (Kf : ¬ x = 0 → V X k n (pc + 3) lv st ad F) : V X k n pc lv (.int x :: st) ad F := fun H locs ls hW hS hl => lv_if_eq C.1 C.2.1 d ht (fun h => Kt h H locs ls hW hS hl) (fun h => Kf h H locs ls hW hS hl)
theorem V_ifeq_t {x : Int32} {off : Int} {tgt : Nat} (C : Okx X cc nL y Ts R ret tb) (d : decode cc pc = .ok (.ifCond .eq off, 3)) (ht : (pc : Int) + off = (tgt : Int)) (h : x = 0) (K : V X k n tgt lv st ad F) : V X k n pc lv (.int x :: st) ad F := V_ifeq C d ht (fun _ => K) (fun h2 => absurd h h2)
theorem V_ifeq_f {x : Int32} {off : Int} {tgt : Nat} (C : Okx X cc nL y Ts R ret tb) (d : decode cc pc = .ok (.ifCond .eq off, 3)) (ht : (pc : Int) + off = (tgt : Int)) (h : ¬ x = 0) (K : V X k n (pc + 3) lv st ad F) : V X k n pc lv (.int x :: st) ad F := V_ifeq C d ht (fun h2 => absurd h2 h) (fun _ => K)
theorem V_icmpeq {x z : Int32} {off : Int} {tgt : Nat} (C : Okx X cc nL y Ts R ret tb) (d : decode cc pc = .ok (.if_icmp .eq off, 3)) (ht : (pc : Int) + off = (tgt : Int)) (Kt : x = z → V X k n tgt lv st ad F) (Kf : ¬ x = z → V X k n (pc + 3) lv st ad F) : V X k n pc lv (.int z :: .int x :: st) ad F := fun H locs ls hW hS hl => lv_icmp_eq C.1 C.2.1 d ht (fun h => Kt h H locs ls hW hS hl) (fun h => Kf h H locs ls hW hS hl)
theorem V_icmpeq_t {x z : Int32} {off : Int} {tgt : Nat} (C : Okx X cc nL y Ts R ret tb) (d : decode cc pc = .ok (.if_icmp .eq off, 3)) (ht : (pc : Int) + off = (tgt : Int)) (h : x = z) (K : V X k n tgt lv st ad F) : V X k n pc lv (.int z :: .int x :: st) ad F := V_icmpeq C d ht (fun _ => K) (fun h2 => absurd h h2)
theorem V_icmpeq_f {x z : Int32} {off : Int} {tgt : Nat} (C : Okx X cc nL y Ts R ret tb) (d : decode cc pc = .ok (.if_icmp .eq off, 3)) (ht : (pc : Int) + off = (tgt : Int)) (h : ¬ x = z) (K : V X k n (pc + 3) lv st ad F) : V X k n pc lv (.int z :: .int x :: st) ad F := V_icmpeq C d ht (fun h2 => absurd h2 h) (fun _ => K)
theorem V_ifne {x : Int32} {off : Int} {tgt : Nat} (C : Okx X cc nL y Ts R ret tb) (d : decode cc pc = .ok (.ifCond .ne off, 3)) (ht : (pc : Int) + off = (tgt : Int)) (Kt : ¬ x = 0 → V X k n tgt lv st ad F) (Kf : x = 0 → V X k n (pc + 3) lv st ad F) : V X k n pc lv (.int x :: st) ad F := fun H locs ls hW hS hl => lv_if_ne C.1 C.2.1 d ht (fun h => Kt h H locs ls hW hS hl) (fun h => Kf h H locs ls hW hS hl)
theorem V_ifne_t {x : Int32} {off : Int} {tgt : Nat} (C : Okx X cc nL y Ts R ret tb) (d : decode cc pc = .ok (.ifCond .ne off, 3)) (ht : (pc : Int) + off = (tgt : Int)) (h : ¬ x = 0) (K : V X k n tgt lv st ad F) : V X k n pc lv (.int x :: st) ad F := V_ifne C d ht (fun _ => K) (fun h2 => absurd h2 h)
theorem V_ifne_f {x : Int32} {off : Int} {tgt : Nat} (C : Okx X cc nL y Ts R ret tb) (d : decode cc pc = .ok (.ifCond .ne off, 3)) (ht : (pc : Int) + off = (tgt : Int)) (h : x = 0) (K : V X k n (pc + 3) lv st ad F) : V X k n pc lv (.int x :: st) ad F := V_ifne C d ht (fun h2 => absurd h h2) (fun _ => K)
theorem V_icmpne {x z : Int32} {off : Int} {tgt : Nat} (C : Okx X cc nL y Ts R ret tb) (d : decode cc pc = .ok (.if_icmp .ne off, 3)) (ht : (pc : Int) + off = (tgt : Int)) (Kt : ¬ x = z → V X k n tgt lv st ad F) (Kf : x = z → V X k n (pc + 3) lv st ad F) : V X k n pc lv (.int z :: .int x :: st) ad F := fun H locs ls hW hS hl => lv_icmp_ne C.1 C.2.1 d ht (fun h => Kt h H locs ls hW hS hl) (fun h => Kf h H locs ls hW hS hl)
theorem V_icmpne_t {x z : Int32} {off : Int} {tgt : Nat} (C : Okx X cc nL y Ts R ret tb) (d : decode cc pc = .ok (.if_icmp .ne off, 3)) (ht : (pc : Int) + off = (tgt : Int)) (h : ¬ x = z) (K : V X k n tgt lv st ad F) : V X k n pc lv (.int z :: .int x :: st) ad F := V_icmpne C d ht (fun _ => K) (fun h2 => absurd h2 h)
theorem V_icmpne_f {x z : Int32} {off : Int} {tgt : Nat} (C : Okx X cc nL y Ts R ret tb) (d : decode cc pc = .ok (.if_icmp .ne off, 3)) (ht : (pc : Int) + off = (tgt : Int)) (h : x = z) (K : V X k n (pc + 3) lv st ad F) : V X k n pc lv (.int z :: .int x :: st) ad F := V_icmpne C d ht (fun h2 => absurd h h2) (fun _ => K)
theorem V_iflt {x : Int32} {off : Int} {tgt : Nat} (C : Okx X cc nL y Ts R ret tb) (d : decode cc pc = .ok (.ifCond .lt off, 3)) (ht : (pc : Int) + off = (tgt : Int)) (Kt : x < 0 → V X k n tgt lv st ad F) (Kf : ¬ x < 0 → V X k n (pc + 3) lv st ad F) : V X k n pc lv (.int x :: st) ad F := fun H locs ls hW hS hl => lv_if_lt C.1 C.2.1 d ht (fun h => Kt h H locs ls hW hS hl) (fun h => Kf h H locs ls hW hS hl)
theorem V_iflt_t {x : Int32} {off : Int} {tgt : Nat} (C : Okx X cc nL y Ts R ret tb) (d : decode cc pc = .ok (.ifCond .lt off, 3)) (ht : (pc : Int) + off = (tgt : Int)) (h : x < 0) (K : V X k n tgt lv st ad F) : V X k n pc lv (.int x :: st) ad F := V_iflt C d ht (fun _ => K) (fun h2 => absurd h h2)
theorem V_iflt_f {x : Int32} {off : Int} {tgt : Nat} (C : Okx X cc nL y Ts R ret tb) (d : decode cc pc = .ok (.ifCond .lt off, 3)) (ht : (pc : Int) + off = (tgt : Int)) (h : ¬ x < 0) (K : V X k n (pc + 3) lv st ad F) : V X k n pc lv (.int x :: st) ad F := V_iflt C d ht (fun h2 => absurd h2 h) (fun _ => K)
theorem V_icmplt {x z : Int32} {off : Int} {tgt : Nat} (C : Okx X cc nL y Ts R ret tb) (d : decode cc pc = .ok (.if_icmp .lt off, 3)) (ht : (pc : Int) + off = (tgt : Int)) (Kt : x < z → V X k n tgt lv st ad F) (Kf : ¬ x < z → V X k n (pc + 3) lv st ad F) : V X k n pc lv (.int z :: .int x :: st) ad F := fun H locs ls hW hS hl => lv_icmp_lt C.1 C.2.1 d ht (fun h => Kt h H locs ls hW hS hl) (fun h => Kf h H locs ls hW hS hl)
theorem V_icmplt_t {x z : Int32} {off : Int} {tgt : Nat} (C : Okx X cc nL y Ts R ret tb) (d : decode cc pc = .ok (.if_icmp .lt off, 3)) (ht : (pc : Int) + off = (tgt : Int)) (h : x < z) (K : V X k n tgt lv st ad F) : V X k n pc lv (.int z :: .int x :: st) ad F := V_icmplt C d ht (fun _ => K) (fun h2 => absurd h h2)
theorem V_icmplt_f {x z : Int32} {off : Int} {tgt : Nat} (C : Okx X cc nL y Ts R ret tb) (d : decode cc pc = .ok (.if_icmp .lt off, 3)) (ht : (pc : Int) + off = (tgt : Int)) (h : ¬ x < z) (K : V X k n (pc + 3) lv st ad F) : V X k n pc lv (.int z :: .int x :: st) ad F := V_icmplt C d ht (fun h2 => absurd h2 h) (fun _ => K)
theorem V_ifge {x : Int32} {off : Int} {tgt : Nat} (C : Okx X cc nL y Ts R ret tb) (d : decode cc pc = .ok (.ifCond .ge off, 3)) (ht : (pc : Int) + off = (tgt : Int)) (Kt : 0 ≤ x → V X k n tgt lv st ad F) (Kf : ¬ 0 ≤ x → V X k n (pc + 3) lv st ad F) : V X k n pc lv (.int x :: st) ad F := fun H locs ls hW hS hl => lv_if_ge C.1 C.2.1 d ht (fun h => Kt h H locs ls hW hS hl) (fun h => Kf h H locs ls hW hS hl)
theorem V_ifge_t {x : Int32} {off : Int} {tgt : Nat} (C : Okx X cc nL y Ts R ret tb) (d : decode cc pc = .ok (.ifCond .ge off, 3)) (ht : (pc : Int) + off = (tgt : Int)) (h : 0 ≤ x) (K : V X k n tgt lv st ad F) : V X k n pc lv (.int x :: st) ad F := V_ifge C d ht (fun _ => K) (fun h2 => absurd h h2)
theorem V_ifge_f {x : Int32} {off : Int} {tgt : Nat} (C : Okx X cc nL y Ts R ret tb) (d : decode cc pc = .ok (.ifCond .ge off, 3)) (ht : (pc : Int) + off = (tgt : Int)) (h : ¬ 0 ≤ x) (K : V X k n (pc + 3) lv st ad F) : V X k n pc lv (.int x :: st) ad F := V_ifge C d ht (fun h2 => absurd h2 h) (fun _ => K)
theorem V_icmpge {x z : Int32} {off : Int} {tgt : Nat} (C : Okx X cc nL y Ts R ret tb) (d : decode cc pc = .ok (.if_icmp .ge off, 3)) (ht : (pc : Int) + off = (tgt : Int)) (Kt : z ≤ x → V X k n tgt lv st ad F) (Kf : ¬ z ≤ x → V X k n (pc + 3) lv st ad F) : V X k n pc lv (.int z :: .int x :: st) ad F := fun H locs ls hW hS hl => lv_icmp_ge C.1 C.2.1 d ht (fun h => Kt h H locs ls hW hS hl) (fun h => Kf h H locs ls hW hS hl)
theorem V_icmpge_t {x z : Int32} {off : Int} {tgt : Nat} (C : Okx X cc nL y Ts R ret tb) (d : decode cc pc = .ok (.if_icmp .ge off, 3)) (ht : (pc : Int) + off = (tgt : Int)) (h : z ≤ x) (K : V X k n tgt lv st ad F) : V X k n pc lv (.int z :: .int x :: st) ad F := V_icmpge C d ht (fun _ => K) (fun h2 => absurd h h2)
theorem V_icmpge_f {x z : Int32} {off : Int} {tgt : Nat} (C : Okx X cc nL y Ts R ret tb) (d : decode cc pc = .ok (.if_icmp .ge off, 3)) (ht : (pc : Int) + off = (tgt : Int)) (h : ¬ z ≤ x) (K : V X k n (pc + 3) lv st ad F) : V X k n pc lv (.int z :: .int x :: st) ad F := V_icmpge C d ht (fun h2 => absurd h2 h) (fun _ => K)
theorem V_ifgt {x : Int32} {off : Int} {tgt : Nat} (C : Okx X cc nL y Ts R ret tb) (d : decode cc pc = .ok (.ifCond .gt off, 3)) (ht : (pc : Int) + off = (tgt : Int)) (Kt : 0 < x → V X k n tgt lv st ad F) (Kf : ¬ 0 < x → V X k n (pc + 3) lv st ad F) : V X k n pc lv (.int x :: st) ad F := fun H locs ls hW hS hl => lv_if_gt C.1 C.2.1 d ht (fun h => Kt h H locs ls hW hS hl) (fun h => Kf h H locs ls hW hS hl)
theorem V_ifgt_t {x : Int32} {off : Int} {tgt : Nat} (C : Okx X cc nL y Ts R ret tb) (d : decode cc pc = .ok (.ifCond .gt off, 3)) (ht : (pc : Int) + off = (tgt : Int)) (h : 0 < x) (K : V X k n tgt lv st ad F) : V X k n pc lv (.int x :: st) ad F := V_ifgt C d ht (fun _ => K) (fun h2 => absurd h h2)
theorem V_ifgt_f {x : Int32} {off : Int} {tgt : Nat} (C : Okx X cc nL y Ts R ret tb) (d : decode cc pc = .ok (.ifCond .gt off, 3)) (ht : (pc : Int) + off = (tgt : Int)) (h : ¬ 0 < x) (K : V X k n (pc + 3) lv st ad F) : V X k n pc lv (.int x :: st) ad F := V_ifgt C d ht (fun h2 => absurd h2 h) (fun _ => K)
theorem V_icmpgt {x z : Int32} {off : Int} {tgt : Nat} (C : Okx X cc nL y Ts R ret tb) (d : decode cc pc = .ok (.if_icmp .gt off, 3)) (ht : (pc : Int) + off = (tgt : Int)) (Kt : z < x → V X k n tgt lv st ad F) (Kf : ¬ z < x → V X k n (pc + 3) lv st ad F) : V X k n pc lv (.int z :: .int x :: st) ad F := fun H locs ls hW hS hl => lv_icmp_gt C.1 C.2.1 d ht (fun h => Kt h H locs ls hW hS hl) (fun h => Kf h H locs ls hW hS hl)
theorem V_icmpgt_t {x z : Int32} {off : Int} {tgt : Nat} (C : Okx X cc nL y Ts R ret tb) (d : decode cc pc = .ok (.if_icmp .gt off, 3)) (ht : (pc : Int) + off = (tgt : Int)) (h : z < x) (K : V X k n tgt lv st ad F) : V X k n pc lv (.int z :: .int x :: st) ad F := V_icmpgt C d ht (fun _ => K) (fun h2 => absurd h h2)
theorem V_icmpgt_f {x z : Int32} {off : Int} {tgt : Nat} (C : Okx X cc nL y Ts R ret tb) (d : decode cc pc = .ok (.if_icmp .gt off, 3)) (ht : (pc : Int) + off = (tgt : Int)) (h : ¬ z < x) (K : V X k n (pc + 3) lv st ad F) : V X k n pc lv (.int z :: .int x :: st) ad F := V_icmpgt C d ht (fun h2 => absurd h2 h) (fun _ => K)
theorem V_ifle {x : Int32} {off : Int} {tgt : Nat} (C : Okx X cc nL y Ts R ret tb) (d : decode cc pc = .ok (.ifCond .le off, 3)) (ht : (pc : Int) + off = (tgt : Int)) (Kt : x ≤ 0 → V X k n tgt lv st ad F) (Kf : ¬ x ≤ 0 → V X k n (pc + 3) lv st ad F) : V X k n pc lv (.int x :: st) ad F := fun H locs ls hW hS hl => lv_if_le C.1 C.2.1 d ht (fun h => Kt h H locs ls hW hS hl) (fun h => Kf h H locs ls hW hS hl)
theorem V_ifle_t {x : Int32} {off : Int} {tgt : Nat} (C : Okx X cc nL y Ts R ret tb) (d : decode cc pc = .ok (.ifCond .le off, 3)) (ht : (pc : Int) + off = (tgt : Int)) (h : x ≤ 0) (K : V X k n tgt lv st ad F) : V X k n pc lv (.int x :: st) ad F := V_ifle C d ht (fun _ => K) (fun h2 => absurd h h2)
theorem V_ifle_f {x : Int32} {off : Int} {tgt : Nat} (C : Okx X cc nL y Ts R ret tb) (d : decode cc pc = .ok (.ifCond .le off, 3)) (ht : (pc : Int) + off = (tgt : Int)) (h : ¬ x ≤ 0) (K : V X k n (pc + 3) lv st ad F) : V X k n pc lv (.int x :: st) ad F := V_ifle C d ht (fun h2 => absurd h2 h) (fun _ => K)
theorem V_icmple {x z : Int32} {off : Int} {tgt : Nat} (C : Okx X cc nL y Ts R ret tb) (d : decode cc pc = .ok (.if_icmp .le off, 3)) (ht : (pc : Int) + off = (tgt : Int)) (Kt : x ≤ z → V X k n tgt lv st ad F) (Kf : ¬ x ≤ z → V X k n (pc + 3) lv st ad F) : V X k n pc lv (.int z :: .int x :: st) ad F := fun H locs ls hW hS hl => lv_icmp_le C.1 C.2.1 d ht (fun h => Kt h H locs ls hW hS hl) (fun h => Kf h H locs ls hW hS hl)
theorem V_icmple_t {x z : Int32} {off : Int} {tgt : Nat} (C : Okx X cc nL y Ts R ret tb) (d : decode cc pc = .ok (.if_icmp .le off, 3)) (ht : (pc : Int) + off = (tgt : Int)) (h : x ≤ z) (K : V X k n tgt lv st ad F) : V X k n pc lv (.int z :: .int x :: st) ad F := V_icmple C d ht (fun _ => K) (fun h2 => absurd h h2)
theorem V_icmple_f {x z : Int32} {off : Int} {tgt : Nat} (C : Okx X cc nL y Ts R ret tb) (d : decode cc pc = .ok (.if_icmp .le off, 3)) (ht : (pc : Int) + off = (tgt : Int)) (h : ¬ x ≤ z) (K : V X k n (pc + 3) lv st ad F) : V X k n pc lv (.int z :: .int x :: st) ad F := V_icmple C d ht (fun h2 => absurd h2 h) (fun _ => K)
theorem V_acmpeq {rx ry : Option Nat} {off : Int} {tgt : Nat} (C : Okx X cc nL y Ts R ret tb) (d : decode cc pc = .ok (.if_acmp .eq off, 3)) (ht : (pc : Int) + off = (tgt : Int)) (Kt : rx = ry → V X k n tgt lv st ad F) (Kf : ¬ rx = ry → V X k n (pc + 3) lv st ad F) : V X k n pc lv (va_rf ry :: va_rf rx :: st) ad F := fun H locs ls hW hS hl => lv_acmp_eq C.1 C.2.1 d ht (fun h => Kt h H locs ls hW hS hl) (fun h => Kf h H locs ls hW hS hl)
theorem V_acmpeq_t {rx ry : Option Nat} {off : Int} {tgt : Nat} (C : Okx X cc nL y Ts R ret tb) (d : decode cc pc = .ok (.if_acmp .eq off, 3)) (ht : (pc : Int) + off = (tgt : Int)) (h : rx = ry) (K : V X k n tgt lv st ad F) : V X k n pc lv (va_rf ry :: va_rf rx :: st) ad F := V_acmpeq C d ht (fun _ => K) (fun h2 => absurd h h2)
theorem V_acmpeq_f {rx ry : Option Nat} {off : Int} {tgt : Nat} (C : Okx X cc nL y Ts R ret tb) (d : decode cc pc = .ok (.if_acmp .eq off, 3)) (ht : (pc : Int) + off = (tgt : Int)) (h : ¬ rx = ry) (K : V X k n (pc + 3) lv st ad F) : V X k n pc lv (va_rf ry :: va_rf rx :: st) ad F := V_acmpeq C d ht (fun h2 => absurd h2 h) (fun _ => K)
theorem V_acmpne {rx ry : Option Nat} {off : Int} {tgt : Nat} (C : Okx X cc nL y Ts R ret tb) (d : decode cc pc = .ok (.if_acmp .ne off, 3)) (ht : (pc : Int) + off = (tgt : Int)) (Kt : ¬ rx = ry → V X k n tgt lv st ad F) (Kf : rx = ry → V X k n (pc + 3) lv st ad F) : V X k n pc lv (va_rf ry :: va_rf rx :: st) ad F := fun H locs ls hW hS hl => lv_acmp_ne C.1 C.2.1 d ht (fun h => Kt h H locs ls hW hS hl) (fun h => Kf h H locs ls hW hS hl)
theorem V_acmpne_t {rx ry : Option Nat} {off : Int} {tgt : Nat} (C : Okx X cc nL y Ts R ret tb) (d : decode cc pc = .ok (.if_acmp .ne off, 3)) (ht : (pc : Int) + off = (tgt : Int)) (h : ¬ rx = ry) (K : V X k n tgt lv st ad F) : V X k n pc lv (va_rf ry :: va_rf rx :: st) ad F := V_acmpne C d ht (fun _ => K) (fun h2 => absurd h2 h)
theorem V_acmpne_f {rx ry : Option Nat} {off : Int} {tgt : Nat} (C : Okx X cc nL y Ts R ret tb) (d : decode cc pc = .ok (.if_acmp .ne off, 3)) (ht : (pc : Int) + off = (tgt : Int)) (h : rx = ry) (K : V X k n (pc + 3) lv st ad F) : V X k n pc lv (va_rf ry :: va_rf rx :: st) ad F := V_acmpne C d ht (fun h2 => absurd h h2) (fun _ => K)
theorem V_ifnull {x : Nat} {off : Int} (C : Okx X cc nL y Ts R ret tb) (d : decode cc pc = .ok (.ifnull off, 3)) (K : V X k n (pc + 3) lv st ad F) : V X k n pc lv (.ref x :: st) ad F := fun H locs ls hW hS hl => lv_ifnull C.1 C.2.1 d (K H locs ls hW hS hl)
theorem V_ifnullN {off : Int} {tgt : Nat} (C : Okx X cc nL y Ts R ret tb) (d : decode cc pc = .ok (.ifnull off, 3)) (ht : (pc : Int) + off = (tgt : Int)) (K : V X k n tgt lv st ad F) : V X k n pc lv (.null :: st) ad F := fun H locs ls hW hS hl => lv_ifnullN C.1 C.2.1 d ht (K H locs ls hW hS hl)
theorem V_ifnonnull {x : Nat} {off : Int} {tgt : Nat} (C : Okx X cc nL y Ts R ret tb) (d : decode cc pc = .ok (.ifnonnull off, 3)) (ht : (pc : Int) + off = (tgt : Int)) (K : V X k n tgt lv st ad F) : V X k n pc lv (.ref x :: st) ad F := fun H locs ls hW hS hl => lv_ifnonnull C.1 C.2.1 d ht (K H locs ls hW hS hl)
theorem V_ifnonnullN {off : Int} (C : Okx X cc nL y Ts R ret tb) (d : decode cc pc = .ok (.ifnonnull off, 3)) (K : V X k n (pc + 3) lv st ad F) : V X k n pc lv (.null :: st) ad F := fun H locs ls hW hS hl => lv_ifnonnullN C.1 C.2.1 d (K H locs ls hW hS hl)
theorem V_tableOut {dflt lo hi : Int} {offs : Array Int} {len : Nat} {x : Int32} {tgt : Nat} (C : Okx X cc nL y Ts R ret tb) (d : decode cc pc = .ok (.tableswitch dflt lo hi offs, len)) (h : x.toInt < lo ∨ hi < x.toInt) (ht : (pc : Int) + dflt = (tgt : Int)) (K : V X k n tgt lv st ad F) : V X k n pc lv (.int x :: st) ad F := fun H locs ls hW hS hl => lv_tableOut C.1 C.2.1 d h ht (K H locs ls hW hS hl)
theorem V_tableIn {dflt lo hi : Int} {offs : Array Int} {len : Nat} {x : Int32} {off : Int} {tgt : Nat} (C : Okx X cc nL y Ts R ret tb) (d : decode cc pc = .ok (.tableswitch dflt lo hi offs, len)) (h1 : ¬ x.toInt < lo) (h2 : ¬ hi < x.toInt) (ho : offs[(x.toInt - lo).toNat]? = some off) (ht : (pc : Int) + off = (tgt : Int)) (K : V X k n tgt lv st ad F) : V X k n pc lv (.int x :: st) ad F := fun H locs ls hW hS hl => lv_tableIn C.1 C.2.1 d h1 h2 ho ht (K H locs ls hW hS hl)
