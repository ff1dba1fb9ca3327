/-! THE CLAIM OUT OF ONE WALK OF THE LAW'S BODY. Your part is whole_start (and what it stands on); all else here is the same for every law, but numbers. -/
def R_law : String := "ShortmessageLaw"
def lw_P (b : Addr) (xs : List Int32) (args : Array Value) (s : State) : Prop := args = #[.ref b] ∧ s.IntsAt b xs ∧ xs.length ≤ 260 ∧ (Jvm.Cond.and given_1 narrow_1).before args s = true
def lw_Q (_ : Array Value) (s : State) (o : Outcome) (t : State) : Prop := o = .returned (some (.int 1)) ∧ Framed s o t [] 654114 7138840
def lw_Z (below : List Frame) (a : Array Value) (s : State) : State → Prop := fun t => ∃ o, t.status = .running ∧ Ended t below o ∧ lw_Q a s o t
/-- the law's own end, with 1 on the stack, nothing written that was there before, its room as the claim has it -/
theorem lw_ret {p : Program} {l : Launch} {e : Env} {s : State} {m : MethodId} {below : List Frame} {meth : Method} {c : Code} {b : Nat} (hx : p.tables.exec = Jvm.exec) (hb : c.code = code) (hr : meth.sig.returnType = ret) (hlocks : meth.locks = false) {pc : Nat} {H : Heap} {ls : Array Slot} (hdg : decode code pc = .ok (.ireturn, 1)) : W p l e room_1 s m #[Value.ref b] below meth c H [] 654114 7138840 (lw_Z below #[Value.ref b] s) (F0 m pc ls [.int 1]) := by
  intro T hT X
  obtain ⟨fs, hret, hrun, hended, hW, hframe⟩ := X.leave (v := some (.int 1)) (hlocks := hlocks) (fun h => by rw [hr] at h; cases h)
  have hmeth' : T.vm.method? m = some meth := X.method'
  refine ⟨T.setFrames fs, ?_, .returned (some (.int 1)), hrun, hended, rfl, ⟨_, rfl⟩, hW, hframe⟩
  jvm_step X.here [X.here.top, hx, hb, hdg, hmeth', hr, ret, narrow_b1]
  (try refine ⟨rfl, ?_⟩); (try refine ⟨rfl, ?_⟩)
  first | (intro acts; rw [hret _ acts rfl rfl rfl]) | rw [hret _ _ rfl rfl rfl]
  exact Steps.refl _
/-- what holds at the law's entry: the machine, the code, the tables' words (any of lw_tbl by 'hts w (by decide +kernel)'), the script of L ints xs at the cell b, what the Statement gives of the start (any of its parts by flat_of_before) -/
def lw_At (p : Program) (s : State) (m : MethodId) (meth : Method) (c : Code) (b L : Nat) (xs : Nat → Int32) : Prop :=
  p.tables.exec = Jvm.exec ∧ c.code = code ∧ meth.sig.returnType = ret ∧ c.maxLocals = 8 ∧ s.vm.findClass R_law = some m.cls ∧ (∀ w ∈ lw_tbl, w.before #[Value.ref b] s = true) ∧ va_X b L xs s s.heap ∧ b < s.heap.size ∧ meth.locks = false ∧ (Jvm.Cond.and given_1 narrow_1).before #[Value.ref b] s = true
/-! ===== the law's own body ===== -/
theorem q_in {u : St} (hI : Inv u) {l c : Nat} (hl : l < 3) (hc : c ∈ zRw u (2 * l)) : InRow u l c := ((hI.2.2.2.2.2.2.1 l hl).2.2.2.2.2.1 c hc).1
theorem s_in {u : St} (hI : Inv u) {l c : Nat} (hl : l < 3) (hc : c ∈ zRw u (2 * l + 1)) : InRow u l c := ((hI.2.2.2.2.2.2.1 l hl).2.2.2.2.2.2 c hc).1
theorem CRep.ada {D : Dx} {ad ad' : Nat → Nat} {F : Fn} {s : St} (h : CRep D ad F s) (hI : Inv s) (ha : ∀ c, c < 300 → ad' c = ad c) : CRep D ad' F s := by
  obtain ⟨h1, h2, h3, h4, h5, h6, h7, h8, h9, h10, h11⟩ := h
  have hmc := hI.2.1
  refine ⟨h1.ad (fun x hx => ha x (by omega)), h2.ad (ha 2 (by decide)) (ha 3 (by decide)), h3.imp (fun f hf => ⟨hf.1, fun m hm => by rw [ha _ (by omega)]; exact hf.2 m hm⟩), h4, h5.ad (fun x hx => ha x (by omega)), ⟨?_, h6.2⟩, fun l hl => ?_, fun r hr => (h8 r hr).ad (ha _ (by omega)) (fun c hc => ha c ?_), fun m hm => ⟨?_, (h9 m hm).2⟩, fun m hm p hp => ?_, h11⟩
  · have e := h6.1
    unfold RcpAt at e ⊢
    rw [ha 8 (by decide), ha 9 (by decide), ha 10 (by decide)]
    exact e
  · have e := h7 l hl
    unfold LinkAt at e ⊢
    rw [ha _ (by omega), ha _ (by omega)]
    exact e
  · have hc2 : c ∈ zRw s (2 * (r / 2)) ∨ c ∈ zRw s (2 * (r / 2) + 1) := by
      rcases (show r = 2 * (r / 2) ∨ r = 2 * (r / 2) + 1 by omega) with e | e
      · left; rw [← e]; exact hc
      · right; rw [← e]; exact hc
    rcases hc2 with g | g
    · have := inr_eq hI (q_in hI (by omega) g); omega
    · have := inr_eq hI (s_in hI (by omega) g); omega
  · have e := (h9 m hm).1
    unfold MsgAt at e ⊢
    rw [ha (11 + zRc s m % 3) (by omega), ha (31 + 3 * m) (by omega), ha (32 + 3 * m) (by omega)]
    exact e
  · rw [ha (30 + 3 * m) (by omega)]
    exact h10 m hm p hp
theorem LR.k {D : Dx} {ad ad1 : Nat → Nat} {F F1 : Fn} {s : St} {zs : Nat → Nat} {rcn : Nat} (h : LR D F s zs rcn) (hk : FrK ad F ad1 F1) : LR D F1 s zs rcn :=
  ⟨h.1.to (s := s) rfl (hk 400 (by decide)).2, h.2.1.to (s := s) rfl (hk 401 (by decide)).2, h.2.2.1.to (s := s) rfl (hk 402 (by decide)).2, h.2.2.2.to (s := s) rfl rfl (hk 403 (by decide)).2⟩
