/-! THE CLAIM OUT OF ONE WALK OF THE LAW'S BODY. Your part is whole_start (and what it stands on); all else here is the same for every law, but numbers. -/
def R_law : String := "ShortmessageLaw"
def lw_P (b : Addr) (xs : List Int32) (args : Array Value) (s : State) : Prop := args = #[.ref b] ∧ s.IntsAt b xs ∧ xs.length ≤ 1536 ∧ (Jvm.Cond.and given_1 narrow_1).before args s = true
def lw_Q (_ : Array Value) (s : State) (o : Outcome) (t : State) : Prop := o = .returned (some (.int 1)) ∧ Framed s o t [] 601024 7293033
def lw_Z (below : List Frame) (a : Array Value) (s : State) : State → Prop := fun t => ∃ o, t.status = .running ∧ Ended t below o ∧ lw_Q a s o t
/-- the law's own end, with 1 on the stack, nothing written that was there before, its room as the claim has it -/
theorem lw_ret {p : Program} {l : Launch} {e : Env} {s : State} {m : MethodId} {below : List Frame} {meth : Method} {c : Code} {b : Nat} (hx : p.tables.exec = Jvm.exec) (hb : c.code = code) (hr : meth.sig.returnType = ret) (hlocks : meth.locks = false) {pc : Nat} {H : Heap} {ls : Array Slot} (hdg : decode code pc = .ok (.ireturn, 1)) : W p l e room_1 s m #[Value.ref b] below meth c H [] 601024 7293033 (lw_Z below #[Value.ref b] s) (F0 m pc ls [.int 1]) := by
  intro T hT X
  obtain ⟨fs, hret, hrun, hended, hW, hframe⟩ := X.leave (v := some (.int 1)) (hlocks := hlocks) (fun h => by rw [hr] at h; cases h)
  have hmeth' : T.vm.method? m = some meth := X.method'
  refine ⟨T.setFrames fs, ?_, .returned (some (.int 1)), hrun, hended, rfl, ⟨_, rfl⟩, hW, hframe⟩
  jvm_step X.here [X.here.top, hx, hb, hdg, hmeth', hr, ret, narrow_b1]
  (try refine ⟨rfl, ?_⟩); (try refine ⟨rfl, ?_⟩)
  first | (intro acts; rw [hret _ acts rfl rfl rfl]) | rw [hret _ _ rfl rfl rfl]
  exact Steps.refl _
/-- what holds at the law's entry: the machine, the code, the tables' words (any of lw_tbl by 'hts w (by decide +kernel)'), the script of L ints xs at the cell b, what the Statement gives of the start (any of its parts by flat_of_before) -/
def lw_At (p : Program) (s : State) (m : MethodId) (meth : Method) (c : Code) (b L : Nat) (xs : Nat → Int32) : Prop :=
  p.tables.exec = Jvm.exec ∧ c.code = code ∧ meth.sig.returnType = ret ∧ c.maxLocals = 7 ∧ s.vm.findClass R_law = some m.cls ∧ (∀ w ∈ lw_tbl, w.before #[Value.ref b] s = true) ∧ va_X b L xs s s.heap ∧ b < s.heap.size ∧ meth.locks = false ∧ (Jvm.Cond.and given_1 narrow_1).before #[Value.ref b] s = true
/-! ===== the law's own rows: its script; class and model, kept while the other side works ===== -/
abbrev Scr (X : Cxt) (b L : Nat) (sc : Nat → Int32) : Prop := va_X b L sc (xs X) (xs X).heap ∧ b < (xs X).heap.size ∧ ¬ Bo (xb X) b
section
variable {X : Cxt} {cc : ByteArray} {nL : Nat} {y : MethodName} {R : Room} {re : Option FieldType} {tb : List ExceptionTableEntry} {k n pc : Nat} {lv : Lv} {st : List Value} {ad : Nat → Nat} {F : Fn}
theorem V_sld {b L i : Nat} {sc : Nat → Int32} {v : Int32} (C : Ok X cc nL y R re tb) (hS : Scr X b L sc) (d : decode cc pc = .ok (.iaload, 1)) (hi : v = nI i) (hlt : i < L) (hL : L < 2 ^ 31) (K : V X k n (pc + 1) lv (.int (sc i) :: st) ad F) : V X k n pc lv (.int v :: .ref b :: st) ad F := by
  intro H locs ls hW hSS hl
  obtain ⟨h1, h2⟩ := nI_cl hi hlt hL
  exact va_sld C.1 C.2.1 hS.1 hS.2.1 hS.2.2 hSS h1 d (by rw [h2]; exact K H locs ls hW hSS hl)
theorem V_slen {b L : Nat} {sc : Nat → Int32} (C : Ok X cc nL y R re tb) (hS : Scr X b L sc) (d : decode cc pc = .ok (.arraylength, 1)) (K : V X k n (pc + 1) lv (.int (nI L) :: st) ad F) : V X k n pc lv (.ref b :: st) ad F := by
  intro H locs ls hW hSS hl
  exact va_slen C.1 C.2.1 hS.1 hS.2.1 hS.2.2 hSS d (K H locs ls hW hSS hl)
theorem V_tabIn {dflt lo hi : Int} {offs : Array Int} {len tgt : Nat} {x : Int32} {off : Int} (C : Ok X cc nL y R re tb) (d : decode cc pc = .ok (.tableswitch dflt lo hi offs, len)) (h1 : ¬ x.toInt < lo) (h2 : ¬ hi < x.toInt) (ho : offs[(x.toInt - lo).toNat]? = some off) (ht : (pc : Int) + off = (tgt : Int)) (K : V X k n tgt lv st ad F) : V X k n pc lv (.int x :: st) ad F :=
  fun H locs ls hW hSS hl => lv_tableIn C.1 C.2.1 d h1 h2 ho ht (K H locs ls hW hSS hl)
theorem V_tabOut {dflt lo hi : Int} {offs : Array Int} {len tgt : Nat} {x : Int32} (C : Ok X cc nL y R re tb) (d : decode cc pc = .ok (.tableswitch dflt lo hi offs, len)) (h : x.toInt < lo ∨ hi < x.toInt) (ht : (pc : Int) + dflt = (tgt : Int)) (K : V X k n tgt lv st ad F) : V X k n pc lv (.int x :: st) ad F :=
  fun H locs ls hW hSS hl => lv_tableOut C.1 C.2.1 d h ht (K H locs ls hW hSS hl)
end
theorem lg_self (x : Int64) : lg_cmp x x = 0 := by
  unfold lg_cmp
  simp
theorem MRep.keptK {D : Dx} {ad ad1 : Nat → Nat} {F G : Fn} {u : St} {th : Int32} (h : MRep D ad F u th) (ha : ∀ c, 300 ≤ c → c < 400 → ad1 c = ad c) (hK : ∀ c, 300 ≤ c → c ≠ 400 → G c = F c) : MRep D ad1 G u th := by
  obtain ⟨k0, k1, k2, k3, k4, k5, k6, k7, k8, k9, k10, k11, k12, k13, k14, k15, k16, k17, k18, k19, k20, k21, k22⟩ := h
  refine ⟨?_, k1.kept (hK _ (by decide) (by decide)), fun m hm => (k2 m hm).kept (hK _ (by decide) (by decide)), k3.imp fun f hf => (hK _ (by decide) (by decide)).trans hf, k4.kept (hK _ (by decide) (by decide)), k5.kept (hK _ (by decide) (by decide)), k6.kept (hK _ (by decide) (by decide)), k7.kept (hK _ (by decide) (by decide)), k8.kept (hK _ (by decide) (by decide)), k9.kept (hK _ (by decide) (by decide)), k10.kept (hK _ (by decide) (by decide)), k11.kept (hK _ (by decide) (by decide)), k12.kept (hK _ (by decide) (by decide)), k13.kept (hK _ (by decide) (by decide)), k14.kept (hK _ (by decide) (by decide)), k15.kept (hK _ (by decide) (by decide)), k16.kept (hK _ (by decide) (by decide)), k17.kept (hK _ (by decide) (by decide)), k18.kept (hK _ (by decide) (by decide)), k19.kept (hK _ (by decide) (by decide)), k20.kept (hK _ (by decide) (by decide)), k21.kept (hK _ (by decide) (by decide)), k22.kept (hK _ (by decide) (by decide))⟩
  unfold mObj at k0 ⊢
  rw [hK 300 (by decide) (by decide), k0, ha 302 (by decide) (by decide), ha 304 (by decide) (by decide), ha 305 (by decide) (by decide), ha 306 (by decide) (by decide), ha 307 (by decide) (by decide), ha 308 (by decide) (by decide), ha 310 (by decide) (by decide), ha 311 (by decide) (by decide), ha 312 (by decide) (by decide), ha 313 (by decide) (by decide), ha 314 (by decide) (by decide), ha 315 (by decide) (by decide), ha 316 (by decide) (by decide), ha 317 (by decide) (by decide), ha 318 (by decide) (by decide), ha 319 (by decide) (by decide), ha 320 (by decide) (by decide), ha 321 (by decide) (by decide), ha 322 (by decide) (by decide), ha 323 (by decide) (by decide), ha 324 (by decide) (by decide)]
theorem CRep.ada {D : Dx} {ad ad' : Nat → Nat} {F : Fn} {s : St} (h : CRep D ad F s) (hI : Inv s) (ha : ∀ c, c < 300 → ad' c = ad c) : CRep D ad' F s := by
  obtain ⟨h1, h2, h3, h4, h5, h6, h7, h8, h9, h10, h11⟩ := h
  have hmc := hI.2.1
  refine ⟨h1.ad (fun x hx => ha x (by omega)), h2.ad (ha 2 (by decide)) (ha 3 (by decide)), h3.imp (fun f hf => ⟨hf.1, fun m hm => by rw [ha _ (by omega)]; exact hf.2 m hm⟩), h4, h5.ad (fun x hx => ha x (by omega)), ⟨?_, h6.2⟩, fun l hl => ?_, fun r hr => (h8 r hr).ad (ha _ (by omega)) (fun c hc => ha c ?_), fun m hm => ⟨?_, (h9 m hm).2⟩, fun m hm p hp => ?_, h11⟩
  · have e := h6.1
    unfold RcpAt at e ⊢
    rw [ha 8 (by decide), ha 9 (by decide), ha 10 (by decide)]
    exact e
  · have e := h7 l hl
    unfold LinkAt at e ⊢
    rw [ha _ (by omega), ha _ (by omega)]
    exact e
  · have hc2 : c ∈ zRw s (2 * (r / 2)) ∨ c ∈ zRw s (2 * (r / 2) + 1) := by
      rcases (show r = 2 * (r / 2) ∨ r = 2 * (r / 2) + 1 by omega) with e | e
      · left; rw [← e]; exact hc
      · right; rw [← e]; exact hc
    rcases hc2 with g | g
    · have := inr_eq hI (q_in hI (by omega) g); omega
    · have := inr_eq hI (s_in hI (by omega) g); omega
  · have e := (h9 m hm).1
    unfold MsgAt at e ⊢
    rw [ha (11 + zRc s m % 3) (by omega), ha (31 + 3 * m) (by omega), ha (32 + 3 * m) (by omega)]
    exact e
  · rw [ha (30 + 3 * m) (by omega)]
    exact h10 m hm p hp
/-- what is to be shown behind a call of the law -/
def NX (X : Cxt) (b j : Nat) : Prop := ∀ (s u : St) (ad : Nat → Nat) (F : Fn) (th : Int32), Kp s → Kp u → Sim s u → zNow s ≤ 200 * j + 200 → CRep (xD X) ad F s → MRep (xD X) ad F u th → (∃ f : Nat → Int64, F 400 = some (aJ (xD X) 1 f)) → V X (50 + 13 * j + 13) (12000 + 900 * j + 900) 1408 [(0, .ref b), (1, .ref (ad 0)), (2, .ref (ad 300)), (3, .ref (ad 400)), (4, .int (nI (3 * j)))] [] ad F
theorem ok_ackM {s : St} {a o : Int32} (h : Kp s) : Kp (spAckM s a o).2.2 := by
  unfold spAckM
  split
  · exact h
  · rename_i g1
    split
    · exact h
    · rename_i g2
      split
      · exact h
      · rename_i g3
        obtain ⟨j, hj, rfl⟩ := badI_not (a := a) (n := 3) (by decide) g1
        obtain ⟨k, hk, rfl⟩ := nI_of2 (x := o) (n := 3) (M := 3) rfl (fun q => g2 (Or.inl q)) (Int32.not_lt.mp (fun q => g2 (Or.inr q)))
        rw [show (nI j).toNatClampNeg = j from nI_clamp (by omega)] at g3 ⊢
        rw [show (nI k).toNatClampNeg = k from nI_clamp (by omega)]
        exact ackM_ok h.1 h.2 hj (by omega) (by omega)
theorem ack_now (s : St) (l o : Nat) : zNow (ackS s l o) = zNow s := by
  unfold ackS
  split
  · generalize hg : rmS s l = a
    have e : zNow a = zNow s := by rw [← hg]; rfl
    rw [← e]
    unfold stlS
    split
    · split <;> rfl
    · split
      · split <;> rfl
      · split <;> rfl
  · rfl
theorem lt_spWrite {s : St} {a b : Int32} : (spWrite s a b).1 < 4 := by
  unfold spWrite
  (repeat' split) <;> exact Nat.le_of_ble_eq_true rfl
theorem nw_spWrite {s : St} {a b : Int32} : zNow (spWrite s a b).2.2 ≤ zNow s + 200 := by
  unfold spWrite
  (repeat' split) <;> exact Nat.le_add_right _ _
theorem lt_spErase {s : St} : (spErase s).1 < 4 := by
  unfold spErase
  (repeat' split) <;> exact Nat.le_of_ble_eq_true rfl
theorem nw_spErase {s : St} : zNow (spErase s).2.2 ≤ zNow s + 200 := by
  unfold spErase
  (repeat' split) <;> exact Nat.le_add_right _ _
theorem lt_spWide {s : St} : (spWide s).1 < 4 := by
  unfold spWide
  (repeat' split) <;> exact Nat.le_of_ble_eq_true rfl
theorem nw_spWide {s : St} : zNow (spWide s).2.2 ≤ zNow s + 200 := by
  unfold spWide
  (repeat' split) <;> exact Nat.le_add_right _ _
theorem lt_spSept {s : St} : (spSept s).1 < 4 := by
  unfold spSept
  (repeat' split) <;> exact Nat.le_of_ble_eq_true rfl
theorem nw_spSept {s : St} : zNow (spSept s).2.2 ≤ zNow s + 200 := by
  unfold spSept
  (repeat' split) <;> exact Nat.le_add_right _ _
theorem lt_spParts {s : St} : (spParts s).1 < 4 := by
  unfold spParts
  (repeat' split) <;> exact Nat.le_of_ble_eq_true rfl
theorem nw_spParts {s : St} : zNow (spParts s).2.2 ≤ zNow s + 200 := by
  unfold spParts
  (repeat' split) <;> exact Nat.le_add_right _ _
theorem lt_spSigns {s : St} {a : Int32} : (spSigns s a).1 < 4 := by
  unfold spSigns
  (repeat' split) <;> exact Nat.le_of_ble_eq_true rfl
theorem nw_spSigns {s : St} {a : Int32} : zNow (spSigns s a).2.2 ≤ zNow s + 200 := by
  unfold spSigns
  (repeat' split) <;> exact Nat.le_add_right _ _
theorem lt_spOcts {s : St} {a : Int32} : (spOcts s a).1 < 4 := by
  unfold spOcts
  (repeat' split) <;> exact Nat.le_of_ble_eq_true rfl
theorem nw_spOcts {s : St} {a : Int32} : zNow (spOcts s a).2.2 ≤ zNow s + 200 := by
  unfold spOcts
  (repeat' split) <;> exact Nat.le_add_right _ _
theorem lt_spOct {s : St} {a b : Int32} : (spOct s a b).1 < 4 := by
  unfold spOct
  (repeat' split) <;> exact Nat.le_of_ble_eq_true rfl
theorem nw_spOct {s : St} {a b : Int32} : zNow (spOct s a b).2.2 ≤ zNow s + 200 := by
  unfold spOct
  (repeat' split) <;> exact Nat.le_add_right _ _
theorem lt_spSub {s : St} {a b : Int32} : (spSub s a b).1 < 4 := by
  unfold spSub
  (repeat' split) <;> exact Nat.le_of_ble_eq_true rfl
theorem nw_spSub {s : St} {a b : Int32} : zNow (spSub s a b).2.2 ≤ zNow s + 200 := by
  unfold spSub
  (repeat' split) <;> exact Nat.le_add_right _ _
theorem lt_spState {s : St} {a : Int32} : (spState s a).1 < 4 := by
  unfold spState
  (repeat' split) <;> exact Nat.le_of_ble_eq_true rfl
theorem nw_spState {s : St} {a : Int32} : zNow (spState s a).2.2 ≤ zNow s + 200 := by
  unfold spState
  (repeat' split) <;> exact Nat.le_add_right _ _
theorem lt_spMiss {s : St} {a : Int32} : (spMiss s a).1 < 4 := by
  unfold spMiss
  (repeat' split) <;> exact Nat.le_of_ble_eq_true rfl
theorem nw_spMiss {s : St} {a : Int32} : zNow (spMiss s a).2.2 ≤ zNow s + 200 := by
  unfold spMiss
  (repeat' split) <;> exact Nat.le_add_right _ _
theorem lt_spJoin {s : St} {a b : Int32} : (spJoin s a b).1 < 4 := by
  unfold spJoin
  (repeat' split) <;> exact Nat.le_of_ble_eq_true rfl
theorem nw_spJoin {s : St} {a b : Int32} : zNow (spJoin s a b).2.2 ≤ zNow s + 200 := by
  unfold spJoin
  (repeat' split) <;> exact Nat.le_add_right _ _
theorem lt_spRcps {s : St} : (spRcps s).1 < 4 := by
  unfold spRcps
  (repeat' split) <;> exact Nat.le_of_ble_eq_true rfl
theorem nw_spRcps {s : St} : zNow (spRcps s).2.2 ≤ zNow s + 200 := by
  unfold spRcps
  (repeat' split) <;> exact Nat.le_add_right _ _
theorem lt_spRcp {s : St} {a : Int32} : (spRcp s a).1 < 4 := by
  unfold spRcp
  (repeat' split) <;> exact Nat.le_of_ble_eq_true rfl
theorem nw_spRcp {s : St} {a : Int32} : zNow (spRcp s a).2.2 ≤ zNow s + 200 := by
  unfold spRcp
  (repeat' split) <;> exact Nat.le_add_right _ _
theorem lt_spTime {s : St} : (spTime s).1 < 4 := by
  unfold spTime
  (repeat' split) <;> exact Nat.le_of_ble_eq_true rfl
theorem nw_spTime {s : St} : zNow (spTime s).2.2 ≤ zNow s + 200 := by
  unfold spTime
  (repeat' split) <;> exact Nat.le_add_right _ _
theorem lt_spTog {s : St} {a : Int32} : (spTog s a).1 < 4 := by
  unfold spTog
  (repeat' split) <;> exact Nat.le_of_ble_eq_true rfl
theorem nw_spTog {s : St} {a : Int32} : zNow (spTog s a).2.2 ≤ zNow s + 200 := by
  unfold spTog
  (repeat' split) <;> exact Nat.le_add_right _ _
theorem lt_spSetW {s : St} {a b : Int32} : (spSetW s a b).1 < 4 := by
  unfold spSetW
  (repeat' split) <;> exact Nat.le_of_ble_eq_true rfl
theorem nw_spSetW {s : St} {a b : Int32} : zNow (spSetW s a b).2.2 ≤ zNow s + 200 := by
  unfold spSetW
  (repeat' split) <;> exact Nat.le_add_right _ _
theorem lt_spQd {s : St} {a : Int32} : (spQd s a).1 < 4 := by
  unfold spQd
  (repeat' split) <;> exact Nat.le_of_ble_eq_true rfl
theorem nw_spQd {s : St} {a : Int32} : zNow (spQd s a).2.2 ≤ zNow s + 200 := by
  unfold spQd
  (repeat' split) <;> exact Nat.le_add_right _ _
theorem lt_spUw {s : St} {a : Int32} : (spUw s a).1 < 4 := by
  unfold spUw
  (repeat' split) <;> exact Nat.le_of_ble_eq_true rfl
theorem nw_spUw {s : St} {a : Int32} : zNow (spUw s a).2.2 ≤ zNow s + 200 := by
  unfold spUw
  (repeat' split) <;> exact Nat.le_add_right _ _
theorem lt_spTok {s : St} {a : Int32} : (spTok s a).1 < 4 := by
  unfold spTok
  (repeat' split) <;> exact Nat.le_of_ble_eq_true rfl
theorem nw_spTok {s : St} {a : Int32} : zNow (spTok s a).2.2 ≤ zNow s + 200 := by
  unfold spTok
  (repeat' split) <;> exact Nat.le_add_right _ _
theorem lt_spAlert {s : St} {a : Int32} : (spAlert s a).1 < 4 := by
  unfold spAlert
  (repeat' split) <;> exact Nat.le_of_ble_eq_true rfl
theorem nw_spAlert {s : St} {a : Int32} : zNow (spAlert s a).2.2 ≤ zNow s + 200 := by
  unfold spAlert
  (repeat' split) <;> exact Nat.le_add_right _ _
theorem lt_spKey {s : St} {a b : Int32} : (spKey s a b).1 < 4 := by
  unfold spKey
  (repeat' split) <;> exact Nat.le_of_ble_eq_true rfl
theorem nw_spKey {s : St} {a b : Int32} : zNow (spKey s a b).2.2 ≤ zNow s + 200 := by
  unfold spKey
  (repeat' split) <;> exact Nat.le_add_right _ _
theorem lt_spCome {s : St} {a b : Int32} : (spCome s a b).1 < 4 := by
  unfold spCome
  (repeat' split) <;> exact Nat.le_of_ble_eq_true rfl
theorem nw_spCome {s : St} {a b : Int32} : zNow (spCome s a b).2.2 ≤ zNow s + 200 := by
  unfold spCome
  (repeat' split) <;> exact Nat.le_add_right _ _
theorem lt_spAck {s : St} {a b : Int32} : (spAck s a b).1 < 4 := by
  unfold spAck
  (repeat' split) <;> exact Nat.le_of_ble_eq_true rfl
theorem nw_spAck {s : St} {a b : Int32} : zNow (spAck s a b).2.2 ≤ zNow s + 200 := by
  unfold spAck
  split
  · exact Nat.le_add_right _ _
  · split
    · exact Nat.le_add_right _ _
    · split
      · exact Nat.le_add_right _ _
      · show zNow (ackS s _ _) ≤ _
        rw [ack_now]; exact Nat.le_add_right _ _
theorem lt_spPass {s : St} {a : Int32} : (spPass s a).1 < 4 := by
  unfold spPass
  (repeat' split) <;> exact Nat.le_of_ble_eq_true rfl
theorem nw_spPass {s : St} {a : Int32} : zNow (spPass s a).2.2 ≤ zNow s + 200 := by
  unfold spPass
  split
  · exact Nat.le_add_right _ _
  · rename_i g
    obtain ⟨k, hk, rfl⟩ := nI_of2 (n := 200) (M := 200) rfl (fun q => g (Or.inl (Int32.lt_trans q (by decide)))) (Int32.not_lt.mp (fun q => g (Or.inr q)))
    show zNow (pasN s (nI k).toNatClampNeg).1 ≤ _
    rw [pas_now, show (nI k).toNatClampNeg = k from nI_clamp (by omega)]
    omega
theorem lp_out {L i : Nat} (hL : L ≤ 1536) (hi : i ≤ 1536) (h : L < i + 3) : nI L - 3 < nI i := by
  rw [Int32.lt_iff_toInt_lt, show (nI L - 3).toInt = (L : Int) - 3 from pk_sub_toInt (b := 3) (by omega) (by decide), nI_toInt (by omega)]
  omega
theorem lp_in {L i : Nat} (hL : L ≤ 1536) (hi : i ≤ 1536) (h : i + 3 ≤ L) : ¬ nI L - 3 < nI i := by
  rw [Int32.lt_iff_toInt_lt, show (nI L - 3).toInt = (L : Int) - 3 from pk_sub_toInt (b := 3) (by omega) (by decide), nI_toInt (by omega)]
  omega
