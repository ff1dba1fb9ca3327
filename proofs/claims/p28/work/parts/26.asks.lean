/-! ===== the law's own small methods, and the class's calls as the law makes them ===== -/
abbrev rAsk : Room := { frames := 8, cells := 2, slots := 12, locals := 330 }
abbrev rDo : Room := { frames := 10, cells := 13, slots := 900, locals := 400 }
theorem CRep.keptF {D : Dx} {ad : Nat → Nat} {F G : Fn} {s : St} (hC : CRep D ad F s) (hI : Inv s) (hK : ∀ c, c < 300 → G c = F c) : CRep D ad G s := by
  have hmc := hI.2.1
  exact ⟨hC.1.kept (hK _ (by omega)), TxtK hC.2.1 (hK _ (by omega)) (hK _ (by omega)) (hK _ (by omega)), hC.2.2.1.kept (hK _ (by omega)), hC.2.2.2.1.kept (hK _ (by omega)), hC.2.2.2.2.1.kept (hK _ (by omega)), hC.2.2.2.2.2.1.kept (hK _ (by omega)) (hK _ (by omega)) (hK _ (by omega)) (hK _ (by omega)), hC.2.2.2.2.2.2.1.kept (fun l hl => hK _ (by omega)), hC.2.2.2.2.2.2.2.1.kept (fun r hr => ⟨hK _ (by omega), hK _ (by omega)⟩), hC.2.2.2.2.2.2.2.2.1.kept (fun m hm => ⟨hK _ (by omega), hK _ (by omega), hK _ (by omega)⟩), hC.2.2.2.2.2.2.2.2.2.1.kept (fun m hm p hp => hK _ (by have := (npL_spec (hI.2.2.2.2.2.1 m hm).2.1).1; omega)), hC.2.2.2.2.2.2.2.2.2.2.kept (fun c h1 h2 h => (hK c h2).trans h)⟩
/-- it answers v, and the class stands at s; the law's own cells stay -/
def PoL (D : Dx) (ad : Nat → Nat) (F : Fn) (v : Int32) (s : St) : Pst := fun r ad1 F1 => r = some (.int v) ∧ CRep D ad1 F1 s ∧ FrK ad F ad1 F1
theorem Ct.q {l : Launch} {D : Dx} {b0 : Nat} {y : MethodName} {ws : List Cond} {rm : Room} {av : List Value} {ad : Nat → Nat} {F : Fn} {r : Ans} {v : Int32} {s : St} {ex : List String} (h : Ct l D b0 y ws rm av ad F (PoS D ad F r) (PxS D ad F ex r)) (e : r = (0, v, s)) : Ct l D b0 y ws rm av ad F (PoL D ad F v s) noX :=
  h.weaken (fun w a G hp => by subst e; exact ⟨hp.2.1, hp.2.2.1, hp.2.2.2⟩) (fun E a G hp => by
    subst e
    obtain ⟨⟨i, hi, -⟩, -⟩ := hp
    exact absurd hi.symm (Nat.succ_ne_zero i))
theorem Ct.q0 {l : Launch} {D : Dx} {b0 : Nat} {y : MethodName} {ws : List Cond} {rm : Room} {av : List Value} {ad : Nat → Nat} {F : Fn} {r : Ans} {v : Int32} {s : St} (h : Ct l D b0 y ws rm av ad F (PoS D ad F r) noX) (e : r = (0, v, s)) : Ct l D b0 y ws rm av ad F (PoL D ad F v s) noX :=
  h.weaken (fun w a G hp => by subst e; exact ⟨hp.2.1, hp.2.2.1, hp.2.2.2⟩) (fun E a G hp => hp)
/-- what the law sees of an answer: an exception is told by its number -/
def xv (cs : List Int32) (r : Ans) : Int32 := if r.1 = 0 then r.2.1 else cs.getD (r.1 - 1) 0
theorem xv_0 {cs : List Int32} {r : Ans} (h : r.1 = 0) : xv cs r = r.2.1 := if_pos h
theorem xv_n {cs : List Int32} {r : Ans} {i : Nat} (h : r.1 = i + 1) : xv cs r = cs.getD i 0 := by
  unfold xv
  rw [if_neg (by omega), h, Nat.add_sub_cancel]
theorem FrK.tr {ad : Nat → Nat} {F : Fn} {ad1 : Nat → Nat} {F1 : Fn} {ad2 : Nat → Nat} {F2 : Fn} (h : FrK ad F ad1 F1) (g : FrK ad1 F1 ad2 F2) : FrK ad F ad2 F2 := fun c hc => ⟨(g c hc).1.trans (h c hc).1, (g c hc).2.trans (h c hc).2⟩
theorem V_ldc {X : Cxt} {cc : ByteArray} {nL : Nat} {y : MethodName} {R : Room} {ret : Option FieldType} {tb : List ExceptionTableEntry} {k n pc : Nat} {lv : Lv} {st : List Value} {ad : Nat → Nat} {F : Fn} {idx : Nat} {v : Int32} (C : Ok X cc nL y R ret tb) (d : decode cc pc = .ok (.ldc idx, 2)) (h : Cond.constant y.cls idx v ∈ ALL) (K : V X k n (pc + 2) lv (.int v :: st) ad F) : V X k n pc lv st ad F :=
  fun H locs ls hW hS hl => lv_ldc C.1 C.2.1 C.own (C.ts _ h) d (K H locs ls hW hS hl)
theorem cst_L_7 : Cond.constant RL 7 (2147483647) ∈ ALL := inr_9 _ (List.mem_of_getElem? (i := 15) rfl)
theorem neg1 : ¬ (0 : Int32) ≤ -1 := by decide
theorem tog01 (s : St) (a : Int32) : (spTog s a).2.1 = 0 ∨ (spTog s a).2.1 = 1 := by
  unfold spTog
  split
  · exact Or.inl rfl
  · split
    · exact Or.inr rfl
    · exact Or.inl rfl
set_option maxHeartbeats 400000 in
set_option maxRecDepth 100000 in
/-- keyword -/
theorem k_keyword {l : Launch} {D : Dx} {b0 : Nat} {ad : Nat → Nat} {F : Fn} (s : St) (a b : Int32) (hC : CRep D ad F s) (hI : Inv s) : Ct l D b0 yL_keyword (wsA yL_keyword cL_keyword 3 (some .int)) { frames := 7, cells := 1, slots := 6, locals := 340 } [.ref (ad 0), .int a, .int b] ad F (PoS D ad F (spKey s a b)) (PxS D ad F [eIAE] (spKey s a b)) := by
  refine Ct.of (by decide +kernel) (by simp [Value.category]) (Nat.le_of_ble_eq_true rfl) (fun X eD eb el C Q => ?_)
  subst eD; subst eb; subst el
  refine V_aload_n C dL_keyword_0 rfl ?_
  refine V_iload_n C dL_keyword_1 rfl ?_
  refine V_iload_n C dL_keyword_2 rfl ?_
  have hM := hC.1
  unfold kMain at hM
  refine V_invV C dL_keyword_3 hM rfl (c_setKeyword s a b hC hI) mv_L_49 rfl (Nat.le_of_ble_eq_true rfl) ⟨Nat.le_of_ble_eq_true rfl, Nat.le_of_ble_eq_true rfl⟩ ⟨Nat.le_of_ble_eq_true rfl, Nat.le_of_ble_eq_true rfl⟩ (fun E ad1 F1 h => VT_out C Q (Nat.le_of_ble_eq_true rfl) (Nat.le_of_ble_eq_true rfl) h) (fun v ad1 F1 hp => ?_)
  obtain ⟨h0, rfl, hC1, hfk⟩ := hp
  have hv : (spKey s a b).2.1 = 0 := by
    unfold spKey
    split <;> rfl
  refine V_iconst (v := 0) C dL_keyword_6 rfl ?_
  exact V_ireturn C Q dL_keyword_7 rfl (Nat.le_of_ble_eq_true rfl) (Nat.le_of_ble_eq_true rfl) ⟨h0, by rw [hv], hC1, hfk⟩
set_option maxHeartbeats 400000 in
set_option maxRecDepth 100000 in
/-- asks: septets -/
theorem a_septets {l : Launch} {D : Dx} {b0 : Nat} {ad : Nat → Nat} {F : Fn} (s : St) (a b : Int32) (hC : CRep D ad F s) (hI : Inv s) : Ct l D b0 yL_asks (wsH yL_asks cL_asks 5 (some .int) [(0, 139, 140, 43), (0, 139, 145, 47)]) rAsk [.ref (ad 0), .int 0, .int a, .int b] ad F (PoL D ad F (xv [(-10)] (spSept s)) s) noX := by
  refine Ct.ofH (by decide +kernel) (by simp [Value.category]) (Nat.le_of_ble_eq_true rfl) (fun X eD eb el C Q => ?_)
  subst eD; subst eb; subst el
  have hst : (spSept s).2.2 = s := by
    unfold spSept
    (repeat' split) <;> rfl
  refine V_iload_n C dL_asks_0 rfl ?_
  refine V_ifne_f (tgt := 11) C dL_asks_1 (by decide) rfl ?_
  refine V_aload_n C dL_asks_4 rfl ?_
  have hM := hC.1
  unfold kMain at hM
  refine V_invV C dL_asks_5 hM rfl (c_septets s hC hI) mv_L_53 rfl (Nat.le_of_ble_eq_true rfl) ⟨Nat.le_of_ble_eq_true rfl, Nat.le_of_ble_eq_true rfl⟩ ⟨Nat.le_of_ble_eq_true rfl, Nat.le_of_ble_eq_true rfl⟩ ?_ ?_
  · intro E ad1 F1 h
    obtain ⟨⟨i, hi, he⟩, hC1, hfk⟩ := h
    rcases i with _ | i
    · have hE : eISE = E := Option.some.inj he
      subst hE
      refine VT_catch [⟨0, 139, 140, 43⟩] ⟨0, 139, 145, 47⟩ [] C rfl (fun z hz => by
        simp only [List.mem_cons, List.not_mem_nil, or_false] at hz
        rcases hz with rfl
        · exact Or.inr ⟨by decide, "java/lang/IndexOutOfBoundsException", cl_L_43, List.mem_of_getElem? (i := 2) rfl⟩
        ) rfl (by decide) cl_L_47 (List.mem_of_getElem? (i := 1) rfl) (fun q => ?_)
      refine V_astore C dL_asks_145 (by decide) ?_
      refine V_bipush (v := (-10)) C dL_asks_147 (by decide) ?_
      exact V_ireturn C Q dL_asks_149 rfl (Nat.le_of_ble_eq_true rfl) (Nat.le_of_ble_eq_true rfl) ⟨by rw [xv_n hi]; rfl, hst ▸ hC1, hfk⟩
    · exact absurd he (by simp)
  intro v ad1 F1 hp
  obtain ⟨h0, rfl, hC1, hfk⟩ := hp
  refine V_goto (tgt := 139) C dL_asks_8 (by decide) ?_
  exact V_ireturn C Q dL_asks_139 rfl (Nat.le_of_ble_eq_true rfl) (Nat.le_of_ble_eq_true rfl) ⟨by rw [xv_0 h0], hst ▸ hC1, hfk⟩
set_option maxHeartbeats 400000 in
set_option maxRecDepth 100000 in
/-- asks: signs -/
theorem a_signs {l : Launch} {D : Dx} {b0 : Nat} {ad : Nat → Nat} {F : Fn} (s : St) (a b : Int32) (hC : CRep D ad F s) (hI : Inv s) : Ct l D b0 yL_asks (wsH yL_asks cL_asks 5 (some .int) [(0, 139, 140, 43), (0, 139, 145, 47)]) rAsk [.ref (ad 0), .int 1, .int a, .int b] ad F (PoL D ad F (xv [(-30)] (spSigns s a)) s) noX := by
  refine Ct.ofH (by decide +kernel) (by simp [Value.category]) (Nat.le_of_ble_eq_true rfl) (fun X eD eb el C Q => ?_)
  subst eD; subst eb; subst el
  have hst : (spSigns s a).2.2 = s := by
    unfold spSigns
    (repeat' split) <;> rfl
  refine V_iload_n C dL_asks_0 rfl ?_
  refine V_ifne_t (tgt := 11) C dL_asks_1 (by decide) (by decide) ?_
  refine V_iload_n C dL_asks_11 rfl ?_
  refine V_iconst (v := 1) C dL_asks_12 rfl ?_
  refine V_icmpne_f (tgt := 24) C dL_asks_13 (by decide) rfl ?_
  refine V_aload_n C dL_asks_16 rfl ?_
  refine V_iload_n C dL_asks_17 rfl ?_
  have hM := hC.1
  unfold kMain at hM
  refine V_invV C dL_asks_18 hM rfl (c_signs s a hC hI) mv_L_57 rfl (Nat.le_of_ble_eq_true rfl) ⟨Nat.le_of_ble_eq_true rfl, Nat.le_of_ble_eq_true rfl⟩ ⟨Nat.le_of_ble_eq_true rfl, Nat.le_of_ble_eq_true rfl⟩ ?_ ?_
  · intro E ad1 F1 h
    obtain ⟨⟨i, hi, he⟩, hC1, hfk⟩ := h
    rcases i with _ | i
    · have hE : eIOB = E := Option.some.inj he
      subst hE
      refine VT_catch [] ⟨0, 139, 140, 43⟩ [⟨0, 139, 145, 47⟩] C rfl (fun z hz => nomatch hz) rfl (by decide) cl_L_43 (List.mem_of_getElem? (i := 2) rfl) (fun q => ?_)
      refine V_astore C dL_asks_140 (by decide) ?_
      refine V_bipush (v := (-30)) C dL_asks_142 (by decide) ?_
      exact V_ireturn C Q dL_asks_144 rfl (Nat.le_of_ble_eq_true rfl) (Nat.le_of_ble_eq_true rfl) ⟨by rw [xv_n hi]; rfl, hst ▸ hC1, hfk⟩
    · exact absurd he (by simp)
  intro v ad1 F1 hp
  obtain ⟨h0, rfl, hC1, hfk⟩ := hp
  refine V_goto (tgt := 139) C dL_asks_21 (by decide) ?_
  exact V_ireturn C Q dL_asks_139 rfl (Nat.le_of_ble_eq_true rfl) (Nat.le_of_ble_eq_true rfl) ⟨by rw [xv_0 h0], hst ▸ hC1, hfk⟩
set_option maxHeartbeats 400000 in
set_option maxRecDepth 100000 in
/-- asks: octets -/
theorem a_octets {l : Launch} {D : Dx} {b0 : Nat} {ad : Nat → Nat} {F : Fn} (s : St) (a b : Int32) (hC : CRep D ad F s) (hI : Inv s) : Ct l D b0 yL_asks (wsH yL_asks cL_asks 5 (some .int) [(0, 139, 140, 43), (0, 139, 145, 47)]) rAsk [.ref (ad 0), .int 2, .int a, .int b] ad F (PoL D ad F (xv [(-30)] (spOcts s a)) s) noX := by
  refine Ct.ofH (by decide +kernel) (by simp [Value.category]) (Nat.le_of_ble_eq_true rfl) (fun X eD eb el C Q => ?_)
  subst eD; subst eb; subst el
  have hst : (spOcts s a).2.2 = s := by
    unfold spOcts
    (repeat' split) <;> rfl
  refine V_iload_n C dL_asks_0 rfl ?_
  refine V_ifne_t (tgt := 11) C dL_asks_1 (by decide) (by decide) ?_
  refine V_iload_n C dL_asks_11 rfl ?_
  refine V_iconst (v := 1) C dL_asks_12 rfl ?_
  refine V_icmpne_t (tgt := 24) C dL_asks_13 (by decide) (by decide) ?_
  refine V_iload_n C dL_asks_24 rfl ?_
  refine V_iconst (v := 2) C dL_asks_25 rfl ?_
  refine V_icmpne_f (tgt := 37) C dL_asks_26 (by decide) rfl ?_
  refine V_aload_n C dL_asks_29 rfl ?_
  refine V_iload_n C dL_asks_30 rfl ?_
  have hM := hC.1
  unfold kMain at hM
  refine V_invV C dL_asks_31 hM rfl (c_octets s a hC hI) mv_L_60 rfl (Nat.le_of_ble_eq_true rfl) ⟨Nat.le_of_ble_eq_true rfl, Nat.le_of_ble_eq_true rfl⟩ ⟨Nat.le_of_ble_eq_true rfl, Nat.le_of_ble_eq_true rfl⟩ ?_ ?_
  · intro E ad1 F1 h
    obtain ⟨⟨i, hi, he⟩, hC1, hfk⟩ := h
    rcases i with _ | i
    · have hE : eIOB = E := Option.some.inj he
      subst hE
      refine VT_catch [] ⟨0, 139, 140, 43⟩ [⟨0, 139, 145, 47⟩] C rfl (fun z hz => nomatch hz) rfl (by decide) cl_L_43 (List.mem_of_getElem? (i := 2) rfl) (fun q => ?_)
      refine V_astore C dL_asks_140 (by decide) ?_
      refine V_bipush (v := (-30)) C dL_asks_142 (by decide) ?_
      exact V_ireturn C Q dL_asks_144 rfl (Nat.le_of_ble_eq_true rfl) (Nat.le_of_ble_eq_true rfl) ⟨by rw [xv_n hi]; rfl, hst ▸ hC1, hfk⟩
    · exact absurd he (by simp)
  intro v ad1 F1 hp
  obtain ⟨h0, rfl, hC1, hfk⟩ := hp
  refine V_goto (tgt := 139) C dL_asks_34 (by decide) ?_
  exact V_ireturn C Q dL_asks_139 rfl (Nat.le_of_ble_eq_true rfl) (Nat.le_of_ble_eq_true rfl) ⟨by rw [xv_0 h0], hst ▸ hC1, hfk⟩
set_option maxHeartbeats 400000 in
set_option maxRecDepth 100000 in
/-- asks: octet -/
theorem a_octet {l : Launch} {D : Dx} {b0 : Nat} {ad : Nat → Nat} {F : Fn} (s : St) (a b : Int32) (hC : CRep D ad F s) (hI : Inv s) : Ct l D b0 yL_asks (wsH yL_asks cL_asks 5 (some .int) [(0, 139, 140, 43), (0, 139, 145, 47)]) rAsk [.ref (ad 0), .int 3, .int a, .int b] ad F (PoL D ad F (xv [(-30)] (spOct s a b)) s) noX := by
  refine Ct.ofH (by decide +kernel) (by simp [Value.category]) (Nat.le_of_ble_eq_true rfl) (fun X eD eb el C Q => ?_)
  subst eD; subst eb; subst el
  have hst : (spOct s a b).2.2 = s := by
    unfold spOct
    (repeat' split) <;> rfl
  refine V_iload_n C dL_asks_0 rfl ?_
  refine V_ifne_t (tgt := 11) C dL_asks_1 (by decide) (by decide) ?_
  refine V_iload_n C dL_asks_11 rfl ?_
  refine V_iconst (v := 1) C dL_asks_12 rfl ?_
  refine V_icmpne_t (tgt := 24) C dL_asks_13 (by decide) (by decide) ?_
  refine V_iload_n C dL_asks_24 rfl ?_
  refine V_iconst (v := 2) C dL_asks_25 rfl ?_
  refine V_icmpne_t (tgt := 37) C dL_asks_26 (by decide) (by decide) ?_
  refine V_iload_n C dL_asks_37 rfl ?_
  refine V_iconst (v := 3) C dL_asks_38 rfl ?_
  refine V_icmpne_f (tgt := 51) C dL_asks_39 (by decide) rfl ?_
  refine V_aload_n C dL_asks_42 rfl ?_
  refine V_iload_n C dL_asks_43 rfl ?_
  refine V_iload_n C dL_asks_44 rfl ?_
  have hM := hC.1
  unfold kMain at hM
  refine V_invV C dL_asks_45 hM rfl (c_octet s a b hC hI) mv_L_63 rfl (Nat.le_of_ble_eq_true rfl) ⟨Nat.le_of_ble_eq_true rfl, Nat.le_of_ble_eq_true rfl⟩ ⟨Nat.le_of_ble_eq_true rfl, Nat.le_of_ble_eq_true rfl⟩ ?_ ?_
  · intro E ad1 F1 h
    obtain ⟨⟨i, hi, he⟩, hC1, hfk⟩ := h
    rcases i with _ | i
    · have hE : eIOB = E := Option.some.inj he
      subst hE
      refine VT_catch [] ⟨0, 139, 140, 43⟩ [⟨0, 139, 145, 47⟩] C rfl (fun z hz => nomatch hz) rfl (by decide) cl_L_43 (List.mem_of_getElem? (i := 2) rfl) (fun q => ?_)
      refine V_astore C dL_asks_140 (by decide) ?_
      refine V_bipush (v := (-30)) C dL_asks_142 (by decide) ?_
      exact V_ireturn C Q dL_asks_144 rfl (Nat.le_of_ble_eq_true rfl) (Nat.le_of_ble_eq_true rfl) ⟨by rw [xv_n hi]; rfl, hst ▸ hC1, hfk⟩
    · exact absurd he (by simp)
  intro v ad1 F1 hp
  obtain ⟨h0, rfl, hC1, hfk⟩ := hp
  refine V_goto (tgt := 139) C dL_asks_48 (by decide) ?_
  exact V_ireturn C Q dL_asks_139 rfl (Nat.le_of_ble_eq_true rfl) (Nat.le_of_ble_eq_true rfl) ⟨by rw [xv_0 h0], hst ▸ hC1, hfk⟩
set_option maxHeartbeats 400000 in
set_option maxRecDepth 100000 in
/-- asks: state -/
theorem a_state {l : Launch} {D : Dx} {b0 : Nat} {ad : Nat → Nat} {F : Fn} (s : St) (a b : Int32) (hC : CRep D ad F s) (hI : Inv s) : Ct l D b0 yL_asks (wsH yL_asks cL_asks 5 (some .int) [(0, 139, 140, 43), (0, 139, 145, 47)]) rAsk [.ref (ad 0), .int 4, .int a, .int b] ad F (PoL D ad F (xv [(-30)] (spState s a)) s) noX := by
  refine Ct.ofH (by decide +kernel) (by simp [Value.category]) (Nat.le_of_ble_eq_true rfl) (fun X eD eb el C Q => ?_)
  subst eD; subst eb; subst el
  have hst : (spState s a).2.2 = s := by
    unfold spState
    (repeat' split) <;> rfl
  refine V_iload_n C dL_asks_0 rfl ?_
  refine V_ifne_t (tgt := 11) C dL_asks_1 (by decide) (by decide) ?_
  refine V_iload_n C dL_asks_11 rfl ?_
  refine V_iconst (v := 1) C dL_asks_12 rfl ?_
  refine V_icmpne_t (tgt := 24) C dL_asks_13 (by decide) (by decide) ?_
  refine V_iload_n C dL_asks_24 rfl ?_
  refine V_iconst (v := 2) C dL_asks_25 rfl ?_
  refine V_icmpne_t (tgt := 37) C dL_asks_26 (by decide) (by decide) ?_
  refine V_iload_n C dL_asks_37 rfl ?_
  refine V_iconst (v := 3) C dL_asks_38 rfl ?_
  refine V_icmpne_t (tgt := 51) C dL_asks_39 (by decide) (by decide) ?_
  refine V_iload_n C dL_asks_51 rfl ?_
  refine V_iconst (v := 4) C dL_asks_52 rfl ?_
  refine V_icmpne_f (tgt := 64) C dL_asks_53 (by decide) rfl ?_
  refine V_aload_n C dL_asks_56 rfl ?_
  refine V_iload_n C dL_asks_57 rfl ?_
  have hM := hC.1
  unfold kMain at hM
  refine V_invV C dL_asks_58 hM rfl (c_state s a hC hI) mv_L_66 rfl (Nat.le_of_ble_eq_true rfl) ⟨Nat.le_of_ble_eq_true rfl, Nat.le_of_ble_eq_true rfl⟩ ⟨Nat.le_of_ble_eq_true rfl, Nat.le_of_ble_eq_true rfl⟩ ?_ ?_
  · intro E ad1 F1 h
    obtain ⟨⟨i, hi, he⟩, hC1, hfk⟩ := h
    rcases i with _ | i
    · have hE : eIOB = E := Option.some.inj he
      subst hE
      refine VT_catch [] ⟨0, 139, 140, 43⟩ [⟨0, 139, 145, 47⟩] C rfl (fun z hz => nomatch hz) rfl (by decide) cl_L_43 (List.mem_of_getElem? (i := 2) rfl) (fun q => ?_)
      refine V_astore C dL_asks_140 (by decide) ?_
      refine V_bipush (v := (-30)) C dL_asks_142 (by decide) ?_
      exact V_ireturn C Q dL_asks_144 rfl (Nat.le_of_ble_eq_true rfl) (Nat.le_of_ble_eq_true rfl) ⟨by rw [xv_n hi]; rfl, hst ▸ hC1, hfk⟩
    · exact absurd he (by simp)
  intro v ad1 F1 hp
  obtain ⟨h0, rfl, hC1, hfk⟩ := hp
  refine V_goto (tgt := 139) C dL_asks_61 (by decide) ?_
  exact V_ireturn C Q dL_asks_139 rfl (Nat.le_of_ble_eq_true rfl) (Nat.le_of_ble_eq_true rfl) ⟨by rw [xv_0 h0], hst ▸ hC1, hfk⟩
set_option maxHeartbeats 400000 in
set_option maxRecDepth 100000 in
/-- asks: missing -/
theorem a_missing {l : Launch} {D : Dx} {b0 : Nat} {ad : Nat → Nat} {F : Fn} (s : St) (a b : Int32) (hC : CRep D ad F s) (hI : Inv s) : Ct l D b0 yL_asks (wsH yL_asks cL_asks 5 (some .int) [(0, 139, 140, 43), (0, 139, 145, 47)]) rAsk [.ref (ad 0), .int 5, .int a, .int b] ad F (PoL D ad F (xv [(-30)] (spMiss s a)) s) noX := by
  refine Ct.ofH (by decide +kernel) (by simp [Value.category]) (Nat.le_of_ble_eq_true rfl) (fun X eD eb el C Q => ?_)
  subst eD; subst eb; subst el
  have hst : (spMiss s a).2.2 = s := by
    unfold spMiss
    (repeat' split) <;> rfl
  refine V_iload_n C dL_asks_0 rfl ?_
  refine V_ifne_t (tgt := 11) C dL_asks_1 (by decide) (by decide) ?_
  refine V_iload_n C dL_asks_11 rfl ?_
  refine V_iconst (v := 1) C dL_asks_12 rfl ?_
  refine V_icmpne_t (tgt := 24) C dL_asks_13 (by decide) (by decide) ?_
  refine V_iload_n C dL_asks_24 rfl ?_
  refine V_iconst (v := 2) C dL_asks_25 rfl ?_
  refine V_icmpne_t (tgt := 37) C dL_asks_26 (by decide) (by decide) ?_
  refine V_iload_n C dL_asks_37 rfl ?_
  refine V_iconst (v := 3) C dL_asks_38 rfl ?_
  refine V_icmpne_t (tgt := 51) C dL_asks_39 (by decide) (by decide) ?_
  refine V_iload_n C dL_asks_51 rfl ?_
  refine V_iconst (v := 4) C dL_asks_52 rfl ?_
  refine V_icmpne_t (tgt := 64) C dL_asks_53 (by decide) (by decide) ?_
  refine V_iload_n C dL_asks_64 rfl ?_
  refine V_iconst (v := 5) C dL_asks_65 rfl ?_
  refine V_icmpne_f (tgt := 77) C dL_asks_66 (by decide) rfl ?_
  refine V_aload_n C dL_asks_69 rfl ?_
  refine V_iload_n C dL_asks_70 rfl ?_
  have hM := hC.1
  unfold kMain at hM
  refine V_invV C dL_asks_71 hM rfl (c_missing s a hC hI) mv_L_69 rfl (Nat.le_of_ble_eq_true rfl) ⟨Nat.le_of_ble_eq_true rfl, Nat.le_of_ble_eq_true rfl⟩ ⟨Nat.le_of_ble_eq_true rfl, Nat.le_of_ble_eq_true rfl⟩ ?_ ?_
  · intro E ad1 F1 h
    obtain ⟨⟨i, hi, he⟩, hC1, hfk⟩ := h
    rcases i with _ | i
    · have hE : eIOB = E := Option.some.inj he
      subst hE
      refine VT_catch [] ⟨0, 139, 140, 43⟩ [⟨0, 139, 145, 47⟩] C rfl (fun z hz => nomatch hz) rfl (by decide) cl_L_43 (List.mem_of_getElem? (i := 2) rfl) (fun q => ?_)
      refine V_astore C dL_asks_140 (by decide) ?_
      refine V_bipush (v := (-30)) C dL_asks_142 (by decide) ?_
      exact V_ireturn C Q dL_asks_144 rfl (Nat.le_of_ble_eq_true rfl) (Nat.le_of_ble_eq_true rfl) ⟨by rw [xv_n hi]; rfl, hst ▸ hC1, hfk⟩
    · exact absurd he (by simp)
  intro v ad1 F1 hp
  obtain ⟨h0, rfl, hC1, hfk⟩ := hp
  refine V_goto (tgt := 139) C dL_asks_74 (by decide) ?_
  exact V_ireturn C Q dL_asks_139 rfl (Nat.le_of_ble_eq_true rfl) (Nat.le_of_ble_eq_true rfl) ⟨by rw [xv_0 h0], hst ▸ hC1, hfk⟩
set_option maxHeartbeats 400000 in
set_option maxRecDepth 100000 in
/-- asks: joined -/
theorem a_joined {l : Launch} {D : Dx} {b0 : Nat} {ad : Nat → Nat} {F : Fn} (s : St) (a b : Int32) (hC : CRep D ad F s) (hI : Inv s) : Ct l D b0 yL_asks (wsH yL_asks cL_asks 5 (some .int) [(0, 139, 140, 43), (0, 139, 145, 47)]) rAsk [.ref (ad 0), .int 6, .int a, .int b] ad F (PoL D ad F (xv [(-30)] (spJoin s a b)) s) noX := by
  refine Ct.ofH (by decide +kernel) (by simp [Value.category]) (Nat.le_of_ble_eq_true rfl) (fun X eD eb el C Q => ?_)
  subst eD; subst eb; subst el
  have hst : (spJoin s a b).2.2 = s := by
    unfold spJoin
    (repeat' split) <;> rfl
  refine V_iload_n C dL_asks_0 rfl ?_
  refine V_ifne_t (tgt := 11) C dL_asks_1 (by decide) (by decide) ?_
  refine V_iload_n C dL_asks_11 rfl ?_
  refine V_iconst (v := 1) C dL_asks_12 rfl ?_
  refine V_icmpne_t (tgt := 24) C dL_asks_13 (by decide) (by decide) ?_
  refine V_iload_n C dL_asks_24 rfl ?_
  refine V_iconst (v := 2) C dL_asks_25 rfl ?_
  refine V_icmpne_t (tgt := 37) C dL_asks_26 (by decide) (by decide) ?_
  refine V_iload_n C dL_asks_37 rfl ?_
  refine V_iconst (v := 3) C dL_asks_38 rfl ?_
  refine V_icmpne_t (tgt := 51) C dL_asks_39 (by decide) (by decide) ?_
  refine V_iload_n C dL_asks_51 rfl ?_
  refine V_iconst (v := 4) C dL_asks_52 rfl ?_
  refine V_icmpne_t (tgt := 64) C dL_asks_53 (by decide) (by decide) ?_
  refine V_iload_n C dL_asks_64 rfl ?_
  refine V_iconst (v := 5) C dL_asks_65 rfl ?_
  refine V_icmpne_t (tgt := 77) C dL_asks_66 (by decide) (by decide) ?_
  refine V_iload_n C dL_asks_77 rfl ?_
  refine V_bipush (v := 6) C dL_asks_78 (by decide) ?_
  refine V_icmpne_f (tgt := 92) C dL_asks_80 (by decide) rfl ?_
  refine V_aload_n C dL_asks_83 rfl ?_
  refine V_iload_n C dL_asks_84 rfl ?_
  refine V_iload_n C dL_asks_85 rfl ?_
  have hM := hC.1
  unfold kMain at hM
  refine V_invV C dL_asks_86 hM rfl (c_joined s a b hC hI) mv_L_72 rfl (Nat.le_of_ble_eq_true rfl) ⟨Nat.le_of_ble_eq_true rfl, Nat.le_of_ble_eq_true rfl⟩ ⟨Nat.le_of_ble_eq_true rfl, Nat.le_of_ble_eq_true rfl⟩ ?_ ?_
  · intro E ad1 F1 h
    obtain ⟨⟨i, hi, he⟩, hC1, hfk⟩ := h
    rcases i with _ | i
    · have hE : eIOB = E := Option.some.inj he
      subst hE
      refine VT_catch [] ⟨0, 139, 140, 43⟩ [⟨0, 139, 145, 47⟩] C rfl (fun z hz => nomatch hz) rfl (by decide) cl_L_43 (List.mem_of_getElem? (i := 2) rfl) (fun q => ?_)
      refine V_astore C dL_asks_140 (by decide) ?_
      refine V_bipush (v := (-30)) C dL_asks_142 (by decide) ?_
      exact V_ireturn C Q dL_asks_144 rfl (Nat.le_of_ble_eq_true rfl) (Nat.le_of_ble_eq_true rfl) ⟨by rw [xv_n hi]; rfl, hst ▸ hC1, hfk⟩
    · exact absurd he (by simp)
  intro v ad1 F1 hp
  obtain ⟨h0, rfl, hC1, hfk⟩ := hp
  refine V_goto (tgt := 139) C dL_asks_89 (by decide) ?_
  exact V_ireturn C Q dL_asks_139 rfl (Nat.le_of_ble_eq_true rfl) (Nat.le_of_ble_eq_true rfl) ⟨by rw [xv_0 h0], hst ▸ hC1, hfk⟩
set_option maxHeartbeats 400000 in
set_option maxRecDepth 100000 in
/-- asks: receipt -/
theorem a_receipt {l : Launch} {D : Dx} {b0 : Nat} {ad : Nat → Nat} {F : Fn} (s : St) (a b : Int32) (hC : CRep D ad F s) (hI : Inv s) : Ct l D b0 yL_asks (wsH yL_asks cL_asks 5 (some .int) [(0, 139, 140, 43), (0, 139, 145, 47)]) rAsk [.ref (ad 0), .int 7, .int a, .int b] ad F (PoL D ad F (xv [(-30)] (spRcp s a)) s) noX := by
  refine Ct.ofH (by decide +kernel) (by simp [Value.category]) (Nat.le_of_ble_eq_true rfl) (fun X eD eb el C Q => ?_)
  subst eD; subst eb; subst el
  have hst : (spRcp s a).2.2 = s := by
    unfold spRcp
    (repeat' split) <;> rfl
  refine V_iload_n C dL_asks_0 rfl ?_
  refine V_ifne_t (tgt := 11) C dL_asks_1 (by decide) (by decide) ?_
  refine V_iload_n C dL_asks_11 rfl ?_
  refine V_iconst (v := 1) C dL_asks_12 rfl ?_
  refine V_icmpne_t (tgt := 24) C dL_asks_13 (by decide) (by decide) ?_
  refine V_iload_n C dL_asks_24 rfl ?_
  refine V_iconst (v := 2) C dL_asks_25 rfl ?_
  refine V_icmpne_t (tgt := 37) C dL_asks_26 (by decide) (by decide) ?_
  refine V_iload_n C dL_asks_37 rfl ?_
  refine V_iconst (v := 3) C dL_asks_38 rfl ?_
  refine V_icmpne_t (tgt := 51) C dL_asks_39 (by decide) (by decide) ?_
  refine V_iload_n C dL_asks_51 rfl ?_
  refine V_iconst (v := 4) C dL_asks_52 rfl ?_
  refine V_icmpne_t (tgt := 64) C dL_asks_53 (by decide) (by decide) ?_
  refine V_iload_n C dL_asks_64 rfl ?_
  refine V_iconst (v := 5) C dL_asks_65 rfl ?_
  refine V_icmpne_t (tgt := 77) C dL_asks_66 (by decide) (by decide) ?_
  refine V_iload_n C dL_asks_77 rfl ?_
  refine V_bipush (v := 6) C dL_asks_78 (by decide) ?_
  refine V_icmpne_t (tgt := 92) C dL_asks_80 (by decide) (by decide) ?_
  refine V_iload_n C dL_asks_92 rfl ?_
  refine V_bipush (v := 7) C dL_asks_93 (by decide) ?_
  refine V_icmpne_f (tgt := 106) C dL_asks_95 (by decide) rfl ?_
  refine V_aload_n C dL_asks_98 rfl ?_
  refine V_iload_n C dL_asks_99 rfl ?_
  have hM := hC.1
  unfold kMain at hM
  refine V_invV C dL_asks_100 hM rfl (c_receipt s a hC hI) mv_L_75 rfl (Nat.le_of_ble_eq_true rfl) ⟨Nat.le_of_ble_eq_true rfl, Nat.le_of_ble_eq_true rfl⟩ ⟨Nat.le_of_ble_eq_true rfl, Nat.le_of_ble_eq_true rfl⟩ ?_ ?_
  · intro E ad1 F1 h
    obtain ⟨⟨i, hi, he⟩, hC1, hfk⟩ := h
    rcases i with _ | i
    · have hE : eIOB = E := Option.some.inj he
      subst hE
      refine VT_catch [] ⟨0, 139, 140, 43⟩ [⟨0, 139, 145, 47⟩] C rfl (fun z hz => nomatch hz) rfl (by decide) cl_L_43 (List.mem_of_getElem? (i := 2) rfl) (fun q => ?_)
      refine V_astore C dL_asks_140 (by decide) ?_
      refine V_bipush (v := (-30)) C dL_asks_142 (by decide) ?_
      exact V_ireturn C Q dL_asks_144 rfl (Nat.le_of_ble_eq_true rfl) (Nat.le_of_ble_eq_true rfl) ⟨by rw [xv_n hi]; rfl, hst ▸ hC1, hfk⟩
    · exact absurd he (by simp)
  intro v ad1 F1 hp
  obtain ⟨h0, rfl, hC1, hfk⟩ := hp
  refine V_goto (tgt := 139) C dL_asks_103 (by decide) ?_
  exact V_ireturn C Q dL_asks_139 rfl (Nat.le_of_ble_eq_true rfl) (Nat.le_of_ble_eq_true rfl) ⟨by rw [xv_0 h0], hst ▸ hC1, hfk⟩
set_option maxHeartbeats 400000 in
set_option maxRecDepth 100000 in
/-- asks: queued -/
theorem a_queued {l : Launch} {D : Dx} {b0 : Nat} {ad : Nat → Nat} {F : Fn} (s : St) (a b : Int32) (hC : CRep D ad F s) (hI : Inv s) : Ct l D b0 yL_asks (wsH yL_asks cL_asks 5 (some .int) [(0, 139, 140, 43), (0, 139, 145, 47)]) rAsk [.ref (ad 0), .int 8, .int a, .int b] ad F (PoL D ad F (xv [(-30)] (spQd s a)) s) noX := by
  refine Ct.ofH (by decide +kernel) (by simp [Value.category]) (Nat.le_of_ble_eq_true rfl) (fun X eD eb el C Q => ?_)
  subst eD; subst eb; subst el
  have hst : (spQd s a).2.2 = s := by
    unfold spQd
    (repeat' split) <;> rfl
  refine V_iload_n C dL_asks_0 rfl ?_
  refine V_ifne_t (tgt := 11) C dL_asks_1 (by decide) (by decide) ?_
  refine V_iload_n C dL_asks_11 rfl ?_
  refine V_iconst (v := 1) C dL_asks_12 rfl ?_
  refine V_icmpne_t (tgt := 24) C dL_asks_13 (by decide) (by decide) ?_
  refine V_iload_n C dL_asks_24 rfl ?_
  refine V_iconst (v := 2) C dL_asks_25 rfl ?_
  refine V_icmpne_t (tgt := 37) C dL_asks_26 (by decide) (by decide) ?_
  refine V_iload_n C dL_asks_37 rfl ?_
  refine V_iconst (v := 3) C dL_asks_38 rfl ?_
  refine V_icmpne_t (tgt := 51) C dL_asks_39 (by decide) (by decide) ?_
  refine V_iload_n C dL_asks_51 rfl ?_
  refine V_iconst (v := 4) C dL_asks_52 rfl ?_
  refine V_icmpne_t (tgt := 64) C dL_asks_53 (by decide) (by decide) ?_
  refine V_iload_n C dL_asks_64 rfl ?_
  refine V_iconst (v := 5) C dL_asks_65 rfl ?_
  refine V_icmpne_t (tgt := 77) C dL_asks_66 (by decide) (by decide) ?_
  refine V_iload_n C dL_asks_77 rfl ?_
  refine V_bipush (v := 6) C dL_asks_78 (by decide) ?_
  refine V_icmpne_t (tgt := 92) C dL_asks_80 (by decide) (by decide) ?_
  refine V_iload_n C dL_asks_92 rfl ?_
  refine V_bipush (v := 7) C dL_asks_93 (by decide) ?_
  refine V_icmpne_t (tgt := 106) C dL_asks_95 (by decide) (by decide) ?_
  refine V_iload_n C dL_asks_106 rfl ?_
  refine V_bipush (v := 8) C dL_asks_107 (by decide) ?_
  refine V_icmpne_f (tgt := 120) C dL_asks_109 (by decide) rfl ?_
  refine V_aload_n C dL_asks_112 rfl ?_
  refine V_iload_n C dL_asks_113 rfl ?_
  have hM := hC.1
  unfold kMain at hM
  refine V_invV C dL_asks_114 hM rfl (c_queued s a hC hI) mv_L_78 rfl (Nat.le_of_ble_eq_true rfl) ⟨Nat.le_of_ble_eq_true rfl, Nat.le_of_ble_eq_true rfl⟩ ⟨Nat.le_of_ble_eq_true rfl, Nat.le_of_ble_eq_true rfl⟩ ?_ ?_
  · intro E ad1 F1 h
    obtain ⟨⟨i, hi, he⟩, hC1, hfk⟩ := h
    rcases i with _ | i
    · have hE : eIOB = E := Option.some.inj he
      subst hE
      refine VT_catch [] ⟨0, 139, 140, 43⟩ [⟨0, 139, 145, 47⟩] C rfl (fun z hz => nomatch hz) rfl (by decide) cl_L_43 (List.mem_of_getElem? (i := 2) rfl) (fun q => ?_)
      refine V_astore C dL_asks_140 (by decide) ?_
      refine V_bipush (v := (-30)) C dL_asks_142 (by decide) ?_
      exact V_ireturn C Q dL_asks_144 rfl (Nat.le_of_ble_eq_true rfl) (Nat.le_of_ble_eq_true rfl) ⟨by rw [xv_n hi]; rfl, hst ▸ hC1, hfk⟩
    · exact absurd he (by simp)
  intro v ad1 F1 hp
  obtain ⟨h0, rfl, hC1, hfk⟩ := hp
  refine V_goto (tgt := 139) C dL_asks_117 (by decide) ?_
  exact V_ireturn C Q dL_asks_139 rfl (Nat.le_of_ble_eq_true rfl) (Nat.le_of_ble_eq_true rfl) ⟨by rw [xv_0 h0], hst ▸ hC1, hfk⟩
set_option maxHeartbeats 400000 in
set_option maxRecDepth 100000 in
/-- asks: underWay -/
theorem a_underWay {l : Launch} {D : Dx} {b0 : Nat} {ad : Nat → Nat} {F : Fn} (s : St) (a b : Int32) (hC : CRep D ad F s) (hI : Inv s) : Ct l D b0 yL_asks (wsH yL_asks cL_asks 5 (some .int) [(0, 139, 140, 43), (0, 139, 145, 47)]) rAsk [.ref (ad 0), .int 9, .int a, .int b] ad F (PoL D ad F (xv [(-30)] (spUw s a)) s) noX := by
  refine Ct.ofH (by decide +kernel) (by simp [Value.category]) (Nat.le_of_ble_eq_true rfl) (fun X eD eb el C Q => ?_)
  subst eD; subst eb; subst el
  have hst : (spUw s a).2.2 = s := by
    unfold spUw
    (repeat' split) <;> rfl
  refine V_iload_n C dL_asks_0 rfl ?_
  refine V_ifne_t (tgt := 11) C dL_asks_1 (by decide) (by decide) ?_
  refine V_iload_n C dL_asks_11 rfl ?_
  refine V_iconst (v := 1) C dL_asks_12 rfl ?_
  refine V_icmpne_t (tgt := 24) C dL_asks_13 (by decide) (by decide) ?_
  refine V_iload_n C dL_asks_24 rfl ?_
  refine V_iconst (v := 2) C dL_asks_25 rfl ?_
  refine V_icmpne_t (tgt := 37) C dL_asks_26 (by decide) (by decide) ?_
  refine V_iload_n C dL_asks_37 rfl ?_
  refine V_iconst (v := 3) C dL_asks_38 rfl ?_
  refine V_icmpne_t (tgt := 51) C dL_asks_39 (by decide) (by decide) ?_
  refine V_iload_n C dL_asks_51 rfl ?_
  refine V_iconst (v := 4) C dL_asks_52 rfl ?_
  refine V_icmpne_t (tgt := 64) C dL_asks_53 (by decide) (by decide) ?_
  refine V_iload_n C dL_asks_64 rfl ?_
  refine V_iconst (v := 5) C dL_asks_65 rfl ?_
  refine V_icmpne_t (tgt := 77) C dL_asks_66 (by decide) (by decide) ?_
  refine V_iload_n C dL_asks_77 rfl ?_
  refine V_bipush (v := 6) C dL_asks_78 (by decide) ?_
  refine V_icmpne_t (tgt := 92) C dL_asks_80 (by decide) (by decide) ?_
  refine V_iload_n C dL_asks_92 rfl ?_
  refine V_bipush (v := 7) C dL_asks_93 (by decide) ?_
  refine V_icmpne_t (tgt := 106) C dL_asks_95 (by decide) (by decide) ?_
  refine V_iload_n C dL_asks_106 rfl ?_
  refine V_bipush (v := 8) C dL_asks_107 (by decide) ?_
  refine V_icmpne_t (tgt := 120) C dL_asks_109 (by decide) (by decide) ?_
  refine V_iload_n C dL_asks_120 rfl ?_
  refine V_bipush (v := 9) C dL_asks_121 (by decide) ?_
  refine V_icmpne_f (tgt := 134) C dL_asks_123 (by decide) rfl ?_
  refine V_aload_n C dL_asks_126 rfl ?_
  refine V_iload_n C dL_asks_127 rfl ?_
  have hM := hC.1
  unfold kMain at hM
  refine V_invV C dL_asks_128 hM rfl (c_underWay s a hC hI) mv_L_81 rfl (Nat.le_of_ble_eq_true rfl) ⟨Nat.le_of_ble_eq_true rfl, Nat.le_of_ble_eq_true rfl⟩ ⟨Nat.le_of_ble_eq_true rfl, Nat.le_of_ble_eq_true rfl⟩ ?_ ?_
  · intro E ad1 F1 h
    obtain ⟨⟨i, hi, he⟩, hC1, hfk⟩ := h
    rcases i with _ | i
    · have hE : eIOB = E := Option.some.inj he
      subst hE
      refine VT_catch [] ⟨0, 139, 140, 43⟩ [⟨0, 139, 145, 47⟩] C rfl (fun z hz => nomatch hz) rfl (by decide) cl_L_43 (List.mem_of_getElem? (i := 2) rfl) (fun q => ?_)
      refine V_astore C dL_asks_140 (by decide) ?_
      refine V_bipush (v := (-30)) C dL_asks_142 (by decide) ?_
      exact V_ireturn C Q dL_asks_144 rfl (Nat.le_of_ble_eq_true rfl) (Nat.le_of_ble_eq_true rfl) ⟨by rw [xv_n hi]; rfl, hst ▸ hC1, hfk⟩
    · exact absurd he (by simp)
  intro v ad1 F1 hp
  obtain ⟨h0, rfl, hC1, hfk⟩ := hp
  refine V_goto (tgt := 139) C dL_asks_131 (by decide) ?_
  exact V_ireturn C Q dL_asks_139 rfl (Nat.le_of_ble_eq_true rfl) (Nat.le_of_ble_eq_true rfl) ⟨by rw [xv_0 h0], hst ▸ hC1, hfk⟩
set_option maxHeartbeats 400000 in
set_option maxRecDepth 100000 in
/-- asks: tokens -/
theorem a_tokens {l : Launch} {D : Dx} {b0 : Nat} {ad : Nat → Nat} {F : Fn} (s : St) (a b : Int32) (hC : CRep D ad F s) (hI : Inv s) : Ct l D b0 yL_asks (wsH yL_asks cL_asks 5 (some .int) [(0, 139, 140, 43), (0, 139, 145, 47)]) rAsk [.ref (ad 0), .int 10, .int a, .int b] ad F (PoL D ad F (xv [(-30)] (spTok s a)) s) noX := by
  refine Ct.ofH (by decide +kernel) (by simp [Value.category]) (Nat.le_of_ble_eq_true rfl) (fun X eD eb el C Q => ?_)
  subst eD; subst eb; subst el
  have hst : (spTok s a).2.2 = s := by
    unfold spTok
    (repeat' split) <;> rfl
  refine V_iload_n C dL_asks_0 rfl ?_
  refine V_ifne_t (tgt := 11) C dL_asks_1 (by decide) (by decide) ?_
  refine V_iload_n C dL_asks_11 rfl ?_
  refine V_iconst (v := 1) C dL_asks_12 rfl ?_
  refine V_icmpne_t (tgt := 24) C dL_asks_13 (by decide) (by decide) ?_
  refine V_iload_n C dL_asks_24 rfl ?_
  refine V_iconst (v := 2) C dL_asks_25 rfl ?_
  refine V_icmpne_t (tgt := 37) C dL_asks_26 (by decide) (by decide) ?_
  refine V_iload_n C dL_asks_37 rfl ?_
  refine V_iconst (v := 3) C dL_asks_38 rfl ?_
  refine V_icmpne_t (tgt := 51) C dL_asks_39 (by decide) (by decide) ?_
  refine V_iload_n C dL_asks_51 rfl ?_
  refine V_iconst (v := 4) C dL_asks_52 rfl ?_
  refine V_icmpne_t (tgt := 64) C dL_asks_53 (by decide) (by decide) ?_
  refine V_iload_n C dL_asks_64 rfl ?_
  refine V_iconst (v := 5) C dL_asks_65 rfl ?_
  refine V_icmpne_t (tgt := 77) C dL_asks_66 (by decide) (by decide) ?_
  refine V_iload_n C dL_asks_77 rfl ?_
  refine V_bipush (v := 6) C dL_asks_78 (by decide) ?_
  refine V_icmpne_t (tgt := 92) C dL_asks_80 (by decide) (by decide) ?_
  refine V_iload_n C dL_asks_92 rfl ?_
  refine V_bipush (v := 7) C dL_asks_93 (by decide) ?_
  refine V_icmpne_t (tgt := 106) C dL_asks_95 (by decide) (by decide) ?_
  refine V_iload_n C dL_asks_106 rfl ?_
  refine V_bipush (v := 8) C dL_asks_107 (by decide) ?_
  refine V_icmpne_t (tgt := 120) C dL_asks_109 (by decide) (by decide) ?_
  refine V_iload_n C dL_asks_120 rfl ?_
  refine V_bipush (v := 9) C dL_asks_121 (by decide) ?_
  refine V_icmpne_t (tgt := 134) C dL_asks_123 (by decide) (by decide) ?_
  refine V_aload_n C dL_asks_134 rfl ?_
  refine V_iload_n C dL_asks_135 rfl ?_
  have hM := hC.1
  unfold kMain at hM
  refine V_invV C dL_asks_136 hM rfl (c_tokens s a hC hI) mv_L_84 rfl (Nat.le_of_ble_eq_true rfl) ⟨Nat.le_of_ble_eq_true rfl, Nat.le_of_ble_eq_true rfl⟩ ⟨Nat.le_of_ble_eq_true rfl, Nat.le_of_ble_eq_true rfl⟩ ?_ ?_
  · intro E ad1 F1 h
    obtain ⟨⟨i, hi, he⟩, hC1, hfk⟩ := h
    rcases i with _ | i
    · have hE : eIOB = E := Option.some.inj he
      subst hE
      refine VT_catch [] ⟨0, 139, 140, 43⟩ [⟨0, 139, 145, 47⟩] C rfl (fun z hz => nomatch hz) rfl (by decide) cl_L_43 (List.mem_of_getElem? (i := 2) rfl) (fun q => ?_)
      refine V_astore C dL_asks_140 (by decide) ?_
      refine V_bipush (v := (-30)) C dL_asks_142 (by decide) ?_
      exact V_ireturn C Q dL_asks_144 rfl (Nat.le_of_ble_eq_true rfl) (Nat.le_of_ble_eq_true rfl) ⟨by rw [xv_n hi]; rfl, hst ▸ hC1, hfk⟩
    · exact absurd he (by simp)
  intro v ad1 F1 hp
  obtain ⟨h0, rfl, hC1, hfk⟩ := hp
  exact V_ireturn C Q dL_asks_139 rfl (Nat.le_of_ble_eq_true rfl) (Nat.le_of_ble_eq_true rfl) ⟨by rw [xv_0 h0], hst ▸ hC1, hfk⟩
set_option maxHeartbeats 400000 in
set_option maxRecDepth 100000 in
/-- does: write -/
theorem d_write {l : Launch} {D : Dx} {b0 : Nat} {ad : Nat → Nat} {F : Fn} (s : St) (a b : Int32) (hC : CRep D ad F s) (hI : Inv s) : Ct l D b0 yL_does (wsH yL_does cL_does 5 (some .int) [(0, 124, 125, 43), (0, 124, 130, 45), (0, 124, 135, 47)]) rDo [.ref (ad 0), .int 0, .int a, .int b] ad F (PoL D ad F (xv [(-20), (-10)] (spWrite s a b)) (spWrite s a b).2.2) noX := by
  refine Ct.ofH (by decide +kernel) (by simp [Value.category]) (Nat.le_of_ble_eq_true rfl) (fun X eD eb el C Q => ?_)
  subst eD; subst eb; subst el
  refine V_iload_n C dL_does_0 rfl ?_
  refine V_ifne_f (tgt := 13) C dL_does_1 (by decide) rfl ?_
  refine V_aload_n C dL_does_4 rfl ?_
  refine V_iload_n C dL_does_5 rfl ?_
  refine V_iload_n C dL_does_6 rfl ?_
  have hM := hC.1
  unfold kMain at hM
  refine V_invV C dL_does_7 hM rfl (c_write s a b hC hI) mv_L_8 rfl (Nat.le_of_ble_eq_true rfl) ⟨Nat.le_of_ble_eq_true rfl, Nat.le_of_ble_eq_true rfl⟩ ⟨Nat.le_of_ble_eq_true rfl, Nat.le_of_ble_eq_true rfl⟩ ?_ ?_
  · intro E ad1 F1 h
    obtain ⟨⟨i, hi, he⟩, hC1, hfk⟩ := h
    rcases i with _ | _ | i
    · have hE : eIAE = E := Option.some.inj he
      subst hE
      refine VT_catch [⟨0, 124, 125, 43⟩] ⟨0, 124, 130, 45⟩ [⟨0, 124, 135, 47⟩] C rfl (fun z hz => by
        simp only [List.mem_cons, List.not_mem_nil, or_false] at hz
        rcases hz with rfl
        · exact Or.inr ⟨by decide, "java/lang/IndexOutOfBoundsException", cl_L_43, List.mem_of_getElem? (i := 1) rfl⟩
        ) rfl (by decide) cl_L_45 (List.mem_of_getElem? (i := 0) rfl) (fun q => ?_)
      refine V_astore C dL_does_130 (by decide) ?_
      refine V_bipush (v := (-20)) C dL_does_132 (by decide) ?_
      exact V_ireturn C Q dL_does_134 rfl (Nat.le_of_ble_eq_true rfl) (Nat.le_of_ble_eq_true rfl) ⟨by rw [xv_n hi]; rfl, hC1, hfk⟩
    · have hE : eISE = E := Option.some.inj he
      subst hE
      refine VT_catch [⟨0, 124, 125, 43⟩, ⟨0, 124, 130, 45⟩] ⟨0, 124, 135, 47⟩ [] C rfl (fun z hz => by
        simp only [List.mem_cons, List.not_mem_nil, or_false] at hz
        rcases hz with rfl | rfl
        · exact Or.inr ⟨by decide, "java/lang/IndexOutOfBoundsException", cl_L_43, List.mem_of_getElem? (i := 2) rfl⟩
        · exact Or.inr ⟨by decide, "java/lang/IllegalArgumentException", cl_L_45, List.mem_of_getElem? (i := 0) rfl⟩
        ) rfl (by decide) cl_L_47 (List.mem_of_getElem? (i := 1) rfl) (fun q => ?_)
      refine V_astore C dL_does_135 (by decide) ?_
      refine V_bipush (v := (-10)) C dL_does_137 (by decide) ?_
      exact V_ireturn C Q dL_does_139 rfl (Nat.le_of_ble_eq_true rfl) (Nat.le_of_ble_eq_true rfl) ⟨by rw [xv_n hi]; rfl, hC1, hfk⟩
    · exact absurd he (by simp)
  intro v ad1 F1 hp
  obtain ⟨h0, rfl, hC1, hfk⟩ := hp
  refine V_goto (tgt := 124) C dL_does_10 (by decide) ?_
  exact V_ireturn C Q dL_does_124 rfl (Nat.le_of_ble_eq_true rfl) (Nat.le_of_ble_eq_true rfl) ⟨by rw [xv_0 h0], hC1, hfk⟩
set_option maxHeartbeats 400000 in
set_option maxRecDepth 100000 in
/-- does: submit -/
theorem d_submit {l : Launch} {D : Dx} {b0 : Nat} {ad : Nat → Nat} {F : Fn} (s : St) (a b : Int32) (hC : CRep D ad F s) (hI : Inv s) : Ct l D b0 yL_does (wsH yL_does cL_does 5 (some .int) [(0, 124, 125, 43), (0, 124, 130, 45), (0, 124, 135, 47)]) rDo [.ref (ad 0), .int 1, .int a, .int b] ad F (PoL D ad F (xv [(-20), (-10)] (spSub s a b)) (spSub s a b).2.2) noX := by
  refine Ct.ofH (by decide +kernel) (by simp [Value.category]) (Nat.le_of_ble_eq_true rfl) (fun X eD eb el C Q => ?_)
  subst eD; subst eb; subst el
  refine V_iload_n C dL_does_0 rfl ?_
  refine V_ifne_t (tgt := 13) C dL_does_1 (by decide) (by decide) ?_
  refine V_iload_n C dL_does_13 rfl ?_
  refine V_iconst (v := 1) C dL_does_14 rfl ?_
  refine V_icmpne_f (tgt := 27) C dL_does_15 (by decide) rfl ?_
  refine V_aload_n C dL_does_18 rfl ?_
  refine V_iload_n C dL_does_19 rfl ?_
  refine V_iload_n C dL_does_20 rfl ?_
  have hM := hC.1
  unfold kMain at hM
  refine V_invV C dL_does_21 hM rfl (c_submit s a b hC hI) mv_L_14 rfl (Nat.le_of_ble_eq_true rfl) ⟨Nat.le_of_ble_eq_true rfl, Nat.le_of_ble_eq_true rfl⟩ ⟨Nat.le_of_ble_eq_true rfl, Nat.le_of_ble_eq_true rfl⟩ ?_ ?_
  · intro E ad1 F1 h
    obtain ⟨⟨i, hi, he⟩, hC1, hfk⟩ := h
    rcases i with _ | _ | i
    · have hE : eIAE = E := Option.some.inj he
      subst hE
      refine VT_catch [⟨0, 124, 125, 43⟩] ⟨0, 124, 130, 45⟩ [⟨0, 124, 135, 47⟩] C rfl (fun z hz => by
        simp only [List.mem_cons, List.not_mem_nil, or_false] at hz
        rcases hz with rfl
        · exact Or.inr ⟨by decide, "java/lang/IndexOutOfBoundsException", cl_L_43, List.mem_of_getElem? (i := 1) rfl⟩
        ) rfl (by decide) cl_L_45 (List.mem_of_getElem? (i := 0) rfl) (fun q => ?_)
      refine V_astore C dL_does_130 (by decide) ?_
      refine V_bipush (v := (-20)) C dL_does_132 (by decide) ?_
      exact V_ireturn C Q dL_does_134 rfl (Nat.le_of_ble_eq_true rfl) (Nat.le_of_ble_eq_true rfl) ⟨by rw [xv_n hi]; rfl, hC1, hfk⟩
    · have hE : eISE = E := Option.some.inj he
      subst hE
      refine VT_catch [⟨0, 124, 125, 43⟩, ⟨0, 124, 130, 45⟩] ⟨0, 124, 135, 47⟩ [] C rfl (fun z hz => by
        simp only [List.mem_cons, List.not_mem_nil, or_false] at hz
        rcases hz with rfl | rfl
        · exact Or.inr ⟨by decide, "java/lang/IndexOutOfBoundsException", cl_L_43, List.mem_of_getElem? (i := 2) rfl⟩
        · exact Or.inr ⟨by decide, "java/lang/IllegalArgumentException", cl_L_45, List.mem_of_getElem? (i := 0) rfl⟩
        ) rfl (by decide) cl_L_47 (List.mem_of_getElem? (i := 1) rfl) (fun q => ?_)
      refine V_astore C dL_does_135 (by decide) ?_
      refine V_bipush (v := (-10)) C dL_does_137 (by decide) ?_
      exact V_ireturn C Q dL_does_139 rfl (Nat.le_of_ble_eq_true rfl) (Nat.le_of_ble_eq_true rfl) ⟨by rw [xv_n hi]; rfl, hC1, hfk⟩
    · exact absurd he (by simp)
  intro v ad1 F1 hp
  obtain ⟨h0, rfl, hC1, hfk⟩ := hp
  refine V_goto (tgt := 124) C dL_does_24 (by decide) ?_
  exact V_ireturn C Q dL_does_124 rfl (Nat.le_of_ble_eq_true rfl) (Nat.le_of_ble_eq_true rfl) ⟨by rw [xv_0 h0], hC1, hfk⟩
set_option maxHeartbeats 400000 in
set_option maxRecDepth 100000 in
/-- does: pass -/
theorem d_pass {l : Launch} {D : Dx} {b0 : Nat} {ad : Nat → Nat} {F : Fn} (s : St) (a b : Int32) (hC : CRep D ad F s) (hI : Inv s) (hb : zNow s ≤ 190000) : Ct l D b0 yL_does (wsH yL_does cL_does 5 (some .int) [(0, 124, 125, 43), (0, 124, 130, 45), (0, 124, 135, 47)]) rDo [.ref (ad 0), .int 2, .int a, .int b] ad F (PoL D ad F (xv [(-20)] (spPass s a)) (spPass s a).2.2) noX := by
  refine Ct.ofH (by decide +kernel) (by simp [Value.category]) (Nat.le_of_ble_eq_true rfl) (fun X eD eb el C Q => ?_)
  subst eD; subst eb; subst el
  refine V_iload_n C dL_does_0 rfl ?_
  refine V_ifne_t (tgt := 13) C dL_does_1 (by decide) (by decide) ?_
  refine V_iload_n C dL_does_13 rfl ?_
  refine V_iconst (v := 1) C dL_does_14 rfl ?_
  refine V_icmpne_t (tgt := 27) C dL_does_15 (by decide) (by decide) ?_
  refine V_iload_n C dL_does_27 rfl ?_
  refine V_iconst (v := 2) C dL_does_28 rfl ?_
  refine V_icmpne_f (tgt := 40) C dL_does_29 (by decide) rfl ?_
  refine V_aload_n C dL_does_32 rfl ?_
  refine V_iload_n C dL_does_33 rfl ?_
  have hM := hC.1
  unfold kMain at hM
  refine V_invV C dL_does_34 hM rfl (c_pass s a hC hI hb) mv_L_17 rfl (Nat.le_of_ble_eq_true rfl) ⟨Nat.le_of_ble_eq_true rfl, Nat.le_of_ble_eq_true rfl⟩ ⟨Nat.le_of_ble_eq_true rfl, Nat.le_of_ble_eq_true rfl⟩ ?_ ?_
  · intro E ad1 F1 h
    obtain ⟨⟨i, hi, he⟩, hC1, hfk⟩ := h
    rcases i with _ | i
    · have hE : eIAE = E := Option.some.inj he
      subst hE
      refine VT_catch [⟨0, 124, 125, 43⟩] ⟨0, 124, 130, 45⟩ [⟨0, 124, 135, 47⟩] C rfl (fun z hz => by
        simp only [List.mem_cons, List.not_mem_nil, or_false] at hz
        rcases hz with rfl
        · exact Or.inr ⟨by decide, "java/lang/IndexOutOfBoundsException", cl_L_43, List.mem_of_getElem? (i := 1) rfl⟩
        ) rfl (by decide) cl_L_45 (List.mem_of_getElem? (i := 0) rfl) (fun q => ?_)
      refine V_astore C dL_does_130 (by decide) ?_
      refine V_bipush (v := (-20)) C dL_does_132 (by decide) ?_
      exact V_ireturn C Q dL_does_134 rfl (Nat.le_of_ble_eq_true rfl) (Nat.le_of_ble_eq_true rfl) ⟨by rw [xv_n hi]; rfl, hC1, hfk⟩
    · exact absurd he (by simp)
  intro v ad1 F1 hp
  obtain ⟨h0, rfl, hC1, hfk⟩ := hp
  refine V_goto (tgt := 124) C dL_does_37 (by decide) ?_
  exact V_ireturn C Q dL_does_124 rfl (Nat.le_of_ble_eq_true rfl) (Nat.le_of_ble_eq_true rfl) ⟨by rw [xv_0 h0], hC1, hfk⟩
set_option maxHeartbeats 400000 in
set_option maxRecDepth 100000 in
/-- does: toggleLink -/
theorem d_toggleLink {l : Launch} {D : Dx} {b0 : Nat} {ad : Nat → Nat} {F : Fn} (s : St) (a b : Int32) (hC : CRep D ad F s) (hI : Inv s) : Ct l D b0 yL_does (wsH yL_does cL_does 5 (some .int) [(0, 124, 125, 43), (0, 124, 130, 45), (0, 124, 135, 47)]) rDo [.ref (ad 0), .int 3, .int a, .int b] ad F (PoL D ad F (xv [(-30)] (spTog s a)) (spTog s a).2.2) noX := by
  refine Ct.ofH (by decide +kernel) (by simp [Value.category]) (Nat.le_of_ble_eq_true rfl) (fun X eD eb el C Q => ?_)
  subst eD; subst eb; subst el
  refine V_iload_n C dL_does_0 rfl ?_
  refine V_ifne_t (tgt := 13) C dL_does_1 (by decide) (by decide) ?_
  refine V_iload_n C dL_does_13 rfl ?_
  refine V_iconst (v := 1) C dL_does_14 rfl ?_
  refine V_icmpne_t (tgt := 27) C dL_does_15 (by decide) (by decide) ?_
  refine V_iload_n C dL_does_27 rfl ?_
  refine V_iconst (v := 2) C dL_does_28 rfl ?_
  refine V_icmpne_t (tgt := 40) C dL_does_29 (by decide) (by decide) ?_
  refine V_iload_n C dL_does_40 rfl ?_
  refine V_iconst (v := 3) C dL_does_41 rfl ?_
  refine V_icmpne_f (tgt := 61) C dL_does_42 (by decide) rfl ?_
  refine V_aload_n C dL_does_45 rfl ?_
  refine V_iload_n C dL_does_46 rfl ?_
  have hM := hC.1
  unfold kMain at hM
  refine V_invV C dL_does_47 hM rfl (c_toggleLink s a hC hI) mv_L_21 rfl (Nat.le_of_ble_eq_true rfl) ⟨Nat.le_of_ble_eq_true rfl, Nat.le_of_ble_eq_true rfl⟩ ⟨Nat.le_of_ble_eq_true rfl, Nat.le_of_ble_eq_true rfl⟩ ?_ ?_
  · intro E ad1 F1 h
    obtain ⟨⟨i, hi, he⟩, hC1, hfk⟩ := h
    rcases i with _ | i
    · have hE : eIOB = E := Option.some.inj he
      subst hE
      refine VT_catch [] ⟨0, 124, 125, 43⟩ [⟨0, 124, 130, 45⟩, ⟨0, 124, 135, 47⟩] C rfl (fun z hz => nomatch hz) rfl (by decide) cl_L_43 (List.mem_of_getElem? (i := 2) rfl) (fun q => ?_)
      refine V_astore C dL_does_125 (by decide) ?_
      refine V_bipush (v := (-30)) C dL_does_127 (by decide) ?_
      exact V_ireturn C Q dL_does_129 rfl (Nat.le_of_ble_eq_true rfl) (Nat.le_of_ble_eq_true rfl) ⟨by rw [xv_n hi]; rfl, hC1, hfk⟩
    · exact absurd he (by simp)
  intro v ad1 F1 hp
  obtain ⟨h0, rfl, hC1, hfk⟩ := hp
  have h01 : (spTog s a).2.1 = 0 ∨ (spTog s a).2.1 = 1 := tog01 s a
  refine V_ifeq (tgt := 57) C dL_does_50 (by decide) (fun h1 => ?_) (fun h1 => ?_)
  · refine V_iconst (v := 0) C dL_does_57 rfl ?_
    refine V_goto (tgt := 124) C dL_does_58 (by decide) ?_
    exact V_ireturn C Q dL_does_124 rfl (Nat.le_of_ble_eq_true rfl) (Nat.le_of_ble_eq_true rfl) ⟨by rw [xv_0 h0, h1], hC1, hfk⟩
  · refine V_iconst (v := 1) C dL_does_53 rfl ?_
    refine V_goto (tgt := 124) C dL_does_54 (by decide) ?_
    exact V_ireturn C Q dL_does_124 rfl (Nat.le_of_ble_eq_true rfl) (Nat.le_of_ble_eq_true rfl) ⟨by rw [xv_0 h0, h01.resolve_left h1], hC1, hfk⟩
set_option maxHeartbeats 400000 in
set_option maxRecDepth 100000 in
/-- does: setWindow -/
theorem d_setWindow {l : Launch} {D : Dx} {b0 : Nat} {ad : Nat → Nat} {F : Fn} (s : St) (a b : Int32) (hC : CRep D ad F s) (hI : Inv s) : Ct l D b0 yL_does (wsH yL_does cL_does 5 (some .int) [(0, 124, 125, 43), (0, 124, 130, 45), (0, 124, 135, 47)]) rDo [.ref (ad 0), .int 4, .int a, .int b] ad F (PoL D ad F (xv [(-30), (-20)] (spSetW s a b)) (spSetW s a b).2.2) noX := by
  refine Ct.ofH (by decide +kernel) (by simp [Value.category]) (Nat.le_of_ble_eq_true rfl) (fun X eD eb el C Q => ?_)
  subst eD; subst eb; subst el
  refine V_iload_n C dL_does_0 rfl ?_
  refine V_ifne_t (tgt := 13) C dL_does_1 (by decide) (by decide) ?_
  refine V_iload_n C dL_does_13 rfl ?_
  refine V_iconst (v := 1) C dL_does_14 rfl ?_
  refine V_icmpne_t (tgt := 27) C dL_does_15 (by decide) (by decide) ?_
  refine V_iload_n C dL_does_27 rfl ?_
  refine V_iconst (v := 2) C dL_does_28 rfl ?_
  refine V_icmpne_t (tgt := 40) C dL_does_29 (by decide) (by decide) ?_
  refine V_iload_n C dL_does_40 rfl ?_
  refine V_iconst (v := 3) C dL_does_41 rfl ?_
  refine V_icmpne_t (tgt := 61) C dL_does_42 (by decide) (by decide) ?_
  refine V_iload_n C dL_does_61 rfl ?_
  refine V_iconst (v := 4) C dL_does_62 rfl ?_
  refine V_icmpne_f (tgt := 75) C dL_does_63 (by decide) rfl ?_
  refine V_aload_n C dL_does_66 rfl ?_
  refine V_iload_n C dL_does_67 rfl ?_
  refine V_iload_n C dL_does_68 rfl ?_
  have hM := hC.1
  unfold kMain at hM
  refine V_invV C dL_does_69 hM rfl (c_setWindow s a b hC hI) mv_L_25 rfl (Nat.le_of_ble_eq_true rfl) ⟨Nat.le_of_ble_eq_true rfl, Nat.le_of_ble_eq_true rfl⟩ ⟨Nat.le_of_ble_eq_true rfl, Nat.le_of_ble_eq_true rfl⟩ ?_ ?_
  · intro E ad1 F1 h
    obtain ⟨⟨i, hi, he⟩, hC1, hfk⟩ := h
    rcases i with _ | _ | i
    · have hE : eIOB = E := Option.some.inj he
      subst hE
      refine VT_catch [] ⟨0, 124, 125, 43⟩ [⟨0, 124, 130, 45⟩, ⟨0, 124, 135, 47⟩] C rfl (fun z hz => nomatch hz) rfl (by decide) cl_L_43 (List.mem_of_getElem? (i := 2) rfl) (fun q => ?_)
      refine V_astore C dL_does_125 (by decide) ?_
      refine V_bipush (v := (-30)) C dL_does_127 (by decide) ?_
      exact V_ireturn C Q dL_does_129 rfl (Nat.le_of_ble_eq_true rfl) (Nat.le_of_ble_eq_true rfl) ⟨by rw [xv_n hi]; rfl, hC1, hfk⟩
    · have hE : eIAE = E := Option.some.inj he
      subst hE
      refine VT_catch [⟨0, 124, 125, 43⟩] ⟨0, 124, 130, 45⟩ [⟨0, 124, 135, 47⟩] C rfl (fun z hz => by
        simp only [List.mem_cons, List.not_mem_nil, or_false] at hz
        rcases hz with rfl
        · exact Or.inr ⟨by decide, "java/lang/IndexOutOfBoundsException", cl_L_43, List.mem_of_getElem? (i := 1) rfl⟩
        ) rfl (by decide) cl_L_45 (List.mem_of_getElem? (i := 0) rfl) (fun q => ?_)
      refine V_astore C dL_does_130 (by decide) ?_
      refine V_bipush (v := (-20)) C dL_does_132 (by decide) ?_
      exact V_ireturn C Q dL_does_134 rfl (Nat.le_of_ble_eq_true rfl) (Nat.le_of_ble_eq_true rfl) ⟨by rw [xv_n hi]; rfl, hC1, hfk⟩
    · exact absurd he (by simp)
  intro v ad1 F1 hp
  obtain ⟨h0, rfl, hC1, hfk⟩ := hp
  refine V_goto (tgt := 124) C dL_does_72 (by decide) ?_
  exact V_ireturn C Q dL_does_124 rfl (Nat.le_of_ble_eq_true rfl) (Nat.le_of_ble_eq_true rfl) ⟨by rw [xv_0 h0], hC1, hfk⟩
set_option maxHeartbeats 400000 in
set_option maxRecDepth 100000 in
/-- does: acknowledge -/
theorem d_acknowledge {l : Launch} {D : Dx} {b0 : Nat} {ad : Nat → Nat} {F : Fn} (s : St) (a b : Int32) (hC : CRep D ad F s) (hI : Inv s) (hF : Inf s) : Ct l D b0 yL_does (wsH yL_does cL_does 5 (some .int) [(0, 124, 125, 43), (0, 124, 130, 45), (0, 124, 135, 47)]) rDo [.ref (ad 0), .int 5, .int a, .int b] ad F (PoL D ad F (xv [(-30), (-20), (-10)] (spAck s a b)) (spAck s a b).2.2) noX := by
  refine Ct.ofH (by decide +kernel) (by simp [Value.category]) (Nat.le_of_ble_eq_true rfl) (fun X eD eb el C Q => ?_)
  subst eD; subst eb; subst el
  refine V_iload_n C dL_does_0 rfl ?_
  refine V_ifne_t (tgt := 13) C dL_does_1 (by decide) (by decide) ?_
  refine V_iload_n C dL_does_13 rfl ?_
  refine V_iconst (v := 1) C dL_does_14 rfl ?_
  refine V_icmpne_t (tgt := 27) C dL_does_15 (by decide) (by decide) ?_
  refine V_iload_n C dL_does_27 rfl ?_
  refine V_iconst (v := 2) C dL_does_28 rfl ?_
  refine V_icmpne_t (tgt := 40) C dL_does_29 (by decide) (by decide) ?_
  refine V_iload_n C dL_does_40 rfl ?_
  refine V_iconst (v := 3) C dL_does_41 rfl ?_
  refine V_icmpne_t (tgt := 61) C dL_does_42 (by decide) (by decide) ?_
  refine V_iload_n C dL_does_61 rfl ?_
  refine V_iconst (v := 4) C dL_does_62 rfl ?_
  refine V_icmpne_t (tgt := 75) C dL_does_63 (by decide) (by decide) ?_
  refine V_iload_n C dL_does_75 rfl ?_
  refine V_iconst (v := 5) C dL_does_76 rfl ?_
  refine V_icmpne_f (tgt := 89) C dL_does_77 (by decide) rfl ?_
  refine V_aload_n C dL_does_80 rfl ?_
  refine V_iload_n C dL_does_81 rfl ?_
  refine V_iload_n C dL_does_82 rfl ?_
  have hM := hC.1
  unfold kMain at hM
  refine V_invV C dL_does_83 hM rfl (c_acknowledge s a b hC hI hF) mv_L_28 rfl (Nat.le_of_ble_eq_true rfl) ⟨Nat.le_of_ble_eq_true rfl, Nat.le_of_ble_eq_true rfl⟩ ⟨Nat.le_of_ble_eq_true rfl, Nat.le_of_ble_eq_true rfl⟩ ?_ ?_
  · intro E ad1 F1 h
    obtain ⟨⟨i, hi, he⟩, hC1, hfk⟩ := h
    rcases i with _ | _ | _ | i
    · have hE : eIOB = E := Option.some.inj he
      subst hE
      refine VT_catch [] ⟨0, 124, 125, 43⟩ [⟨0, 124, 130, 45⟩, ⟨0, 124, 135, 47⟩] C rfl (fun z hz => nomatch hz) rfl (by decide) cl_L_43 (List.mem_of_getElem? (i := 2) rfl) (fun q => ?_)
      refine V_astore C dL_does_125 (by decide) ?_
      refine V_bipush (v := (-30)) C dL_does_127 (by decide) ?_
      exact V_ireturn C Q dL_does_129 rfl (Nat.le_of_ble_eq_true rfl) (Nat.le_of_ble_eq_true rfl) ⟨by rw [xv_n hi]; rfl, hC1, hfk⟩
    · have hE : eIAE = E := Option.some.inj he
      subst hE
      refine VT_catch [⟨0, 124, 125, 43⟩] ⟨0, 124, 130, 45⟩ [⟨0, 124, 135, 47⟩] C rfl (fun z hz => by
        simp only [List.mem_cons, List.not_mem_nil, or_false] at hz
        rcases hz with rfl
        · exact Or.inr ⟨by decide, "java/lang/IndexOutOfBoundsException", cl_L_43, List.mem_of_getElem? (i := 1) rfl⟩
        ) rfl (by decide) cl_L_45 (List.mem_of_getElem? (i := 0) rfl) (fun q => ?_)
      refine V_astore C dL_does_130 (by decide) ?_
      refine V_bipush (v := (-20)) C dL_does_132 (by decide) ?_
      exact V_ireturn C Q dL_does_134 rfl (Nat.le_of_ble_eq_true rfl) (Nat.le_of_ble_eq_true rfl) ⟨by rw [xv_n hi]; rfl, hC1, hfk⟩
    · have hE : eISE = E := Option.some.inj he
      subst hE
      refine VT_catch [⟨0, 124, 125, 43⟩, ⟨0, 124, 130, 45⟩] ⟨0, 124, 135, 47⟩ [] C rfl (fun z hz => by
        simp only [List.mem_cons, List.not_mem_nil, or_false] at hz
        rcases hz with rfl | rfl
        · exact Or.inr ⟨by decide, "java/lang/IndexOutOfBoundsException", cl_L_43, List.mem_of_getElem? (i := 2) rfl⟩
        · exact Or.inr ⟨by decide, "java/lang/IllegalArgumentException", cl_L_45, List.mem_of_getElem? (i := 0) rfl⟩
        ) rfl (by decide) cl_L_47 (List.mem_of_getElem? (i := 1) rfl) (fun q => ?_)
      refine V_astore C dL_does_135 (by decide) ?_
      refine V_bipush (v := (-10)) C dL_does_137 (by decide) ?_
      exact V_ireturn C Q dL_does_139 rfl (Nat.le_of_ble_eq_true rfl) (Nat.le_of_ble_eq_true rfl) ⟨by rw [xv_n hi]; rfl, hC1, hfk⟩
    · exact absurd he (by simp)
  intro v ad1 F1 hp
  obtain ⟨h0, rfl, hC1, hfk⟩ := hp
  refine V_goto (tgt := 124) C dL_does_86 (by decide) ?_
  exact V_ireturn C Q dL_does_124 rfl (Nat.le_of_ble_eq_true rfl) (Nat.le_of_ble_eq_true rfl) ⟨by rw [xv_0 h0], hC1, hfk⟩
set_option maxHeartbeats 400000 in
set_option maxRecDepth 100000 in
/-- does: alert -/
theorem d_alert {l : Launch} {D : Dx} {b0 : Nat} {ad : Nat → Nat} {F : Fn} (s : St) (a b : Int32) (hC : CRep D ad F s) (hI : Inv s) : Ct l D b0 yL_does (wsH yL_does cL_does 5 (some .int) [(0, 124, 125, 43), (0, 124, 130, 45), (0, 124, 135, 47)]) rDo [.ref (ad 0), .int 6, .int a, .int b] ad F (PoL D ad F (xv [(-20)] (spAlert s a)) (spAlert s a).2.2) noX := by
  refine Ct.ofH (by decide +kernel) (by simp [Value.category]) (Nat.le_of_ble_eq_true rfl) (fun X eD eb el C Q => ?_)
  subst eD; subst eb; subst el
  refine V_iload_n C dL_does_0 rfl ?_
  refine V_ifne_t (tgt := 13) C dL_does_1 (by decide) (by decide) ?_
  refine V_iload_n C dL_does_13 rfl ?_
  refine V_iconst (v := 1) C dL_does_14 rfl ?_
  refine V_icmpne_t (tgt := 27) C dL_does_15 (by decide) (by decide) ?_
  refine V_iload_n C dL_does_27 rfl ?_
  refine V_iconst (v := 2) C dL_does_28 rfl ?_
  refine V_icmpne_t (tgt := 40) C dL_does_29 (by decide) (by decide) ?_
  refine V_iload_n C dL_does_40 rfl ?_
  refine V_iconst (v := 3) C dL_does_41 rfl ?_
  refine V_icmpne_t (tgt := 61) C dL_does_42 (by decide) (by decide) ?_
  refine V_iload_n C dL_does_61 rfl ?_
  refine V_iconst (v := 4) C dL_does_62 rfl ?_
  refine V_icmpne_t (tgt := 75) C dL_does_63 (by decide) (by decide) ?_
  refine V_iload_n C dL_does_75 rfl ?_
  refine V_iconst (v := 5) C dL_does_76 rfl ?_
  refine V_icmpne_t (tgt := 89) C dL_does_77 (by decide) (by decide) ?_
  refine V_iload_n C dL_does_89 rfl ?_
  refine V_bipush (v := 6) C dL_does_90 (by decide) ?_
  refine V_icmpne_f (tgt := 103) C dL_does_92 (by decide) rfl ?_
  refine V_aload_n C dL_does_95 rfl ?_
  refine V_iload_n C dL_does_96 rfl ?_
  have hM := hC.1
  unfold kMain at hM
  refine V_invV C dL_does_97 hM rfl (c_alert s a hC hI) mv_L_31 rfl (Nat.le_of_ble_eq_true rfl) ⟨Nat.le_of_ble_eq_true rfl, Nat.le_of_ble_eq_true rfl⟩ ⟨Nat.le_of_ble_eq_true rfl, Nat.le_of_ble_eq_true rfl⟩ ?_ ?_
  · intro E ad1 F1 h
    obtain ⟨⟨i, hi, he⟩, hC1, hfk⟩ := h
    rcases i with _ | i
    · have hE : eIAE = E := Option.some.inj he
      subst hE
      refine VT_catch [⟨0, 124, 125, 43⟩] ⟨0, 124, 130, 45⟩ [⟨0, 124, 135, 47⟩] C rfl (fun z hz => by
        simp only [List.mem_cons, List.not_mem_nil, or_false] at hz
        rcases hz with rfl
        · exact Or.inr ⟨by decide, "java/lang/IndexOutOfBoundsException", cl_L_43, List.mem_of_getElem? (i := 1) rfl⟩
        ) rfl (by decide) cl_L_45 (List.mem_of_getElem? (i := 0) rfl) (fun q => ?_)
      refine V_astore C dL_does_130 (by decide) ?_
      refine V_bipush (v := (-20)) C dL_does_132 (by decide) ?_
      exact V_ireturn C Q dL_does_134 rfl (Nat.le_of_ble_eq_true rfl) (Nat.le_of_ble_eq_true rfl) ⟨by rw [xv_n hi]; rfl, hC1, hfk⟩
    · exact absurd he (by simp)
  intro v ad1 F1 hp
  obtain ⟨h0, rfl, hC1, hfk⟩ := hp
  refine V_goto (tgt := 124) C dL_does_100 (by decide) ?_
  exact V_ireturn C Q dL_does_124 rfl (Nat.le_of_ble_eq_true rfl) (Nat.le_of_ble_eq_true rfl) ⟨by rw [xv_0 h0], hC1, hfk⟩
set_option maxHeartbeats 400000 in
set_option maxRecDepth 100000 in
/-- does: come -/
theorem d_come {l : Launch} {D : Dx} {b0 : Nat} {ad : Nat → Nat} {F : Fn} (s : St) (a b : Int32) (hC : CRep D ad F s) (hI : Inv s) : Ct l D b0 yL_does (wsH yL_does cL_does 5 (some .int) [(0, 124, 125, 43), (0, 124, 130, 45), (0, 124, 135, 47)]) rDo [.ref (ad 0), .int 7, .int a, .int b] ad F (PoL D ad F (xv [(-20)] (spCome s a b)) (spCome s a b).2.2) noX := by
  refine Ct.ofH (by decide +kernel) (by simp [Value.category]) (Nat.le_of_ble_eq_true rfl) (fun X eD eb el C Q => ?_)
  subst eD; subst eb; subst el
  refine V_iload_n C dL_does_0 rfl ?_
  refine V_ifne_t (tgt := 13) C dL_does_1 (by decide) (by decide) ?_
  refine V_iload_n C dL_does_13 rfl ?_
  refine V_iconst (v := 1) C dL_does_14 rfl ?_
  refine V_icmpne_t (tgt := 27) C dL_does_15 (by decide) (by decide) ?_
  refine V_iload_n C dL_does_27 rfl ?_
  refine V_iconst (v := 2) C dL_does_28 rfl ?_
  refine V_icmpne_t (tgt := 40) C dL_does_29 (by decide) (by decide) ?_
  refine V_iload_n C dL_does_40 rfl ?_
  refine V_iconst (v := 3) C dL_does_41 rfl ?_
  refine V_icmpne_t (tgt := 61) C dL_does_42 (by decide) (by decide) ?_
  refine V_iload_n C dL_does_61 rfl ?_
  refine V_iconst (v := 4) C dL_does_62 rfl ?_
  refine V_icmpne_t (tgt := 75) C dL_does_63 (by decide) (by decide) ?_
  refine V_iload_n C dL_does_75 rfl ?_
  refine V_iconst (v := 5) C dL_does_76 rfl ?_
  refine V_icmpne_t (tgt := 89) C dL_does_77 (by decide) (by decide) ?_
  refine V_iload_n C dL_does_89 rfl ?_
  refine V_bipush (v := 6) C dL_does_90 (by decide) ?_
  refine V_icmpne_t (tgt := 103) C dL_does_92 (by decide) (by decide) ?_
  refine V_iload_n C dL_does_103 rfl ?_
  refine V_bipush (v := 7) C dL_does_104 (by decide) ?_
  refine V_icmpne_f (tgt := 118) C dL_does_106 (by decide) rfl ?_
  refine V_aload_n C dL_does_109 rfl ?_
  refine V_iload_n C dL_does_110 rfl ?_
  refine V_iload_n C dL_does_111 rfl ?_
  have hM := hC.1
  unfold kMain at hM
  refine V_invV C dL_does_112 hM rfl (c_come s a b hC hI) mv_L_34 rfl (Nat.le_of_ble_eq_true rfl) ⟨Nat.le_of_ble_eq_true rfl, Nat.le_of_ble_eq_true rfl⟩ ⟨Nat.le_of_ble_eq_true rfl, Nat.le_of_ble_eq_true rfl⟩ ?_ ?_
  · intro E ad1 F1 h
    obtain ⟨⟨i, hi, he⟩, hC1, hfk⟩ := h
    rcases i with _ | i
    · have hE : eIAE = E := Option.some.inj he
      subst hE
      refine VT_catch [⟨0, 124, 125, 43⟩] ⟨0, 124, 130, 45⟩ [⟨0, 124, 135, 47⟩] C rfl (fun z hz => by
        simp only [List.mem_cons, List.not_mem_nil, or_false] at hz
        rcases hz with rfl
        · exact Or.inr ⟨by decide, "java/lang/IndexOutOfBoundsException", cl_L_43, List.mem_of_getElem? (i := 1) rfl⟩
        ) rfl (by decide) cl_L_45 (List.mem_of_getElem? (i := 0) rfl) (fun q => ?_)
      refine V_astore C dL_does_130 (by decide) ?_
      refine V_bipush (v := (-20)) C dL_does_132 (by decide) ?_
      exact V_ireturn C Q dL_does_134 rfl (Nat.le_of_ble_eq_true rfl) (Nat.le_of_ble_eq_true rfl) ⟨by rw [xv_n hi]; rfl, hC1, hfk⟩
    · exact absurd he (by simp)
  intro v ad1 F1 hp
  obtain ⟨h0, rfl, hC1, hfk⟩ := hp
  refine V_goto (tgt := 124) C dL_does_115 (by decide) ?_
  exact V_ireturn C Q dL_does_124 rfl (Nat.le_of_ble_eq_true rfl) (Nat.le_of_ble_eq_true rfl) ⟨by rw [xv_0 h0], hC1, hfk⟩
set_option maxHeartbeats 400000 in
set_option maxRecDepth 100000 in
/-- does: keyword -/
theorem d_keyword {l : Launch} {D : Dx} {b0 : Nat} {ad : Nat → Nat} {F : Fn} (s : St) (a b : Int32) (hC : CRep D ad F s) (hI : Inv s) : Ct l D b0 yL_does (wsH yL_does cL_does 5 (some .int) [(0, 124, 125, 43), (0, 124, 130, 45), (0, 124, 135, 47)]) rDo [.ref (ad 0), .int 8, .int a, .int b] ad F (PoL D ad F (xv [(-20)] (spKey s a b)) (spKey s a b).2.2) noX := by
  refine Ct.ofH (by decide +kernel) (by simp [Value.category]) (Nat.le_of_ble_eq_true rfl) (fun X eD eb el C Q => ?_)
  subst eD; subst eb; subst el
  refine V_iload_n C dL_does_0 rfl ?_
  refine V_ifne_t (tgt := 13) C dL_does_1 (by decide) (by decide) ?_
  refine V_iload_n C dL_does_13 rfl ?_
  refine V_iconst (v := 1) C dL_does_14 rfl ?_
  refine V_icmpne_t (tgt := 27) C dL_does_15 (by decide) (by decide) ?_
  refine V_iload_n C dL_does_27 rfl ?_
  refine V_iconst (v := 2) C dL_does_28 rfl ?_
  refine V_icmpne_t (tgt := 40) C dL_does_29 (by decide) (by decide) ?_
  refine V_iload_n C dL_does_40 rfl ?_
  refine V_iconst (v := 3) C dL_does_41 rfl ?_
  refine V_icmpne_t (tgt := 61) C dL_does_42 (by decide) (by decide) ?_
  refine V_iload_n C dL_does_61 rfl ?_
  refine V_iconst (v := 4) C dL_does_62 rfl ?_
  refine V_icmpne_t (tgt := 75) C dL_does_63 (by decide) (by decide) ?_
  refine V_iload_n C dL_does_75 rfl ?_
  refine V_iconst (v := 5) C dL_does_76 rfl ?_
  refine V_icmpne_t (tgt := 89) C dL_does_77 (by decide) (by decide) ?_
  refine V_iload_n C dL_does_89 rfl ?_
  refine V_bipush (v := 6) C dL_does_90 (by decide) ?_
  refine V_icmpne_t (tgt := 103) C dL_does_92 (by decide) (by decide) ?_
  refine V_iload_n C dL_does_103 rfl ?_
  refine V_bipush (v := 7) C dL_does_104 (by decide) ?_
  refine V_icmpne_t (tgt := 118) C dL_does_106 (by decide) (by decide) ?_
  refine V_aload_n C dL_does_118 rfl ?_
  refine V_iload_n C dL_does_119 rfl ?_
  refine V_iload_n C dL_does_120 rfl ?_
  refine V_invS C dL_does_121 (k_keyword s a b hC hI) ms_L_37 rfl (Nat.le_of_ble_eq_true rfl) ⟨Nat.le_of_ble_eq_true rfl, Nat.le_of_ble_eq_true rfl⟩ ⟨Nat.le_of_ble_eq_true rfl, Nat.le_of_ble_eq_true rfl⟩ ?_ ?_
  · intro E ad1 F1 h
    obtain ⟨⟨i, hi, he⟩, hC1, hfk⟩ := h
    rcases i with _ | i
    · have hE : eIAE = E := Option.some.inj he
      subst hE
      refine VT_catch [⟨0, 124, 125, 43⟩] ⟨0, 124, 130, 45⟩ [⟨0, 124, 135, 47⟩] C rfl (fun z hz => by
        simp only [List.mem_cons, List.not_mem_nil, or_false] at hz
        rcases hz with rfl
        · exact Or.inr ⟨by decide, "java/lang/IndexOutOfBoundsException", cl_L_43, List.mem_of_getElem? (i := 1) rfl⟩
        ) rfl (by decide) cl_L_45 (List.mem_of_getElem? (i := 0) rfl) (fun q => ?_)
      refine V_astore C dL_does_130 (by decide) ?_
      refine V_bipush (v := (-20)) C dL_does_132 (by decide) ?_
      exact V_ireturn C Q dL_does_134 rfl (Nat.le_of_ble_eq_true rfl) (Nat.le_of_ble_eq_true rfl) ⟨by rw [xv_n hi]; rfl, hC1, hfk⟩
    · exact absurd he (by simp)
  intro v ad1 F1 hp
  obtain ⟨h0, rfl, hC1, hfk⟩ := hp
  exact V_ireturn C Q dL_does_124 rfl (Nat.le_of_ble_eq_true rfl) (Nat.le_of_ble_eq_true rfl) ⟨by rw [xv_0 h0], hC1, hfk⟩
theorem rcp_20 {s : St} (hI : Inv s) : (zRcp s).length ≤ 20 := by
  rw [hI.2.2.2.2.1]
  refine Nat.le_trans (List.length_filter_le _ _) ?_
  rw [List.length_range]
  exact hI.2.1
theorem nbad {k n : Nat} (h : k < n) (hn : n < 2 ^ 31) : ¬ (nI k < 0 ∨ nI n ≤ nI k) := fun e => by
  have := (badI_iff (j := k) (n := n) (by omega) hn).mp e
  omega
theorem q_parts {l : Launch} {D : Dx} {b0 : Nat} {ad : Nat → Nat} {F : Fn} (s : St) (hC : CRep D ad F s) (hI : Inv s)  : Ct l D b0 yX6_parts (wsA yX6_parts cX6_parts 1 (some .int)) (rX 6) [.ref (ad 0)] ad F (PoL D ad F (nI (npL (zTxt s))) s) noX :=
  (c_parts s hC hI).q0 rfl
theorem q_isWide {l : Launch} {D : Dx} {b0 : Nat} {ad : Nat → Nat} {F : Fn} (s : St) (hC : CRep D ad F s) (hI : Inv s)  : Ct l D b0 yX6_isWide (wsA yX6_isWide cX6_isWide 1 (some .boolean)) (rX 6) [.ref (ad 0)] ad F (PoL D ad F (b2i (wideL (zTxt s))) s) noX :=
  (c_isWide s hC hI).q0 rfl
theorem q_receipts {l : Launch} {D : Dx} {b0 : Nat} {ad : Nat → Nat} {F : Fn} (s : St) (hC : CRep D ad F s) (hI : Inv s)  : Ct l D b0 yX6_receipts (wsA yX6_receipts cX6_receipts 1 (some .int)) (rX 6) [.ref (ad 0)] ad F (PoL D ad F (nI (zRcp s).length) s) noX :=
  (c_receipts s hC hI).q0 rfl
theorem q_time {l : Launch} {D : Dx} {b0 : Nat} {ad : Nat → Nat} {F : Fn} (s : St) (hC : CRep D ad F s) (hI : Inv s)  : Ct l D b0 yX6_time (wsA yX6_time cX6_time 1 (some .int)) (rX 6) [.ref (ad 0)] ad F (PoL D ad F (nI (zNow s)) s) noX :=
  (c_time s hC hI).q0 rfl
theorem q_signs {l : Launch} {D : Dx} {b0 : Nat} {ad : Nat → Nat} {F : Fn} (s : St) (k : Nat) (hC : CRep D ad F s) (hI : Inv s) (hk : k < npL (zTxt s)) : Ct l D b0 yX6_signs (wsA yX6_signs cX6_signs 2 (some .int)) (rY 7) [.ref (ad 0), .int (nI k)] ad F (PoL D ad F (nI (posL (zTxt s) (k + 1) - posL (zTxt s) k)) s) noX :=
  (c_signs s (nI k) hC hI).q (by
    unfold spSigns
    rw [if_neg (nbad hk (Nat.lt_of_le_of_lt (npL_spec hI.2.2.1).1 (by decide))), show (nI k).toNatClampNeg = k from nI_clamp (Nat.lt_trans hk (Nat.lt_of_le_of_lt (npL_spec hI.2.2.1).1 (by decide)))])
theorem q_octets {l : Launch} {D : Dx} {b0 : Nat} {ad : Nat → Nat} {F : Fn} (s : St) (k : Nat) (hC : CRep D ad F s) (hI : Inv s) (hk : k < npL (zTxt s)) : Ct l D b0 yX6_octets (wsA yX6_octets cX6_octets 2 (some .int)) (rY 7) [.ref (ad 0), .int (nI k)] ad F (PoL D ad F (nI (octN (zTxt s) k)) s) noX :=
  (c_octets s (nI k) hC hI).q (by
    unfold spOcts
    rw [if_neg (nbad hk (Nat.lt_of_le_of_lt (npL_spec hI.2.2.1).1 (by decide))), show (nI k).toNatClampNeg = k from nI_clamp (Nat.lt_trans hk (Nat.lt_of_le_of_lt (npL_spec hI.2.2.1).1 (by decide)))])
theorem q_state {l : Launch} {D : Dx} {b0 : Nat} {ad : Nat → Nat} {F : Fn} (s : St) (k : Nat) (hC : CRep D ad F s) (hI : Inv s) (hk : k < zMc s) : Ct l D b0 yX6_state (wsA yX6_state cX6_state 2 (some .int)) (rY 7) [.ref (ad 0), .int (nI k)] ad F (PoL D ad F (nI (zSt s k)) s) noX :=
  (c_state s (nI k) hC hI).q (by
    unfold spState
    rw [if_neg (nbad hk (Nat.lt_of_le_of_lt hI.2.1 (by decide))), show (nI k).toNatClampNeg = k from nI_clamp (Nat.lt_trans hk (Nat.lt_of_le_of_lt hI.2.1 (by decide)))])
theorem q_missing {l : Launch} {D : Dx} {b0 : Nat} {ad : Nat → Nat} {F : Fn} (s : St) (k : Nat) (hC : CRep D ad F s) (hI : Inv s) (hk : k < zMc s) : Ct l D b0 yX6_missing (wsA yX6_missing cX6_missing 2 (some .int)) (rY 7) [.ref (ad 0), .int (nI k)] ad F (PoL D ad F (nI (zLk s k)) s) noX :=
  (c_missing s (nI k) hC hI).q (by
    unfold spMiss
    rw [if_neg (nbad hk (Nat.lt_of_le_of_lt hI.2.1 (by decide))), show (nI k).toNatClampNeg = k from nI_clamp (Nat.lt_trans hk (Nat.lt_of_le_of_lt hI.2.1 (by decide)))])
theorem q_receipt {l : Launch} {D : Dx} {b0 : Nat} {ad : Nat → Nat} {F : Fn} (s : St) (k : Nat) (hC : CRep D ad F s) (hI : Inv s) (hk : k < (zRcp s).length) : Ct l D b0 yX6_receipt (wsA yX6_receipt cX6_receipt 2 (some .int)) (rX 6) [.ref (ad 0), .int (nI k)] ad F (PoL D ad F (nI ((zRcp s).getD k 0)) s) noX :=
  (c_receipt s (nI k) hC hI).q (by
    unfold spRcp
    rw [if_neg (nbad hk (Nat.lt_of_le_of_lt (rcp_20 hI) (by decide))), show (nI k).toNatClampNeg = k from nI_clamp (Nat.lt_trans hk (Nat.lt_of_le_of_lt (rcp_20 hI) (by decide)))])
theorem q_queued {l : Launch} {D : Dx} {b0 : Nat} {ad : Nat → Nat} {F : Fn} (s : St) (k : Nat) (hC : CRep D ad F s) (hI : Inv s) (hk : k < 3) : Ct l D b0 yX6_queued (wsA yX6_queued cX6_queued 2 (some .int)) (rY 7) [.ref (ad 0), .int (nI k)] ad F (PoL D ad F (nI (zRw s (2 * k)).length) s) noX :=
  (c_queued s (nI k) hC hI).q (by
    unfold spQd
    rw [if_neg (nbad hk (by decide)), show (nI k).toNatClampNeg = k from nI_clamp (Nat.lt_trans hk (by decide))])
theorem q_underWay {l : Launch} {D : Dx} {b0 : Nat} {ad : Nat → Nat} {F : Fn} (s : St) (k : Nat) (hC : CRep D ad F s) (hI : Inv s) (hk : k < 3) : Ct l D b0 yX6_underWay (wsA yX6_underWay cX6_underWay 2 (some .int)) (rY 7) [.ref (ad 0), .int (nI k)] ad F (PoL D ad F (nI (zRw s (2 * k + 1)).length) s) noX :=
  (c_underWay s (nI k) hC hI).q (by
    unfold spUw
    rw [if_neg (nbad hk (by decide)), show (nI k).toNatClampNeg = k from nI_clamp (Nat.lt_trans hk (by decide))])
theorem q_tokens {l : Launch} {D : Dx} {b0 : Nat} {ad : Nat → Nat} {F : Fn} (s : St) (k : Nat) (hC : CRep D ad F s) (hI : Inv s) (hk : k < 3) : Ct l D b0 yX6_tokens (wsA yX6_tokens cX6_tokens 2 (some .int)) (rY 7) [.ref (ad 0), .int (nI k)] ad F (PoL D ad F (nI (zTk s k)) s) noX :=
  (c_tokens s (nI k) hC hI).q (by
    unfold spTok
    rw [if_neg (nbad hk (by decide)), show (nI k).toNatClampNeg = k from nI_clamp (Nat.lt_trans hk (by decide))])
