/-! ===== the law: areMessages ===== -/
abbrev rMsg : Room := { frames := 9, cells := 400, slots := 2400, locals := 380 }
/-- the law's rows: messages, links, keywords and sessions, numbers -/
def LZ (D : Dx) (F : Fn) (mc : Nat) (rc zs : Nat → Nat) (ms : Nat → List Nat) : Prop := ∃ z : Nat → Int32, F 400 = some (aI D 60 z) ∧ ∀ k, k < mc → z k = nI (rc k) ∧ z (20 + k) = nI (zs k) ∧ z (40 + k) = nI (ms k).length
def LQ (D : Dx) (F : Fn) (wn up : Nat → Nat) : Prop := ∃ q : Nat → Int32, F 401 = some (aI D 9 q) ∧ ∀ l, l < 3 → q (3 + l) = nI (wn l) ∧ q (6 + l) = nI (1 - up l)
def LW (D : Dx) (F : Fn) (kw se la : Nat → Int32) : Prop := ∃ w : Nat → Int32, F 402 = some (aI D 23 w) ∧ (∀ p, p < 9 → w p = se p ∧ w (9 + p) = la p) ∧ ∀ k, 0 < k → k < 5 → w (18 + k) = kw k
def LG (D : Dx) (F : Fn) (L : List Nat) (mc now rcn : Nat) : Prop := ∃ g : Nat → Int32, F 403 = some (aI D 6 g) ∧ g 0 = nI L.length ∧ g 1 = b2i (wideL L) ∧ g 2 = nI (septL L) ∧ g 3 = nI mc ∧ g 4 = nI now ∧ g 5 = nI rcn
theorem xstate {s : St} {a : Int32} (h : a < 0 ∨ nI (zMc s) ≤ a) : xv [(-30)] (spState s a) = -30 := by
  unfold spState
  rw [if_pos h, xv_b]
  rfl
theorem xmiss {s : St} {a : Int32} (h : a < 0 ∨ nI (zMc s) ≤ a) : xv [(-30)] (spMiss s a) = -30 := by
  unfold spMiss
  rw [if_pos h, xv_b]
  rfl
theorem xjoin {s : St} {a b : Int32} (h : a < 0 ∨ nI (zMc s) ≤ a) : xv [(-30)] (spJoin s a b) = -30 := by
  unfold spJoin
  rw [if_pos h, xv_b]
  rfl
theorem xrcp {s : St} {a : Int32} (h : a < 0 ∨ nI (zRcp s).length ≤ a) : xv [(-30)] (spRcp s a) = -30 := by
  unfold spRcp
  rw [if_pos h, xv_b]
  rfl
theorem xjoinB {s : St} {k : Nat} {b : Int32} (hI : Inv s) (hk : k < zMc s) (h : b < 0 ∨ nI (zMs s k).length ≤ b) : xv [(-30)] (spJoin s (nI k) b) = -30 := by
  have h6 := hI.2.1
  unfold spJoin
  rw [if_neg (nbad hk (by omega)), show (nI k).toNatClampNeg = k from nI_clamp (by omega), if_pos h, xv_b]
  rfl
theorem pwF_0 {ps : Nat → Nat} : ∀ n, (∀ i, 0 < i → 0 < ps i) → pwF ps 0 n = 0
  | 0, _ => rfl
  | n + 1, h => by
    unfold pwF
    rw [if_neg (by have := h (n + 1) (by omega); omega)]
    exact pwF_0 n h
theorem xjoin0 {s : St} {k : Nat} (hI : Inv s) (hk : k < zMc s) : xv [(-30)] (spJoin s (nI k) 0) = if (zLk s k).testBit 0 = true then -1 else nI ((zMs s k).getD 0 0) := by
  have h6 := hI.2.1
  obtain ⟨j1, j2, -⟩ := hI.2.2.2.2.2.1 k hk
  have hlen : 0 < (zMs s k).length := List.length_pos_iff.mpr j1
  have h1 : 0 < posL (zMs s k) 1 := posL_lt (k := 0) hlen
  unfold spJoin
  rw [if_neg (nbad hk (by omega)), show (nI k).toNatClampNeg = k from nI_clamp (by omega), if_neg (show ¬ ((0 : Int32) < 0 ∨ nI (zMs s k).length ≤ 0) from nbad (k := 0) hlen (by omega)), xv_ok]
  unfold joinI
  rw [show (0 : Int32).toNatClampNeg = 0 by decide +kernel, pwF_0 _ (fun i hi => Nat.lt_of_lt_of_le h1 (posL_mono _ hi))]
/-- how many of the first k messages wait no more -/
def enC (st : Nat → Nat) (k : Nat) : Nat := ((List.range k).filter (fun m => decide (st m ≠ 0))).length
theorem enC_0 {st : Nat → Nat} {k : Nat} (h : st k = 0) : enC st (k + 1) = enC st k := by
  unfold enC
  rw [List.range_succ, List.filter_append, List.length_append, List.filter_cons_of_neg (by simp [h])]
  rfl
theorem enC_1 {st : Nat → Nat} {k : Nat} (h : ¬ st k = 0) : enC st (k + 1) = enC st k + 1 := by
  unfold enC
  rw [List.range_succ, List.filter_append, List.length_append, List.filter_cons_of_pos (by simp [h])]
  rfl
theorem enC_le {st : Nat → Nat} (k : Nat) : enC st k ≤ k := by
  unfold enC
  exact Nat.le_trans (List.length_filter_le _ _) (by rw [List.length_range]; exact Nat.le_refl _)
theorem bit0 (w : Nat) : w.testBit 0 = true ↔ w % 2 = 1 := by
  rw [Nat.testBit_zero]
  exact decide_eq_true_iff
set_option maxHeartbeats 4000000 in
set_option maxRecDepth 100000 in
/-- areMessages -/
theorem l_areMessages {l : Launch} {D : Dx} {b0 : Nat} {ad : Nat → Nat} {F : Fn} (s : St) (zs : Nat → Nat) (rcn : Nat) (hC : CRep D ad F s) (hQ : Kq s) (hZ : LZ D F (zMc s) (zRc s) zs (zMs s)) (hG : LG D F (zTxt s) (zMc s) (zNow s) rcn) (hzs : ∀ k, k < zMc s → zs k = 0 ∨ zSt s k = zs k) (hrc : rcn ≤ (zRcp s).length) : Ct l D b0 yL_areMessages (wsA yL_areMessages cL_areMessages 8 (some .boolean)) rMsg [.ref (ad 0), .ref (ad 400), .ref (ad 403)] ad F (fun r ad1 F1 => r = some (.int 1) ∧ CRep D ad1 F1 s ∧ FrL [400, 403] ad F ad1 F1 ∧ LZ D F1 (zMc s) (zRc s) (zSt s) (zMs s) ∧ LG D F1 (zTxt s) (zMc s) (zNow s) (zRcp s).length) noX := by
  refine Ct.of (by decide +kernel) (by simp [Value.category]) (Nat.le_of_ble_eq_true rfl) (fun X eD eb el C Q => ?_)
  subst eD; subst eb; subst el
  have hI := hQ.1.1
  obtain ⟨x1, x2, -⟩ := hQ.2
  have h20 := hI.2.1
  have hr20 := rcp_20 hI
  have hen : enC (zSt s) (zMc s) = (zRcp s).length := hI.2.2.2.2.1.symm
  obtain ⟨g, h403, g0, g1, g2, g3, g4, g5⟩ := hG
  obtain ⟨z0, h400, hz0⟩ := hZ
  have hK : FrL [400, 403] ad F ad F := FrL.rf
  have fin : ∀ (adk : Nat → Nat) (Fk : Fn) (z : Nat → Int32) (c n : Nat), c ≤ 390 → n ≤ 2340 → CRep (xD X) adk Fk s → Fk 400 = some (aI (xD X) 60 z) → (∀ m, m < zMc s → z m = nI (zRc s m) ∧ z (40 + m) = nI (zMs s m).length ∧ z (20 + m) = if m < zMc s then nI (zSt s m) else nI (zs m)) → Fk 403 = some (aI (xD X) 6 g) → FrL [400, 403] ad F adk Fk →
    V X c n 338 [(0, .ref (adk 0)), (1, .ref (adk 400)), (2, .ref (adk 403)), (3, .int (nI (enC (zSt s) (zMc s)))), (4, .int 1)] [] adk Fk := by
    intro adk Fk z c n hc hn hC h400 hz h403 hK
    refine V_aload_n C dL_areMessages_338 rfl ?_
    refine V_iconst (v := 5) C dL_areMessages_339 rfl ?_
    refine V_aload_n C dL_areMessages_340 rfl ?_
    refine V_invV (c0 := 0) C dL_areMessages_341 hC.1 rfl (q_receipts s hC hI) mv_L_98 rfl (Nat.le_of_ble_eq_true rfl) ⟨Nat.le_of_ble_eq_true rfl, Nat.le_of_ble_eq_true rfl⟩ ⟨(by show c + 1 ≤ 400; omega), (by show n + 6 ≤ 2400; omega)⟩ (fun _ _ _ h => VT_no h) (fun v ad1 F1 hp => ?_)
    obtain ⟨rfl, hC, hfk⟩ := hp
    rw [show adk 0 = ad1 0 from hfk.a0.symm, show adk 400 = ad1 400 from (hfk.ad (by decide)).symm, show adk 403 = ad1 403 from (hfk.ad (by decide)).symm]
    have h400 := (hfk 400 (by decide)).2.trans h400
    have h403 := (hfk 403 (by decide)).2.trans h403
    have hK := hK.trk hfk
    refine G_iast C dL_areMessages_344 h403 (show _ = nI 5 from rfl) (by decide) (by decide) (fun F2 h403 hfr => ?_)
    have h400 := (hfr 400 (by decide)).trans h400
    have hC := hC.keptF hI (fun c hc => hfr c (by omega))
    have hK := hK.st hfr (by decide)
    refine V_iload C dL_areMessages_345 rfl ?_
    refine V_ifeq_f (tgt := 389) C dL_areMessages_347 (by decide) (by decide) ?_
    refine V_iload_n C dL_areMessages_350 rfl ?_
    refine V_aload_n C dL_areMessages_351 rfl ?_
    refine V_iconst (v := 5) C dL_areMessages_352 rfl ?_
    refine V_iald C dL_areMessages_353 h403 (show _ = nI 5 from rfl) (by decide) (by decide) ?_
    refine V_nm pk_us ?_
    refine V_icmpne_f (tgt := 389) C dL_areMessages_354 (by decide) (congrArg nI hen) ?_
    refine V_aload_n C dL_areMessages_357 rfl ?_
    refine V_bipush (v := 7) C dL_areMessages_358 (by decide) ?_
    refine V_aload_n C dL_areMessages_360 rfl ?_
    refine V_iconst (v := 5) C dL_areMessages_361 rfl ?_
    refine V_iald C dL_areMessages_362 h403 (show _ = nI 5 from rfl) (by decide) (by decide) ?_
    refine V_nm pk_us ?_
    refine V_iconst (v := 0) C dL_areMessages_363 rfl ?_
    refine V_invH C dL_areMessages_364 (a_receipt s _ _ hC hI) mh_L_94 rfl (Nat.le_of_ble_eq_true rfl) ⟨Nat.le_of_ble_eq_true rfl, Nat.le_of_ble_eq_true rfl⟩ ⟨(by show c + 1 + 2 ≤ 400; omega), (by show n + 6 + 12 ≤ 2400; omega)⟩ (fun _ _ _ h => VT_no h) (fun v ad3 F3 hp => ?_)
    obtain ⟨rfl, hC, hfk⟩ := hp
    rw [show ad1 0 = ad3 0 from hfk.a0.symm, show ad1 400 = ad3 400 from (hfk.ad (by decide)).symm, show ad1 403 = ad3 403 from (hfk.ad (by decide)).symm]
    have h400 := (hfk 400 (by decide)).2.trans h400
    have h403 := (hfk 403 (by decide)).2.trans h403
    have hK := hK.trk hfk
    refine V_nm (xrcp (Or.inr (Int32.le_refl _))) ?_
    refine V_bipush (v := (-30)) C dL_areMessages_367 (by decide) ?_
    refine V_icmpne_f (tgt := 389) C dL_areMessages_369 (by decide) rfl ?_
    refine V_aload_n C dL_areMessages_372 rfl ?_
    refine V_bipush (v := 7) C dL_areMessages_373 (by decide) ?_
    refine V_iconst (v := (-1)) C dL_areMessages_375 rfl ?_
    refine V_iconst (v := 0) C dL_areMessages_376 rfl ?_
    refine V_invH C dL_areMessages_377 (a_receipt s _ _ hC hI) mh_L_94 rfl (Nat.le_of_ble_eq_true rfl) ⟨Nat.le_of_ble_eq_true rfl, Nat.le_of_ble_eq_true rfl⟩ ⟨(by show c + 1 + 2 + 2 ≤ 400; omega), (by show n + 6 + 12 + 12 ≤ 2400; omega)⟩ (fun _ _ _ h => VT_no h) (fun v ad4 F4 hp => ?_)
    obtain ⟨rfl, hC, hfk⟩ := hp
    rw [show ad3 0 = ad4 0 from hfk.a0.symm, show ad3 400 = ad4 400 from (hfk.ad (by decide)).symm, show ad3 403 = ad4 403 from (hfk.ad (by decide)).symm]
    have h400 := (hfk 400 (by decide)).2.trans h400
    have h403 := (hfk 403 (by decide)).2.trans h403
    have hK := hK.trk hfk
    refine V_nm (xrcp (Or.inl (by decide))) ?_
    refine V_bipush (v := (-30)) C dL_areMessages_380 (by decide) ?_
    refine V_icmpne_f (tgt := 389) C dL_areMessages_382 (by decide) rfl ?_
    refine V_iconst (v := 1) C dL_areMessages_385 rfl ?_
    refine V_goto (tgt := 390) C dL_areMessages_386 (by decide) ?_
    refine V_ireturn C Q dL_areMessages_390 rfl (by show c + 1 + 2 + 2 ≤ 400; omega) (by show n + 6 + 12 + 12 ≤ 2400; omega) ⟨rfl, hC, hK, ⟨z, h400, fun m hm => ⟨(hz m hm).1, ?_, (hz m hm).2.1⟩⟩, ⟨_, h403, g0, g1, g2, g3, g4, pk_us⟩⟩
    have e := (hz m hm).2.2
    rwa [if_pos hm] at e
  have loop2 : ∀ (d j : Nat) (adk : Nat → Nat) (Fk : Fn) (z : Nat → Int32), j + d = (zRcp s).length → CRep (xD X) adk Fk s → Fk 400 = some (aI (xD X) 60 z) → (∀ m, m < zMc s → z m = nI (zRc s m) ∧ z (40 + m) = nI (zMs s m).length ∧ z (20 + m) = if m < zMc s then nI (zSt s m) else nI (zs m)) → Fk 403 = some (aI (xD X) 6 g) → FrL [400, 403] ad F adk Fk →
    V X (210 + 4 * j) (1260 + 24 * j) 267 [(0, .ref (adk 0)), (1, .ref (adk 400)), (2, .ref (adk 403)), (3, .int (nI (enC (zSt s) (zMc s)))), (4, .int 1), (5, .int (nI j))] [] adk Fk := by
    intro d
    induction d with
    | zero =>
      intro j adk Fk z hj hC h400 hz h403 hK
      obtain rfl : j = (zRcp s).length := by omega
      refine V_iload C dL_areMessages_267 rfl ?_
      refine V_aload_n C dL_areMessages_269 rfl ?_
      refine V_invV (c0 := 0) C dL_areMessages_270 hC.1 rfl (q_receipts s hC hI) mv_L_98 rfl (Nat.le_of_ble_eq_true rfl) ⟨Nat.le_of_ble_eq_true rfl, Nat.le_of_ble_eq_true rfl⟩ ⟨(by show 210 + 4 * (zRcp s).length + 1 ≤ 400; omega), (by show 1260 + 24 * (zRcp s).length + 6 ≤ 2400; omega)⟩ (fun _ _ _ h => VT_no h) (fun v ad1 F1 hp => ?_)
      obtain ⟨rfl, hC, hfk⟩ := hp
      rw [show adk 0 = ad1 0 from hfk.a0.symm, show adk 400 = ad1 400 from (hfk.ad (by decide)).symm, show adk 403 = ad1 403 from (hfk.ad (by decide)).symm]
      have h400 := (hfk 400 (by decide)).2.trans h400
      have h403 := (hfk 403 (by decide)).2.trans h403
      have hK := hK.trk hfk
      refine V_icmpge_t (tgt := 338) C dL_areMessages_273 (by decide) (Int32.le_refl _) ?_
      exact V_sb (fin ad1 F1 z _ _ (by show 210 + 4 * (zRcp s).length + 1 ≤ 390; omega) (by show 1260 + 24 * (zRcp s).length + 6 ≤ 2340; omega) hC h400 hz h403 hK) ⟨rfl, rfl, rfl, rfl, rfl, trivial⟩
    | succ d ih =>
      intro j adk Fk z hj hC h400 hz h403 hK
      have hjl : j < (zRcp s).length := by omega
      obtain ⟨m, hm, hm0, hx⟩ := x2 ((zRcp s).getD j 0) (by rw [List.getD_eq_getElem?_getD, List.getElem?_eq_getElem hjl]; exact List.getElem_mem hjl)
      have hm4 := (hI.2.2.2.2.2.1 m hm).2.2.2.2.1
      have hd : (zRcp s).getD j 0 / 10 = m := by omega
      have hr : (zRcp s).getD j 0 % 10 = zSt s m := by omega
      refine V_iload C dL_areMessages_267 rfl ?_
      refine V_aload_n C dL_areMessages_269 rfl ?_
      refine V_invV (c0 := 0) C dL_areMessages_270 hC.1 rfl (q_receipts s hC hI) mv_L_98 rfl (Nat.le_of_ble_eq_true rfl) ⟨Nat.le_of_ble_eq_true rfl, Nat.le_of_ble_eq_true rfl⟩ ⟨(by show 210 + 4 * j + 1 ≤ 400; omega), (by show 1260 + 24 * j + 6 ≤ 2400; omega)⟩ (fun _ _ _ h => VT_no h) (fun v ad1 F1 hp => ?_)
      obtain ⟨rfl, hC, hfk⟩ := hp
      rw [show adk 0 = ad1 0 from hfk.a0.symm, show adk 400 = ad1 400 from (hfk.ad (by decide)).symm, show adk 403 = ad1 403 from (hfk.ad (by decide)).symm]
      have h400 := (hfk 400 (by decide)).2.trans h400
      have h403 := (hfk 403 (by decide)).2.trans h403
      have hK := hK.trk hfk
      refine V_icmpge_f (tgt := 338) C dL_areMessages_273 (by decide) (nI_ge hjl (by omega)) ?_
      refine V_iload C dL_areMessages_276 rfl ?_
      refine V_ifeq_f (tgt := 338) C dL_areMessages_278 (by decide) (by decide) ?_
      refine V_aload_n C dL_areMessages_281 rfl ?_
      refine V_iload C dL_areMessages_282 rfl ?_
      refine V_invV (c0 := 0) C dL_areMessages_284 hC.1 rfl (q_receipt s j hC hI hjl) mv_L_75 rfl (Nat.le_of_ble_eq_true rfl) ⟨Nat.le_of_ble_eq_true rfl, Nat.le_of_ble_eq_true rfl⟩ ⟨(by show 210 + 4 * j + 1 + 1 ≤ 400; omega), (by show 1260 + 24 * j + 6 + 6 ≤ 2400; omega)⟩ (fun _ _ _ h => VT_no h) (fun v ad2 F2 hp => ?_)
      obtain ⟨rfl, hC, hfk⟩ := hp
      rw [show ad1 0 = ad2 0 from hfk.a0.symm, show ad1 400 = ad2 400 from (hfk.ad (by decide)).symm, show ad1 403 = ad2 403 from (hfk.ad (by decide)).symm]
      have h400 := (hfk 400 (by decide)).2.trans h400
      have h403 := (hfk 403 (by decide)).2.trans h403
      have hK := hK.trk hfk
      refine V_istore C dL_areMessages_287 (by decide) ?_
      refine V_iload C dL_areMessages_289 rfl ?_
      refine V_bipush (v := 10) C dL_areMessages_291 (by decide) ?_
      refine V_idiv C dL_areMessages_293 (by decide) ?_
      refine V_nm ((pk_div (d := 10) (by omega) (by decide) (by decide)).trans (congrArg nI hd)) ?_
      refine V_aload_n C dL_areMessages_294 rfl ?_
      refine V_iconst (v := 3) C dL_areMessages_295 rfl ?_
      refine V_iald C dL_areMessages_296 h403 (show _ = nI 3 from rfl) (by decide) (by decide) ?_
      refine V_nm g3 ?_
      refine V_icmpge_f (tgt := 329) C dL_areMessages_297 (by decide) (nI_ge hm (by omega)) ?_
      refine V_iload C dL_areMessages_300 rfl ?_
      refine V_bipush (v := 10) C dL_areMessages_302 (by decide) ?_
      refine V_irem C dL_areMessages_304 (by decide) ?_
      refine V_nm ((pk_rem (d := 10) (by omega) (by decide) (by decide)).trans (congrArg nI hr)) ?_
      refine V_ifle_f (tgt := 329) C dL_areMessages_305 (by decide) (nI_nle (Nat.pos_of_ne_zero hm0) (by omega)) ?_
      refine V_iload C dL_areMessages_308 rfl ?_
      refine V_bipush (v := 10) C dL_areMessages_310 (by decide) ?_
      refine V_irem C dL_areMessages_312 (by decide) ?_
      refine V_nm ((pk_rem (d := 10) (by omega) (by decide) (by decide)).trans (congrArg nI hr)) ?_
      refine V_aload_n C dL_areMessages_313 rfl ?_
      refine V_iload C dL_areMessages_314 rfl ?_
      refine V_bipush (v := 10) C dL_areMessages_316 (by decide) ?_
      refine V_idiv C dL_areMessages_318 (by decide) ?_
      refine V_nm ((pk_div (d := 10) (by omega) (by decide) (by decide)).trans (congrArg nI hd)) ?_
      refine V_invV (c0 := 0) C dL_areMessages_319 hC.1 rfl (q_state s m hC hI hm) mv_L_66 rfl (Nat.le_of_ble_eq_true rfl) ⟨Nat.le_of_ble_eq_true rfl, Nat.le_of_ble_eq_true rfl⟩ ⟨(by show 210 + 4 * j + 1 + 1 + 2 ≤ 400; omega), (by show 1260 + 24 * j + 6 + 6 + 12 ≤ 2400; omega)⟩ (fun _ _ _ h => VT_no h) (fun v ad3 F3 hp => ?_)
      obtain ⟨rfl, hC, hfk⟩ := hp
      rw [show ad2 0 = ad3 0 from hfk.a0.symm, show ad2 400 = ad3 400 from (hfk.ad (by decide)).symm, show ad2 403 = ad3 403 from (hfk.ad (by decide)).symm]
      have h400 := (hfk 400 (by decide)).2.trans h400
      have h403 := (hfk 403 (by decide)).2.trans h403
      have hK := hK.trk hfk
      refine V_icmpne_f (tgt := 329) C dL_areMessages_322 (by decide) rfl ?_
      refine V_iconst (v := 1) C dL_areMessages_325 rfl ?_
      refine V_goto (tgt := 330) C dL_areMessages_326 (by decide) ?_
      refine V_istore C dL_areMessages_330 (by decide) ?_
      refine V_iinc C dL_areMessages_332 rfl (nI_1 j) (by decide) ?_
      refine V_goto (tgt := 267) C dL_areMessages_335 (by decide) ?_
      refine V_wide (k' := 210 + 4 * (j + 1)) (n' := 1260 + 24 * (j + 1)) (by show 210 + 4 * j + 1 + 1 + 2 ≤ _; omega) (by show 1260 + 24 * j + 6 + 6 + 12 ≤ _; omega) ?_
      exact V_sb (ih (j + 1) ad3 F3 z (by omega) hC h400 hz h403 hK) ⟨rfl, rfl, rfl, rfl, rfl, rfl, trivial⟩
  have loop1 : ∀ (d k : Nat) (adk : Nat → Nat) (Fk : Fn) (z : Nat → Int32), k + d = zMc s → CRep (xD X) adk Fk s → Fk 400 = some (aI (xD X) 60 z) → (∀ m, m < zMc s → z m = nI (zRc s m) ∧ z (40 + m) = nI (zMs s m).length ∧ z (20 + m) = if m < k then nI (zSt s m) else nI (zs m)) → Fk 403 = some (aI (xD X) 6 g) → FrL [400, 403] ad F adk Fk →
    V X (7 + 10 * k) (42 + 60 * k) 63 [(0, .ref (adk 0)), (1, .ref (adk 400)), (2, .ref (adk 403)), (3, .int (nI (enC (zSt s) k))), (4, .int 1), (5, .int (nI k))] [] adk Fk := by
    intro d
    induction d with
    | zero =>
      intro k adk Fk z hk hC h400 hz h403 hK
      obtain rfl : k = zMc s := by omega
      refine V_iload C dL_areMessages_63 rfl ?_
      refine V_aload_n C dL_areMessages_65 rfl ?_
      refine V_iconst (v := 3) C dL_areMessages_66 rfl ?_
      refine V_iald C dL_areMessages_67 h403 (show _ = nI 3 from rfl) (by decide) (by decide) ?_
      refine V_nm g3 ?_
      refine V_icmpge_t (tgt := 262) C dL_areMessages_68 (by decide) (Int32.le_refl _) ?_
      refine V_aload_n C dL_areMessages_262 rfl ?_
      refine V_iconst (v := 5) C dL_areMessages_263 rfl ?_
      refine V_iald C dL_areMessages_264 h403 (show _ = nI 5 from rfl) (by decide) (by decide) ?_
      refine V_nm g5 ?_
      refine V_istore C dL_areMessages_265 (by decide) ?_
      refine V_wide (k' := 210 + 4 * rcn) (n' := 1260 + 24 * rcn) (by omega) (by omega) ?_
      exact V_sb (loop2 ((zRcp s).length - rcn) rcn adk Fk z (by omega) hC h400 hz h403 hK) ⟨rfl, rfl, rfl, rfl, rfl, rfl, trivial⟩
    | succ d ih =>
      intro k adk Fk z hk hC h400 hz h403 hK
      have hkm : k < zMc s := by omega
      have hst4 := (hI.2.2.2.2.2.1 k hkm).2.2.2.2.1
      have hlk := lk_64 hI hkm
      have hml := (hI.2.2.2.2.2.1 k hkm).2.1
      have hzk := hz k hkm
      have hz20 : z (20 + k) = nI (zs k) := by
        have e := hzk.2.2
        rwa [if_neg (Nat.lt_irrefl _)] at e
      have hx1 := x1 k hkm
      have hle := enC_le (st := zSt s) k
      refine V_iload C dL_areMessages_63 rfl ?_
      refine V_aload_n C dL_areMessages_65 rfl ?_
      refine V_iconst (v := 3) C dL_areMessages_66 rfl ?_
      refine V_iald C dL_areMessages_67 h403 (show _ = nI 3 from rfl) (by decide) (by decide) ?_
      refine V_nm g3 ?_
      refine V_icmpge_f (tgt := 262) C dL_areMessages_68 (by decide) (nI_ge hkm (by omega)) ?_
      refine V_iload C dL_areMessages_71 rfl ?_
      refine V_ifeq_f (tgt := 262) C dL_areMessages_73 (by decide) (by decide) ?_
      refine V_aload_n C dL_areMessages_76 rfl ?_
      refine V_iload C dL_areMessages_77 rfl ?_
      refine V_invV (c0 := 0) C dL_areMessages_79 hC.1 rfl (q_state s k hC hI hkm) mv_L_66 rfl (Nat.le_of_ble_eq_true rfl) ⟨Nat.le_of_ble_eq_true rfl, Nat.le_of_ble_eq_true rfl⟩ ⟨(by show 7 + 10 * k + 2 ≤ 400; omega), (by show 42 + 60 * k + 12 ≤ 2400; omega)⟩ (fun _ _ _ h => VT_no h) (fun v ad1 F1 hp => ?_)
      obtain ⟨rfl, hC, hfk⟩ := hp
      rw [show adk 0 = ad1 0 from hfk.a0.symm, show adk 400 = ad1 400 from (hfk.ad (by decide)).symm, show adk 403 = ad1 403 from (hfk.ad (by decide)).symm]
      have h400 := (hfk 400 (by decide)).2.trans h400
      have h403 := (hfk 403 (by decide)).2.trans h403
      have hK := hK.trk hfk
      refine V_istore C dL_areMessages_82 (by decide) ?_
      refine V_aload_n C dL_areMessages_84 rfl ?_
      refine V_iload C dL_areMessages_85 rfl ?_
      refine V_invV (c0 := 0) C dL_areMessages_87 hC.1 rfl (q_missing s k hC hI hkm) mv_L_69 rfl (Nat.le_of_ble_eq_true rfl) ⟨Nat.le_of_ble_eq_true rfl, Nat.le_of_ble_eq_true rfl⟩ ⟨(by show 7 + 10 * k + 2 + 2 ≤ 400; omega), (by show 42 + 60 * k + 12 + 12 ≤ 2400; omega)⟩ (fun _ _ _ h => VT_no h) (fun v ad2 F2 hp => ?_)
      obtain ⟨rfl, hC, hfk⟩ := hp
      rw [show ad1 0 = ad2 0 from hfk.a0.symm, show ad1 400 = ad2 400 from (hfk.ad (by decide)).symm, show ad1 403 = ad2 403 from (hfk.ad (by decide)).symm]
      have h400 := (hfk 400 (by decide)).2.trans h400
      have h403 := (hfk 403 (by decide)).2.trans h403
      have hK := hK.trk hfk
      refine V_istore C dL_areMessages_90 (by decide) ?_
      refine V_iload_n C dL_areMessages_92 rfl ?_
      refine V_iload C dL_areMessages_93 rfl ?_
      have t105 : V X (7 + 10 * k + 2 + 2) (42 + 60 * k + 12 + 12) 105 [(0, .ref (ad2 0)), (1, .ref (ad2 400)), (2, .ref (ad2 403)), (3, .int (nI (enC (zSt s) (k + 1)))), (5, .int (nI k)), (6, .int (nI (zSt s k))), (7, .int (nI (zLk s k)))] [] ad2 F2 := by
        refine V_iload C dL_areMessages_105 rfl ?_
        refine V_iflt_f (tgt := 200) C dL_areMessages_107 (by decide) (nI_pos (by omega)) ?_
        refine V_iload C dL_areMessages_110 rfl ?_
        refine V_iconst (v := 4) C dL_areMessages_112 rfl ?_
        refine V_icmpge_f (tgt := 200) C dL_areMessages_113 (by decide) (nI_ge (b := 4) hst4 (by decide)) ?_
        have t138 : V X (7 + 10 * k + 2 + 2) (42 + 60 * k + 12 + 12) 138 [(0, .ref (ad2 0)), (1, .ref (ad2 400)), (2, .ref (ad2 403)), (3, .int (nI (enC (zSt s) (k + 1)))), (5, .int (nI k)), (6, .int (nI (zSt s k))), (7, .int (nI (zLk s k)))] [] ad2 F2 := by
          have t162 : V X (7 + 10 * k + 2 + 2) (42 + 60 * k + 12 + 12) 162 [(0, .ref (ad2 0)), (1, .ref (ad2 400)), (2, .ref (ad2 403)), (3, .int (nI (enC (zSt s) (k + 1)))), (5, .int (nI k)), (6, .int (nI (zSt s k))), (7, .int (nI (zLk s k)))] [] ad2 F2 := by
            refine V_aload_n C dL_areMessages_162 rfl ?_
            refine V_bipush (v := 6) C dL_areMessages_163 (by decide) ?_
            refine V_iload C dL_areMessages_165 rfl ?_
            refine V_aload_n C dL_areMessages_167 rfl ?_
            refine V_bipush (v := 40) C dL_areMessages_168 (by decide) ?_
            refine V_iload C dL_areMessages_170 rfl ?_
            refine V_iadd C dL_areMessages_172 ?_
            refine V_nm (nI_add 40 k) ?_
            refine V_iald C dL_areMessages_173 h400 rfl (by omega) (by decide) ?_
            refine V_nm hzk.2.1 ?_
            refine V_invH C dL_areMessages_174 (a_joined s _ _ hC hI) mh_L_94 rfl (Nat.le_of_ble_eq_true rfl) ⟨Nat.le_of_ble_eq_true rfl, Nat.le_of_ble_eq_true rfl⟩ ⟨(by show 7 + 10 * k + 2 + 2 + 2 ≤ 400; omega), (by show 42 + 60 * k + 12 + 12 + 12 ≤ 2400; omega)⟩ (fun _ _ _ h => VT_no h) (fun v ad3 F3 hp => ?_)
            obtain ⟨rfl, hC, hfk⟩ := hp
            rw [show ad2 0 = ad3 0 from hfk.a0.symm, show ad2 400 = ad3 400 from (hfk.ad (by decide)).symm, show ad2 403 = ad3 403 from (hfk.ad (by decide)).symm]
            have h400 := (hfk 400 (by decide)).2.trans h400
            have h403 := (hfk 403 (by decide)).2.trans h403
            have hK := hK.trk hfk
            refine V_nm (xjoinB hI hkm (Or.inr (Int32.le_refl _))) ?_
            refine V_bipush (v := (-30)) C dL_areMessages_177 (by decide) ?_
            refine V_icmpne_f (tgt := 200) C dL_areMessages_179 (by decide) rfl ?_
            refine V_aload_n C dL_areMessages_182 rfl ?_
            refine V_bipush (v := 6) C dL_areMessages_183 (by decide) ?_
            refine V_iload C dL_areMessages_185 rfl ?_
            refine V_iconst (v := (-1)) C dL_areMessages_187 rfl ?_
            refine V_invH C dL_areMessages_188 (a_joined s _ _ hC hI) mh_L_94 rfl (Nat.le_of_ble_eq_true rfl) ⟨Nat.le_of_ble_eq_true rfl, Nat.le_of_ble_eq_true rfl⟩ ⟨(by show 7 + 10 * k + 2 + 2 + 2 + 2 ≤ 400; omega), (by show 42 + 60 * k + 12 + 12 + 12 + 12 ≤ 2400; omega)⟩ (fun _ _ _ h => VT_no h) (fun v ad4 F4 hp => ?_)
            obtain ⟨rfl, hC, hfk⟩ := hp
            rw [show ad3 0 = ad4 0 from hfk.a0.symm, show ad3 400 = ad4 400 from (hfk.ad (by decide)).symm, show ad3 403 = ad4 403 from (hfk.ad (by decide)).symm]
            have h400 := (hfk 400 (by decide)).2.trans h400
            have h403 := (hfk 403 (by decide)).2.trans h403
            have hK := hK.trk hfk
            refine V_nm (xjoinB hI hkm (Or.inl (by decide))) ?_
            refine V_bipush (v := (-30)) C dL_areMessages_191 (by decide) ?_
            refine V_icmpne_f (tgt := 200) C dL_areMessages_193 (by decide) rfl ?_
            refine V_iconst (v := 1) C dL_areMessages_196 rfl ?_
            refine V_goto (tgt := 201) C dL_areMessages_197 (by decide) ?_
            refine V_istore C dL_areMessages_201 (by decide) ?_
            refine V_iload C dL_areMessages_203 rfl ?_
            refine V_ifeq_f (tgt := 244) C dL_areMessages_205 (by decide) (by decide) ?_
            refine V_aload_n C dL_areMessages_208 rfl ?_
            refine V_bipush (v := 6) C dL_areMessages_209 (by decide) ?_
            refine V_iload C dL_areMessages_211 rfl ?_
            refine V_iconst (v := 0) C dL_areMessages_213 rfl ?_
            refine V_invH C dL_areMessages_214 (a_joined s _ _ hC hI) mh_L_94 rfl (Nat.le_of_ble_eq_true rfl) ⟨Nat.le_of_ble_eq_true rfl, Nat.le_of_ble_eq_true rfl⟩ ⟨(by show 7 + 10 * k + 2 + 2 + 2 + 2 + 2 ≤ 400; omega), (by show 42 + 60 * k + 12 + 12 + 12 + 12 + 12 ≤ 2400; omega)⟩ (fun _ _ _ h => VT_no h) (fun v ad5 F5 hp => ?_)
            obtain ⟨rfl, hC, hfk⟩ := hp
            rw [show ad4 0 = ad5 0 from hfk.a0.symm, show ad4 400 = ad5 400 from (hfk.ad (by decide)).symm, show ad4 403 = ad5 403 from (hfk.ad (by decide)).symm]
            have h400 := (hfk 400 (by decide)).2.trans h400
            have h403 := (hfk 403 (by decide)).2.trans h403
            have hK := hK.trk hfk
            refine V_nm (xjoin0 hI hkm) ?_
            have t240 : V X (7 + 10 * k + 2 + 2 + 2 + 2 + 2) (42 + 60 * k + 12 + 12 + 12 + 12 + 12) 240 [(0, .ref (ad5 0)), (1, .ref (ad5 400)), (2, .ref (ad5 403)), (3, .int (nI (enC (zSt s) (k + 1)))), (5, .int (nI k)), (6, .int (nI (zSt s k))), (7, .int (nI (zLk s k)))] [] ad5 F5 := by
              refine V_iconst (v := 1) C dL_areMessages_240 rfl ?_
              refine V_goto (tgt := 245) C dL_areMessages_241 (by decide) ?_
              refine V_istore C dL_areMessages_245 (by decide) ?_
              refine V_aload_n C dL_areMessages_247 rfl ?_
              refine V_bipush (v := 20) C dL_areMessages_248 (by decide) ?_
              refine V_iload C dL_areMessages_250 rfl ?_
              refine V_iadd C dL_areMessages_252 ?_
              refine V_nm (nI_add 20 k) ?_
              refine V_iload C dL_areMessages_253 rfl ?_
              refine G_iast C dL_areMessages_255 h400 rfl (by omega) (by decide) (fun F9 h400 hfr => ?_)
              have h403 := (hfr 403 (by decide)).trans h403
              have hC := hC.keptF hI (fun c hc => hfr c (by omega))
              have hK := hK.st hfr (by decide)
              refine V_iinc C dL_areMessages_256 rfl (nI_1 k) (by decide) ?_
              refine V_goto (tgt := 63) C dL_areMessages_259 (by decide) ?_
              refine V_wide (k' := 7 + 10 * (k + 1)) (n' := 42 + 60 * (k + 1)) (by show 7 + 10 * k + 2 + 2 + 2 + 2 + 2 ≤ _; omega) (by show 42 + 60 * k + 12 + 12 + 12 + 12 + 12 ≤ _; omega) ?_
              refine V_sb (ih (k + 1) ad5 F9 _ (by omega) hC h400 (fun m hm => ?_) h403 hK) ⟨rfl, rfl, rfl, rfl, rfl, rfl, trivial⟩
              have hzm := hz m hm
              rw [pk_un (by omega), pk_un (by omega)]
              refine ⟨hzm.1, hzm.2.1, ?_⟩
              by_cases e : m = k
              · subst e
                rw [pk_us, if_pos (by omega)]
              · rw [pk_un (by omega), hzm.2.2]
                by_cases h : m < k
                · rw [if_pos h, if_pos (by omega)]
                · rw [if_neg h, if_neg (by omega)]
            by_cases hq : (zLk s k).testBit 0 = true
            · have h1 := (bit0 _).mp hq
              rw [if_pos hq]
              refine V_iflt_t (tgt := 224) C dL_areMessages_217 (by decide) (by decide) ?_
              refine V_iconst (v := 0) C dL_areMessages_224 rfl ?_
              refine V_iload C dL_areMessages_225 rfl ?_
              refine V_iconst (v := 1) C dL_areMessages_227 rfl ?_
              refine V_iand C dL_areMessages_228 ?_
              refine V_nm ((pk_andN (n := zLk s k) (by omega) (m := 1) 1 (by decide)).trans (congrArg nI (show zLk s k % 2 ^ 1 = 1 by omega))) ?_
              refine V_ifne_t (tgt := 236) C dL_areMessages_229 (by decide) (by decide) ?_
              refine V_iconst (v := 0) C dL_areMessages_236 rfl ?_
              refine V_icmpne_f (tgt := 244) C dL_areMessages_237 (by decide) rfl ?_
              exact V_sb t240 ⟨rfl, rfl, rfl, rfl, rfl, rfl, rfl, trivial⟩
            · have h1 : zLk s k % 2 = 0 := by
                have : ¬ zLk s k % 2 = 1 := fun e => hq ((bit0 (zLk s k)).mpr e)
                omega
              rw [if_neg hq]
              refine V_iflt_f (tgt := 224) C dL_areMessages_217 (by decide) (nI_pos (Nat.lt_trans (getD_lt (hI.2.2.2.2.2.1 k hkm).2.2.1 0) (by decide))) ?_
              refine V_iconst (v := 1) C dL_areMessages_220 rfl ?_
              refine V_goto (tgt := 225) C dL_areMessages_221 (by decide) ?_
              refine V_iload C dL_areMessages_225 rfl ?_
              refine V_iconst (v := 1) C dL_areMessages_227 rfl ?_
              refine V_iand C dL_areMessages_228 ?_
              refine V_nm ((pk_andN (n := zLk s k) (by omega) (m := 1) 1 (by decide)).trans (congrArg nI (show zLk s k % 2 ^ 1 = 0 by omega))) ?_
              refine V_ifne_f (tgt := 236) C dL_areMessages_229 (by decide) (by decide) ?_
              refine V_iconst (v := 1) C dL_areMessages_232 rfl ?_
              refine V_goto (tgt := 237) C dL_areMessages_233 (by decide) ?_
              refine V_icmpne_f (tgt := 244) C dL_areMessages_237 (by decide) rfl ?_
              exact V_sb t240 ⟨rfl, rfl, rfl, rfl, rfl, rfl, rfl, trivial⟩
          refine V_iload C dL_areMessages_138 rfl ?_
          refine V_iconst (v := 1) C dL_areMessages_140 rfl ?_
          by_cases hq : zSt s k = 1
          · refine V_icmpne_f (tgt := 148) C dL_areMessages_141 (by decide) (congrArg nI hq) ?_
            refine V_iconst (v := 1) C dL_areMessages_144 rfl ?_
            refine V_goto (tgt := 149) C dL_areMessages_145 (by decide) ?_
            refine V_iload C dL_areMessages_149 rfl ?_
            refine V_ifne_f (tgt := 158) C dL_areMessages_151 (by decide) (by rw [hx1.mp hq]; rfl) ?_
            refine V_iconst (v := 1) C dL_areMessages_154 rfl ?_
            refine V_goto (tgt := 159) C dL_areMessages_155 (by decide) ?_
            refine V_icmpne_f (tgt := 200) C dL_areMessages_159 (by decide) rfl ?_
            exact V_sb t162 ⟨rfl, rfl, rfl, rfl, rfl, rfl, rfl, trivial⟩
          · refine V_icmpne_t (tgt := 148) C dL_areMessages_141 (by decide) (fun e => hq ((nI_eq (b := 1) (by omega) (by decide)).mp e)) ?_
            refine V_iconst (v := 0) C dL_areMessages_148 rfl ?_
            refine V_iload C dL_areMessages_149 rfl ?_
            refine V_ifne_t (tgt := 158) C dL_areMessages_151 (by decide) (nI_ne0 (Nat.pos_of_ne_zero (fun e => hq (hx1.mpr e))) (by omega)) ?_
            refine V_iconst (v := 0) C dL_areMessages_158 rfl ?_
            refine V_icmpne_f (tgt := 200) C dL_areMessages_159 (by decide) rfl ?_
            exact V_sb t162 ⟨rfl, rfl, rfl, rfl, rfl, rfl, rfl, trivial⟩
        refine V_aload_n C dL_areMessages_116 rfl ?_
        refine V_bipush (v := 20) C dL_areMessages_117 (by decide) ?_
        refine V_iload C dL_areMessages_119 rfl ?_
        refine V_iadd C dL_areMessages_121 ?_
        refine V_nm (nI_add 20 k) ?_
        refine V_iald C dL_areMessages_122 h400 rfl (by omega) (by decide) ?_
        refine V_nm hz20 ?_
        by_cases hq : zs k = 0
        · refine V_ifeq_t (tgt := 138) C dL_areMessages_123 (by decide) (by rw [hq]; rfl) ?_
          exact V_sb t138 ⟨rfl, rfl, rfl, rfl, rfl, rfl, rfl, trivial⟩
        · refine V_ifeq_f (tgt := 138) C dL_areMessages_123 (by decide) (nI_ne0 (Nat.pos_of_ne_zero hq) (by have := (hzs k hkm).resolve_left hq; omega)) ?_
          refine V_iload C dL_areMessages_126 rfl ?_
          refine V_aload_n C dL_areMessages_128 rfl ?_
          refine V_bipush (v := 20) C dL_areMessages_129 (by decide) ?_
          refine V_iload C dL_areMessages_131 rfl ?_
          refine V_iadd C dL_areMessages_133 ?_
          refine V_nm (nI_add 20 k) ?_
          refine V_iald C dL_areMessages_134 h400 rfl (by omega) (by decide) ?_
          refine V_nm hz20 ?_
          refine V_icmpne_f (tgt := 200) C dL_areMessages_135 (by decide) (congrArg nI ((hzs k hkm).resolve_left hq)) ?_
          exact V_sb t138 ⟨rfl, rfl, rfl, rfl, rfl, rfl, rfl, trivial⟩
      by_cases hq : zSt s k = 0
      · refine V_ifne_f (tgt := 102) C dL_areMessages_95 (by decide) (by rw [hq]; rfl) ?_
        refine V_iconst (v := 0) C dL_areMessages_98 rfl ?_
        refine V_goto (tgt := 103) C dL_areMessages_99 (by decide) ?_
        refine V_iadd C dL_areMessages_103 ?_
        refine V_nm ((nI_add _ 0).trans (congrArg nI (enC_0 (k := k) hq).symm)) ?_
        refine V_istore_n C dL_areMessages_104 (by decide) ?_
        exact V_sb t105 ⟨rfl, rfl, rfl, rfl, rfl, rfl, rfl, trivial⟩
      · refine V_ifne_t (tgt := 102) C dL_areMessages_95 (by decide) (nI_ne0 (Nat.pos_of_ne_zero hq) (by omega)) ?_
        refine V_iconst (v := 1) C dL_areMessages_102 rfl ?_
        refine V_iadd C dL_areMessages_103 ?_
        refine V_nm ((nI_1 _).trans (congrArg nI (enC_1 (k := k) hq).symm)) ?_
        refine V_istore_n C dL_areMessages_104 (by decide) ?_
        exact V_sb t105 ⟨rfl, rfl, rfl, rfl, rfl, rfl, rfl, trivial⟩
  refine V_iconst (v := 0) C dL_areMessages_0 rfl ?_
  refine V_istore_n C dL_areMessages_1 (by decide) ?_
  refine V_aload_n C dL_areMessages_2 rfl ?_
  refine V_invV (c0 := 0) C dL_areMessages_3 hC.1 rfl (q_receipts s hC hI) mv_L_98 rfl (Nat.le_of_ble_eq_true rfl) ⟨Nat.le_of_ble_eq_true rfl, Nat.le_of_ble_eq_true rfl⟩ ⟨(Nat.le_of_ble_eq_true rfl), (Nat.le_of_ble_eq_true rfl)⟩ (fun _ _ _ h => VT_no h) (fun v ad1 F1 hp => ?_)
  obtain ⟨rfl, hC, hfk⟩ := hp
  rw [show ad 0 = ad1 0 from hfk.a0.symm, show ad 400 = ad1 400 from (hfk.ad (by decide)).symm, show ad 403 = ad1 403 from (hfk.ad (by decide)).symm]
  have h400 := (hfk 400 (by decide)).2.trans h400
  have h403 := (hfk 403 (by decide)).2.trans h403
  have hK := hK.trk hfk
  refine V_aload_n C dL_areMessages_6 rfl ?_
  refine V_iconst (v := 5) C dL_areMessages_7 rfl ?_
  refine V_iald C dL_areMessages_8 h403 (show _ = nI 5 from rfl) (by decide) (by decide) ?_
  refine V_nm g5 ?_
  refine V_icmplt_f (tgt := 57) C dL_areMessages_9 (by decide) (nI_nlt hrc (by omega)) ?_
  refine V_aload_n C dL_areMessages_12 rfl ?_
  refine V_iconst (v := 4) C dL_areMessages_13 rfl ?_
  refine V_aload_n C dL_areMessages_14 rfl ?_
  refine V_iconst (v := 3) C dL_areMessages_15 rfl ?_
  refine V_iald C dL_areMessages_16 h403 (show _ = nI 3 from rfl) (by decide) (by decide) ?_
  refine V_nm g3 ?_
  refine V_iconst (v := 0) C dL_areMessages_17 rfl ?_
  refine V_invH C dL_areMessages_18 (a_state s _ _ hC hI) mh_L_94 rfl (Nat.le_of_ble_eq_true rfl) ⟨Nat.le_of_ble_eq_true rfl, Nat.le_of_ble_eq_true rfl⟩ ⟨(Nat.le_of_ble_eq_true rfl), (Nat.le_of_ble_eq_true rfl)⟩ (fun _ _ _ h => VT_no h) (fun v ad2 F2 hp => ?_)
  obtain ⟨rfl, hC, hfk⟩ := hp
  rw [show ad1 0 = ad2 0 from hfk.a0.symm, show ad1 400 = ad2 400 from (hfk.ad (by decide)).symm, show ad1 403 = ad2 403 from (hfk.ad (by decide)).symm]
  have h400 := (hfk 400 (by decide)).2.trans h400
  have h403 := (hfk 403 (by decide)).2.trans h403
  have hK := hK.trk hfk
  refine V_nm (xstate (Or.inr (Int32.le_refl _))) ?_
  refine V_bipush (v := (-30)) C dL_areMessages_21 (by decide) ?_
  refine V_icmpne_f (tgt := 57) C dL_areMessages_23 (by decide) rfl ?_
  refine V_aload_n C dL_areMessages_26 rfl ?_
  refine V_iconst (v := 5) C dL_areMessages_27 rfl ?_
  refine V_iconst (v := (-1)) C dL_areMessages_28 rfl ?_
  refine V_iconst (v := 0) C dL_areMessages_29 rfl ?_
  refine V_invH C dL_areMessages_30 (a_missing s _ _ hC hI) mh_L_94 rfl (Nat.le_of_ble_eq_true rfl) ⟨Nat.le_of_ble_eq_true rfl, Nat.le_of_ble_eq_true rfl⟩ ⟨(Nat.le_of_ble_eq_true rfl), (Nat.le_of_ble_eq_true rfl)⟩ (fun _ _ _ h => VT_no h) (fun v ad3 F3 hp => ?_)
  obtain ⟨rfl, hC, hfk⟩ := hp
  rw [show ad2 0 = ad3 0 from hfk.a0.symm, show ad2 400 = ad3 400 from (hfk.ad (by decide)).symm, show ad2 403 = ad3 403 from (hfk.ad (by decide)).symm]
  have h400 := (hfk 400 (by decide)).2.trans h400
  have h403 := (hfk 403 (by decide)).2.trans h403
  have hK := hK.trk hfk
  refine V_nm (xmiss (Or.inl (by decide))) ?_
  refine V_bipush (v := (-30)) C dL_areMessages_33 (by decide) ?_
  refine V_icmpne_f (tgt := 57) C dL_areMessages_35 (by decide) rfl ?_
  refine V_aload_n C dL_areMessages_38 rfl ?_
  refine V_bipush (v := 6) C dL_areMessages_39 (by decide) ?_
  refine V_aload_n C dL_areMessages_41 rfl ?_
  refine V_iconst (v := 3) C dL_areMessages_42 rfl ?_
  refine V_iald C dL_areMessages_43 h403 (show _ = nI 3 from rfl) (by decide) (by decide) ?_
  refine V_nm g3 ?_
  refine V_iconst (v := 0) C dL_areMessages_44 rfl ?_
  refine V_invH C dL_areMessages_45 (a_joined s _ _ hC hI) mh_L_94 rfl (Nat.le_of_ble_eq_true rfl) ⟨Nat.le_of_ble_eq_true rfl, Nat.le_of_ble_eq_true rfl⟩ ⟨(Nat.le_of_ble_eq_true rfl), (Nat.le_of_ble_eq_true rfl)⟩ (fun _ _ _ h => VT_no h) (fun v ad4 F4 hp => ?_)
  obtain ⟨rfl, hC, hfk⟩ := hp
  rw [show ad3 0 = ad4 0 from hfk.a0.symm, show ad3 400 = ad4 400 from (hfk.ad (by decide)).symm, show ad3 403 = ad4 403 from (hfk.ad (by decide)).symm]
  have h400 := (hfk 400 (by decide)).2.trans h400
  have h403 := (hfk 403 (by decide)).2.trans h403
  have hK := hK.trk hfk
  refine V_nm (xjoin (Or.inr (Int32.le_refl _))) ?_
  refine V_bipush (v := (-30)) C dL_areMessages_48 (by decide) ?_
  refine V_icmpne_f (tgt := 57) C dL_areMessages_50 (by decide) rfl ?_
  refine V_iconst (v := 1) C dL_areMessages_53 rfl ?_
  refine V_goto (tgt := 58) C dL_areMessages_54 (by decide) ?_
  refine V_istore C dL_areMessages_58 (by decide) ?_
  refine V_iconst (v := 0) C dL_areMessages_60 rfl ?_
  refine V_istore C dL_areMessages_61 (by decide) ?_
  exact V_sb (loop1 (zMc s) 0 ad4 F4 z0 (by omega) hC h400 (fun m hm => ⟨(hz0 m hm).1, (hz0 m hm).2.2, by rw [if_neg (Nat.not_lt_zero m)]; exact (hz0 m hm).2.1⟩) h403 hK) ⟨rfl, rfl, rfl, rfl, rfl, rfl, trivial⟩
