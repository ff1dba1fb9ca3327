/-! ===== the law: isDone, the other branches ===== -/
theorem one_sub {u : Nat} (h : u ≤ 1) : (1 : Int32) - nI (1 - u) = nI u := by
  rcases (show u = 0 ∨ u = 1 by omega) with rfl | rfl <;> decide
theorem one_sub2 {u : Nat} (h : u ≤ 1) : (1 : Int32) - nI u = nI (1 - u) := by
  rcases (show u = 0 ∨ u = 1 by omega) with rfl | rfl <;> decide
theorem tog_now {s : St} {a : Int32} : zNow (spTog s a).2.2 = zNow s := by
  unfold spTog
  (repeat' split) <;> rfl
theorem setw_now {s : St} {a b : Int32} : zNow (spSetW s a b).2.2 = zNow s := by
  unfold spSetW
  (repeat' split) <;> rfl
theorem alert_now {s : St} {a : Int32} : zNow (spAlert s a).2.2 = zNow s := by
  unfold spAlert
  split <;> rfl
theorem key_now {s : St} {a b : Int32} : zNow (spKey s a b).2.2 = zNow s := by
  unfold spKey
  split <;> rfl
theorem le200 {a b : Nat} (h : a = b) : a ≤ b + 200 := Nat.le_trans (Nat.le_of_eq h) (Nat.le_add_right _ _)
set_option maxHeartbeats 2000000 in
set_option maxRecDepth 100000 in
/-- a link goes down or comes up -/
theorem dn_toggle {X : Cxt} {ad : Nat → Nat} {F : Fn} (s : St) (o t : Nat) (C : Ok X cL_isDone 14 yL_isDone rDone (some .boolean) []) (Q : Rx X (Done (xD X) ad F s) noX) (hC : CRep (xD X) ad F s) (hQ : Kq s) (hb : zNow s ≤ 180000) (hR : LR (xD X) F s (zSt s) (zRcp s).length) (ho : o < 6000) (ht : t < 7000) : V X 0 0 237 [(0, .ref (ad 0)), (3, .ref (ad 400)), (4, .ref (ad 401)), (5, .ref (ad 402)), (6, .ref (ad 403)), (8, .int (nI o)), (9, .int (nI t))] [] ad F := by
  have hI := hQ.1.1
  obtain ⟨hZ, hL, hW, hG⟩ := hR
  obtain ⟨q, h401, hq⟩ := hL
  have hK : FrL [401] ad F ad F := FrL.rf
  have hkq := kq_tog (a := nI (o % 4)) hQ
  refine V_iload C dL_isDone_237 rfl ?_
  refine V_iconst (v := 4) C dL_isDone_239 rfl ?_
  refine V_irem C dL_isDone_240 (by decide) ?_
  refine V_nm (pk_rem (d := 4) (by omega) (by decide) (by decide)) ?_
  refine V_istore C dL_isDone_241 (by decide) ?_
  refine V_iload C dL_isDone_243 rfl ?_
  refine V_iconst (v := 3) C dL_isDone_245 rfl ?_
  by_cases hx : o % 4 < 3
  · have hup := (hI.2.2.2.2.2.2.1 _ hx).1
    have ex : (nI (o % 4)).toNatClampNeg = o % 4 := nI_clamp (by omega)
    refine V_icmpge_f (tgt := 267) C dL_isDone_246 (by decide) (nI_ge (b := 3) hx (by decide)) ?_
    refine V_aload C dL_isDone_249 rfl ?_
    refine V_bipush (v := 6) C dL_isDone_251 (by decide) ?_
    refine V_iload C dL_isDone_253 rfl ?_
    refine V_iadd C dL_isDone_255 ?_
    refine V_nm (nI_add 6 _) ?_
    refine V_iconst (v := 1) C dL_isDone_256 rfl ?_
    refine V_aload C dL_isDone_257 rfl ?_
    refine V_bipush (v := 6) C dL_isDone_259 (by decide) ?_
    refine V_iload C dL_isDone_261 rfl ?_
    refine V_iadd C dL_isDone_263 ?_
    refine V_nm (nI_add 6 _) ?_
    refine V_iald C dL_isDone_264 h401 rfl (show 6 + o % 4 < 9 by omega) (by decide) ?_
    refine V_nm (hq _ hx).2 ?_
    refine V_isub C dL_isDone_265 ?_
    refine V_nm (one_sub hup) ?_
    refine G_iast C dL_isDone_266 h401 rfl (show 6 + o % 4 < 9 by omega) (by decide) (fun F1 h401 hfr => ?_)
    have hC := hC.keptF hI (fun c hc => hfr c (by omega))
    have hK := hK.st hfr (by decide)
    refine V_aload_n C dL_isDone_267 rfl ?_
    refine V_iconst (v := 3) C dL_isDone_268 rfl ?_
    refine V_iload C dL_isDone_269 rfl ?_
    refine V_iconst (v := 0) C dL_isDone_271 rfl ?_
    refine V_invH C dL_isDone_272 (d_toggleLink s _ 0 hC hI) mh_L_107 rfl (Nat.le_of_ble_eq_true rfl) ⟨Nat.le_of_ble_eq_true rfl, Nat.le_of_ble_eq_true rfl⟩ ⟨(Nat.le_of_ble_eq_true rfl), (Nat.le_of_ble_eq_true rfl)⟩ (fun _ _ _ h => VT_no h) (fun v ad2 F2 hp => ?_)
    obtain ⟨rfl, hC, hk⟩ := hp
    have hK := hK.trk hk
    have h401 := (hk 401 (by decide)).2.trans h401
    rw [show ad 401 = ad2 401 from (hk.ad (by decide)).symm]
    refine V_iload C dL_isDone_275 rfl ?_
    refine V_iconst (v := 3) C dL_isDone_277 rfl ?_
    refine V_icmpne_t (tgt := 286) C dL_isDone_278 (by decide) (fun e => by have := (nI_eq (b := 3) (by omega) (by decide)).mp e; omega) ?_
    refine V_iconst (v := 1) C dL_isDone_286 rfl ?_
    refine V_aload C dL_isDone_287 rfl ?_
    refine V_bipush (v := 6) C dL_isDone_289 (by decide) ?_
    refine V_iload C dL_isDone_291 rfl ?_
    refine V_iadd C dL_isDone_293 ?_
    refine V_nm (nI_add 6 _) ?_
    refine V_iald C dL_isDone_294 h401 rfl (show 6 + o % 4 < 9 by omega) (by decide) ?_
    refine V_nm pk_us ?_
    refine V_isub C dL_isDone_295 ?_
    refine V_nm (one_sub2 hup) ?_
    refine V_icmpne_f (tgt := 303) C dL_isDone_296 (by decide) (show xv [(-30)] (spTog s (nI (o % 4))) = nI (1 - zUp s (o % 4)) by
      unfold spTog
      rw [if_neg (nbad hx (by decide)), ex]
      by_cases h : zUp s (o % 4) = 0
      · rw [if_pos h, xv_ok, h]; rfl
      · rw [if_neg h, xv_ok, show zUp s (o % 4) = 1 by omega]; rfl) ?_
    refine V_iconst (v := 1) C dL_isDone_299 rfl ?_
    refine V_goto (tgt := 304) C dL_isDone_300 (by decide) ?_
    refine V_ireturn C Q dL_isDone_304 rfl (Nat.le_of_ble_eq_true rfl) (Nat.le_of_ble_eq_true rfl) (done_of hC hkq.1 hkq.2 (congrArg (fun q => q.1) (pZ_Tog (s := s))) (le200 tog_now) ⟨hZ.to pZ_Tog ((hK 400 (by decide)).2 (by decide)), ⟨_, h401, fun l hl => ?_⟩, hW.to pW_Tog ((hK 402 (by decide)).2 (by decide)), hG.to pG_Tog (congrArg (fun q => q.1) (pZ_Tog (s := s))) ((hK 403 (by decide)).2 (by decide))⟩ hK (by decide))
    have ew : zWn (spTog s (nI (o % 4))).2.2 = zWn s := by
      unfold spTog
      (repeat' split) <;> rfl
    have eu : zUp (spTog s (nI (o % 4))).2.2 = va_up (zUp s) (o % 4) (1 - zUp s (o % 4)) := by
      unfold spTog
      rw [if_neg (nbad hx (by decide)), ex]
      by_cases h : zUp s (o % 4) = 0
      · rw [if_pos h, h]
      · rw [if_neg h, show zUp s (o % 4) = 1 by omega]
        rfl
    rw [ew, eu, pk_un (by omega)]
    refine ⟨(hq l hl).1, ?_⟩
    by_cases e : l = o % 4
    · rw [e, pk_us, up_s]
      exact congrArg nI (by omega)
    · rw [pk_un (by omega), up_n e]
      exact (hq l hl).2
  · have e : spTog s (nI (o % 4)) = (1, 0, s) := by
      unfold spTog
      rw [if_pos (Or.inr (nI_le (a := 3) (by omega) (by omega)))]
    refine V_icmpge_t (tgt := 267) C dL_isDone_246 (by decide) (nI_le (a := 3) (by omega) (by omega)) ?_
    refine V_aload_n C dL_isDone_267 rfl ?_
    refine V_iconst (v := 3) C dL_isDone_268 rfl ?_
    refine V_iload C dL_isDone_269 rfl ?_
    refine V_iconst (v := 0) C dL_isDone_271 rfl ?_
    refine V_invH C dL_isDone_272 (d_toggleLink s _ 0 hC hI) mh_L_107 rfl (Nat.le_of_ble_eq_true rfl) ⟨Nat.le_of_ble_eq_true rfl, Nat.le_of_ble_eq_true rfl⟩ ⟨(Nat.le_of_ble_eq_true rfl), (Nat.le_of_ble_eq_true rfl)⟩ (fun _ _ _ h => VT_no h) (fun v ad3 F3 hp => ?_)
    rw [e] at hp
    obtain ⟨rfl, hC, hk⟩ := hp
    have hK := hK.trk hk
    refine V_nm xv_b ?_
    refine V_iload C dL_isDone_275 rfl ?_
    refine V_iconst (v := 3) C dL_isDone_277 rfl ?_
    refine V_icmpne_f (tgt := 286) C dL_isDone_278 (by decide) (congrArg nI (show o % 4 = 3 by omega)) ?_
    refine V_bipush (v := (-30)) C dL_isDone_281 (by decide) ?_
    refine V_goto (tgt := 296) C dL_isDone_283 (by decide) ?_
    refine V_icmpne_f (tgt := 303) C dL_isDone_296 (by decide) rfl ?_
    refine V_iconst (v := 1) C dL_isDone_299 rfl ?_
    refine V_goto (tgt := 304) C dL_isDone_300 (by decide) ?_
    refine V_ireturn C Q dL_isDone_304 rfl (Nat.le_of_ble_eq_true rfl) (Nat.le_of_ble_eq_true rfl) (done_of hC hQ Mo.rf rfl (Nat.le_add_right _ _) ⟨hZ.to rfl ((hK 400 (by decide)).2 (by decide)), ⟨q, (hk 401 (by decide)).2.trans h401, hq⟩, hW.to rfl ((hK 402 (by decide)).2 (by decide)), hG.to rfl rfl ((hK 403 (by decide)).2 (by decide))⟩ hK (by decide))
set_option maxHeartbeats 2000000 in
set_option maxRecDepth 100000 in
/-- a window is set -/
theorem dn_window {X : Cxt} {ad : Nat → Nat} {F : Fn} (s : St) (o t : Nat) (C : Ok X cL_isDone 14 yL_isDone rDone (some .boolean) []) (Q : Rx X (Done (xD X) ad F s) noX) (hC : CRep (xD X) ad F s) (hQ : Kq s) (hb : zNow s ≤ 180000) (hR : LR (xD X) F s (zSt s) (zRcp s).length) (ho : o < 6000) (ht : t < 7000) : V X 0 0 312 [(0, .ref (ad 0)), (3, .ref (ad 400)), (4, .ref (ad 401)), (5, .ref (ad 402)), (6, .ref (ad 403)), (8, .int (nI o)), (9, .int (nI t))] [] ad F := by
  have hI := hQ.1.1
  obtain ⟨hZ, hL, hW, hG⟩ := hR
  obtain ⟨q, h401, hq⟩ := hL
  have hK : FrL [401] ad F ad F := FrL.rf
  have ex : (nI (o % 4)).toNatClampNeg = o % 4 := nI_clamp (by omega)
  have ey : (nI (t % 12)).toNatClampNeg = t % 12 := nI_clamp (by omega)
  refine V_iload C dL_isDone_312 rfl ?_
  refine V_iconst (v := 4) C dL_isDone_314 rfl ?_
  refine V_irem C dL_isDone_315 (by decide) ?_
  refine V_nm (pk_rem (d := 4) (by omega) (by decide) (by decide)) ?_
  refine V_istore C dL_isDone_316 (by decide) ?_
  refine V_iload C dL_isDone_318 rfl ?_
  refine V_bipush (v := 12) C dL_isDone_320 (by decide) ?_
  refine V_irem C dL_isDone_322 (by decide) ?_
  refine V_nm (pk_rem (d := 12) (by omega) (by decide) (by decide)) ?_
  refine V_istore C dL_isDone_323 (by decide) ?_
  refine V_iload C dL_isDone_325 rfl ?_
  refine V_iconst (v := 3) C dL_isDone_327 rfl ?_
  have fails : ∀ (i : Nat) (v : Int32), spSetW s (nI (o % 4)) (nI (t % 12)) = (i + 1, 0, s) → xv [(-30), (-20)] (i + 1, 0, s) = v → v < 0 → V X 0 0 361 [(0, .ref (ad 0)), (4, .ref (ad 401)), (10, .int (nI (o % 4))), (11, .int (nI (t % 12)))] [.int v] ad F := by
    intro i v e ev hv
    refine V_istore C dL_isDone_361 (by decide) ?_
    refine V_iload C dL_isDone_363 rfl ?_
    refine V_iflt_t (tgt := 377) C dL_isDone_365 (by decide) hv ?_
    refine V_aload_n C dL_isDone_377 rfl ?_
    refine V_iconst (v := 4) C dL_isDone_378 rfl ?_
    refine V_iload C dL_isDone_379 rfl ?_
    refine V_iload C dL_isDone_381 rfl ?_
    refine V_invH C dL_isDone_383 (d_setWindow s _ _ hC hI) mh_L_107 rfl (Nat.le_of_ble_eq_true rfl) ⟨Nat.le_of_ble_eq_true rfl, Nat.le_of_ble_eq_true rfl⟩ ⟨(Nat.le_of_ble_eq_true rfl), (Nat.le_of_ble_eq_true rfl)⟩ (fun _ _ _ h => VT_no h) (fun v ad1 F1 hp => ?_)
    rw [e] at hp
    obtain ⟨rfl, hC, hk⟩ := hp
    have hK := hK.trk hk
    refine V_nm ev ?_
    refine V_iload C dL_isDone_386 rfl ?_
    refine V_icmpne_f (tgt := 395) C dL_isDone_388 (by decide) rfl ?_
    refine V_iconst (v := 1) C dL_isDone_391 rfl ?_
    refine V_goto (tgt := 396) C dL_isDone_392 (by decide) ?_
    refine V_ireturn C Q dL_isDone_396 rfl (Nat.le_of_ble_eq_true rfl) (Nat.le_of_ble_eq_true rfl) (done_of hC hQ Mo.rf rfl (Nat.le_add_right _ _) ⟨hZ.to rfl ((hK 400 (by decide)).2 (by decide)), ⟨q, (hk 401 (by decide)).2.trans h401, hq⟩, hW.to rfl ((hK 402 (by decide)).2 (by decide)), hG.to rfl rfl ((hK 403 (by decide)).2 (by decide))⟩ hK (by decide))
  have bad20 : o % 4 < 3 → (t % 12 < 1 ∨ 10 < t % 12) → V X 0 0 349 [(0, .ref (ad 0)), (4, .ref (ad 401)), (10, .int (nI (o % 4))), (11, .int (nI (t % 12)))] [] ad F := by
    intro hx hy
    have e : spSetW s (nI (o % 4)) (nI (t % 12)) = (1 + 1, 0, s) := by
      unfold spSetW
      rw [if_neg (nbad hx (by decide)), if_pos]
      rcases hy with h | h
      · exact Or.inl (nI_lt (b := 1) h (by decide))
      · exact Or.inr (nI_lt (a := 10) h (by omega))
    refine V_bipush (v := (-20)) C dL_isDone_349 (by decide) ?_
    refine V_goto (tgt := 361) C dL_isDone_351 (by decide) ?_
    exact fails 1 (-20) e (xv_n (r := (1 + 1, 0, s)) (i := 1) rfl) (by decide)
  by_cases hx : o % 4 = 3
  · have e : spSetW s (nI (o % 4)) (nI (t % 12)) = (0 + 1, 0, s) := by
      unfold spSetW
      rw [if_pos (Or.inr (nI_le (a := 3) (by omega) (by omega)))]
    refine V_icmpne_f (tgt := 336) C dL_isDone_328 (by decide) (congrArg nI hx) ?_
    refine V_bipush (v := (-30)) C dL_isDone_331 (by decide) ?_
    refine V_goto (tgt := 361) C dL_isDone_333 (by decide) ?_
    exact V_sb (fails 0 (-30) e xv_b (by decide)) ⟨rfl, rfl, rfl, rfl, trivial⟩
  · refine V_icmpne_t (tgt := 336) C dL_isDone_328 (by decide) (fun e => hx ((nI_eq (b := 3) (by omega) (by decide)).mp e)) ?_
    refine V_iload C dL_isDone_336 rfl ?_
    refine V_iconst (v := 1) C dL_isDone_338 rfl ?_
    by_cases hy : t % 12 < 1
    · refine V_icmplt_t (tgt := 349) C dL_isDone_339 (by decide) (nI_lt (b := 1) hy (by decide)) ?_
      exact V_sb (bad20 (by omega) (Or.inl hy)) ⟨rfl, rfl, rfl, rfl, trivial⟩
    · refine V_icmplt_f (tgt := 349) C dL_isDone_339 (by decide) (nI_nlt (b := 1) (Nat.le_of_not_lt hy) (by omega)) ?_
      refine V_iload C dL_isDone_342 rfl ?_
      refine V_bipush (v := 10) C dL_isDone_344 (by decide) ?_
      by_cases hy2 : t % 12 ≤ 10
      · have hx3 : o % 4 < 3 := by omega
        have e : spSetW s (nI (o % 4)) (nI (t % 12)) = (0, nI (zWn s (o % 4)), sWn s (va_up (zWn s) (o % 4) (t % 12))) := by
          unfold spSetW
          rw [if_neg (nbad hx3 (by decide)), if_neg, ex, ey]
          rintro (h | h)
          · exact nI_nlt (b := 1) (Nat.le_of_not_lt hy) (by omega) h
          · exact nI_nlt (a := 10) hy2 (by decide) h
        have hkq := kq_setW (a := nI (o % 4)) (b := nI (t % 12)) hQ
        rw [e] at hkq
        have hwn := (hI.2.2.2.2.2.2.1 _ hx3).2.2.1
        refine V_icmple_t (tgt := 354) C dL_isDone_346 (by decide) (nI_le (b := 10) hy2 (by decide)) ?_
        refine V_aload C dL_isDone_354 rfl ?_
        refine V_iconst (v := 3) C dL_isDone_356 rfl ?_
        refine V_iload C dL_isDone_357 rfl ?_
        refine V_iadd C dL_isDone_359 ?_
        refine V_nm (nI_add 3 _) ?_
        refine V_iald C dL_isDone_360 h401 rfl (show 3 + o % 4 < 9 by omega) (by decide) ?_
        refine V_nm (hq _ hx3).1 ?_
        refine V_istore C dL_isDone_361 (by decide) ?_
        refine V_iload C dL_isDone_363 rfl ?_
        refine V_iflt_f (tgt := 377) C dL_isDone_365 (by decide) (nI_pos (by omega)) ?_
        refine V_aload C dL_isDone_368 rfl ?_
        refine V_iconst (v := 3) C dL_isDone_370 rfl ?_
        refine V_iload C dL_isDone_371 rfl ?_
        refine V_iadd C dL_isDone_373 ?_
        refine V_nm (nI_add 3 _) ?_
        refine V_iload C dL_isDone_374 rfl ?_
        refine G_iast C dL_isDone_376 h401 rfl (show 3 + o % 4 < 9 by omega) (by decide) (fun F1 h401 hfr => ?_)
        have hC := hC.keptF hI (fun c hc => hfr c (by omega))
        have hK := hK.st hfr (by decide)
        refine V_aload_n C dL_isDone_377 rfl ?_
        refine V_iconst (v := 4) C dL_isDone_378 rfl ?_
        refine V_iload C dL_isDone_379 rfl ?_
        refine V_iload C dL_isDone_381 rfl ?_
        refine V_invH C dL_isDone_383 (d_setWindow s _ _ hC hI) mh_L_107 rfl (Nat.le_of_ble_eq_true rfl) ⟨Nat.le_of_ble_eq_true rfl, Nat.le_of_ble_eq_true rfl⟩ ⟨(Nat.le_of_ble_eq_true rfl), (Nat.le_of_ble_eq_true rfl)⟩ (fun _ _ _ h => VT_no h) (fun v ad2 F2 hp => ?_)
        rw [e] at hp
        obtain ⟨rfl, hC, hk⟩ := hp
        have hK := hK.trk hk
        have h401 := (hk 401 (by decide)).2.trans h401
        refine V_nm xv_ok ?_
        refine V_iload C dL_isDone_386 rfl ?_
        refine V_icmpne_f (tgt := 395) C dL_isDone_388 (by decide) rfl ?_
        refine V_iconst (v := 1) C dL_isDone_391 rfl ?_
        refine V_goto (tgt := 396) C dL_isDone_392 (by decide) ?_
        refine V_ireturn C Q dL_isDone_396 rfl (Nat.le_of_ble_eq_true rfl) (Nat.le_of_ble_eq_true rfl) (done_of hC hkq.1 hkq.2 rfl (Nat.le_add_right _ _) ⟨hZ.to rfl ((hK 400 (by decide)).2 (by decide)), ⟨_, h401, fun l hl => ?_⟩, hW.to rfl ((hK 402 (by decide)).2 (by decide)), hG.to rfl rfl ((hK 403 (by decide)).2 (by decide))⟩ hK (by decide))
        show _ = nI (va_up (zWn s) (o % 4) (t % 12) l) ∧ _ = nI (1 - zUp s l)
        rw [pk_un (show 6 + l ≠ 3 + o % 4 by omega)]
        refine ⟨?_, (hq l hl).2⟩
        by_cases e : l = o % 4
        · rw [e, pk_us, up_s]
        · rw [pk_un (by omega), up_n e]
          exact (hq l hl).1
      · refine V_icmple_f (tgt := 354) C dL_isDone_346 (by decide) (nI_ge (a := 10) (Nat.lt_of_not_le hy2) (by omega)) ?_
        exact V_sb (bad20 (by omega) (Or.inr (Nat.lt_of_not_le hy2))) ⟨rfl, rfl, rfl, rfl, trivial⟩
theorem alert_ok {s : St} {x : Nat} (hI : Inv s) (hx : x < 9) : xv [(-20)] (spAlert s (nI x)) = nI ((zRw s (2 * (x % 3))).filter (wkS s x)).length ∧ zRw (spAlert s (nI x)).2.2 = zRw s ∧ zRc (spAlert s (nI x)).2.2 = zRc s ∧ zPw (spAlert s (nI x)).2.2 = fun c => if c ∈ zRw s (2 * (x % 3)) ∧ wkS s x c = true then 0 else zPw s c := by
  unfold spAlert
  rw [if_neg (nbad hx (by decide)), show (nI x).toNatClampNeg = x from nI_clamp (by omega)]
  exact ⟨xv_ok, rfl, rfl, rfl⟩
theorem alert_2 {s : St} {x : Nat} (hI : Inv s) (hx : x < 9) : (zRw (spAlert s (nI x)).2.2 (2 * (x % 3))).filter (wkS (spAlert s (nI x)).2.2 x) = [] := by
  obtain ⟨-, e1, e2, e3⟩ := alert_ok hI hx
  rw [e1]
  refine List.filter_eq_nil_iff.mpr (fun c hc h => ?_)
  unfold wkS wkD at h
  rw [e2, e3] at h
  have h : ¬ nI (if c ∈ zRw s (2 * (x % 3)) ∧ wkS s x c = true then 0 else zPw s c) = 0 ∧ nI (zRc s (mOf c)) = nI x := of_decide_eq_true h
  by_cases hw : wkS s x c = true
  · rw [if_pos ⟨hc, hw⟩] at h
    exact h.1 rfl
  · rw [if_neg (fun g => hw g.2)] at h
    exact hw (decide_eq_true h)
set_option maxHeartbeats 2000000 in
set_option maxRecDepth 100000 in
/-- an alert -/
theorem dn_alert {X : Cxt} {ad : Nat → Nat} {F : Fn} (s : St) (o t : Nat) (C : Ok X cL_isDone 14 yL_isDone rDone (some .boolean) []) (Q : Rx X (Done (xD X) ad F s) noX) (hC : CRep (xD X) ad F s) (hQ : Kq s) (hb : zNow s ≤ 180000) (hR : LR (xD X) F s (zSt s) (zRcp s).length) (ho : o < 6000) (ht : t < 7000) : V X 0 0 404 [(0, .ref (ad 0)), (3, .ref (ad 400)), (4, .ref (ad 401)), (5, .ref (ad 402)), (6, .ref (ad 403)), (8, .int (nI o)), (9, .int (nI t))] [] ad F := by
  have hI := hQ.1.1
  obtain ⟨hZ, hL, hW, hG⟩ := hR
  have hK : FrL [401] ad F ad F := FrL.rf
  have hx10 : o % 10 < 10 := Nat.mod_lt _ (by decide)
  refine V_aload_n C dL_isDone_404 rfl ?_
  refine V_bipush (v := 6) C dL_isDone_405 (by decide) ?_
  refine V_iload C dL_isDone_407 rfl ?_
  refine V_bipush (v := 10) C dL_isDone_409 (by decide) ?_
  refine V_irem C dL_isDone_411 (by decide) ?_
  refine V_nm (pk_rem (d := 10) (by omega) (by decide) (by decide)) ?_
  refine V_iconst (v := 0) C dL_isDone_412 rfl ?_
  refine V_invH C dL_isDone_413 (d_alert s _ 0 hC hI) mh_L_107 rfl (Nat.le_of_ble_eq_true rfl) ⟨Nat.le_of_ble_eq_true rfl, Nat.le_of_ble_eq_true rfl⟩ ⟨(Nat.le_of_ble_eq_true rfl), (Nat.le_of_ble_eq_true rfl)⟩ (fun _ _ _ h => VT_no h) (fun v ad1 F1 hp => ?_)
  obtain ⟨rfl, hC, hk⟩ := hp
  have hK := hK.trk hk
  rw [show ad 0 = ad1 0 from hk.a0.symm]
  refine V_istore C dL_isDone_416 (by decide) ?_
  refine V_iload C dL_isDone_418 rfl ?_
  refine V_bipush (v := 10) C dL_isDone_420 (by decide) ?_
  refine V_irem C dL_isDone_422 (by decide) ?_
  refine V_nm (pk_rem (d := 10) (by omega) (by decide) (by decide)) ?_
  refine V_bipush (v := 9) C dL_isDone_423 (by decide) ?_
  by_cases hq : o % 10 = 9
  · have e : spAlert s (nI (o % 10)) = (1, 0, s) := by
      unfold spAlert
      rw [if_pos (Or.inr (nI_le (a := 9) (by omega) (by omega)))]
    rw [e] at hC ⊢
    refine V_icmpne_f (tgt := 443) C dL_isDone_425 (by decide) (congrArg nI hq) ?_
    refine V_iload C dL_isDone_428 rfl ?_
    refine V_bipush (v := (-20)) C dL_isDone_430 (by decide) ?_
    refine V_icmpne_f (tgt := 439) C dL_isDone_432 (by decide) xv_b ?_
    refine V_iconst (v := 1) C dL_isDone_435 rfl ?_
    refine V_goto (tgt := 468) C dL_isDone_436 (by decide) ?_
    refine V_ireturn C Q dL_isDone_468 rfl (Nat.le_of_ble_eq_true rfl) (Nat.le_of_ble_eq_true rfl) (done_of hC hQ Mo.rf rfl (Nat.le_add_right _ _) ⟨hZ.to rfl ((hK 400 (by decide)).2 (by decide)), hL.to rfl ((hk 401 (by decide)).2), hW.to rfl ((hK 402 (by decide)).2 (by decide)), hG.to rfl rfl ((hK 403 (by decide)).2 (by decide))⟩ hK (by decide))
  · have hx : o % 10 < 9 := by omega
    obtain ⟨a1, a2, -, -⟩ := alert_ok hI hx
    have hkq := kq_alert (a := nI (o % 10)) hQ
    have hI2 := hkq.1.1.1
    have hkq2 := kq_alert (a := nI (o % 10)) hkq.1
    obtain ⟨b1, -, -, -⟩ := alert_ok hI2 hx
    rw [alert_2 hI hx] at b1
    have hcap := row_cap hI (show o % 10 % 3 < 3 by omega)
    have hfl := List.length_filter_le (wkS s (o % 10)) (zRw s (2 * (o % 10 % 3)))
    refine V_icmpne_t (tgt := 443) C dL_isDone_425 (by decide) (fun e => hq ((nI_eq (b := 9) (by omega) (by decide)).mp e)) ?_
    refine V_iload C dL_isDone_443 rfl ?_
    refine V_iflt_f (tgt := 467) C dL_isDone_445 (by decide) (by rw [a1]; exact nI_pos (by omega)) ?_
    refine V_aload_n C dL_isDone_448 rfl ?_
    refine V_bipush (v := 6) C dL_isDone_449 (by decide) ?_
    refine V_iload C dL_isDone_451 rfl ?_
    refine V_bipush (v := 10) C dL_isDone_453 (by decide) ?_
    refine V_irem C dL_isDone_455 (by decide) ?_
    refine V_nm (pk_rem (d := 10) (by omega) (by decide) (by decide)) ?_
    refine V_iconst (v := 0) C dL_isDone_456 rfl ?_
    refine V_invH C dL_isDone_457 (d_alert (spAlert s (nI (o % 10))).2.2 _ 0 hC hI2) mh_L_107 rfl (Nat.le_of_ble_eq_true rfl) ⟨Nat.le_of_ble_eq_true rfl, Nat.le_of_ble_eq_true rfl⟩ ⟨(Nat.le_of_ble_eq_true rfl), (Nat.le_of_ble_eq_true rfl)⟩ (fun _ _ _ h => VT_no h) (fun v ad2 F2 hp => ?_)
    obtain ⟨rfl, hC, hk2⟩ := hp
    have hK := hK.trk hk2
    refine V_nm b1 ?_
    refine V_ifne_f (tgt := 467) C dL_isDone_460 (by decide) rfl ?_
    refine V_iconst (v := 1) C dL_isDone_463 rfl ?_
    refine V_goto (tgt := 468) C dL_isDone_464 (by decide) ?_
    refine V_ireturn C Q dL_isDone_468 rfl (Nat.le_of_ble_eq_true rfl) (Nat.le_of_ble_eq_true rfl) (done_of hC hkq2.1 (hkq.2.tr hkq2.2) (congrArg (fun q => q.1) ((pZ_Alert).trans (pZ_Alert (s := s)))) (le200 (alert_now.trans alert_now)) ⟨hZ.to (pZ_Alert.trans pZ_Alert) ((hK 400 (by decide)).2 (by decide)), hL.to (pL_Alert.trans pL_Alert) ((hk2 401 (by decide)).2.trans (hk 401 (by decide)).2), hW.to (pW_Alert.trans pW_Alert) ((hK 402 (by decide)).2 (by decide)), hG.to (pG_Alert.trans pG_Alert) (congrArg (fun q => q.1) (pZ_Alert.trans (pZ_Alert (s := s)))) ((hK 403 (by decide)).2 (by decide))⟩ hK (by decide))
set_option maxHeartbeats 2000000 in
set_option maxRecDepth 100000 in
/-- the text is taken away -/
theorem dn_erase {X : Cxt} {ad : Nat → Nat} {F : Fn} (s : St) (o t : Nat) (C : Ok X cL_isDone 14 yL_isDone rDone (some .boolean) []) (Q : Rx X (Done (xD X) ad F s) noX) (hC : CRep (xD X) ad F s) (hQ : Kq s) (hb : zNow s ≤ 180000) (hR : LR (xD X) F s (zSt s) (zRcp s).length) (ho : o < 6000) (ht : t < 7000) : V X 0 0 647 [(0, .ref (ad 0)), (3, .ref (ad 400)), (4, .ref (ad 401)), (5, .ref (ad 402)), (6, .ref (ad 403)), (8, .int (nI o)), (9, .int (nI t))] [] ad F := by
  have hI := hQ.1.1
  obtain ⟨hZ, hL, hW, hG⟩ := hR
  obtain ⟨g, h403, g0, g1, g2, g3, g4, g5⟩ := hG
  have hK : FrL [403] ad F ad F := FrL.rf
  have hkq := kq_erase hQ
  refine V_aload C dL_isDone_647 rfl ?_
  refine V_iconst (v := 0) C dL_isDone_649 rfl ?_
  refine V_iald C dL_isDone_650 h403 (show _ = nI 0 from rfl) (by decide) (by decide) ?_
  refine V_nm g0 ?_
  refine V_istore C dL_isDone_651 (by decide) ?_
  refine V_aload C dL_isDone_653 rfl ?_
  refine V_invS C dL_isDone_655 (l_clears g h403) ms_L_110 rfl (Nat.le_of_ble_eq_true rfl) ⟨Nat.le_of_ble_eq_true rfl, Nat.le_of_ble_eq_true rfl⟩ ⟨(Nat.le_of_ble_eq_true rfl), (Nat.le_of_ble_eq_true rfl)⟩ (fun _ _ _ h => VT_no h) (fun v ad1 F1 hp => ?_)
  obtain ⟨rfl, rfl, h403, hfr⟩ := hp
  have hC := hC.keptF hI (fun c hc => hfr c (by omega))
  have hK := hK.st hfr (by decide)
  refine V_aload_n C dL_isDone_658 rfl ?_
  refine V_invV (c0 := 0) C dL_isDone_659 hC.1 rfl ((c_erase s hC hI).q0 rfl) mv_L_137 rfl (Nat.le_of_ble_eq_true rfl) ⟨Nat.le_of_ble_eq_true rfl, Nat.le_of_ble_eq_true rfl⟩ ⟨(Nat.le_of_ble_eq_true rfl), (Nat.le_of_ble_eq_true rfl)⟩ (fun _ _ _ h => VT_no h) (fun v ad2 F2 hp => ?_)
  obtain ⟨rfl, hC, hk⟩ := hp
  have hK := hK.trk hk
  have h403 := (hk 403 (by decide)).2.trans h403
  refine V_iload C dL_isDone_662 rfl ?_
  refine V_icmpne_f (tgt := 671) C dL_isDone_664 (by decide) rfl ?_
  refine V_iconst (v := 1) C dL_isDone_667 rfl ?_
  refine V_goto (tgt := 672) C dL_isDone_668 (by decide) ?_
  refine V_ireturn C Q dL_isDone_672 rfl (Nat.le_of_ble_eq_true rfl) (Nat.le_of_ble_eq_true rfl) (done_of hC hkq.1 hkq.2 rfl (Nat.le_add_right _ _) ⟨hZ.to rfl ((hK 400 (by decide)).2 (by decide)), hL.to rfl ((hK 401 (by decide)).2 (by decide)), hW.to rfl ((hK 402 (by decide)).2 (by decide)), ⟨_, h403, rfl, rfl, rfl, g3, g4, g5⟩⟩ hK (by decide))
theorem kb_ok : ∀ n, n < 6 → ¬ (nI n - 1 < -1 ∨ 999 < nI n - 1) := by decide +kernel
set_option maxHeartbeats 2000000 in
set_option maxRecDepth 100000 in
/-- a keyword is set -/
theorem dn_key {X : Cxt} {ad : Nat → Nat} {F : Fn} (s : St) (o t : Nat) (C : Ok X cL_isDone 14 yL_isDone rDone (some .boolean) []) (Q : Rx X (Done (xD X) ad F s) noX) (hC : CRep (xD X) ad F s) (hQ : Kq s) (hb : zNow s ≤ 180000) (hR : LR (xD X) F s (zSt s) (zRcp s).length) (ho : o < 6000) (ht : t < 7000) : V X 0 0 515 [(0, .ref (ad 0)), (3, .ref (ad 400)), (4, .ref (ad 401)), (5, .ref (ad 402)), (6, .ref (ad 403)), (8, .int (nI o)), (9, .int (nI t))] [] ad F := by
  have hI := hQ.1.1
  obtain ⟨hZ, hL, hW, hG⟩ := hR
  obtain ⟨w, h402, hw, hkw⟩ := hW
  have hK : FrL [402] ad F ad F := FrL.rf
  have ex : (nI (o % 6)).toNatClampNeg = o % 6 := nI_clamp (by omega)
  obtain ⟨b, hbb⟩ : ∃ b, b = nI (t % 6) - 1 := ⟨_, rfl⟩
  have hbr : ¬ (b < -1 ∨ 999 < b) := by rw [hbb]; exact kb_ok _ (by omega)
  refine V_iload C dL_isDone_515 rfl ?_
  refine V_bipush (v := 6) C dL_isDone_517 (by decide) ?_
  refine V_irem C dL_isDone_519 (by decide) ?_
  refine V_nm (pk_rem (d := 6) (by omega) (by decide) (by decide)) ?_
  refine V_istore C dL_isDone_520 (by decide) ?_
  refine V_iload C dL_isDone_522 rfl ?_
  refine V_bipush (v := 6) C dL_isDone_524 (by decide) ?_
  refine V_irem C dL_isDone_526 (by decide) ?_
  refine V_nm (pk_rem (d := 6) (by omega) (by decide) (by decide)) ?_
  refine V_iconst (v := 1) C dL_isDone_527 rfl ?_
  refine V_isub C dL_isDone_528 ?_
  refine V_nm hbb.symm ?_
  refine V_istore C dL_isDone_529 (by decide) ?_
  refine V_iload C dL_isDone_531 rfl ?_
  have bad : ¬ (0 < o % 6 ∧ o % 6 < 5) → V X 0 0 546 [(0, .ref (ad 0)), (5, .ref (ad 402)), (10, .int (nI (o % 6))), (11, .int b)] [] ad F := by
    intro hx
    have e : spKey s (nI (o % 6)) b = (1, 0, s) := by
      unfold spKey
      rw [if_pos]
      rcases (show o % 6 = 0 ∨ 5 ≤ o % 6 by omega) with h | h
      · exact Or.inl (by rw [h]; decide)
      · exact Or.inr (Or.inl (nI_le (a := 5) h (by omega)))
    refine V_iconst (v := 0) C dL_isDone_546 rfl ?_
    refine V_istore C dL_isDone_547 (by decide) ?_
    refine V_iconst (v := 1) C dL_isDone_549 rfl ?_
    refine V_istore C dL_isDone_550 (by decide) ?_
    refine V_iload C dL_isDone_552 rfl ?_
    refine V_iconst (v := 5) C dL_isDone_554 rfl ?_
    refine V_icmpge_f (tgt := 602) C dL_isDone_555 (by decide) (by decide) ?_
    refine V_iload C dL_isDone_558 rfl ?_
    refine V_ifeq_t (tgt := 602) C dL_isDone_560 (by decide) rfl ?_
    refine V_iload C dL_isDone_602 rfl ?_
    refine V_ifeq_t (tgt := 617) C dL_isDone_604 (by decide) rfl ?_
    refine V_aload_n C dL_isDone_617 rfl ?_
    refine V_bipush (v := 8) C dL_isDone_618 (by decide) ?_
    refine V_iload C dL_isDone_620 rfl ?_
    refine V_iload C dL_isDone_622 rfl ?_
    refine V_invH C dL_isDone_624 (d_keyword s _ _ hC hI) mh_L_107 rfl (Nat.le_of_ble_eq_true rfl) ⟨Nat.le_of_ble_eq_true rfl, Nat.le_of_ble_eq_true rfl⟩ ⟨(Nat.le_of_ble_eq_true rfl), (Nat.le_of_ble_eq_true rfl)⟩ (fun _ _ _ h => VT_no h) (fun v ad1 F1 hp => ?_)
    rw [e] at hp
    obtain ⟨rfl, hC, hk⟩ := hp
    have hK := hK.trk hk
    refine V_nm xv_b ?_
    refine V_iload C dL_isDone_627 rfl ?_
    refine V_ifeq_t (tgt := 636) C dL_isDone_629 (by decide) rfl ?_
    refine V_bipush (v := (-20)) C dL_isDone_636 (by decide) ?_
    refine V_icmpne_f (tgt := 645) C dL_isDone_638 (by decide) rfl ?_
    refine V_iconst (v := 1) C dL_isDone_641 rfl ?_
    refine V_goto (tgt := 646) C dL_isDone_642 (by decide) ?_
    refine V_ireturn C Q dL_isDone_646 rfl (Nat.le_of_ble_eq_true rfl) (Nat.le_of_ble_eq_true rfl) (done_of hC hQ Mo.rf rfl (Nat.le_add_right _ _) ⟨hZ.to rfl ((hK 400 (by decide)).2 (by decide)), hL.to rfl ((hK 401 (by decide)).2 (by decide)), ⟨w, (hk 402 (by decide)).2.trans h402, hw, hkw⟩, hG.to rfl rfl ((hK 403 (by decide)).2 (by decide))⟩ hK (by decide))
  have good : 0 < o % 6 → o % 6 < 5 → V X 0 0 542 [(0, .ref (ad 0)), (5, .ref (ad 402)), (10, .int (nI (o % 6))), (11, .int b)] [] ad F := by
    intro hx0 hx5
    have e : spKey s (nI (o % 6)) b = (0, 0, sKw s (gkF (zKw s) (o % 6) b)) := by
      unfold spKey
      rw [if_neg, ex]
      rintro (h | h | h)
      · exact nI_nle hx0 (by omega) h
      · exact nI_ge (b := 5) hx5 (by decide) h
      · exact hbr h
    have hkq := kq_key (a := nI (o % 6)) (b := b) hQ
    rw [e] at hkq
    have loop : ∀ (d j : Nat) (Fk : Fn) (w1 : Nat → Int32), j + d = 5 → 0 < j → CRep (xD X) ad Fk s → Fk 402 = some (aI (xD X) 23 w1) → FrL [402] ad F ad Fk → (∀ p, p < 9 → w1 p = zSe s p ∧ w1 (9 + p) = zLa s p) → (∀ k, 0 < k → k < 5 → w1 (18 + k) = if k < j then (if zKw s k = b then -1 else zKw s k) else zKw s k) → V X 0 0 552 [(0, .ref (ad 0)), (5, .ref (ad 402)), (10, .int (nI (o % 6))), (11, .int b), (12, .int 1), (13, .int (nI j))] [] ad Fk := by
      intro d
      induction d with
      | zero =>
        intro j Fk w1 hj hj0 hC h402 hK hw1 hk1
        obtain rfl : j = 5 := by omega
        refine V_iload C dL_isDone_552 rfl ?_
        refine V_iconst (v := 5) C dL_isDone_554 rfl ?_
        refine V_icmpge_t (tgt := 602) C dL_isDone_555 (by decide) (Int32.le_refl _) ?_
        refine V_iload C dL_isDone_602 rfl ?_
        refine V_ifeq_f (tgt := 617) C dL_isDone_604 (by decide) (by decide) ?_
        refine V_aload C dL_isDone_607 rfl ?_
        refine V_bipush (v := 18) C dL_isDone_609 (by decide) ?_
        refine V_iload C dL_isDone_611 rfl ?_
        refine V_iadd C dL_isDone_613 ?_
        refine V_nm (nI_add 18 _) ?_
        refine V_iload C dL_isDone_614 rfl ?_
        refine G_iast C dL_isDone_616 h402 rfl (show 18 + o % 6 < 23 by omega) (by decide) (fun F1 h402 hfr => ?_)
        have hC := hC.keptF hI (fun c hc => hfr c (by omega))
        have hK := hK.st hfr (by decide)
        refine V_aload_n C dL_isDone_617 rfl ?_
        refine V_bipush (v := 8) C dL_isDone_618 (by decide) ?_
        refine V_iload C dL_isDone_620 rfl ?_
        refine V_iload C dL_isDone_622 rfl ?_
        refine V_invH C dL_isDone_624 (d_keyword s _ _ hC hI) mh_L_107 rfl (Nat.le_of_ble_eq_true rfl) ⟨Nat.le_of_ble_eq_true rfl, Nat.le_of_ble_eq_true rfl⟩ ⟨(Nat.le_of_ble_eq_true rfl), (Nat.le_of_ble_eq_true rfl)⟩ (fun _ _ _ h => VT_no h) (fun v ad2 F2 hp => ?_)
        rw [e] at hp
        obtain ⟨rfl, hC, hk⟩ := hp
        have hK := hK.trk hk
        have h402 := (hk 402 (by decide)).2.trans h402
        refine V_nm xv_ok ?_
        refine V_iload C dL_isDone_627 rfl ?_
        refine V_ifeq_f (tgt := 636) C dL_isDone_629 (by decide) (by decide) ?_
        refine V_iconst (v := 0) C dL_isDone_632 rfl ?_
        refine V_goto (tgt := 638) C dL_isDone_633 (by decide) ?_
        refine V_icmpne_f (tgt := 645) C dL_isDone_638 (by decide) rfl ?_
        refine V_iconst (v := 1) C dL_isDone_641 rfl ?_
        refine V_goto (tgt := 646) C dL_isDone_642 (by decide) ?_
        refine V_ireturn C Q dL_isDone_646 rfl (Nat.le_of_ble_eq_true rfl) (Nat.le_of_ble_eq_true rfl) (done_of hC hkq.1 hkq.2 rfl (Nat.le_add_right _ _) ⟨hZ.to rfl ((hK 400 (by decide)).2 (by decide)), hL.to rfl ((hK 401 (by decide)).2 (by decide)), ⟨_, h402, fun p hp => ?_, fun k h0 h5 => ?_⟩, hG.to rfl rfl ((hK 403 (by decide)).2 (by decide))⟩ hK (by decide))
        · show _ = zSe s p ∧ _ = zLa s p
          rw [pk_un (by omega), pk_un (by omega)]
          exact hw1 p hp
        · show _ = gkF (zKw s) (o % 6) b k
          unfold gkF
          by_cases ek : k = o % 6
          · rw [ek, pk_us, if_pos rfl]
          · rw [pk_un (by omega), if_neg ek, hk1 k h0 h5, if_pos h5]
      | succ d ih =>
        intro j Fk w1 hj hj0 hC h402 hK hw1 hk1
        have hwj : w1 (18 + j) = zKw s j := by rw [hk1 j hj0 (by omega), if_neg (Nat.lt_irrefl _)]
        refine V_iload C dL_isDone_552 rfl ?_
        refine V_iconst (v := 5) C dL_isDone_554 rfl ?_
        refine V_icmpge_f (tgt := 602) C dL_isDone_555 (by decide) (nI_ge (b := 5) (by omega) (by decide)) ?_
        refine V_iload C dL_isDone_558 rfl ?_
        refine V_ifeq_f (tgt := 602) C dL_isDone_560 (by decide) (by decide) ?_
        refine V_aload C dL_isDone_563 rfl ?_
        refine V_bipush (v := 18) C dL_isDone_565 (by decide) ?_
        refine V_iload C dL_isDone_567 rfl ?_
        refine V_iadd C dL_isDone_569 ?_
        refine V_nm (nI_add 18 j) ?_
        refine V_aload C dL_isDone_570 rfl ?_
        refine V_bipush (v := 18) C dL_isDone_572 (by decide) ?_
        refine V_iload C dL_isDone_574 rfl ?_
        refine V_iadd C dL_isDone_576 ?_
        refine V_nm (nI_add 18 j) ?_
        refine V_iald C dL_isDone_577 h402 rfl (show 18 + j < 23 by omega) (by decide) ?_
        refine V_nm hwj ?_
        refine V_iload C dL_isDone_578 rfl ?_
        by_cases hq : zKw s j = b
        · refine V_icmpne_f (tgt := 587) C dL_isDone_580 (by decide) hq ?_
          refine V_iconst (v := (-1)) C dL_isDone_583 rfl ?_
          refine V_goto (tgt := 595) C dL_isDone_584 (by decide) ?_
          refine G_iast C dL_isDone_595 h402 rfl (show 18 + j < 23 by omega) (by decide) (fun F1 h402 hfr => ?_)
          have hC := hC.keptF hI (fun c hc => hfr c (by omega))
          have hK := hK.st hfr (by decide)
          refine V_iinc C dL_isDone_596 rfl (nI_1 j) (by decide) ?_
          refine V_goto (tgt := 552) C dL_isDone_599 (by decide) ?_
          refine V_sb (ih (j + 1) F1 _ (by omega) (by omega) hC h402 hK (fun p hp => ?_) (fun k h0 h5 => ?_)) ⟨rfl, rfl, rfl, rfl, rfl, rfl, trivial⟩
          · rw [pk_un (by omega), pk_un (by omega)]
            exact hw1 p hp
          · by_cases ek : k = j
            · subst ek
              rw [pk_us, if_pos (Nat.lt_succ_self _), if_pos hq]
            · rw [pk_un (by omega), hk1 k h0 h5]
              by_cases h : k < j
              · rw [if_pos h, if_pos (show k < j + 1 by omega)]
              · rw [if_neg h, if_neg (show ¬ k < j + 1 by omega)]
        · refine V_icmpne_t (tgt := 587) C dL_isDone_580 (by decide) hq ?_
          refine V_aload C dL_isDone_587 rfl ?_
          refine V_bipush (v := 18) C dL_isDone_589 (by decide) ?_
          refine V_iload C dL_isDone_591 rfl ?_
          refine V_iadd C dL_isDone_593 ?_
          refine V_nm (nI_add 18 j) ?_
          refine V_iald C dL_isDone_594 h402 rfl (show 18 + j < 23 by omega) (by decide) ?_
          refine V_nm hwj ?_
          refine G_iast C dL_isDone_595 h402 rfl (show 18 + j < 23 by omega) (by decide) (fun F2 h402 hfr => ?_)
          have hC := hC.keptF hI (fun c hc => hfr c (by omega))
          have hK := hK.st hfr (by decide)
          refine V_iinc C dL_isDone_596 rfl (nI_1 j) (by decide) ?_
          refine V_goto (tgt := 552) C dL_isDone_599 (by decide) ?_
          refine V_sb (ih (j + 1) F2 _ (by omega) (by omega) hC h402 hK (fun p hp => ?_) (fun k h0 h5 => ?_)) ⟨rfl, rfl, rfl, rfl, rfl, rfl, trivial⟩
          · rw [pk_un (by omega), pk_un (by omega)]
            exact hw1 p hp
          · by_cases ek : k = j
            · subst ek
              rw [pk_us, if_pos (Nat.lt_succ_self _), if_neg hq]
            · rw [pk_un (by omega), hk1 k h0 h5]
              by_cases h : k < j
              · rw [if_pos h, if_pos (show k < j + 1 by omega)]
              · rw [if_neg h, if_neg (show ¬ k < j + 1 by omega)]
    refine V_iconst (v := 1) C dL_isDone_542 rfl ?_
    refine V_goto (tgt := 547) C dL_isDone_543 (by decide) ?_
    refine V_istore C dL_isDone_547 (by decide) ?_
    refine V_iconst (v := 1) C dL_isDone_549 rfl ?_
    refine V_istore C dL_isDone_550 (by decide) ?_
    exact V_sb (loop 4 1 F w rfl (by decide) hC h402 hK hw (fun k h0 h5 => by rw [if_neg (by omega)]; exact hkw k h0 h5)) ⟨rfl, rfl, rfl, rfl, rfl, rfl, trivial⟩
  by_cases hx0 : 0 < o % 6
  · refine V_ifle_f (tgt := 546) C dL_isDone_533 (by decide) (nI_nle hx0 (by omega)) ?_
    refine V_iload C dL_isDone_536 rfl ?_
    refine V_iconst (v := 5) C dL_isDone_538 rfl ?_
    by_cases hx5 : o % 6 < 5
    · refine V_icmpge_f (tgt := 546) C dL_isDone_539 (by decide) (nI_ge (b := 5) hx5 (by decide)) ?_
      exact V_sb (good hx0 hx5) ⟨rfl, rfl, rfl, rfl, trivial⟩
    · refine V_icmpge_t (tgt := 546) C dL_isDone_539 (by decide) (nI_le (a := 5) (Nat.le_of_not_lt hx5) (by omega)) ?_
      exact V_sb (bad (fun h => hx5 h.2)) ⟨rfl, rfl, rfl, rfl, trivial⟩
  · refine V_ifle_t (tgt := 546) C dL_isDone_533 (by decide) (by rw [show o % 6 = 0 by omega]; decide) ?_
    exact V_sb (bad (fun h => hx0 h.1)) ⟨rfl, rfl, rfl, rfl, trivial⟩
