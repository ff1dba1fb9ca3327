/-! ===== the law: isText ===== -/
abbrev rTxt : Room := { frames := 9, cells := 200, slots := 1200, locals := 380 }
theorem xv_b {cs : List Int32} {s : St} : xv cs (1, 0, s) = cs.getD 0 0 := xv_n (r := (1, 0, s)) (i := 0) rfl
theorem xv_ok {cs : List Int32} {s : St} {v : Int32} : xv cs (0, v, s) = v := xv_0 (r := (0, v, s)) rfl
theorem xsept_w {s : St} (h : wideL (zTxt s) = true) : xv [(-10)] (spSept s) = -10 := by
  unfold spSept
  rw [if_pos h, xv_b]
  rfl
theorem xsept_s {s : St} (h : wideL (zTxt s) = false) : xv [(-10)] (spSept s) = nI (septL (zTxt s)) := by
  unfold spSept
  rw [if_neg (by rw [h]; decide), xv_ok]
theorem xsigns {s : St} {a : Int32} (h : a < 0 ∨ nI (npL (zTxt s)) ≤ a) : xv [(-30)] (spSigns s a) = -30 := by
  unfold spSigns
  rw [if_pos h, xv_b]
  rfl
theorem xocts {s : St} {a : Int32} (h : a < 0 ∨ nI (npL (zTxt s)) ≤ a) : xv [(-30)] (spOcts s a) = -30 := by
  unfold spOcts
  rw [if_pos h, xv_b]
  rfl
theorem xoct {s : St} {a b : Int32} (h : a < 0 ∨ nI (npL (zTxt s)) ≤ a) : xv [(-30)] (spOct s a b) = -30 := by
  unfold spOct
  rw [if_pos h, xv_b]
  rfl
theorem xoctB {s : St} {k : Nat} {b : Int32} (hI : Inv s) (hk : k < npL (zTxt s)) (h : b < 0 ∨ nI (octN (zTxt s) k) ≤ b) : xv [(-30)] (spOct s (nI k) b) = -30 := by
  have h6 := (npL_spec hI.2.2.1).1
  unfold spOct
  rw [if_neg (nbad hk (by omega)), show (nI k).toNatClampNeg = k from nI_clamp (by omega), if_pos h, xv_b]
  rfl
theorem xoctI {s : St} {k p : Nat} (hI : Inv s) (hk : k < npL (zTxt s)) (hp : p < octN (zTxt s) k) (hm : octN (zTxt s) k ≤ 140) : ∃ j, j < 256 ∧ xv [(-30)] (spOct s (nI k) (nI p)) = nI j := by
  have h6 := (npL_spec hI.2.2.1).1
  obtain ⟨j, h1, h2⟩ := octI_ok (L := zTxt s) (k := k) (p := p) hI.2.2.2.1
  refine ⟨j, h1, ?_⟩
  unfold spOct
  rw [if_neg (nbad hk (by omega)), show (nI k).toNatClampNeg = k from nI_clamp (by omega), if_neg (nbad hp (by omega)), show (nI p).toNatClampNeg = p from nI_clamp (by omega), xv_ok, h2]
theorem np_0 {L : List Nat} (hL : L.length ≤ 400) : npL L = 0 ↔ L.length = 0 := by
  constructor
  · intro h
    rcases Nat.eq_zero_or_pos L.length with h1 | h1
    · exact h1
    · have := npL_pos hL (fun e => by rw [e] at h1; exact absurd h1 (by decide))
      omega
  · intro h
    rw [List.eq_nil_of_length_eq_zero h]
    exact npL_nil
set_option maxHeartbeats 2000000 in
set_option maxRecDepth 100000 in
/-- isText: a wide text -/
theorem l_isText_w {l : Launch} {D : Dx} {b0 : Nat} {ad : Nat → Nat} {F : Fn} (s : St) (g : Nat → Int32) (hC : CRep D ad F s) (hI : Inv s) (h403 : F 403 = some (aI D 6 g)) (g0 : g 0 = nI (zTxt s).length) (g1 : g 1 = 1) (g2 : g 2 = nI (septL (zTxt s))) (hw : wideL (zTxt s) = true) : Ct l D b0 yL_isText (wsA yL_isText cL_isText 9 (some .boolean)) rTxt [.ref (ad 0), .ref (ad 403)] ad F (PoL D ad F 1 s) noX := by
  refine Ct.of (by decide +kernel) (by simp [Value.category]) (Nat.le_of_ble_eq_true rfl) (fun X eD eb el C Q => ?_)
  subst eD; subst eb; subst el
  have hL := hI.2.2.1
  have hnp := npL_spec hL
  have h6 := hnp.1
  have hpos := hnp.2.2
  have hz := np_0 hL
  have hle : ∀ k, posL (zTxt s) k ≤ (zTxt s).length := posL_le (zTxt s)
  have hse : septL (zTxt s) ≤ 2 * (zTxt s).length := septL_le
  have hK : FrK ad F ad F := FrK.rf
  have fin : ∀ (adk : Nat → Nat) (Fk : Fn) (c n : Nat), c ≤ 200 → n ≤ 1200 → CRep (xD X) adk Fk s → Fk 403 = some (aI (xD X) 6 g) → FrK ad F adk Fk → V X c n 296 [(0, .ref (adk 0)), (1, .ref (adk 403)), (2, .int (nI (npL (zTxt s)))), (3, .int (nI (posL (zTxt s) (npL (zTxt s))))), (4, .int (nI (ocS (zTxt s) (npL (zTxt s))))), (5, .int 1), (6, .int (nI (npL (zTxt s))))] [] adk Fk := by
    intro adk Fk c n hc hn hC h403 hK
    have hoc := ocS_w hw (npL (zTxt s))
    rw [hpos] at hoc
    have tail : V X c n 331 [(0, .ref (adk 0)), (1, .ref (adk 403)), (2, .int (nI (npL (zTxt s)))), (3, .int (nI (posL (zTxt s) (npL (zTxt s))))), (4, .int (nI (ocS (zTxt s) (npL (zTxt s))))), (5, .int 1), (6, .int (nI (npL (zTxt s))))] [] adk Fk := by
      refine V_iload_n C dL_isText_331 rfl ?_
      refine V_bipush (v := 10) C dL_isText_332 (by decide) ?_
      refine V_icmpge_f (tgt := 396) C dL_isText_334 (by decide) (nI_ge (b := 10) (a := npL (zTxt s)) (by omega) (by decide)) ?_
      refine V_aload_n C dL_isText_337 rfl ?_
      refine V_iconst (v := 1) C dL_isText_338 rfl ?_
      refine V_iald C dL_isText_339 h403 (show _ = nI 1 from rfl) (by decide) (by decide) ?_
      refine V_nm g1 ?_
      refine V_iconst (v := 1) C dL_isText_340 rfl ?_
      refine V_icmpne_f (tgt := 357) C dL_isText_341 (by decide) rfl ?_
      refine V_iload C dL_isText_344 rfl ?_
      refine V_iconst (v := 2) C dL_isText_346 rfl ?_
      refine V_aload_n C dL_isText_347 rfl ?_
      refine V_iconst (v := 0) C dL_isText_348 rfl ?_
      refine V_iald C dL_isText_349 h403 (show _ = nI 0 from rfl) (by decide) (by decide) ?_
      refine V_nm g0 ?_
      refine V_imul C dL_isText_350 ?_
      refine V_nm (pk_mul 2 _) ?_
      refine V_icmpne_f (tgt := 396) C dL_isText_351 (by decide) (congrArg nI hoc) ?_
      refine V_goto (tgt := 392) C dL_isText_354 (by decide) ?_
      refine V_iconst (v := 1) C dL_isText_392 rfl ?_
      refine V_goto (tgt := 397) C dL_isText_393 (by decide) ?_
      exact V_ireturn C Q dL_isText_397 rfl (by show c ≤ 200; exact hc) (by show n ≤ 1200; exact hn) ⟨rfl, hC, hK⟩
    refine V_iload C dL_isText_296 rfl ?_
    refine V_ifeq_f (tgt := 396) C dL_isText_298 (by decide) (by decide) ?_
    refine V_iload_n C dL_isText_301 rfl ?_
    refine V_aload_n C dL_isText_302 rfl ?_
    refine V_iconst (v := 0) C dL_isText_303 rfl ?_
    refine V_iald C dL_isText_304 h403 (show _ = nI 0 from rfl) (by decide) (by decide) ?_
    refine V_nm g0 ?_
    refine V_icmpne_f (tgt := 396) C dL_isText_305 (by decide) (congrArg nI hpos) ?_
    refine V_iload_n C dL_isText_308 rfl ?_
    by_cases hq : npL (zTxt s) = 0
    · refine V_ifne_f (tgt := 316) C dL_isText_309 (by decide) (by rw [hq]; rfl) ?_
      refine V_iconst (v := 1) C dL_isText_312 rfl ?_
      refine V_goto (tgt := 317) C dL_isText_313 (by decide) ?_
      refine V_aload_n C dL_isText_317 rfl ?_
      refine V_iconst (v := 0) C dL_isText_318 rfl ?_
      refine V_iald C dL_isText_319 h403 (show _ = nI 0 from rfl) (by decide) (by decide) ?_
      refine V_nm g0 ?_
      refine V_ifne_f (tgt := 327) C dL_isText_320 (by decide) (by rw [hz.mp hq]; rfl) ?_
      refine V_iconst (v := 1) C dL_isText_323 rfl ?_
      refine V_goto (tgt := 328) C dL_isText_324 (by decide) ?_
      refine V_icmpne_f (tgt := 396) C dL_isText_328 (by decide) rfl ?_
      exact tail
    · refine V_ifne_t (tgt := 316) C dL_isText_309 (by decide) (nI_ne0 (by omega) (by omega)) ?_
      refine V_iconst (v := 0) C dL_isText_316 rfl ?_
      refine V_aload_n C dL_isText_317 rfl ?_
      refine V_iconst (v := 0) C dL_isText_318 rfl ?_
      refine V_iald C dL_isText_319 h403 (show _ = nI 0 from rfl) (by decide) (by decide) ?_
      refine V_nm g0 ?_
      refine V_ifne_t (tgt := 327) C dL_isText_320 (by decide) (nI_ne0 (Nat.pos_of_ne_zero (fun e => hq (hz.mpr e))) (by omega)) ?_
      refine V_iconst (v := 0) C dL_isText_327 rfl ?_
      refine V_icmpne_f (tgt := 396) C dL_isText_328 (by decide) rfl ?_
      exact tail
  have loop : ∀ (d k : Nat) (adk : Nat → Nat) (Fk : Fn), k + d = npL (zTxt s) → CRep (xD X) adk Fk s → Fk 403 = some (aI (xD X) 6 g) → FrK ad F adk Fk → V X (10 + 14 * k) (60 + 84 * k) 100 [(0, .ref (adk 0)), (1, .ref (adk 403)), (2, .int (nI (npL (zTxt s)))), (3, .int (nI (posL (zTxt s) k))), (4, .int (nI (ocS (zTxt s) k))), (5, .int 1), (6, .int (nI (k)))] [] adk Fk := by
    intro d
    induction d with
    | zero =>
      intro k adk Fk hkd hC h403 hK
      obtain rfl : k = npL (zTxt s) := by omega
      refine V_iload C dL_isText_100 rfl ?_
      refine V_iload_n C dL_isText_102 rfl ?_
      refine V_icmpge_t (tgt := 296) C dL_isText_103 (by decide) (Int32.le_refl _) ?_
      exact fin adk Fk _ _ (by omega) (by omega) hC h403 hK
    | succ d ih =>
      intro k adk Fk hkd hC h403 hK
      have hk : k < npL (zTxt s) := by omega
      have hmo := posL_mono (zTxt s) (show k ≤ k + 1 by omega)
      have hole := ocS_le hL (k + 1) (by omega)
      obtain ⟨p1, p2, p3, p4⟩ := pt_w hL hw hk
      have p5 : 0 < octN (zTxt s) k := by omega
      have p6 : octN (zTxt s) k ≤ 140 := by omega
      obtain ⟨j1, hj1, ej1⟩ := xoctI hI hk (p := 0) p5 p6
      obtain ⟨j2, hj2, ej2⟩ := xoctI hI hk (p := octN (zTxt s) k - 1) (by omega) p6
      refine V_iload C dL_isText_100 rfl ?_
      refine V_iload_n C dL_isText_102 rfl ?_
      refine V_icmpge_f (tgt := 296) C dL_isText_103 (by decide) (nI_ge (by omega) (by omega)) ?_
      refine V_iload C dL_isText_106 rfl ?_
      refine V_ifeq_f (tgt := 296) C dL_isText_108 (by decide) (by decide) ?_
      refine V_aload_n C dL_isText_111 rfl ?_
      refine V_iload C dL_isText_112 rfl ?_
      refine V_invV (c0 := 0) C dL_isText_114 hC.1 rfl (q_signs s k hC hI hk) mv_L_57 rfl (Nat.le_of_ble_eq_true rfl) ⟨Nat.le_of_ble_eq_true rfl, Nat.le_of_ble_eq_true rfl⟩ ⟨(by show 10 + 14 * k + 2 ≤ 200; omega), (by show 60 + 84 * k + 12 ≤ 1200; omega)⟩ (fun _ _ _ h => VT_no h) (fun v ad1 F1 hp => ?_)
      obtain ⟨rfl, hC, hfk⟩ := hp
      rw [show adk 0 = ad1 0 from hfk.a0.symm, show adk 403 = ad1 403 from (hfk.ad (by decide)).symm]
      have h403 := (hfk 403 (by decide)).2.trans h403
      have hK := hK.tr hfk
      refine V_istore C dL_isText_117 (by decide) ?_
      refine V_aload_n C dL_isText_119 rfl ?_
      refine V_iload C dL_isText_120 rfl ?_
      refine V_invV (c0 := 0) C dL_isText_122 hC.1 rfl (q_octets s k hC hI hk) mv_L_60 rfl (Nat.le_of_ble_eq_true rfl) ⟨Nat.le_of_ble_eq_true rfl, Nat.le_of_ble_eq_true rfl⟩ ⟨(by show 10 + 14 * k + 2 + 2 ≤ 200; omega), (by show 60 + 84 * k + 12 + 12 ≤ 1200; omega)⟩ (fun _ _ _ h => VT_no h) (fun v ad2 F2 hp => ?_)
      obtain ⟨rfl, hC, hfk⟩ := hp
      rw [show ad1 0 = ad2 0 from hfk.a0.symm, show ad1 403 = ad2 403 from (hfk.ad (by decide)).symm]
      have h403 := (hfk 403 (by decide)).2.trans h403
      have hK := hK.tr hfk
      refine V_istore C dL_isText_125 (by decide) ?_
      refine V_iload_n C dL_isText_127 rfl ?_
      refine V_iload C dL_isText_128 rfl ?_
      refine V_iadd C dL_isText_130 ?_
      refine V_nm ((nI_add _ _).trans (congrArg nI (show posL (zTxt s) k + (posL (zTxt s) (k + 1) - posL (zTxt s) k) = posL (zTxt s) (k + 1) by omega))) ?_
      refine V_istore_n C dL_isText_131 (by decide) ?_
      refine V_iload C dL_isText_132 rfl ?_
      refine V_iload C dL_isText_134 rfl ?_
      refine V_iadd C dL_isText_136 ?_
      refine V_nm (show _ = nI (ocS (zTxt s) (k + 1)) from nI_add _ _) ?_
      refine V_istore C dL_isText_137 (by decide) ?_
      refine V_iload C dL_isText_139 rfl ?_
      have tail : V X (10 + 14 * k + 2 + 2) (60 + 84 * k + 12 + 12) 202 [(0, .ref (ad2 0)), (1, .ref (ad2 403)), (2, .int (nI (npL (zTxt s)))), (3, .int (nI (posL (zTxt s) (k + 1)))), (4, .int (nI (ocS (zTxt s) (k + 1)))), (6, .int (nI k)), (8, .int (nI (octN (zTxt s) k)))] [] ad2 F2 := by
        refine V_aload_n C dL_isText_202 rfl ?_
        refine V_iconst (v := 3) C dL_isText_203 rfl ?_
        refine V_iload C dL_isText_204 rfl ?_
        refine V_iload C dL_isText_206 rfl ?_
        refine V_invH C dL_isText_208 (a_octet s _ _ hC hI) mh_L_94 rfl (Nat.le_of_ble_eq_true rfl) ⟨Nat.le_of_ble_eq_true rfl, Nat.le_of_ble_eq_true rfl⟩ ⟨(by show 10 + 14 * k + 2 + 2 + 2 ≤ 200; omega), (by show 60 + 84 * k + 12 + 12 + 12 ≤ 1200; omega)⟩ (fun _ _ _ h => VT_no h) (fun v ad3 F3 hp => ?_)
        obtain ⟨rfl, hC, hfk⟩ := hp
        rw [show ad2 0 = ad3 0 from hfk.a0.symm, show ad2 403 = ad3 403 from (hfk.ad (by decide)).symm]
        have h403 := (hfk 403 (by decide)).2.trans h403
        have hK := hK.tr hfk
        refine V_nm (xoctB hI hk (Or.inr (Int32.le_refl _))) ?_
        refine V_bipush (v := (-30)) C dL_isText_211 (by decide) ?_
        refine V_icmpne_f (tgt := 233) C dL_isText_213 (by decide) rfl ?_
        refine V_aload_n C dL_isText_216 rfl ?_
        refine V_iconst (v := 3) C dL_isText_217 rfl ?_
        refine V_iload C dL_isText_218 rfl ?_
        refine V_iconst (v := (-1)) C dL_isText_220 rfl ?_
        refine V_invH C dL_isText_221 (a_octet s _ _ hC hI) mh_L_94 rfl (Nat.le_of_ble_eq_true rfl) ⟨Nat.le_of_ble_eq_true rfl, Nat.le_of_ble_eq_true rfl⟩ ⟨(by show 10 + 14 * k + 2 + 2 + 2 + 2 ≤ 200; omega), (by show 60 + 84 * k + 12 + 12 + 12 + 12 ≤ 1200; omega)⟩ (fun _ _ _ h => VT_no h) (fun v ad4 F4 hp => ?_)
        obtain ⟨rfl, hC, hfk⟩ := hp
        rw [show ad3 0 = ad4 0 from hfk.a0.symm, show ad3 403 = ad4 403 from (hfk.ad (by decide)).symm]
        have h403 := (hfk 403 (by decide)).2.trans h403
        have hK := hK.tr hfk
        refine V_nm (xoctB hI hk (Or.inl (by decide))) ?_
        refine V_bipush (v := (-30)) C dL_isText_224 (by decide) ?_
        refine V_icmpne_f (tgt := 233) C dL_isText_226 (by decide) rfl ?_
        refine V_iconst (v := 1) C dL_isText_229 rfl ?_
        refine V_goto (tgt := 234) C dL_isText_230 (by decide) ?_
        refine V_istore C dL_isText_234 (by decide) ?_
        refine V_iload C dL_isText_236 rfl ?_
        refine V_ifeq_f (tgt := 287) C dL_isText_238 (by decide) (by decide) ?_
        refine V_aload_n C dL_isText_241 rfl ?_
        refine V_iconst (v := 3) C dL_isText_242 rfl ?_
        refine V_iload C dL_isText_243 rfl ?_
        refine V_iconst (v := 0) C dL_isText_245 rfl ?_
        refine V_invH C dL_isText_246 (a_octet s _ _ hC hI) mh_L_94 rfl (Nat.le_of_ble_eq_true rfl) ⟨Nat.le_of_ble_eq_true rfl, Nat.le_of_ble_eq_true rfl⟩ ⟨(by show 10 + 14 * k + 2 + 2 + 2 + 2 + 2 ≤ 200; omega), (by show 60 + 84 * k + 12 + 12 + 12 + 12 + 12 ≤ 1200; omega)⟩ (fun _ _ _ h => VT_no h) (fun v ad5 F5 hp => ?_)
        obtain ⟨rfl, hC, hfk⟩ := hp
        rw [show ad4 0 = ad5 0 from hfk.a0.symm, show ad4 403 = ad5 403 from (hfk.ad (by decide)).symm]
        have h403 := (hfk 403 (by decide)).2.trans h403
        have hK := hK.tr hfk
        refine V_nm ej1 ?_
        refine V_iflt_f (tgt := 287) C dL_isText_249 (by decide) (nI_pos (by omega)) ?_
        refine V_aload_n C dL_isText_252 rfl ?_
        refine V_iconst (v := 3) C dL_isText_253 rfl ?_
        refine V_iload C dL_isText_254 rfl ?_
        refine V_iload C dL_isText_256 rfl ?_
        refine V_iconst (v := 1) C dL_isText_258 rfl ?_
        refine V_isub C dL_isText_259 ?_
        refine V_nm (nI_m1 p5) ?_
        refine V_invH C dL_isText_260 (a_octet s _ _ hC hI) mh_L_94 rfl (Nat.le_of_ble_eq_true rfl) ⟨Nat.le_of_ble_eq_true rfl, Nat.le_of_ble_eq_true rfl⟩ ⟨(by show 10 + 14 * k + 2 + 2 + 2 + 2 + 2 + 2 ≤ 200; omega), (by show 60 + 84 * k + 12 + 12 + 12 + 12 + 12 + 12 ≤ 1200; omega)⟩ (fun _ _ _ h => VT_no h) (fun v ad6 F6 hp => ?_)
        obtain ⟨rfl, hC, hfk⟩ := hp
        rw [show ad5 0 = ad6 0 from hfk.a0.symm, show ad5 403 = ad6 403 from (hfk.ad (by decide)).symm]
        have h403 := (hfk 403 (by decide)).2.trans h403
        have hK := hK.tr hfk
        refine V_nm ej2 ?_
        refine V_iflt_f (tgt := 287) C dL_isText_263 (by decide) (nI_pos (by omega)) ?_
        refine V_aload_n C dL_isText_266 rfl ?_
        refine V_iconst (v := 3) C dL_isText_267 rfl ?_
        refine V_iload C dL_isText_268 rfl ?_
        refine V_iload C dL_isText_270 rfl ?_
        refine V_iconst (v := 1) C dL_isText_272 rfl ?_
        refine V_isub C dL_isText_273 ?_
        refine V_nm (nI_m1 p5) ?_
        refine V_invH C dL_isText_274 (a_octet s _ _ hC hI) mh_L_94 rfl (Nat.le_of_ble_eq_true rfl) ⟨Nat.le_of_ble_eq_true rfl, Nat.le_of_ble_eq_true rfl⟩ ⟨(by show 10 + 14 * k + 2 + 2 + 2 + 2 + 2 + 2 + 2 ≤ 200; omega), (by show 60 + 84 * k + 12 + 12 + 12 + 12 + 12 + 12 + 12 ≤ 1200; omega)⟩ (fun _ _ _ h => VT_no h) (fun v ad7 F7 hp => ?_)
        obtain ⟨rfl, hC, hfk⟩ := hp
        rw [show ad6 0 = ad7 0 from hfk.a0.symm, show ad6 403 = ad7 403 from (hfk.ad (by decide)).symm]
        have h403 := (hfk 403 (by decide)).2.trans h403
        have hK := hK.tr hfk
        refine V_nm ej2 ?_
        refine V_sipush (v := 256) C dL_isText_277 (by decide) ?_
        refine V_icmpge_f (tgt := 287) C dL_isText_280 (by decide) (nI_ge (b := 256) hj2 (by decide)) ?_
        refine V_iconst (v := 1) C dL_isText_283 rfl ?_
        refine V_goto (tgt := 288) C dL_isText_284 (by decide) ?_
        refine V_istore C dL_isText_288 (by decide) ?_
        have e1 : nI k + Int32.ofInt 1 = nI (k + 1) := nI_1 k
        refine V_iinc C dL_isText_290 rfl e1 (by decide) ?_
        refine V_goto (tgt := 100) C dL_isText_293 (by decide) ?_
        refine V_wide (k' := 10 + 14 * (k + 1)) (n' := 60 + 84 * (k + 1)) (by show 10 + 14 * k + 2 + 2 + 2 + 2 + 2 + 2 + 2 ≤ _; omega) (by show 60 + 84 * k + 12 + 12 + 12 + 12 + 12 + 12 + 12 ≤ _; omega) ?_
        exact V_sb (ih (k + 1) ad7 F7 (by omega) hC h403 hK) ⟨rfl, rfl, rfl, rfl, rfl, rfl, rfl, trivial⟩
      refine V_ifle_f (tgt := 233) C dL_isText_141 (by decide) (nI_nle p1 (Nat.lt_of_le_of_lt p2 (by decide))) ?_
      refine V_iload C dL_isText_144 rfl ?_
      refine V_aload_n C dL_isText_146 rfl ?_
      refine V_iconst (v := 1) C dL_isText_147 rfl ?_
      refine V_iald C dL_isText_148 h403 (show _ = nI 1 from rfl) (by decide) (by decide) ?_
      refine V_nm g1 ?_
      refine V_iconst (v := 1) C dL_isText_149 rfl ?_
      refine V_icmpne_f (tgt := 158) C dL_isText_150 (by decide) rfl ?_
      refine V_bipush (v := 70) C dL_isText_153 (by decide) ?_
      refine V_goto (tgt := 161) C dL_isText_155 (by decide) ?_
      refine V_icmpgt_f (tgt := 233) C dL_isText_161 (by decide) (nI_nlt (a := 70) p2 (by decide)) ?_
      refine V_iload C dL_isText_164 rfl ?_
      refine V_ifle_f (tgt := 233) C dL_isText_166 (by decide) (nI_nle p5 (by omega)) ?_
      refine V_iload C dL_isText_169 rfl ?_
      refine V_sipush (v := 140) C dL_isText_171 (by decide) ?_
      refine V_icmpgt_f (tgt := 233) C dL_isText_174 (by decide) (nI_nlt (a := 140) p6 (by decide)) ?_
      refine V_iload_n C dL_isText_177 rfl ?_
      refine V_iconst (v := 1) C dL_isText_178 rfl ?_
      by_cases hq : npL (zTxt s) = 1
      · refine V_icmpeq_t (tgt := 202) C dL_isText_179 (by decide) (congrArg nI hq) ?_
        exact V_sb tail ⟨rfl, rfl, rfl, rfl, rfl, rfl, rfl, trivial⟩
      · refine V_icmpeq_f (tgt := 202) C dL_isText_179 (by decide) (fun e => hq ((nI_eq (b := 1) (by omega) (by decide)).mp e)) ?_
        refine V_iload C dL_isText_182 rfl ?_
        refine V_aload_n C dL_isText_184 rfl ?_
        refine V_iconst (v := 1) C dL_isText_185 rfl ?_
        refine V_iald C dL_isText_186 h403 (show _ = nI 1 from rfl) (by decide) (by decide) ?_
        refine V_nm g1 ?_
        refine V_iconst (v := 1) C dL_isText_187 rfl ?_
        refine V_icmpne_f (tgt := 196) C dL_isText_188 (by decide) rfl ?_
        refine V_bipush (v := 67) C dL_isText_191 (by decide) ?_
        refine V_goto (tgt := 199) C dL_isText_193 (by decide) ?_
        refine V_icmpgt_f (tgt := 233) C dL_isText_199 (by decide) (nI_nlt (a := 67) (p3 (by omega)) (by decide)) ?_
        exact V_sb tail ⟨rfl, rfl, rfl, rfl, rfl, rfl, rfl, trivial⟩
  refine V_aload_n C dL_isText_0 rfl ?_
  refine V_invV (c0 := 0) C dL_isText_1 hC.1 rfl (q_parts s hC hI) mv_L_87 rfl (Nat.le_of_ble_eq_true rfl) ⟨Nat.le_of_ble_eq_true rfl, Nat.le_of_ble_eq_true rfl⟩ ⟨(Nat.le_of_ble_eq_true rfl), (Nat.le_of_ble_eq_true rfl)⟩ (fun _ _ _ h => VT_no h) (fun v ad1 F1 hp => ?_)
  obtain ⟨rfl, hC, hfk⟩ := hp
  rw [show ad 0 = ad1 0 from hfk.a0.symm, show ad 403 = ad1 403 from (hfk.ad (by decide)).symm]
  have h403 := (hfk 403 (by decide)).2.trans h403
  have hK := hK.tr hfk
  refine V_istore_n C dL_isText_4 (by decide) ?_
  refine V_iconst (v := 0) C dL_isText_5 rfl ?_
  refine V_istore_n C dL_isText_6 (by decide) ?_
  refine V_iconst (v := 0) C dL_isText_7 rfl ?_
  refine V_istore C dL_isText_8 (by decide) ?_
  refine V_aload_n C dL_isText_10 rfl ?_
  refine V_invV (c0 := 0) C dL_isText_11 hC.1 rfl (q_isWide s hC hI) mv_L_90 rfl (Nat.le_of_ble_eq_true rfl) ⟨Nat.le_of_ble_eq_true rfl, Nat.le_of_ble_eq_true rfl⟩ ⟨(Nat.le_of_ble_eq_true rfl), (Nat.le_of_ble_eq_true rfl)⟩ (fun _ _ _ h => VT_no h) (fun v ad2 F2 hp => ?_)
  obtain ⟨rfl, hC, hfk⟩ := hp
  rw [show ad1 0 = ad2 0 from hfk.a0.symm, show ad1 403 = ad2 403 from (hfk.ad (by decide)).symm]
  have h403 := (hfk 403 (by decide)).2.trans h403
  have hK := hK.tr hfk
  refine V_nm (show _ = (1 : Int32) by rw [hw]; rfl) ?_
  refine V_aload_n C dL_isText_14 rfl ?_
  refine V_iconst (v := 1) C dL_isText_15 rfl ?_
  refine V_iald C dL_isText_16 h403 (show _ = nI 1 from rfl) (by decide) (by decide) ?_
  refine V_nm g1 ?_
  refine V_iconst (v := 1) C dL_isText_17 rfl ?_
  refine V_icmpne_f (tgt := 25) C dL_isText_18 (by decide) rfl ?_
  refine V_iconst (v := 1) C dL_isText_21 rfl ?_
  refine V_goto (tgt := 26) C dL_isText_22 (by decide) ?_
  refine V_icmpne_f (tgt := 94) C dL_isText_26 (by decide) rfl ?_
  refine V_aload_n C dL_isText_29 rfl ?_
  refine V_iconst (v := 0) C dL_isText_30 rfl ?_
  refine V_iconst (v := 0) C dL_isText_31 rfl ?_
  refine V_iconst (v := 0) C dL_isText_32 rfl ?_
  refine V_invH C dL_isText_33 (a_septets s _ _ hC hI) mh_L_94 rfl (Nat.le_of_ble_eq_true rfl) ⟨Nat.le_of_ble_eq_true rfl, Nat.le_of_ble_eq_true rfl⟩ ⟨(Nat.le_of_ble_eq_true rfl), (Nat.le_of_ble_eq_true rfl)⟩ (fun _ _ _ h => VT_no h) (fun v ad3 F3 hp => ?_)
  obtain ⟨rfl, hC, hfk⟩ := hp
  rw [show ad2 0 = ad3 0 from hfk.a0.symm, show ad2 403 = ad3 403 from (hfk.ad (by decide)).symm]
  have h403 := (hfk 403 (by decide)).2.trans h403
  have hK := hK.tr hfk
  refine V_nm (xsept_w hw) ?_
  refine V_aload_n C dL_isText_36 rfl ?_
  refine V_iconst (v := 1) C dL_isText_37 rfl ?_
  refine V_iald C dL_isText_38 h403 (show _ = nI 1 from rfl) (by decide) (by decide) ?_
  refine V_nm g1 ?_
  refine V_iconst (v := 1) C dL_isText_39 rfl ?_
  refine V_icmpne_f (tgt := 48) C dL_isText_40 (by decide) rfl ?_
  refine V_bipush (v := (-10)) C dL_isText_43 (by decide) ?_
  refine V_goto (tgt := 51) C dL_isText_45 (by decide) ?_
  refine V_icmpne_f (tgt := 94) C dL_isText_51 (by decide) rfl ?_
  refine V_aload_n C dL_isText_54 rfl ?_
  refine V_iconst (v := 1) C dL_isText_55 rfl ?_
  refine V_iload_n C dL_isText_56 rfl ?_
  refine V_iconst (v := 0) C dL_isText_57 rfl ?_
  refine V_invH C dL_isText_58 (a_signs s _ _ hC hI) mh_L_94 rfl (Nat.le_of_ble_eq_true rfl) ⟨Nat.le_of_ble_eq_true rfl, Nat.le_of_ble_eq_true rfl⟩ ⟨(Nat.le_of_ble_eq_true rfl), (Nat.le_of_ble_eq_true rfl)⟩ (fun _ _ _ h => VT_no h) (fun v ad4 F4 hp => ?_)
  obtain ⟨rfl, hC, hfk⟩ := hp
  rw [show ad3 0 = ad4 0 from hfk.a0.symm, show ad3 403 = ad4 403 from (hfk.ad (by decide)).symm]
  have h403 := (hfk 403 (by decide)).2.trans h403
  have hK := hK.tr hfk
  refine V_nm (xsigns (Or.inr (Int32.le_refl _))) ?_
  refine V_bipush (v := (-30)) C dL_isText_61 (by decide) ?_
  refine V_icmpne_f (tgt := 94) C dL_isText_63 (by decide) rfl ?_
  refine V_aload_n C dL_isText_66 rfl ?_
  refine V_iconst (v := 2) C dL_isText_67 rfl ?_
  refine V_iconst (v := (-1)) C dL_isText_68 rfl ?_
  refine V_iconst (v := 0) C dL_isText_69 rfl ?_
  refine V_invH C dL_isText_70 (a_octets s _ _ hC hI) mh_L_94 rfl (Nat.le_of_ble_eq_true rfl) ⟨Nat.le_of_ble_eq_true rfl, Nat.le_of_ble_eq_true rfl⟩ ⟨(Nat.le_of_ble_eq_true rfl), (Nat.le_of_ble_eq_true rfl)⟩ (fun _ _ _ h => VT_no h) (fun v ad5 F5 hp => ?_)
  obtain ⟨rfl, hC, hfk⟩ := hp
  rw [show ad4 0 = ad5 0 from hfk.a0.symm, show ad4 403 = ad5 403 from (hfk.ad (by decide)).symm]
  have h403 := (hfk 403 (by decide)).2.trans h403
  have hK := hK.tr hfk
  refine V_nm (xocts (Or.inl (by decide))) ?_
  refine V_bipush (v := (-30)) C dL_isText_73 (by decide) ?_
  refine V_icmpne_f (tgt := 94) C dL_isText_75 (by decide) rfl ?_
  refine V_aload_n C dL_isText_78 rfl ?_
  refine V_iconst (v := 3) C dL_isText_79 rfl ?_
  refine V_iload_n C dL_isText_80 rfl ?_
  refine V_iconst (v := 0) C dL_isText_81 rfl ?_
  refine V_invH C dL_isText_82 (a_octet s _ _ hC hI) mh_L_94 rfl (Nat.le_of_ble_eq_true rfl) ⟨Nat.le_of_ble_eq_true rfl, Nat.le_of_ble_eq_true rfl⟩ ⟨(Nat.le_of_ble_eq_true rfl), (Nat.le_of_ble_eq_true rfl)⟩ (fun _ _ _ h => VT_no h) (fun v ad6 F6 hp => ?_)
  obtain ⟨rfl, hC, hfk⟩ := hp
  rw [show ad5 0 = ad6 0 from hfk.a0.symm, show ad5 403 = ad6 403 from (hfk.ad (by decide)).symm]
  have h403 := (hfk 403 (by decide)).2.trans h403
  have hK := hK.tr hfk
  refine V_nm (xoct (Or.inr (Int32.le_refl _))) ?_
  refine V_bipush (v := (-30)) C dL_isText_85 (by decide) ?_
  refine V_icmpne_f (tgt := 94) C dL_isText_87 (by decide) rfl ?_
  refine V_iconst (v := 1) C dL_isText_90 rfl ?_
  refine V_goto (tgt := 95) C dL_isText_91 (by decide) ?_
  refine V_istore C dL_isText_95 (by decide) ?_
  refine V_iconst (v := 0) C dL_isText_97 rfl ?_
  refine V_istore C dL_isText_98 (by decide) ?_
  exact V_sb (loop (npL (zTxt s)) 0 ad6 F6 (by omega) hC h403 hK) ⟨rfl, rfl, rfl, rfl, rfl, rfl, rfl, trivial⟩
set_option maxHeartbeats 2000000 in
set_option maxRecDepth 100000 in
/-- isText: a small text -/
theorem l_isText_s {l : Launch} {D : Dx} {b0 : Nat} {ad : Nat → Nat} {F : Fn} (s : St) (g : Nat → Int32) (hC : CRep D ad F s) (hI : Inv s) (h403 : F 403 = some (aI D 6 g)) (g0 : g 0 = nI (zTxt s).length) (g1 : g 1 = 0) (g2 : g 2 = nI (septL (zTxt s))) (hw : wideL (zTxt s) = false) : Ct l D b0 yL_isText (wsA yL_isText cL_isText 9 (some .boolean)) rTxt [.ref (ad 0), .ref (ad 403)] ad F (PoL D ad F 1 s) noX := by
  refine Ct.of (by decide +kernel) (by simp [Value.category]) (Nat.le_of_ble_eq_true rfl) (fun X eD eb el C Q => ?_)
  subst eD; subst eb; subst el
  have hL := hI.2.2.1
  have hnp := npL_spec hL
  have h6 := hnp.1
  have hpos := hnp.2.2
  have hz := np_0 hL
  have hle : ∀ k, posL (zTxt s) k ≤ (zTxt s).length := posL_le (zTxt s)
  have hse : septL (zTxt s) ≤ 2 * (zTxt s).length := septL_le
  have hK : FrK ad F ad F := FrK.rf
  have fin : ∀ (adk : Nat → Nat) (Fk : Fn) (c n : Nat), c ≤ 200 → n ≤ 1200 → CRep (xD X) adk Fk s → Fk 403 = some (aI (xD X) 6 g) → FrK ad F adk Fk → V X c n 296 [(0, .ref (adk 0)), (1, .ref (adk 403)), (2, .int (nI (npL (zTxt s)))), (3, .int (nI (posL (zTxt s) (npL (zTxt s))))), (4, .int (nI (ocS (zTxt s) (npL (zTxt s))))), (5, .int 1), (6, .int (nI (npL (zTxt s))))] [] adk Fk := by
    intro adk Fk c n hc hn hC h403 hK
    have hoc := ocS_s hL hw (npL (zTxt s)) (Nat.le_refl _)
    rw [hpos, List.take_of_length_le (Nat.le_refl _)] at hoc
    have hole := ocS_le hL (npL (zTxt s)) (Nat.le_refl _)
    have tail : V X c n 331 [(0, .ref (adk 0)), (1, .ref (adk 403)), (2, .int (nI (npL (zTxt s)))), (3, .int (nI (posL (zTxt s) (npL (zTxt s))))), (4, .int (nI (ocS (zTxt s) (npL (zTxt s))))), (5, .int 1), (6, .int (nI (npL (zTxt s))))] [] adk Fk := by
      refine V_iload_n C dL_isText_331 rfl ?_
      refine V_bipush (v := 10) C dL_isText_332 (by decide) ?_
      refine V_icmpge_f (tgt := 396) C dL_isText_334 (by decide) (nI_ge (b := 10) (a := npL (zTxt s)) (by omega) (by decide)) ?_
      refine V_aload_n C dL_isText_337 rfl ?_
      refine V_iconst (v := 1) C dL_isText_338 rfl ?_
      refine V_iald C dL_isText_339 h403 (show _ = nI 1 from rfl) (by decide) (by decide) ?_
      refine V_nm g1 ?_
      refine V_iconst (v := 1) C dL_isText_340 rfl ?_
      refine V_icmpne_t (tgt := 357) C dL_isText_341 (by decide) (by decide) ?_
      refine V_bipush (v := 8) C dL_isText_357 (by decide) ?_
      refine V_iload C dL_isText_359 rfl ?_
      refine V_imul C dL_isText_361 ?_
      refine V_nm (pk_mul 8 _) ?_
      refine V_bipush (v := 7) C dL_isText_362 (by decide) ?_
      refine V_aload_n C dL_isText_364 rfl ?_
      refine V_iconst (v := 2) C dL_isText_365 rfl ?_
      refine V_iald C dL_isText_366 h403 (show _ = nI 2 from rfl) (by decide) (by decide) ?_
      refine V_nm g2 ?_
      refine V_imul C dL_isText_367 ?_
      refine V_nm (pk_mul 7 _) ?_
      refine V_icmplt_f (tgt := 396) C dL_isText_368 (by decide) (nI_nlt hoc.1 (by omega)) ?_
      refine V_bipush (v := 8) C dL_isText_371 (by decide) ?_
      refine V_iload C dL_isText_373 rfl ?_
      refine V_imul C dL_isText_375 ?_
      refine V_nm (pk_mul 8 _) ?_
      refine V_bipush (v := 7) C dL_isText_376 (by decide) ?_
      refine V_aload_n C dL_isText_378 rfl ?_
      refine V_iconst (v := 2) C dL_isText_379 rfl ?_
      refine V_iald C dL_isText_380 h403 (show _ = nI 2 from rfl) (by decide) (by decide) ?_
      refine V_nm g2 ?_
      refine V_imul C dL_isText_381 ?_
      refine V_nm (pk_mul 7 _) ?_
      refine V_bipush (v := 8) C dL_isText_382 (by decide) ?_
      refine V_iload_n C dL_isText_384 rfl ?_
      refine V_imul C dL_isText_385 ?_
      refine V_nm (pk_mul 8 _) ?_
      refine V_iadd C dL_isText_386 ?_
      refine V_nm (nI_add _ _) ?_
      refine V_iconst (v := 1) C dL_isText_387 rfl ?_
      refine V_iadd C dL_isText_388 ?_
      refine V_nm (nI_1 _) ?_
      refine V_icmpge_f (tgt := 396) C dL_isText_389 (by decide) (nI_ge (by omega) (by omega)) ?_
      refine V_iconst (v := 1) C dL_isText_392 rfl ?_
      refine V_goto (tgt := 397) C dL_isText_393 (by decide) ?_
      exact V_ireturn C Q dL_isText_397 rfl (by show c ≤ 200; exact hc) (by show n ≤ 1200; exact hn) ⟨rfl, hC, hK⟩
    refine V_iload C dL_isText_296 rfl ?_
    refine V_ifeq_f (tgt := 396) C dL_isText_298 (by decide) (by decide) ?_
    refine V_iload_n C dL_isText_301 rfl ?_
    refine V_aload_n C dL_isText_302 rfl ?_
    refine V_iconst (v := 0) C dL_isText_303 rfl ?_
    refine V_iald C dL_isText_304 h403 (show _ = nI 0 from rfl) (by decide) (by decide) ?_
    refine V_nm g0 ?_
    refine V_icmpne_f (tgt := 396) C dL_isText_305 (by decide) (congrArg nI hpos) ?_
    refine V_iload_n C dL_isText_308 rfl ?_
    by_cases hq : npL (zTxt s) = 0
    · refine V_ifne_f (tgt := 316) C dL_isText_309 (by decide) (by rw [hq]; rfl) ?_
      refine V_iconst (v := 1) C dL_isText_312 rfl ?_
      refine V_goto (tgt := 317) C dL_isText_313 (by decide) ?_
      refine V_aload_n C dL_isText_317 rfl ?_
      refine V_iconst (v := 0) C dL_isText_318 rfl ?_
      refine V_iald C dL_isText_319 h403 (show _ = nI 0 from rfl) (by decide) (by decide) ?_
      refine V_nm g0 ?_
      refine V_ifne_f (tgt := 327) C dL_isText_320 (by decide) (by rw [hz.mp hq]; rfl) ?_
      refine V_iconst (v := 1) C dL_isText_323 rfl ?_
      refine V_goto (tgt := 328) C dL_isText_324 (by decide) ?_
      refine V_icmpne_f (tgt := 396) C dL_isText_328 (by decide) rfl ?_
      exact tail
    · refine V_ifne_t (tgt := 316) C dL_isText_309 (by decide) (nI_ne0 (by omega) (by omega)) ?_
      refine V_iconst (v := 0) C dL_isText_316 rfl ?_
      refine V_aload_n C dL_isText_317 rfl ?_
      refine V_iconst (v := 0) C dL_isText_318 rfl ?_
      refine V_iald C dL_isText_319 h403 (show _ = nI 0 from rfl) (by decide) (by decide) ?_
      refine V_nm g0 ?_
      refine V_ifne_t (tgt := 327) C dL_isText_320 (by decide) (nI_ne0 (Nat.pos_of_ne_zero (fun e => hq (hz.mpr e))) (by omega)) ?_
      refine V_iconst (v := 0) C dL_isText_327 rfl ?_
      refine V_icmpne_f (tgt := 396) C dL_isText_328 (by decide) rfl ?_
      exact tail
  have loop : ∀ (d k : Nat) (adk : Nat → Nat) (Fk : Fn), k + d = npL (zTxt s) → CRep (xD X) adk Fk s → Fk 403 = some (aI (xD X) 6 g) → FrK ad F adk Fk → V X (10 + 14 * k) (60 + 84 * k) 100 [(0, .ref (adk 0)), (1, .ref (adk 403)), (2, .int (nI (npL (zTxt s)))), (3, .int (nI (posL (zTxt s) k))), (4, .int (nI (ocS (zTxt s) k))), (5, .int 1), (6, .int (nI (k)))] [] adk Fk := by
    intro d
    induction d with
    | zero =>
      intro k adk Fk hkd hC h403 hK
      obtain rfl : k = npL (zTxt s) := by omega
      refine V_iload C dL_isText_100 rfl ?_
      refine V_iload_n C dL_isText_102 rfl ?_
      refine V_icmpge_t (tgt := 296) C dL_isText_103 (by decide) (Int32.le_refl _) ?_
      exact fin adk Fk _ _ (by omega) (by omega) hC h403 hK
    | succ d ih =>
      intro k adk Fk hkd hC h403 hK
      have hk : k < npL (zTxt s) := by omega
      have hmo := posL_mono (zTxt s) (show k ≤ k + 1 by omega)
      have hole := ocS_le hL (k + 1) (by omega)
      obtain ⟨p1, p2, p3, p5, p6, -, -⟩ := pt_s hL hw hk
      obtain ⟨j1, hj1, ej1⟩ := xoctI hI hk (p := 0) p5 p6
      obtain ⟨j2, hj2, ej2⟩ := xoctI hI hk (p := octN (zTxt s) k - 1) (by omega) p6
      refine V_iload C dL_isText_100 rfl ?_
      refine V_iload_n C dL_isText_102 rfl ?_
      refine V_icmpge_f (tgt := 296) C dL_isText_103 (by decide) (nI_ge (by omega) (by omega)) ?_
      refine V_iload C dL_isText_106 rfl ?_
      refine V_ifeq_f (tgt := 296) C dL_isText_108 (by decide) (by decide) ?_
      refine V_aload_n C dL_isText_111 rfl ?_
      refine V_iload C dL_isText_112 rfl ?_
      refine V_invV (c0 := 0) C dL_isText_114 hC.1 rfl (q_signs s k hC hI hk) mv_L_57 rfl (Nat.le_of_ble_eq_true rfl) ⟨Nat.le_of_ble_eq_true rfl, Nat.le_of_ble_eq_true rfl⟩ ⟨(by show 10 + 14 * k + 2 ≤ 200; omega), (by show 60 + 84 * k + 12 ≤ 1200; omega)⟩ (fun _ _ _ h => VT_no h) (fun v ad1 F1 hp => ?_)
      obtain ⟨rfl, hC, hfk⟩ := hp
      rw [show adk 0 = ad1 0 from hfk.a0.symm, show adk 403 = ad1 403 from (hfk.ad (by decide)).symm]
      have h403 := (hfk 403 (by decide)).2.trans h403
      have hK := hK.tr hfk
      refine V_istore C dL_isText_117 (by decide) ?_
      refine V_aload_n C dL_isText_119 rfl ?_
      refine V_iload C dL_isText_120 rfl ?_
      refine V_invV (c0 := 0) C dL_isText_122 hC.1 rfl (q_octets s k hC hI hk) mv_L_60 rfl (Nat.le_of_ble_eq_true rfl) ⟨Nat.le_of_ble_eq_true rfl, Nat.le_of_ble_eq_true rfl⟩ ⟨(by show 10 + 14 * k + 2 + 2 ≤ 200; omega), (by show 60 + 84 * k + 12 + 12 ≤ 1200; omega)⟩ (fun _ _ _ h => VT_no h) (fun v ad2 F2 hp => ?_)
      obtain ⟨rfl, hC, hfk⟩ := hp
      rw [show ad1 0 = ad2 0 from hfk.a0.symm, show ad1 403 = ad2 403 from (hfk.ad (by decide)).symm]
      have h403 := (hfk 403 (by decide)).2.trans h403
      have hK := hK.tr hfk
      refine V_istore C dL_isText_125 (by decide) ?_
      refine V_iload_n C dL_isText_127 rfl ?_
      refine V_iload C dL_isText_128 rfl ?_
      refine V_iadd C dL_isText_130 ?_
      refine V_nm ((nI_add _ _).trans (congrArg nI (show posL (zTxt s) k + (posL (zTxt s) (k + 1) - posL (zTxt s) k) = posL (zTxt s) (k + 1) by omega))) ?_
      refine V_istore_n C dL_isText_131 (by decide) ?_
      refine V_iload C dL_isText_132 rfl ?_
      refine V_iload C dL_isText_134 rfl ?_
      refine V_iadd C dL_isText_136 ?_
      refine V_nm (show _ = nI (ocS (zTxt s) (k + 1)) from nI_add _ _) ?_
      refine V_istore C dL_isText_137 (by decide) ?_
      refine V_iload C dL_isText_139 rfl ?_
      have tail : V X (10 + 14 * k + 2 + 2) (60 + 84 * k + 12 + 12) 202 [(0, .ref (ad2 0)), (1, .ref (ad2 403)), (2, .int (nI (npL (zTxt s)))), (3, .int (nI (posL (zTxt s) (k + 1)))), (4, .int (nI (ocS (zTxt s) (k + 1)))), (6, .int (nI k)), (8, .int (nI (octN (zTxt s) k)))] [] ad2 F2 := by
        refine V_aload_n C dL_isText_202 rfl ?_
        refine V_iconst (v := 3) C dL_isText_203 rfl ?_
        refine V_iload C dL_isText_204 rfl ?_
        refine V_iload C dL_isText_206 rfl ?_
        refine V_invH C dL_isText_208 (a_octet s _ _ hC hI) mh_L_94 rfl (Nat.le_of_ble_eq_true rfl) ⟨Nat.le_of_ble_eq_true rfl, Nat.le_of_ble_eq_true rfl⟩ ⟨(by show 10 + 14 * k + 2 + 2 + 2 ≤ 200; omega), (by show 60 + 84 * k + 12 + 12 + 12 ≤ 1200; omega)⟩ (fun _ _ _ h => VT_no h) (fun v ad3 F3 hp => ?_)
        obtain ⟨rfl, hC, hfk⟩ := hp
        rw [show ad2 0 = ad3 0 from hfk.a0.symm, show ad2 403 = ad3 403 from (hfk.ad (by decide)).symm]
        have h403 := (hfk 403 (by decide)).2.trans h403
        have hK := hK.tr hfk
        refine V_nm (xoctB hI hk (Or.inr (Int32.le_refl _))) ?_
        refine V_bipush (v := (-30)) C dL_isText_211 (by decide) ?_
        refine V_icmpne_f (tgt := 233) C dL_isText_213 (by decide) rfl ?_
        refine V_aload_n C dL_isText_216 rfl ?_
        refine V_iconst (v := 3) C dL_isText_217 rfl ?_
        refine V_iload C dL_isText_218 rfl ?_
        refine V_iconst (v := (-1)) C dL_isText_220 rfl ?_
        refine V_invH C dL_isText_221 (a_octet s _ _ hC hI) mh_L_94 rfl (Nat.le_of_ble_eq_true rfl) ⟨Nat.le_of_ble_eq_true rfl, Nat.le_of_ble_eq_true rfl⟩ ⟨(by show 10 + 14 * k + 2 + 2 + 2 + 2 ≤ 200; omega), (by show 60 + 84 * k + 12 + 12 + 12 + 12 ≤ 1200; omega)⟩ (fun _ _ _ h => VT_no h) (fun v ad4 F4 hp => ?_)
        obtain ⟨rfl, hC, hfk⟩ := hp
        rw [show ad3 0 = ad4 0 from hfk.a0.symm, show ad3 403 = ad4 403 from (hfk.ad (by decide)).symm]
        have h403 := (hfk 403 (by decide)).2.trans h403
        have hK := hK.tr hfk
        refine V_nm (xoctB hI hk (Or.inl (by decide))) ?_
        refine V_bipush (v := (-30)) C dL_isText_224 (by decide) ?_
        refine V_icmpne_f (tgt := 233) C dL_isText_226 (by decide) rfl ?_
        refine V_iconst (v := 1) C dL_isText_229 rfl ?_
        refine V_goto (tgt := 234) C dL_isText_230 (by decide) ?_
        refine V_istore C dL_isText_234 (by decide) ?_
        refine V_iload C dL_isText_236 rfl ?_
        refine V_ifeq_f (tgt := 287) C dL_isText_238 (by decide) (by decide) ?_
        refine V_aload_n C dL_isText_241 rfl ?_
        refine V_iconst (v := 3) C dL_isText_242 rfl ?_
        refine V_iload C dL_isText_243 rfl ?_
        refine V_iconst (v := 0) C dL_isText_245 rfl ?_
        refine V_invH C dL_isText_246 (a_octet s _ _ hC hI) mh_L_94 rfl (Nat.le_of_ble_eq_true rfl) ⟨Nat.le_of_ble_eq_true rfl, Nat.le_of_ble_eq_true rfl⟩ ⟨(by show 10 + 14 * k + 2 + 2 + 2 + 2 + 2 ≤ 200; omega), (by show 60 + 84 * k + 12 + 12 + 12 + 12 + 12 ≤ 1200; omega)⟩ (fun _ _ _ h => VT_no h) (fun v ad5 F5 hp => ?_)
        obtain ⟨rfl, hC, hfk⟩ := hp
        rw [show ad4 0 = ad5 0 from hfk.a0.symm, show ad4 403 = ad5 403 from (hfk.ad (by decide)).symm]
        have h403 := (hfk 403 (by decide)).2.trans h403
        have hK := hK.tr hfk
        refine V_nm ej1 ?_
        refine V_iflt_f (tgt := 287) C dL_isText_249 (by decide) (nI_pos (by omega)) ?_
        refine V_aload_n C dL_isText_252 rfl ?_
        refine V_iconst (v := 3) C dL_isText_253 rfl ?_
        refine V_iload C dL_isText_254 rfl ?_
        refine V_iload C dL_isText_256 rfl ?_
        refine V_iconst (v := 1) C dL_isText_258 rfl ?_
        refine V_isub C dL_isText_259 ?_
        refine V_nm (nI_m1 p5) ?_
        refine V_invH C dL_isText_260 (a_octet s _ _ hC hI) mh_L_94 rfl (Nat.le_of_ble_eq_true rfl) ⟨Nat.le_of_ble_eq_true rfl, Nat.le_of_ble_eq_true rfl⟩ ⟨(by show 10 + 14 * k + 2 + 2 + 2 + 2 + 2 + 2 ≤ 200; omega), (by show 60 + 84 * k + 12 + 12 + 12 + 12 + 12 + 12 ≤ 1200; omega)⟩ (fun _ _ _ h => VT_no h) (fun v ad6 F6 hp => ?_)
        obtain ⟨rfl, hC, hfk⟩ := hp
        rw [show ad5 0 = ad6 0 from hfk.a0.symm, show ad5 403 = ad6 403 from (hfk.ad (by decide)).symm]
        have h403 := (hfk 403 (by decide)).2.trans h403
        have hK := hK.tr hfk
        refine V_nm ej2 ?_
        refine V_iflt_f (tgt := 287) C dL_isText_263 (by decide) (nI_pos (by omega)) ?_
        refine V_aload_n C dL_isText_266 rfl ?_
        refine V_iconst (v := 3) C dL_isText_267 rfl ?_
        refine V_iload C dL_isText_268 rfl ?_
        refine V_iload C dL_isText_270 rfl ?_
        refine V_iconst (v := 1) C dL_isText_272 rfl ?_
        refine V_isub C dL_isText_273 ?_
        refine V_nm (nI_m1 p5) ?_
        refine V_invH C dL_isText_274 (a_octet s _ _ hC hI) mh_L_94 rfl (Nat.le_of_ble_eq_true rfl) ⟨Nat.le_of_ble_eq_true rfl, Nat.le_of_ble_eq_true rfl⟩ ⟨(by show 10 + 14 * k + 2 + 2 + 2 + 2 + 2 + 2 + 2 ≤ 200; omega), (by show 60 + 84 * k + 12 + 12 + 12 + 12 + 12 + 12 + 12 ≤ 1200; omega)⟩ (fun _ _ _ h => VT_no h) (fun v ad7 F7 hp => ?_)
        obtain ⟨rfl, hC, hfk⟩ := hp
        rw [show ad6 0 = ad7 0 from hfk.a0.symm, show ad6 403 = ad7 403 from (hfk.ad (by decide)).symm]
        have h403 := (hfk 403 (by decide)).2.trans h403
        have hK := hK.tr hfk
        refine V_nm ej2 ?_
        refine V_sipush (v := 256) C dL_isText_277 (by decide) ?_
        refine V_icmpge_f (tgt := 287) C dL_isText_280 (by decide) (nI_ge (b := 256) hj2 (by decide)) ?_
        refine V_iconst (v := 1) C dL_isText_283 rfl ?_
        refine V_goto (tgt := 288) C dL_isText_284 (by decide) ?_
        refine V_istore C dL_isText_288 (by decide) ?_
        have e1 : nI k + Int32.ofInt 1 = nI (k + 1) := nI_1 k
        refine V_iinc C dL_isText_290 rfl e1 (by decide) ?_
        refine V_goto (tgt := 100) C dL_isText_293 (by decide) ?_
        refine V_wide (k' := 10 + 14 * (k + 1)) (n' := 60 + 84 * (k + 1)) (by show 10 + 14 * k + 2 + 2 + 2 + 2 + 2 + 2 + 2 ≤ _; omega) (by show 60 + 84 * k + 12 + 12 + 12 + 12 + 12 + 12 + 12 ≤ _; omega) ?_
        exact V_sb (ih (k + 1) ad7 F7 (by omega) hC h403 hK) ⟨rfl, rfl, rfl, rfl, rfl, rfl, rfl, trivial⟩
      refine V_ifle_f (tgt := 233) C dL_isText_141 (by decide) (nI_nle p1 (Nat.lt_of_le_of_lt p2 (by decide))) ?_
      refine V_iload C dL_isText_144 rfl ?_
      refine V_aload_n C dL_isText_146 rfl ?_
      refine V_iconst (v := 1) C dL_isText_147 rfl ?_
      refine V_iald C dL_isText_148 h403 (show _ = nI 1 from rfl) (by decide) (by decide) ?_
      refine V_nm g1 ?_
      refine V_iconst (v := 1) C dL_isText_149 rfl ?_
      refine V_icmpne_t (tgt := 158) C dL_isText_150 (by decide) (by decide) ?_
      refine V_sipush (v := 160) C dL_isText_158 (by decide) ?_
      refine V_icmpgt_f (tgt := 233) C dL_isText_161 (by decide) (nI_nlt (a := 160) p2 (by decide)) ?_
      refine V_iload C dL_isText_164 rfl ?_
      refine V_ifle_f (tgt := 233) C dL_isText_166 (by decide) (nI_nle p5 (by omega)) ?_
      refine V_iload C dL_isText_169 rfl ?_
      refine V_sipush (v := 140) C dL_isText_171 (by decide) ?_
      refine V_icmpgt_f (tgt := 233) C dL_isText_174 (by decide) (nI_nlt (a := 140) p6 (by decide)) ?_
      refine V_iload_n C dL_isText_177 rfl ?_
      refine V_iconst (v := 1) C dL_isText_178 rfl ?_
      by_cases hq : npL (zTxt s) = 1
      · refine V_icmpeq_t (tgt := 202) C dL_isText_179 (by decide) (congrArg nI hq) ?_
        exact V_sb tail ⟨rfl, rfl, rfl, rfl, rfl, rfl, rfl, trivial⟩
      · refine V_icmpeq_f (tgt := 202) C dL_isText_179 (by decide) (fun e => hq ((nI_eq (b := 1) (by omega) (by decide)).mp e)) ?_
        refine V_iload C dL_isText_182 rfl ?_
        refine V_aload_n C dL_isText_184 rfl ?_
        refine V_iconst (v := 1) C dL_isText_185 rfl ?_
        refine V_iald C dL_isText_186 h403 (show _ = nI 1 from rfl) (by decide) (by decide) ?_
        refine V_nm g1 ?_
        refine V_iconst (v := 1) C dL_isText_187 rfl ?_
        refine V_icmpne_t (tgt := 196) C dL_isText_188 (by decide) (by decide) ?_
        refine V_sipush (v := 153) C dL_isText_196 (by decide) ?_
        refine V_icmpgt_f (tgt := 233) C dL_isText_199 (by decide) (nI_nlt (a := 153) (p3 (by omega)) (by decide)) ?_
        exact V_sb tail ⟨rfl, rfl, rfl, rfl, rfl, rfl, rfl, trivial⟩
  refine V_aload_n C dL_isText_0 rfl ?_
  refine V_invV (c0 := 0) C dL_isText_1 hC.1 rfl (q_parts s hC hI) mv_L_87 rfl (Nat.le_of_ble_eq_true rfl) ⟨Nat.le_of_ble_eq_true rfl, Nat.le_of_ble_eq_true rfl⟩ ⟨(Nat.le_of_ble_eq_true rfl), (Nat.le_of_ble_eq_true rfl)⟩ (fun _ _ _ h => VT_no h) (fun v ad1 F1 hp => ?_)
  obtain ⟨rfl, hC, hfk⟩ := hp
  rw [show ad 0 = ad1 0 from hfk.a0.symm, show ad 403 = ad1 403 from (hfk.ad (by decide)).symm]
  have h403 := (hfk 403 (by decide)).2.trans h403
  have hK := hK.tr hfk
  refine V_istore_n C dL_isText_4 (by decide) ?_
  refine V_iconst (v := 0) C dL_isText_5 rfl ?_
  refine V_istore_n C dL_isText_6 (by decide) ?_
  refine V_iconst (v := 0) C dL_isText_7 rfl ?_
  refine V_istore C dL_isText_8 (by decide) ?_
  refine V_aload_n C dL_isText_10 rfl ?_
  refine V_invV (c0 := 0) C dL_isText_11 hC.1 rfl (q_isWide s hC hI) mv_L_90 rfl (Nat.le_of_ble_eq_true rfl) ⟨Nat.le_of_ble_eq_true rfl, Nat.le_of_ble_eq_true rfl⟩ ⟨(Nat.le_of_ble_eq_true rfl), (Nat.le_of_ble_eq_true rfl)⟩ (fun _ _ _ h => VT_no h) (fun v ad2 F2 hp => ?_)
  obtain ⟨rfl, hC, hfk⟩ := hp
  rw [show ad1 0 = ad2 0 from hfk.a0.symm, show ad1 403 = ad2 403 from (hfk.ad (by decide)).symm]
  have h403 := (hfk 403 (by decide)).2.trans h403
  have hK := hK.tr hfk
  refine V_nm (show _ = (0 : Int32) by rw [hw]; rfl) ?_
  refine V_aload_n C dL_isText_14 rfl ?_
  refine V_iconst (v := 1) C dL_isText_15 rfl ?_
  refine V_iald C dL_isText_16 h403 (show _ = nI 1 from rfl) (by decide) (by decide) ?_
  refine V_nm g1 ?_
  refine V_iconst (v := 1) C dL_isText_17 rfl ?_
  refine V_icmpne_t (tgt := 25) C dL_isText_18 (by decide) (by decide) ?_
  refine V_iconst (v := 0) C dL_isText_25 rfl ?_
  refine V_icmpne_f (tgt := 94) C dL_isText_26 (by decide) rfl ?_
  refine V_aload_n C dL_isText_29 rfl ?_
  refine V_iconst (v := 0) C dL_isText_30 rfl ?_
  refine V_iconst (v := 0) C dL_isText_31 rfl ?_
  refine V_iconst (v := 0) C dL_isText_32 rfl ?_
  refine V_invH C dL_isText_33 (a_septets s _ _ hC hI) mh_L_94 rfl (Nat.le_of_ble_eq_true rfl) ⟨Nat.le_of_ble_eq_true rfl, Nat.le_of_ble_eq_true rfl⟩ ⟨(Nat.le_of_ble_eq_true rfl), (Nat.le_of_ble_eq_true rfl)⟩ (fun _ _ _ h => VT_no h) (fun v ad3 F3 hp => ?_)
  obtain ⟨rfl, hC, hfk⟩ := hp
  rw [show ad2 0 = ad3 0 from hfk.a0.symm, show ad2 403 = ad3 403 from (hfk.ad (by decide)).symm]
  have h403 := (hfk 403 (by decide)).2.trans h403
  have hK := hK.tr hfk
  refine V_nm (xsept_s hw) ?_
  refine V_aload_n C dL_isText_36 rfl ?_
  refine V_iconst (v := 1) C dL_isText_37 rfl ?_
  refine V_iald C dL_isText_38 h403 (show _ = nI 1 from rfl) (by decide) (by decide) ?_
  refine V_nm g1 ?_
  refine V_iconst (v := 1) C dL_isText_39 rfl ?_
  refine V_icmpne_t (tgt := 48) C dL_isText_40 (by decide) (by decide) ?_
  refine V_aload_n C dL_isText_48 rfl ?_
  refine V_iconst (v := 2) C dL_isText_49 rfl ?_
  refine V_iald C dL_isText_50 h403 (show _ = nI 2 from rfl) (by decide) (by decide) ?_
  refine V_nm g2 ?_
  refine V_icmpne_f (tgt := 94) C dL_isText_51 (by decide) rfl ?_
  refine V_aload_n C dL_isText_54 rfl ?_
  refine V_iconst (v := 1) C dL_isText_55 rfl ?_
  refine V_iload_n C dL_isText_56 rfl ?_
  refine V_iconst (v := 0) C dL_isText_57 rfl ?_
  refine V_invH C dL_isText_58 (a_signs s _ _ hC hI) mh_L_94 rfl (Nat.le_of_ble_eq_true rfl) ⟨Nat.le_of_ble_eq_true rfl, Nat.le_of_ble_eq_true rfl⟩ ⟨(Nat.le_of_ble_eq_true rfl), (Nat.le_of_ble_eq_true rfl)⟩ (fun _ _ _ h => VT_no h) (fun v ad4 F4 hp => ?_)
  obtain ⟨rfl, hC, hfk⟩ := hp
  rw [show ad3 0 = ad4 0 from hfk.a0.symm, show ad3 403 = ad4 403 from (hfk.ad (by decide)).symm]
  have h403 := (hfk 403 (by decide)).2.trans h403
  have hK := hK.tr hfk
  refine V_nm (xsigns (Or.inr (Int32.le_refl _))) ?_
  refine V_bipush (v := (-30)) C dL_isText_61 (by decide) ?_
  refine V_icmpne_f (tgt := 94) C dL_isText_63 (by decide) rfl ?_
  refine V_aload_n C dL_isText_66 rfl ?_
  refine V_iconst (v := 2) C dL_isText_67 rfl ?_
  refine V_iconst (v := (-1)) C dL_isText_68 rfl ?_
  refine V_iconst (v := 0) C dL_isText_69 rfl ?_
  refine V_invH C dL_isText_70 (a_octets s _ _ hC hI) mh_L_94 rfl (Nat.le_of_ble_eq_true rfl) ⟨Nat.le_of_ble_eq_true rfl, Nat.le_of_ble_eq_true rfl⟩ ⟨(Nat.le_of_ble_eq_true rfl), (Nat.le_of_ble_eq_true rfl)⟩ (fun _ _ _ h => VT_no h) (fun v ad5 F5 hp => ?_)
  obtain ⟨rfl, hC, hfk⟩ := hp
  rw [show ad4 0 = ad5 0 from hfk.a0.symm, show ad4 403 = ad5 403 from (hfk.ad (by decide)).symm]
  have h403 := (hfk 403 (by decide)).2.trans h403
  have hK := hK.tr hfk
  refine V_nm (xocts (Or.inl (by decide))) ?_
  refine V_bipush (v := (-30)) C dL_isText_73 (by decide) ?_
  refine V_icmpne_f (tgt := 94) C dL_isText_75 (by decide) rfl ?_
  refine V_aload_n C dL_isText_78 rfl ?_
  refine V_iconst (v := 3) C dL_isText_79 rfl ?_
  refine V_iload_n C dL_isText_80 rfl ?_
  refine V_iconst (v := 0) C dL_isText_81 rfl ?_
  refine V_invH C dL_isText_82 (a_octet s _ _ hC hI) mh_L_94 rfl (Nat.le_of_ble_eq_true rfl) ⟨Nat.le_of_ble_eq_true rfl, Nat.le_of_ble_eq_true rfl⟩ ⟨(Nat.le_of_ble_eq_true rfl), (Nat.le_of_ble_eq_true rfl)⟩ (fun _ _ _ h => VT_no h) (fun v ad6 F6 hp => ?_)
  obtain ⟨rfl, hC, hfk⟩ := hp
  rw [show ad5 0 = ad6 0 from hfk.a0.symm, show ad5 403 = ad6 403 from (hfk.ad (by decide)).symm]
  have h403 := (hfk 403 (by decide)).2.trans h403
  have hK := hK.tr hfk
  refine V_nm (xoct (Or.inr (Int32.le_refl _))) ?_
  refine V_bipush (v := (-30)) C dL_isText_85 (by decide) ?_
  refine V_icmpne_f (tgt := 94) C dL_isText_87 (by decide) rfl ?_
  refine V_iconst (v := 1) C dL_isText_90 rfl ?_
  refine V_goto (tgt := 95) C dL_isText_91 (by decide) ?_
  refine V_istore C dL_isText_95 (by decide) ?_
  refine V_iconst (v := 0) C dL_isText_97 rfl ?_
  refine V_istore C dL_isText_98 (by decide) ?_
  exact V_sb (loop (npL (zTxt s)) 0 ad6 F6 (by omega) hC h403 hK) ⟨rfl, rfl, rfl, rfl, rfl, rfl, rfl, trivial⟩
/-- isText: any text -/
theorem l_isText {l : Launch} {D : Dx} {b0 : Nat} {ad : Nat → Nat} {F : Fn} (s : St) (g : Nat → Int32) (hC : CRep D ad F s) (hI : Inv s) (h403 : F 403 = some (aI D 6 g)) (g0 : g 0 = nI (zTxt s).length) (g1 : g 1 = b2i (wideL (zTxt s))) (g2 : g 2 = nI (septL (zTxt s))) : Ct l D b0 yL_isText (wsA yL_isText cL_isText 9 (some .boolean)) rTxt [.ref (ad 0), .ref (ad 403)] ad F (PoL D ad F 1 s) noX := by
  cases hw : wideL (zTxt s) with
  | true => exact l_isText_w s g hC hI h403 g0 (by rw [g1, hw]; rfl) g2 hw
  | false => exact l_isText_s s g hC hI h403 g0 (by rw [g1, hw]; rfl) g2 hw
