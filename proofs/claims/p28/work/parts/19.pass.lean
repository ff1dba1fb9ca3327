/-! ===== finish, expire, send, pass ===== -/
theorem CRep.fin {D : Dx} {ad : Nat → Nat} {F G : Fn} {s : St} {m how : Nat} (hC : CRep D ad F s) (hI : Inv s) (hm : m < zMc s) (g0 : kMain ad G (zNow s) (zMc s) ((zRcp s).length + 1)) (g5 : ∃ f : Nat → Int32, G 5 = some (aI D 20 f) ∧ ∀ j, j < (zRcp s).length + 1 → f j = nI ((zRcp s ++ [10 * m + how]).getD j 0))
    (gr : RowAt D ad G (14 + 2 * (zRc s m % 3)) (20 + 2 * (zRc s m % 3)) ((zRw s (2 * (zRc s m % 3))).filter (fun c => decide (mOf c ≠ m))))
    (gm : MsgAt G (30 + 3 * m) (nI m) (nI (zRc s m)) (nI (zEn s m)) (ad (11 + zRc s m % 3)) (ad (31 + 3 * m)) (ad (32 + 3 * m)) (nI (npL (zMs s m))) (nI how) (nI (zLk s m)))
    (hK : ∀ x, x ∉ [0, 5, 14 + 2 * (zRc s m % 3), 20 + 2 * (zRc s m % 3), 30 + 3 * m] → G x = F x) : CRep D ad G (finS s m how) := by
  have hmc := hI.2.1
  refine ⟨by show kMain ad G _ _ (zRcp s ++ [10 * m + how]).length; rw [List.length_append]; exact g0, TxtK hC.2.1 (hK _ (by simp; omega)) (hK _ (by simp; omega)) (hK _ (by simp; omega)), hC.2.2.1.kept (hK _ (by simp; omega)), g5.imp fun f hf => ⟨hf.1, fun j hj => hf.2 j (by have hj : j < (zRcp s ++ [10 * m + how]).length := hj; rw [List.length_append] at hj; exact hj)⟩, hC.2.2.2.2.1.kept (hK _ (by simp; omega)),
    hC.2.2.2.2.2.1.kept (hK _ (by simp; omega)) (hK _ (by simp; omega)) (hK _ (by simp; omega)) (hK _ (by simp; omega)), hC.2.2.2.2.2.2.1.kept (fun l hl => hK _ (by simp; omega)), fun r hr => ?_, fun k hk => ?_, hC.2.2.2.2.2.2.2.2.2.1.kept (fun k hk p hp => hK _ (by simp; omega)), fun k h1 h2 => ?_⟩
  · show RowAt D ad G _ _ (va_up (zRw s) (2 * (zRc s m % 3)) _ r)
    by_cases e : r = 2 * (zRc s m % 3)
    · subst e; rw [up_s]; exact gr
    · rw [up_n e]; exact (hC.2.2.2.2.2.2.2.1 r hr).kept (hK _ (by simp; omega)) (hK _ (by simp; omega))
  · have hk : k < zMc s := hk
    have h1 := hC.2.2.2.2.2.2.2.2.1 k hk
    refine ⟨?_, h1.2.1.imp fun f hf => ⟨(hK _ (by simp; omega)).trans hf.1, hf.2⟩, h1.2.2.imp fun f hf => ⟨(hK _ (by simp; omega)).trans hf.1, hf.2⟩⟩
    show MsgAt G _ _ _ _ _ _ _ _ (nI (va_up (zSt s) m how k)) _
    by_cases e : k = m
    · subst e; rw [up_s]; exact gm
    · rw [up_n e]; exact (hK _ (by simp; omega)).trans h1.1
  · have h1 : zMc s ≤ k := h1
    have h3 := hC.2.2.2.2.2.2.2.2.2.2 k h1 h2
    exact ⟨(hK _ (by simp; omega)).trans h3.1, (hK _ (by simp; omega)).trans h3.2.1, (hK _ (by simp; omega)).trans h3.2.2.1, fun p hp => (hK _ (by simp; omega)).trans (h3.2.2.2 p hp)⟩
theorem getD_app {L : List Nat} {x j : Nat} : (L ++ [x]).getD j 0 = if j = L.length then x else L.getD j 0 := by
  rw [List.getD_eq_getElem?_getD, List.getD_eq_getElem?_getD]
  by_cases h : j < L.length
  · rw [List.getElem?_append_left h, if_neg (by omega)]
  · by_cases e : j = L.length
    · subst e; simp
    · rw [if_neg e, List.getElem?_append_right (by omega), List.getElem?_eq_none (by simp; omega), List.getElem?_eq_none (by omega)]
theorem rcp_lt {s : St} {m : Nat} (hI : Inv s) (hm : m < zMc s) (h0 : zSt s m = 0) : (zRcp s).length < 20 := by
  have h1 := cnt_le hm h0
  rw [← hI.2.2.2.2.1] at h1
  have := hI.2.1
  omega
set_option maxHeartbeats 400000 in
set_option maxRecDepth 100000 in
/-- finish -/
theorem c_finish {l : Launch} {D : Dx} {b0 : Nat} {ad : Nat → Nat} {F : Fn} (s : St) (m how : Nat) (hC : CRep D ad F s) (hI : Inv s) (hm : m < zMc s) (h0 : zSt s m = 0) (hh : how < 4) : Ct l D b0 yX6_finish (wsA yX6_finish cX6_finish 3 none) (rK 3) [.ref (ad 0), .ref (ad (30 + 3 * m)), .int (nI how)] ad F (fun v ad1 F1 => v = none ∧ ad = ad1 ∧ CRep D ad F1 (finS s m how) ∧ FrK ad F ad F1) noX := by
  refine Ct.of (by decide +kernel) (by simp [Value.category]) (Nat.le_of_ble_eq_true rfl) (fun X eD eb el C Q => ?_)
  subst eD; subst eb; subst el
  have hM := hC.1
  have hmc := hI.2.1
  unfold kMain at hM
  obtain ⟨fr, hra, hfr⟩ := hC.2.2.2.1
  have hrl := rcp_lt hI hm h0
  obtain ⟨hg, hsg, hst⟩ := hC.2.2.2.2.2.2.2.2.1 m hm
  unfold MsgAt at hg
  obtain ⟨j, hj⟩ : ∃ j, j = zRc s m % 3 := ⟨_, rfl⟩
  rw [← hj] at hg
  have hj3 : j < 3 := by omega
  have hlk := hC.2.2.2.2.2.2.1 j hj3
  unfold LinkAt at hlk
  have hq := hC.2.2.2.2.2.2.2.1 (2 * j) (by omega)
  have hq1 := hq.1
  have hin := (hI.2.2.2.2.2.2.1 j hj3).2.2.2.2.2.1
  have hpa := fun c hc => prt_at hC hI (hin c hc).1
  refine V_inj (fun hinj => ?_)
  have hfl : (zRw s (2 * j)).filter (fun c => decide (ad (30 + 3 * mOf c) ≠ ad (30 + 3 * m))) = (zRw s (2 * j)).filter (fun c => decide (mOf c ≠ m)) := List.filter_congr (fun c hc => by
    rw [decide_eq_decide]
    constructor
    · intro h e; exact h (by rw [e])
    · intro h e
      have := hinj _ _ (by rw [msg_of hC (hpa c hc).2.2.1]; simp) (by rw [msg_of hC hm]; simp) e
      omega)
  refine V_aload_n C dX6_finish_0 rfl ?_
  refine V_iload_n C dX6_finish_1 rfl ?_
  refine G_put C dX6_finish_2 fp_6_147 hg rfl rfl (Nat.le_of_ble_eq_true rfl) (fun F1 hg hfr1 => ?_)
  dsimp only [List.set] at hg
  have hf1 := hfr1
  have hM := (hf1 0 (by omega)).trans hM
  have hra := (hf1 5 (by omega)).trans hra
  have hlkB := (hf1 (11 + j) (by omega)).trans hlk
  have hqB := hq.kept (hf1 (14 + 2 * j) (by omega)) (hf1 (20 + 2 * j) (by omega))
  have hq1B := hqB.1
  have hgB := hg
  refine V_aload_n C dX6_finish_5 rfl ?_
  refine V_get C dX6_finish_6 fr_6_121 hgB rfl ?_
  refine V_get C dX6_finish_9 fr_6_125 hlkB rfl ?_
  refine V_aload_n C dX6_finish_12 rfl ?_
  refine V_invV C dX6_finish_13 hq1B rfl (c_removeAllOf (14 + 2 * j) (20 + 2 * j) (ad (30 + 3 * m)) (zRw s (2 * j)) (fun c => ad (30 + 3 * mOf c)) (fun c => nI (pOf c)) (fun c => nI (zPf s c)) (fun c => nI (zPt s c)) (fun c => nI (zPw s c)) hqB (fun c hc => (hf1 c (by have := hpa c hc; omega)).trans (hpa c hc).2.2.2.2.2.2)) mv_6_169 rfl (Nat.le_of_ble_eq_true rfl) ⟨Nat.le_of_ble_eq_true rfl, Nat.le_of_ble_eq_true rfl⟩ ⟨Nat.le_of_ble_eq_true rfl, Nat.le_of_ble_eq_true rfl⟩ (fun _ _ _ h => VT_no h) (fun v ad1 F2 hp => ?_)
  obtain ⟨rfl, rfl, hqC, hK2⟩ := hp
  rw [hfl] at hqC
  have hM := (hK2 0 (by simp; omega)).trans hM
  have hra := (hK2 5 (by simp; omega)).trans hra
  have hgC := (hK2 (30 + 3 * m) (by simp; omega)).trans hgB
  refine V_aload_n C dX6_finish_16 rfl ?_
  refine V_get C dX6_finish_17 fr_6_30 hM rfl ?_
  refine V_aload_n C dX6_finish_20 rfl ?_
  refine V_get C dX6_finish_21 fr_6_26 hM rfl ?_
  refine V_alen C dX6_finish_24 hra rfl ?_
  refine V_icmpge_f (tgt := 56) C dX6_finish_25 (by decide) (nI_ge (a := (zRcp s).length) (b := 20) hrl (by decide)) ?_
  refine V_aload_n C dX6_finish_28 rfl ?_
  refine V_get C dX6_finish_29 fr_6_26 hM rfl ?_
  refine V_aload_n C dX6_finish_32 rfl ?_
  refine V_get C dX6_finish_33 fr_6_30 hM rfl ?_
  refine V_bipush (v := 10) C dX6_finish_36 (by decide) ?_
  refine V_aload_n C dX6_finish_38 rfl ?_
  refine V_get C dX6_finish_39 fr_6_140 hgC rfl ?_
  refine V_imul C dX6_finish_42 ?_
  refine V_nm (pk_mul 10 m) ?_
  refine V_iload_n C dX6_finish_43 rfl ?_
  refine V_iadd C dX6_finish_44 ?_
  refine V_nm (nI_add _ how) ?_
  refine G_iast C dX6_finish_45 hra rfl hrl (by decide) (fun F3 hra hfr3 => ?_)
  have hM := (hfr3 _ (by omega)).trans hM
  have hgC := (hfr3 _ (by omega)).trans hgC
  have hf3 := hfr3
  refine V_aload_n C dX6_finish_46 rfl ?_
  refine V_dup C dX6_finish_47 rfl ?_
  refine V_get C dX6_finish_48 fr_6_30 hM rfl ?_
  refine V_iconst (v := 1) C dX6_finish_51 rfl ?_
  refine V_iadd C dX6_finish_52 ?_
  refine V_nm (nI_1 _) ?_
  refine G_put C dX6_finish_53 fp_6_30 hM rfl rfl (Nat.le_of_ble_eq_true rfl) (fun F4 hM hfr4 => ?_)
  dsimp only [List.set] at hM
  have hra := (hfr4 _ (by omega)).trans hra
  have hgC := (hfr4 _ (by omega)).trans hgC
  refine V_return C Q dX6_finish_56 (Nat.le_of_ble_eq_true rfl) (Nat.le_of_ble_eq_true rfl) ⟨rfl, rfl, hC.fin hI hm hM ⟨_, hra, fun i hi => ?_⟩ (by rw [← hj]; exact hqC.kept ((hfr4 _ (by omega)).trans (hf3 _ (by omega))) ((hfr4 _ (by omega)).trans (hf3 _ (by omega)))) (by rw [← hj]; exact hgC) (fun x hx => ?_), fun c hc => ⟨rfl, ?_⟩⟩
  · rw [getD_app]
    simp only [upd]
    split
    · rfl
    · exact hfr i (by omega)
  · rw [← hj] at hx
    simp at hx
    exact (hfr4 x (by omega)).trans ((hf3 x (by omega)).trans ((hK2 x (by simp; omega)).trans (hf1 x (by omega))))
  · exact (hfr4 c (by omega)).trans ((hf3 c (by omega)).trans ((hK2 c (by simp; omega)).trans (hf1 c (by omega))))
set_option maxHeartbeats 400000 in
set_option maxRecDepth 100000 in
/-- expireMessages -/
theorem c_expire {l : Launch} {D : Dx} {b0 : Nat} {ad : Nat → Nat} {F : Fn} (s : St) (hC : CRep D ad F s) (hI : Inv s) : Ct l D b0 yX6_expireMessages (wsA yX6_expireMessages cX6_expireMessages 3 none) (rK 4) [.ref (ad 0)] ad F (fun v ad1 F1 => v = none ∧ ad = ad1 ∧ CRep D ad F1 (expN s (zMc s)) ∧ FrK ad F ad F1) noX := by
  refine Ct.of (by decide +kernel) (by simp [Value.category]) (Nat.le_of_ble_eq_true rfl) (fun X eD eb el C Q => ?_)
  subst eD; subst eb; subst el
  have hM := hC.1
  have hmc := hI.2.1
  unfold kMain at hM
  refine V_iconst (v := 0) C dX6_expireMessages_0 rfl ?_
  refine V_istore_n C dX6_expireMessages_1 (by decide) ?_
  have loop : ∀ (d i : Nat) (G : Fn), i + d = zMc s → CRep (xD X) ad G (expN s i) → FrK ad F ad G → V X 0 0 2 [(0, .ref (ad 0)), (1, .int (nI i))] [] ad G := by
    intro d
    induction d with
    | zero =>
      intro i G hd hCG hK
      have hi : i = zMc s := by omega
      subst hi
      have hM := hCG.1
      unfold kMain at hM
      rw [(expN_now s _).2] at hM
      refine V_iload_n C dX6_expireMessages_2 rfl ?_
      refine V_aload_n C dX6_expireMessages_3 rfl ?_
      refine V_get C dX6_expireMessages_4 fr_6_22 hM rfl ?_
      refine V_icmpge_t (tgt := 60) C dX6_expireMessages_7 (by decide) (Int32.le_refl _) ?_
      exact V_return C Q dX6_expireMessages_60 (Nat.le_of_ble_eq_true rfl) (Nat.le_of_ble_eq_true rfl) ⟨rfl, rfl, hCG, hK⟩
    | succ d ih =>
      intro i G hd hCG hK
      have hIG := inv_exp hI i (by omega)
      have hM := hCG.1
      unfold kMain at hM
      rw [(expN_now s _).2] at hM
      obtain ⟨fm, hma, hfm⟩ := hCG.2.2.1
      have him : i < zMc (expN s i) := by rw [(expN_now s i).2]; omega
      have hg := msg_of hCG him
      obtain ⟨-, -, -, -, hs4, he3, -⟩ := hIG.2.2.2.2.2.1 i him
      have hn2 := hIG.1
      refine V_iload_n C dX6_expireMessages_2 rfl ?_
      refine V_aload_n C dX6_expireMessages_3 rfl ?_
      refine V_get C dX6_expireMessages_4 fr_6_22 hM rfl ?_
      refine V_icmpge_f (tgt := 60) C dX6_expireMessages_7 (by decide) (nI_ge (by omega) (by omega)) ?_
      refine V_iload_n C dX6_expireMessages_10 rfl ?_
      refine V_aload_n C dX6_expireMessages_11 rfl ?_
      refine V_get C dX6_expireMessages_12 fr_6_18 hM rfl ?_
      refine V_alen C dX6_expireMessages_15 hma rfl ?_
      refine V_icmpge_f (tgt := 60) C dX6_expireMessages_16 (by decide) (nI_ge (a := i) (b := 20) (by omega) (by decide)) ?_
      refine V_aload_n C dX6_expireMessages_19 rfl ?_
      refine V_get C dX6_expireMessages_20 fr_6_18 hM rfl ?_
      refine V_iload_n C dX6_expireMessages_23 rfl ?_
      refine V_aald C dX6_expireMessages_24 hma rfl rfl (by omega) (by decide) ?_
      refine V_rf (r' := some (ad (30 + 3 * i))) (by rw [hfm i (by omega), if_pos him]) ?_
      refine V_astore_n C dX6_expireMessages_25 (by decide) ?_
      refine V_aload_n C dX6_expireMessages_26 rfl ?_
      refine V_ifnull C dX6_expireMessages_27 ?_
      refine V_aload_n C dX6_expireMessages_30 rfl ?_
      refine V_get C dX6_expireMessages_31 fr_6_147 hg rfl ?_
      refine V_ifne (tgt := 54) C dX6_expireMessages_34 (by decide) (fun hc => ?_) (fun hc => ?_)
      · have e : expN s (i + 1) = expN s i := by rw [expN, if_neg (fun h => hc (by rw [h.1]; rfl))]
        refine V_iinc C dX6_expireMessages_54 rfl (nI_inc _) (by decide) ?_
        refine V_goto (tgt := 2) C dX6_expireMessages_57 (by decide) ?_
        refine V_sb (ih (i + 1) G (by omega) (by rw [e]; exact hCG) hK) ⟨rfl, rfl, trivial⟩
      · refine V_aload_n C dX6_expireMessages_37 rfl ?_
        refine V_get C dX6_expireMessages_38 fr_6_46 hM rfl ?_
        refine V_aload_n C dX6_expireMessages_41 rfl ?_
        refine V_get C dX6_expireMessages_42 fr_6_225 hg rfl ?_
        refine V_icmplt (tgt := 54) C dX6_expireMessages_45 (by decide) (fun hc2 => ?_) (fun hc2 => ?_)
        · have e : expN s (i + 1) = expN s i := by rw [expN, if_neg (fun h => nI_nlt h.2 (by omega) hc2)]
          refine V_iinc C dX6_expireMessages_54 rfl (nI_inc _) (by decide) ?_
          refine V_goto (tgt := 2) C dX6_expireMessages_57 (by decide) ?_
          refine V_sb (ih (i + 1) G (by omega) (by rw [e]; exact hCG) hK) ⟨rfl, rfl, trivial⟩
        · have hc0 : zSt (expN s i) i = 0 := (nI_eq (b := 0) (by omega) (by decide)).mp hc
          have he : zEn (expN s i) i ≤ zNow (expN s i) := Nat.le_of_not_lt fun h => hc2 (nI_lt h (by omega))
          have e : expN s (i + 1) = finS (expN s i) i 3 := by rw [expN, if_pos ⟨hc0, he⟩]
          refine V_aload_n C dX6_expireMessages_48 rfl ?_
          refine V_aload_n C dX6_expireMessages_49 rfl ?_
          refine V_iconst (v := 3) C dX6_expireMessages_50 rfl ?_
          refine V_invV C dX6_expireMessages_51 hM rfl (c_finish (expN s i) i 3 hCG hIG him hc0 (by decide)) mv_6_228 rfl (Nat.le_of_ble_eq_true rfl) ⟨Nat.le_of_ble_eq_true rfl, Nat.le_of_ble_eq_true rfl⟩ ⟨Nat.le_of_ble_eq_true rfl, Nat.le_of_ble_eq_true rfl⟩ (fun _ _ _ h => VT_no h) (fun v ad1 F1 hp => ?_)
          obtain ⟨rfl, rfl, hCF, hKF⟩ := hp
          refine V_iinc C dX6_expireMessages_54 rfl (nI_inc _) (by decide) ?_
          refine V_goto (tgt := 2) C dX6_expireMessages_57 (by decide) ?_
          refine V_sb (ih (i + 1) F1 (by omega) (by rw [e]; exact hCF) (fun c hc => ⟨rfl, (hKF c hc).2.trans (hK c hc).2⟩)) ⟨rfl, rfl, trivial⟩
  refine V_sb (loop (zMc s) 0 F (by omega) hC FrK.rf) ⟨rfl, rfl, trivial⟩
/-- one link and its two rows are others -/
theorem CRep.lks {D : Dx} {ad : Nat → Nat} {F G : Fn} {s : St} {j : Nat} {A B : List Nat} {t : Nat} (hC : CRep D ad F s) (hI : Inv s) (hj : j < 3) (g1 : LinkAt ad G (11 + j) (14 + 2 * j) (15 + 2 * j) (nI (zUp s j)) (nI (zWn s j)) (nI t)) (g2 : RowAt D ad G (14 + 2 * j) (20 + 2 * j) A) (g3 : RowAt D ad G (15 + 2 * j) (21 + 2 * j) B)
    (hK : ∀ x, x ∉ [11 + j, 14 + 2 * j, 20 + 2 * j, 15 + 2 * j, 21 + 2 * j] → G x = F x) : CRep D ad G (sTk (sRw s (va_up (va_up (zRw s) (2 * j) A) (2 * j + 1) B)) (va_up (zTk s) j t)) := by
  have hmc := hI.2.1
  refine ⟨hC.1.kept (hK 0 (by simp; omega)), TxtK hC.2.1 (hK _ (by simp; omega)) (hK _ (by simp; omega)) (hK _ (by simp; omega)), hC.2.2.1.kept (hK _ (by simp; omega)), hC.2.2.2.1.kept (hK _ (by simp; omega)), hC.2.2.2.2.1.kept (hK _ (by simp; omega)), hC.2.2.2.2.2.1.kept (hK _ (by simp; omega)) (hK _ (by simp; omega)) (hK _ (by simp; omega)) (hK _ (by simp; omega)), fun l hl => ?_, fun r hr => ?_, hC.2.2.2.2.2.2.2.2.1.kept (fun m hm => ⟨hK _ (by simp; omega), hK _ (by simp; omega), hK _ (by simp; omega)⟩), hC.2.2.2.2.2.2.2.2.2.1.kept (fun m hm p hp => hK _ (by simp; omega)), hC.2.2.2.2.2.2.2.2.2.2.kept (fun c h1 _ h => (hK c (by simp; omega)).trans h)⟩
  · show LinkAt ad G _ _ _ _ _ (nI (va_up (zTk s) j t l))
    by_cases e : l = j
    · subst e; rw [up_s]; exact g1
    · rw [up_n e]; exact (hK _ (by simp; omega)).trans (hC.2.2.2.2.2.2.1 l hl)
  · show RowAt D ad G _ _ (va_up (va_up (zRw s) (2 * j) A) (2 * j + 1) B r)
    by_cases e : r = 2 * j + 1
    · subst e
      rw [up_s, show 14 + (2 * j + 1) = 15 + 2 * j by omega, show 20 + (2 * j + 1) = 21 + 2 * j by omega]
      exact g3
    · rw [up_n e]
      by_cases e2 : r = 2 * j
      · subst e2; rw [up_s]; exact g2
      · rw [up_n e2]; exact (hC.2.2.2.2.2.2.2.1 r hr).kept (hK _ (by simp; omega)) (hK _ (by simp; omega))
set_option maxHeartbeats 400000 in
set_option maxRecDepth 100000 in
/-- sendParts -/
theorem c_sendParts {l : Launch} {D : Dx} {b0 : Nat} {ad : Nat → Nat} {F : Fn} (s : St) (hC : CRep D ad F s) (hI : Inv s) : Ct l D b0 yX6_sendParts (wsA yX6_sendParts cX6_sendParts 3 (some .int)) (rK 5) [.ref (ad 0)] ad F (fun v ad1 F1 => v = some (.int (nI (lksN s 3).2)) ∧ ad = ad1 ∧ CRep D ad F1 (lksN s 3).1 ∧ FrK ad F ad1 F1) noX := by
  refine Ct.of (by decide +kernel) (by simp [Value.category]) (Nat.le_of_ble_eq_true rfl) (fun X eD eb el C Q => ?_)
  subst eD; subst eb; subst el
  have hM := hC.1
  have hmc := hI.2.1
  unfold kMain at hM
  refine V_iconst (v := 0) C dX6_sendParts_0 rfl ?_
  refine V_istore_n C dX6_sendParts_1 (by decide) ?_
  refine V_iconst (v := 0) C dX6_sendParts_2 rfl ?_
  refine V_istore_n C dX6_sendParts_3 (by decide) ?_
  have loop : ∀ (d i : Nat) (G : Fn), i + d = 3 → CRep (xD X) ad G (lksN s i).1 → FrK ad F ad G → V X 0 0 4 [(0, .ref (ad 0)), (1, .int (nI (lksN s i).2)), (2, .int (nI i))] [] ad G := by
    intro d
    induction d with
    | zero =>
      intro i G hd hCG hK
      have hi : i = 3 := by omega
      subst hi
      have hM := hCG.1
      unfold kMain at hM
      obtain ⟨fl, hla, hfl⟩ := hCG.2.2.2.2.1
      refine V_iload_n C dX6_sendParts_4 rfl ?_
      refine V_aload_n C dX6_sendParts_5 rfl ?_
      refine V_get C dX6_sendParts_6 fr_6_35 hM rfl ?_
      refine V_alen C dX6_sendParts_9 hla rfl ?_
      refine V_icmpge_t (tgt := 44) C dX6_sendParts_10 (by decide) (Int32.le_refl _) ?_
      refine V_iload_n C dX6_sendParts_44 rfl ?_
      exact V_ireturn C Q dX6_sendParts_45 rfl (Nat.le_of_ble_eq_true rfl) (Nat.le_of_ble_eq_true rfl) ⟨rfl, rfl, hCG, hK⟩
    | succ d ih =>
      intro i G hd hCG hK
      have hIG := inv_lks hI i (by omega)
      have hi3 : i < 3 := by omega
      obtain ⟨t, ht⟩ : ∃ t, t = (lksN s i).1 := ⟨_, rfl⟩
      have hst : lksN s (i + 1) = (lkS t i, (lksN s i).2 + (lkQ t i).2) := by rw [ht]; rfl
      rw [← ht] at hCG hIG
      have hM := hCG.1
      unfold kMain at hM
      obtain ⟨fl, hla, hfl⟩ := hCG.2.2.2.2.1
      have hlk := hCG.2.2.2.2.2.2.1 i hi3
      have hlk0 := hlk
      unfold LinkAt at hlk
      have hq := hCG.2.2.2.2.2.2.2.1 (2 * i) (by omega)
      have hw := hCG.2.2.2.2.2.2.2.1 (2 * i + 1) (by omega)
      rw [show 14 + (2 * i + 1) = 15 + 2 * i by omega, show 20 + (2 * i + 1) = 21 + 2 * i by omega] at hw
      obtain ⟨hup1, hwn1, hwn2, htk5, hnd, hin, hin2⟩ := hIG.2.2.2.2.2.2.1 i hi3
      have hpa := fun c hc => prt_at hCG hIG (hin c hc).1
      have hpb := fun c hc => prt_at hCG hIG (hin2 c hc).1
      have htg : (if zTk t i < 5 then zTk t i + 1 else zTk t i) ≤ 5 := by split <;> omega
      have hlq := lks_le s i
      have hq5 : (lkQ t i).2 ≤ 5 := sndN_le 5 _
      refine V_iload_n C dX6_sendParts_4 rfl ?_
      refine V_aload_n C dX6_sendParts_5 rfl ?_
      refine V_get C dX6_sendParts_6 fr_6_35 hM rfl ?_
      refine V_alen C dX6_sendParts_9 hla rfl ?_
      refine V_icmpge_f (tgt := 44) C dX6_sendParts_10 (by decide) (nI_ge (a := i) (b := 3) (by omega) (by decide)) ?_
      refine V_aload_n C dX6_sendParts_13 rfl ?_
      refine V_get C dX6_sendParts_14 fr_6_35 hM rfl ?_
      refine V_iload_n C dX6_sendParts_17 rfl ?_
      refine V_aald C dX6_sendParts_18 hla rfl rfl hi3 (by decide) ?_
      refine V_rf (r' := some (ad (11 + i))) (hfl i hi3) ?_
      refine V_invV C dX6_sendParts_19 hlk rfl (c_gainToken (11 + i) (14 + 2 * i) (15 + 2 * i) _ _ (zTk t i) hlk0 htk5) mv_6_232 rfl (Nat.le_of_ble_eq_true rfl) ⟨Nat.le_of_ble_eq_true rfl, Nat.le_of_ble_eq_true rfl⟩ ⟨Nat.le_of_ble_eq_true rfl, Nat.le_of_ble_eq_true rfl⟩ (fun _ _ _ h => VT_no h) (fun v ad1 F1 hp => ?_)
      obtain ⟨rfl, rfl, hlk1, hf1⟩ := hp
      have hM := (hf1 0 (by omega)).trans hM
      have hla := (hf1 6 (by omega)).trans hla
      have hq1 := hq.kept (hf1 (14 + 2 * i) (by omega)) (hf1 (20 + 2 * i) (by omega))
      have hw1 := hw.kept (hf1 (15 + 2 * i) (by omega)) (hf1 (21 + 2 * i) (by omega))
      have hlk2 := hlk1
      unfold LinkAt at hlk2
      refine V_iload_n C dX6_sendParts_22 rfl ?_
      refine V_aload_n C dX6_sendParts_23 rfl ?_
      refine V_get C dX6_sendParts_24 fr_6_35 hM rfl ?_
      refine V_iload_n C dX6_sendParts_27 rfl ?_
      refine V_aald C dX6_sendParts_28 hla rfl rfl hi3 (by decide) ?_
      refine V_rf (r' := some (ad (11 + i))) (hfl i hi3) ?_
      refine V_aload_n C dX6_sendParts_29 rfl ?_
      refine V_get C dX6_sendParts_30 fr_6_46 hM rfl ?_
      refine V_invV C dX6_sendParts_33 hlk2 rfl (c_sendAll (11 + i) (14 + 2 * i) (20 + 2 * i) (15 + 2 * i) (21 + 2 * i) (nI (zUp t i)) (zWn t i) (nI (zNow t)) (zRw t (2 * i), zRw t (2 * i + 1), if zTk t i < 5 then zTk t i + 1 else zTk t i) (fun c => ad (30 + 3 * mOf c)) (fun c => nI (pOf c)) (fun c => nI (zPf t c)) (fun c => nI (zPt t c)) (fun c => nI (zPw t c)) ⟨hlk1, hq1, hw1⟩ (fun c hc => (hf1 c (by have := hpa c hc; omega)).trans (hpa c hc).2.2.2.2.2.2) (fun c hc => ⟨_, (hf1 c (by have := hpb c hc; omega)).trans (hpb c hc).2.2.2.2.2.2⟩) ⟨by omega, by omega, by omega, by omega⟩ (by omega) htg) mv_6_235 rfl (Nat.le_of_ble_eq_true rfl) ⟨Nat.le_of_ble_eq_true rfl, Nat.le_of_ble_eq_true rfl⟩ ⟨Nat.le_of_ble_eq_true rfl, Nat.le_of_ble_eq_true rfl⟩ (fun _ _ _ h => VT_no h) (fun v ad1 F2 hp => ?_)
      obtain ⟨rfl, rfl, ⟨g1, g2, g3⟩, hf2⟩ := hp
      refine V_iadd C dX6_sendParts_36 ?_
      refine V_nm (nI_add _ _) ?_
      refine V_istore_n C dX6_sendParts_37 (by decide) ?_
      refine V_iinc C dX6_sendParts_38 rfl (nI_inc _) (by decide) ?_
      refine V_goto (tgt := 4) C dX6_sendParts_41 (by decide) ?_
      refine V_sb (ih (i + 1) F2 (by omega) ?_ (fun c hc => ⟨rfl, (hf2 c (by simp; omega)).trans ((hf1 c (by omega)).trans (hK c hc).2)⟩)) ⟨rfl, by rw [hst]; rfl, rfl, trivial⟩
      rw [hst]
      exact hCG.lks hIG hi3 g1 g2 g3 (fun x hx => (hf2 x hx).trans (hf1 x (fun e => hx (by simp [e]))))
  refine V_sb (loop 3 0 F rfl hC FrK.rf) ⟨rfl, rfl, rfl, trivial⟩
def spPass (s : St) (a : Int32) : Ans := if a < 1 ∨ 200 < a then (1, 0, s) else (0, nI (pasN s a.toNatClampNeg).2, (pasN s a.toNatClampNeg).1)
theorem CRep.now {D : Dx} {ad : Nat → Nat} {F G : Fn} {s : St} {n : Nat} (hC : CRep D ad F s) (g : kMain ad G n (zMc s) (zRcp s).length) (hK : ∀ x, x ≠ 0 → G x = F x) : CRep D ad G (sNow s n) :=
  ⟨g, TxtK hC.2.1 (hK _ (by omega)) (hK _ (by omega)) (hK _ (by omega)), hC.2.2.1.kept (hK _ (by omega)), hC.2.2.2.1.kept (hK _ (by omega)), hC.2.2.2.2.1.kept (hK _ (by omega)), hC.2.2.2.2.2.1.kept (hK _ (by omega)) (hK _ (by omega)) (hK _ (by omega)) (hK _ (by omega)), hC.2.2.2.2.2.2.1.kept (fun l _ => hK _ (by omega)), hC.2.2.2.2.2.2.2.1.kept (fun r _ => ⟨hK _ (by omega), hK _ (by omega)⟩), hC.2.2.2.2.2.2.2.2.1.kept (fun m _ => ⟨hK _ (by omega), hK _ (by omega), hK _ (by omega)⟩), hC.2.2.2.2.2.2.2.2.2.1.kept (fun m _ p _ => hK _ (by omega)), hC.2.2.2.2.2.2.2.2.2.2.kept (fun c h1 _ h => (hK c (by omega)).trans h)⟩
set_option maxHeartbeats 400000 in
set_option maxRecDepth 100000 in
/-- pass -/
theorem c_pass {l : Launch} {D : Dx} {b0 : Nat} {ad : Nat → Nat} {F : Fn} (s : St) (a : Int32) (hC : CRep D ad F s) (hI : Inv s) (hb : zNow s ≤ 190000) : Ct l D b0 yX6_pass (wsA yX6_pass cX6_pass 4 (some .int)) (rX 6) [.ref (ad 0), .int a] ad F (PoS D ad F (spPass s a)) (PxS D ad F [eIAE] (spPass s a)) := by
  refine Ct.of (by decide +kernel) (by simp [Value.category]) (Nat.le_of_ble_eq_true rfl) (fun X eD eb el C Q => ?_)
  subst eD; subst eb; subst el
  have hM := hC.1
  have hmc := hI.2.1
  unfold kMain at hM
  refine V_iload_n C dX6_pass_0 rfl ?_
  refine V_iconst (v := 1) C dX6_pass_1 rfl ?_
  refine V_icmplt (tgt := 12) C dX6_pass_2 (by decide) (fun h1 => ?_) (fun h1 => ?_)
  · rw [show spPass s a = (1, 0, s) from if_pos (Or.inl h1)] at Q
    exact V_throwS C Q rfl (th_IAE 173 _ sw_173) dX6_pass_12 dX6_pass_15 dX6_pass_16 dX6_pass_18 dX6_pass_21 ⟨Nat.le_of_ble_eq_true rfl, Nat.le_of_ble_eq_true rfl⟩ (Nat.le_of_ble_eq_true rfl) (Nat.le_of_ble_eq_true rfl) ⟨⟨0, rfl, rfl⟩, hC, FrK.rf⟩
  · refine V_iload_n C dX6_pass_5 rfl ?_
    refine V_sipush (v := 200) C dX6_pass_6 (by decide) ?_
    refine V_icmple (tgt := 22) C dX6_pass_9 (by decide) (fun h2 => ?_) (fun h2 => ?_)
    · have hgd : ¬ (a < 1 ∨ 200 < a) := fun h => h.elim h1 (fun h => absurd h2 (Int32.not_le.mpr h))
      obtain ⟨n, hn, rfl⟩ := nI_of2 (n := 200) (M := 200) rfl (fun h => h1 (Int32.lt_trans h (by decide))) h2
      have en : (nI n).toNatClampNeg = n := nI_clamp (by omega)
      rw [show spPass s (nI n) = (0, nI (pasN s n).2, (pasN s n).1) by unfold spPass; rw [if_neg hgd, en]] at Q
      refine V_iconst (v := 0) C dX6_pass_22 rfl ?_
      refine V_istore_n C dX6_pass_23 (by decide) ?_
      refine V_iconst (v := 0) C dX6_pass_24 rfl ?_
      refine V_istore_n C dX6_pass_25 (by decide) ?_
      have loop : ∀ (d i : Nat) (G : Fn), i + d = n → CRep (xD X) ad G (pasN s i).1 → FrK ad F ad G → V X 0 0 26 [(0, .ref (ad 0)), (1, .int (nI n)), (2, .int (nI (pasN s i).2)), (3, .int (nI i))] [] ad G := by
        intro d
        induction d with
        | zero =>
          intro i G hd hCG hK
          have hi : i = n := by omega
          subst hi
          refine V_iload_n C dX6_pass_26 rfl ?_
          refine V_iload_n C dX6_pass_27 rfl ?_
          refine V_icmpge_t (tgt := 58) C dX6_pass_28 (by decide) (Int32.le_refl _) ?_
          refine V_iload_n C dX6_pass_58 rfl ?_
          exact V_ireturn C Q dX6_pass_59 rfl (Nat.le_of_ble_eq_true rfl) (Nat.le_of_ble_eq_true rfl) ⟨rfl, rfl, hCG, hK⟩
        | succ d ih =>
          intro i G hd hCG hK
          have hIG := inv_pas hI i (by omega)
          have hpn := pas_now s i
          have hpl := pas_le s i
          obtain ⟨t, ht⟩ : ∃ t, t = (pasN s i).1 := ⟨_, rfl⟩
          have hst : pasN s (i + 1) = ((tickS t).1, (pasN s i).2 + (tickS t).2) := by rw [ht]; rfl
          rw [← ht] at hCG hIG hpn
          have hM := hCG.1
          unfold kMain at hM
          have hl15 : (tickS t).2 ≤ 15 := lks_le _ 3
          refine V_iload_n C dX6_pass_26 rfl ?_
          refine V_iload_n C dX6_pass_27 rfl ?_
          refine V_icmpge_f (tgt := 58) C dX6_pass_28 (by decide) (nI_ge (by omega) (by omega)) ?_
          refine V_aload_n C dX6_pass_31 rfl ?_
          refine V_dup C dX6_pass_32 rfl ?_
          refine V_get C dX6_pass_33 fr_6_46 hM rfl ?_
          refine V_iconst (v := 1) C dX6_pass_36 rfl ?_
          refine V_iadd C dX6_pass_37 ?_
          refine V_nm (nI_1 _) ?_
          refine G_put C dX6_pass_38 fp_6_46 hM rfl rfl (Nat.le_of_ble_eq_true rfl) (fun F1 hM hfr => ?_)
          dsimp only [List.set] at hM
          have hC1 := hCG.now (n := zNow t + 1) hM hfr
          have hI1 := inv_now hIG (Nat.le_succ _) (by omega)
          have hf1 := hfr
          refine V_aload_n C dX6_pass_41 rfl ?_
          refine V_invV C dX6_pass_42 hM rfl (c_expire _ hC1 hI1) mv_6_175 rfl (Nat.le_of_ble_eq_true rfl) ⟨Nat.le_of_ble_eq_true rfl, Nat.le_of_ble_eq_true rfl⟩ ⟨Nat.le_of_ble_eq_true rfl, Nat.le_of_ble_eq_true rfl⟩ (fun _ _ _ h => VT_no h) (fun v ad1 F2 hp => ?_)
          obtain ⟨rfl, rfl, hC2, hK2⟩ := hp
          have hI2 := inv_exp hI1 _ (Nat.le_refl _)
          have hM := hC2.1
          unfold kMain at hM
          refine V_iload_n C dX6_pass_45 rfl ?_
          refine V_aload_n C dX6_pass_46 rfl ?_
          refine V_invV C dX6_pass_47 hM rfl (c_sendParts _ hC2 hI2) mv_6_178 rfl (Nat.le_of_ble_eq_true rfl) ⟨Nat.le_of_ble_eq_true rfl, Nat.le_of_ble_eq_true rfl⟩ ⟨Nat.le_of_ble_eq_true rfl, Nat.le_of_ble_eq_true rfl⟩ (fun _ _ _ h => VT_no h) (fun v ad1 F3 hp => ?_)
          obtain ⟨rfl, rfl, hC3, hK3⟩ := hp
          refine V_iadd C dX6_pass_50 ?_
          refine V_nm (w := nI (pasN s (i + 1)).2) (by rw [hst]; exact nI_add _ _) ?_
          refine V_istore_n C dX6_pass_51 (by decide) ?_
          refine V_iinc C dX6_pass_52 rfl (nI_inc _) (by decide) ?_
          refine V_goto (tgt := 26) C dX6_pass_55 (by decide) ?_
          refine V_sb (ih (i + 1) F3 (by omega) ?_ (fun c hc => ⟨rfl, (hK3 c hc).2.trans ((hK2 c hc).2.trans ((hf1 c (by omega)).trans (hK c hc).2))⟩)) ⟨rfl, rfl, rfl, rfl, trivial⟩
          rw [hst]
          exact hC3
      refine V_sb (loop n 0 F (by omega) hC FrK.rf) ⟨rfl, rfl, rfl, rfl, trivial⟩
    · rw [show spPass s a = (1, 0, s) from if_pos (Or.inr (Int32.not_le.mp h2))] at Q
      exact V_throwS C Q rfl (th_IAE 173 _ sw_173) dX6_pass_12 dX6_pass_15 dX6_pass_16 dX6_pass_18 dX6_pass_21 ⟨Nat.le_of_ble_eq_true rfl, Nat.le_of_ble_eq_true rfl⟩ (Nat.le_of_ble_eq_true rfl) (Nat.le_of_ble_eq_true rfl) ⟨⟨0, rfl, rfl⟩, hC, FrK.rf⟩
