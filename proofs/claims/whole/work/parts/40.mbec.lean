/-! ===== the model: acknowledge ===== -/
def puT (u : St) (c : Nat) : St := sPt u (va_up (zPt u) c (zNow u))
def stlM (u : St) (c o : Nat) : St :=
  if o = 0 then (if zLk (clS u c) (mOf c) = 0 then finS (clS u c) (mOf c) 1 else clS u c)
  else if o = 1 then (if zPf u c < 3 then puS (tmS (flS u c) c) c else finS u (mOf c) 2)
  else if o = 2 then puS (wtS (puT u c) c) c else finS u (mOf c) 2
def ackM (u : St) (lk o : Nat) : St := if zSt u (mOf ((zRw u (2 * lk + 1)).getD 0 0)) = 0 then stlM (rmS u lk) ((zRw u (2 * lk + 1)).getD 0 0) o else rmS u lk
def spAckM (u : St) (a o : Int32) : Ans := if a < 0 ∨ nI 3 ≤ a then (1, 0, u) else if o < 0 ∨ 3 < o then (2, 0, u) else if (zRw u (2 * a.toNatClampNeg + 1)).length = 0 then (3, 0, u) else
  (0, nI (10 * mOf ((zRw u (2 * a.toNatClampNeg + 1)).getD 0 0) + pOf ((zRw u (2 * a.toNatClampNeg + 1)).getD 0 0)), ackM u a.toNatClampNeg o.toNatClampNeg)
theorem sm0 (s : St) (c : Nat) (hz : ¬ zLk (clS s c) (mOf c) = 0) : stlM s c 0 = clS s c := by unfold stlM; rw [if_pos rfl, if_neg hz]
theorem sm0f (s : St) (c : Nat) (hz : zLk (clS s c) (mOf c) = 0) : stlM s c 0 = finS (clS s c) (mOf c) 1 := by unfold stlM; rw [if_pos rfl, if_pos hz]
theorem sm1 (s : St) (c : Nat) (hz : zPf s c < 3) : stlM s c 1 = puS (tmS (flS s c) c) c := by unfold stlM; rw [if_neg (by decide), if_pos rfl, if_pos hz]
theorem sm1f (s : St) (c : Nat) (hz : ¬ zPf s c < 3) : stlM s c 1 = finS s (mOf c) 2 := by unfold stlM; rw [if_neg (by decide), if_pos rfl, if_neg hz]
theorem sm2 (s : St) (c : Nat) : stlM s c 2 = puS (wtS (puT s c) c) c := by unfold stlM; rw [if_neg (by decide), if_neg (by decide), if_pos rfl]
theorem sm3 (s : St) (c : Nat) : stlM s c 3 = finS s (mOf c) 2 := by unfold stlM; rw [if_neg (by decide), if_neg (by decide), if_neg (by decide)]
theorem dl_clr {u : St} (hI : Inv u) {lk c : Nat} (hin : InRow u lk c) {f : Nat → Int32} (h : ∀ j, j < 200 → f j = dlF u j) : ∀ j, j < 200 → upd f (c - 100) 1 j = dlF (clS u c) j := fun j hj => by
  obtain ⟨h1, h2, h3, h4, h5, h6⟩ := inr_eq hI hin
  obtain ⟨h64, hn6⟩ := lk_64 hI h1
  have e0 : dlF (clS u c) j = if j / 10 < zMc u ∧ j % 10 < npL (zMs u (j / 10)) ∧ (va_up (zLk u) (mOf c) (clrB (zLk u (mOf c)) (pOf c)) (j / 10)).testBit (j % 10) = false then 1 else 0 := rfl
  rw [e0]
  by_cases e : j = c - 100
  · have e1 : j / 10 = mOf c := by omega
    have e2 : j % 10 = pOf c := by omega
    rw [e, pk_us, ← e, e1, e2, up_s, clr_ts _ h64 _ h3 _ h3]
    exact (if_pos ⟨h1, h2, by simp⟩).symm
  · rw [pk_un e, h j hj]
    unfold dlF
    by_cases e1 : j / 10 = mOf c
    · rw [e1, up_s]
      by_cases e3 : j % 10 < npL (zMs u (mOf c))
      · rw [clr_ts _ h64 _ h3 _ (by omega)]
        have e4 : decide (j % 10 ≠ pOf c) = true := decide_eq_true (by omega)
        rw [e4, Bool.true_and]
      · rw [if_neg (fun g => e3 g.2.1), if_neg (fun g => e3 g.2.1)]
    · rw [up_n e1]
theorem MRep.pu0 {D : Dx} {ad : Nat → Nat} {F G : Fn} {u : St} {th : Int32} {lk : Nat} {A : List Nat} {pt : Nat → Nat} (h : MRep D ad F u th) (hq : aN D G 315 3 3 (fun r => nI (va_up (fun r => zRw u (2 * r)) lk A r).length)) (hr : mRow D G 316 (va_up (fun r => zRw u (2 * r)) lk A)) (h11 : pN D G 311 (zMc u) (zMs u) pt) (h13 : pB D G 313 (zMc u) (zMs u) (zPw u)) (hK : ∀ x, x ∉ [311, 313, 315, 316] → G x = F x) : MRep D ad G (sRw (sPt u pt) (va_up (zRw u) (2 * lk) A)) th := by
  obtain ⟨k0, k1, k2, k3, k4, k5, k6, k7, k8, k9, k10, k11, k12, k13, k14, k15, k16, k17, k18, k19, k20, k21, k22⟩ := h
  exact ⟨k0.kept (hK _ (by decide)), k1.kept (hK _ (by decide)), fun m hm => (k2 m hm).kept (hK _ (by decide)), k3.imp fun f hf => (hK _ (by decide)).trans hf, k4.kept (hK _ (by decide)), k5.kept (hK _ (by decide)), k6.kept (hK _ (by decide)), k7.kept (hK _ (by decide)), k8.kept (hK _ (by decide)), h11, k10.kept (hK _ (by decide)), h13, k12.kept (hK _ (by decide)), hq.cg (fun r _ => by rw [vq]), hr.cg (fun r _ => vq), (k15.kept (hK _ (by decide))).cg (fun r _ => congrArg (fun L => nI (List.length L)) (up_n (by omega)).symm), (k16.kept (hK _ (by decide))).cg (fun r _ => (up_n (by omega)).symm), k17.kept (hK _ (by decide)), k18.kept (hK _ (by decide)), k19.kept (hK _ (by decide)), k20.kept (hK _ (by decide)), k21.kept (hK _ (by decide)), k22.kept (hK _ (by decide))⟩
theorem MRep.pu1 {D : Dx} {ad : Nat → Nat} {F G : Fn} {u : St} {th : Int32} {lk : Nat} {A : List Nat} {pt pw : Nat → Nat} (h : MRep D ad F u th) (hq : aN D G 315 3 3 (fun r => nI (va_up (fun r => zRw u (2 * r)) lk A r).length)) (hr : mRow D G 316 (va_up (fun r => zRw u (2 * r)) lk A)) (h11 : pN D G 311 (zMc u) (zMs u) pt) (h13 : pB D G 313 (zMc u) (zMs u) pw) (hK : ∀ x, x ∉ [311, 313, 315, 316] → G x = F x) : MRep D ad G (sRw (sPw (sPt u pt) pw) (va_up (zRw u) (2 * lk) A)) th := by
  obtain ⟨k0, k1, k2, k3, k4, k5, k6, k7, k8, k9, k10, k11, k12, k13, k14, k15, k16, k17, k18, k19, k20, k21, k22⟩ := h
  exact ⟨k0.kept (hK _ (by decide)), k1.kept (hK _ (by decide)), fun m hm => (k2 m hm).kept (hK _ (by decide)), k3.imp fun f hf => (hK _ (by decide)).trans hf, k4.kept (hK _ (by decide)), k5.kept (hK _ (by decide)), k6.kept (hK _ (by decide)), k7.kept (hK _ (by decide)), k8.kept (hK _ (by decide)), h11, k10.kept (hK _ (by decide)), h13, k12.kept (hK _ (by decide)), hq.cg (fun r _ => by rw [vq]), hr.cg (fun r _ => vq), (k15.kept (hK _ (by decide))).cg (fun r _ => congrArg (fun L => nI (List.length L)) (up_n (by omega)).symm), (k16.kept (hK _ (by decide))).cg (fun r _ => (up_n (by omega)).symm), k17.kept (hK _ (by decide)), k18.kept (hK _ (by decide)), k19.kept (hK _ (by decide)), k20.kept (hK _ (by decide)), k21.kept (hK _ (by decide)), k22.kept (hK _ (by decide))⟩
set_option maxHeartbeats 400000 in
set_option maxRecDepth 100000 in
/-- becomes -/
theorem m_becomes {l : Launch} {D : Dx} {b0 : Nat} {ad : Nat → Nat} {F : Fn} (u : St) (th : Int32) (c o : Nat) (hM0 : MRep D ad F u th) (hI : Inv u) (hL : Lon u c) (hf : zPf u c ≤ 3) (hpw : zPw u c = 0) (ho : o < 4) : Ct l D b0 yX7_becomes (wsA yX7_becomes cX7_becomes 5 none) (rK 6) [.ref (ad 300), .int (nI (c - 100)), .int (nI o)] ad F (fun v ad1 F1 => v = none ∧ ad = ad1 ∧ MRep D ad1 F1 (stlM u c o) th ∧ FrM ad F ad1 F1) noX := by
  refine Ct.of (by decide +kernel) (by simp [Value.category]) (Nat.le_of_ble_eq_true rfl) (fun X eD eb el C Q => ?_)
  subst eD; subst eb; subst el
  have hO := hM0.1
  have hM := hO
  unfold mObj at hM
  have hin := inr_eq hI hL.1
  have hmc := hI.2.1
  have hnw := hI.1
  have hrc9 := (hI.2.2.2.2.2.1 (mOf c) hin.1).2.2.2.1
  obtain ⟨f306, h306, g306⟩ := hM0.2.2.2.2.2.1
  obtain ⟨f311, h311, g311⟩ := hM0.2.2.2.2.2.2.2.2.2.1
  obtain ⟨f312, h312, g312⟩ := hM0.2.2.2.2.2.2.2.2.2.2.1
  obtain ⟨f313, h313, g313⟩ := hM0.2.2.2.2.2.2.2.2.2.2.2.1
  obtain ⟨f314, h314, g314⟩ := hM0.2.2.2.2.2.2.2.2.2.2.2.2.1
  obtain ⟨f315, h315, g315⟩ := hM0.2.2.2.2.2.2.2.2.2.2.2.2.2.1
  obtain ⟨f316, h316, g316⟩ := hM0.2.2.2.2.2.2.2.2.2.2.2.2.2.2.1
  obtain ⟨q, eq⟩ : ∃ q, q = zRc u (mOf c) % 3 := ⟨_, rfl⟩
  have hq : q < 3 := by omega
  have hcap := (row_200 hI).1 q hq
  have caps : ∀ r, r < 3 → ((fun r => zRw u (2 * r)) r).length ≤ 200 := fun r hr => Nat.le_trans ((row_200 hI).1 r hr) (by decide)
  have g312q : f312 (c - 100) = nI (zPf u c) := by
    have h := (g312 (c - 100) (by omega)).trans (if_pos (show (c - 100) / 10 < zMc u from hin.1))
    rw [show 100 + (c - 100) = c by omega] at h
    exact h
  refine V_iload_n C dX7_becomes_0 rfl ?_
  refine V_bipush (v := 10) C dX7_becomes_1 (by decide) ?_
  refine V_idiv C dX7_becomes_3 (by decide) ?_
  refine V_nm (show _ = nI (mOf c) from pk_div (a := c - 100) (d := 10) (by omega) (by decide) (by decide)) ?_
  refine V_istore_n C dX7_becomes_4 (by decide) ?_
  refine V_aload_n C dX7_becomes_5 rfl ?_
  refine V_get C dX7_becomes_6 fr_7_19 hM rfl ?_
  refine V_iload_n C dX7_becomes_9 rfl ?_
  refine V_iald C dX7_becomes_10 h306 rfl (show mOf c < 20 by omega) (by decide) ?_
  refine V_nm (g306 (mOf c) hin.1) ?_
  refine V_iconst (v := 3) C dX7_becomes_11 rfl ?_
  refine V_irem C dX7_becomes_12 (by decide) ?_
  refine V_nm (pk_rem (a := zRc u (mOf c)) (d := 3) (by omega) (by decide) (by decide)) ?_
  rw [← eq]
  refine V_istore C dX7_becomes_13 (by decide) ?_
  rcases (show o = 0 ∨ o = 1 ∨ o = 2 ∨ o = 3 by omega) with rfl | rfl | rfl | rfl
  · refine V_iload_n C dX7_becomes_15 rfl ?_
    refine V_ifne_f (tgt := 43) C dX7_becomes_16 (by decide) (by decide) ?_
    refine V_aload_n C dX7_becomes_19 rfl ?_
    refine V_get C dX7_becomes_20 fr_7_41 hM rfl ?_
    refine V_iload_n C dX7_becomes_23 rfl ?_
    refine V_iconst (v := 1) C dX7_becomes_24 rfl ?_
    refine G_zast C dX7_becomes_25 h314 rfl (show c - 100 < 200 by omega) (by decide) rfl (fun F1 h314 hfr => ?_)
    have hM := (hfr _ (by omega)).trans hM
    have hfr1 := hfr
    have hz : MRep (xD X) ad F1 (clS u c) th := hM0.lk ⟨_, h314, dl_clr hI hL.1 g314⟩ hfr
    have hI1 := inv_cl hI hL
    refine V_aload_n C dX7_becomes_26 rfl ?_
    refine V_iload_n C dX7_becomes_27 rfl ?_
    refine V_invV C dX7_becomes_28 hM rfl (m_lacks (clS u c) th (mOf c) hz hI1 hin.1) mv_7_140 rfl (Nat.le_of_ble_eq_true rfl) ⟨Nat.le_of_ble_eq_true rfl, Nat.le_of_ble_eq_true rfl⟩ ⟨Nat.le_of_ble_eq_true rfl, Nat.le_of_ble_eq_true rfl⟩ (fun _ _ _ h => VT_no h) (fun v ad1 F1 hp => ?_)
    obtain ⟨rfl, rfl, rfl⟩ := hp
    refine V_ifne (tgt := 118) C dX7_becomes_31 (by decide) (fun h2 => ?_) (fun h2 => ?_)
    · rw [sm0 u c (fun e => h2 (by rw [e]; rfl))] at Q
      exact V_return C Q dX7_becomes_118 (Nat.le_of_ble_eq_true rfl) (Nat.le_of_ble_eq_true rfl) ⟨rfl, rfl, hz, fun c hc => ⟨rfl, hfr1 c (by omega)⟩⟩
    · have h64 := (lk_64 hI1 (m := mOf c) hin.1).1
      rw [sm0f u c ((nI_eq (b := 0) (by omega) (by decide)).mp h2)] at Q
      refine V_aload_n C dX7_becomes_34 rfl ?_
      refine V_iload_n C dX7_becomes_35 rfl ?_
      refine V_iconst (v := 1) C dX7_becomes_36 rfl ?_
      refine V_nm (show (1 : Int32) = nI 1 from rfl) ?_
      refine V_invV C dX7_becomes_37 hM rfl (m_ends (clS u c) th (mOf c) 1 hz hI1 hin.1 hL.2.1 (by decide)) mv_7_149 rfl (Nat.le_of_ble_eq_true rfl) ⟨Nat.le_of_ble_eq_true rfl, Nat.le_of_ble_eq_true rfl⟩ ⟨Nat.le_of_ble_eq_true rfl, Nat.le_of_ble_eq_true rfl⟩ (fun _ _ _ h => VT_no h) (fun v ad1 F2 hp => ?_)
      obtain ⟨rfl, rfl, hz2, hfM⟩ := hp
      refine V_goto (tgt := 118) C dX7_becomes_40 (by decide) ?_
      exact V_return C Q dX7_becomes_118 (Nat.le_of_ble_eq_true rfl) (Nat.le_of_ble_eq_true rfl) ⟨rfl, rfl, hz2, fun c hc => ⟨rfl, (hfM c hc).2.trans (hfr1 c (by omega))⟩⟩
  · refine V_iload_n C dX7_becomes_15 rfl ?_
    refine V_ifne_t (tgt := 43) C dX7_becomes_16 (by decide) (by decide) ?_
    refine V_iload_n C dX7_becomes_43 rfl ?_
    refine V_iconst (v := 1) C dX7_becomes_44 rfl ?_
    refine V_icmpne_f (tgt := 92) C dX7_becomes_45 (by decide) (by decide) ?_
    refine V_aload_n C dX7_becomes_48 rfl ?_
    refine V_get C dX7_becomes_49 fr_7_34 hM rfl ?_
    refine V_iload_n C dX7_becomes_52 rfl ?_
    refine V_iald C dX7_becomes_53 h312 rfl (show c - 100 < 200 by omega) (by decide) ?_
    refine V_nm g312q ?_
    refine V_iconst (v := 3) C dX7_becomes_54 rfl ?_
    refine V_icmpge (tgt := 92) C dX7_becomes_55 (by decide) (fun h2 => ?_) (fun h2 => ?_)
    · rw [sm1f u c (fun h => nI_ge (a := zPf u c) (b := 3) h (by decide) h2)] at Q
      refine V_iload_n C dX7_becomes_92 rfl ?_
      refine V_iconst (v := 2) C dX7_becomes_93 rfl ?_
      refine V_icmpne_t (tgt := 112) C dX7_becomes_94 (by decide) (by decide) ?_
      refine V_aload_n C dX7_becomes_112 rfl ?_
      refine V_iload_n C dX7_becomes_113 rfl ?_
      refine V_iconst (v := 2) C dX7_becomes_114 rfl ?_
      refine V_nm (show (2 : Int32) = nI 2 from rfl) ?_
      refine V_invV C dX7_becomes_115 hM rfl (m_ends u th (mOf c) 2 hM0 hI hin.1 hL.2.1 (by decide)) mv_7_149 rfl (Nat.le_of_ble_eq_true rfl) ⟨Nat.le_of_ble_eq_true rfl, Nat.le_of_ble_eq_true rfl⟩ ⟨Nat.le_of_ble_eq_true rfl, Nat.le_of_ble_eq_true rfl⟩ (fun _ _ _ h => VT_no h) (fun v ad1 F1 hp => ?_)
      obtain ⟨rfl, rfl, hz2, hfM⟩ := hp
      exact V_return C Q dX7_becomes_118 (Nat.le_of_ble_eq_true rfl) (Nat.le_of_ble_eq_true rfl) ⟨rfl, rfl, hz2, hfM⟩
    · have hf3 : zPf u c < 3 := Nat.lt_of_not_le (fun h => h2 (nI_le (a := 3) h (by omega)))
      rw [sm1 u c hf3] at Q
      refine V_aload_n C dX7_becomes_58 rfl ?_
      refine V_get C dX7_becomes_59 fr_7_34 hM rfl ?_
      refine V_iload_n C dX7_becomes_62 rfl ?_
      refine V_dup2 C dX7_becomes_63 rfl rfl ?_
      refine V_iald C dX7_becomes_64 h312 rfl (show c - 100 < 200 by omega) (by decide) ?_
      refine V_nm g312q ?_
      refine V_iconst (v := 1) C dX7_becomes_65 rfl ?_
      refine V_iadd C dX7_becomes_66 ?_
      refine V_nm (nI_1 _) ?_
      refine G_iast C dX7_becomes_67 h312 rfl (show c - 100 < 200 by omega) (by decide) (fun F1 h312 hfr => ?_)
      have hM := (hfr _ (by omega)).trans hM
      have h311 := (hfr _ (by omega)).trans h311
      have h313 := (hfr _ (by omega)).trans h313
      have h315 := (hfr _ (by omega)).trans h315
      have h316 := (hfr _ (by omega)).trans h316
      have hfr1 := hfr
      have hz1 : MRep (xD X) ad F1 (flS u c) th := hM0.pf (pf := va_up (zPf u) c (zPf u c + 1)) ⟨_, h312, fun j hj => by
        show _ = if j / 10 < zMc u then nI (va_up (zPf u) c (zPf u c + 1) (100 + j)) else 0
        by_cases e : j = c - 100
        · rw [e, pk_us, if_pos (show (c - 100) / 10 < zMc u from hin.1), show 100 + (c - 100) = c by omega, up_s]
        · rw [pk_un e, up_n (by omega)]; exact g312 j hj⟩ hfr1
      refine V_aload_n C dX7_becomes_68 rfl ?_
      refine V_iload C dX7_becomes_69 rfl ?_
      refine V_iload_n C dX7_becomes_71 rfl ?_
      refine V_aload_n C dX7_becomes_72 rfl ?_
      refine V_get C dX7_becomes_73 fr_7_127 hM rfl ?_
      refine V_iconst (v := 1) C dX7_becomes_76 rfl ?_
      refine V_aload_n C dX7_becomes_77 rfl ?_
      refine V_get C dX7_becomes_78 fr_7_34 hM rfl ?_
      refine V_iload_n C dX7_becomes_81 rfl ?_
      refine V_iald C dX7_becomes_82 h312 rfl (show c - 100 < 200 by omega) (by decide) ?_
      refine V_nm pk_us ?_
      refine V_ishl C dX7_becomes_83 ?_
      refine V_nm (shl_ok (zPf u c + 1) (by omega)) ?_
      refine V_iadd C dX7_becomes_84 ?_
      refine V_nm (nI_add _ _) ?_
      refine V_iconst (v := 0) C dX7_becomes_85 rfl ?_
      refine V_nm (show (0 : Int32) = nI 0 from rfl) ?_
      refine V_invV C dX7_becomes_86 hM rfl (m_puts _ _ _ _ _ q (zRw u (2 * q)).length (c - 100) (zNow u + 2 ^ (zPf u c + 1)) 0 f315 f316 f311 f313 hM h315 h316 h311 h313 (g315 q hq) hq (by omega) (by omega) (by decide)) mv_7_133 rfl (Nat.le_of_ble_eq_true rfl) ⟨Nat.le_of_ble_eq_true rfl, Nat.le_of_ble_eq_true rfl⟩ ⟨Nat.le_of_ble_eq_true rfl, Nat.le_of_ble_eq_true rfl⟩ (fun _ _ _ h => VT_no h) (fun v ad1 F2 hp => ?_)
      obtain ⟨rfl, rfl, h315, h316, h311, h313, hK⟩ := hp
      have hz2 := hz1.pu0 (G := F2) (lk := q) (A := zRw u (2 * q) ++ [c]) (pt := va_up (zPt u) c (zNow u + 2 ^ (zPf u c + 1))) ⟨_, h315, fun r hr => by have h := rw_len (A := zRw u (2 * q) ++ [c]) (l := q) g315 r hr; rw [List.length_append] at h; exact h⟩ ⟨_, h316, rw_row g316 caps (fun j hj => by
            rw [List.length_append] at hj
            simp only [List.length_cons, List.length_nil] at hj
            rw [getD_app]
            by_cases e : j = (zRw u (2 * q)).length
            · rw [e, pk_us, if_pos rfl]
            · rw [pk_un (by omega), if_neg e]; exact g316 q hq j (by show j < (zRw u (2 * q)).length; omega)) (fun x hx => pk_un (by omega))⟩ ⟨_, h311, pN_upd g311 (by omega)⟩ ⟨_, h313, fun m hm p hp => by
          show _ = nI (zPw u (100 + 10 * m + p))
          by_cases e : 10 * m + p = c - 100
          · rw [e, pk_us, show 100 + 10 * m + p = c by omega, hpw]
          · rw [pk_un e]; exact g313 m hm p hp⟩ hK
      have hz3 : MRep (xD X) ad F2 (puS (tmS (flS u c) c) c) th := by
        have e1 : puS (tmS (flS u c) c) c = sRw (tmS (flS u c) c) (va_up (zRw u) (2 * (zRc u (mOf c) % 3)) (zRw u (2 * (zRc u (mOf c) % 3)) ++ [c])) := by unfold puS; exact Eq.refl _
        have e2 : tmS (flS u c) c = sPt (flS u c) (va_up (zPt u) c (zNow u + 2 ^ (zPf u c + 1))) := by
          unfold tmS
          rw [fl_pf]
          exact Eq.refl _
        rw [e1, e2, ← eq]
        exact hz2
      refine V_goto (tgt := 118) C dX7_becomes_89 (by decide) ?_
      exact V_return C Q dX7_becomes_118 (Nat.le_of_ble_eq_true rfl) (Nat.le_of_ble_eq_true rfl) ⟨rfl, rfl, hz3, fun c hc => ⟨rfl, (hK c (by simp; omega)).trans (hfr1 c (by omega))⟩⟩
  · rw [sm2 u c] at Q
    refine V_iload_n C dX7_becomes_15 rfl ?_
    refine V_ifne_t (tgt := 43) C dX7_becomes_16 (by decide) (by decide) ?_
    refine V_iload_n C dX7_becomes_43 rfl ?_
    refine V_iconst (v := 1) C dX7_becomes_44 rfl ?_
    refine V_icmpne_t (tgt := 92) C dX7_becomes_45 (by decide) (by decide) ?_
    refine V_iload_n C dX7_becomes_92 rfl ?_
    refine V_iconst (v := 2) C dX7_becomes_93 rfl ?_
    refine V_icmpne_f (tgt := 112) C dX7_becomes_94 (by decide) (by decide) ?_
    refine V_aload_n C dX7_becomes_97 rfl ?_
    refine V_iload C dX7_becomes_98 rfl ?_
    refine V_iload_n C dX7_becomes_100 rfl ?_
    refine V_aload_n C dX7_becomes_101 rfl ?_
    refine V_get C dX7_becomes_102 fr_7_127 hM rfl ?_
    refine V_iconst (v := 1) C dX7_becomes_105 rfl ?_
    refine V_nm (show (1 : Int32) = nI 1 from rfl) ?_
    refine V_invV C dX7_becomes_106 hM rfl (m_puts _ _ _ _ _ q (zRw u (2 * q)).length (c - 100) (zNow u) 1 f315 f316 f311 f313 hM h315 h316 h311 h313 (g315 q hq) hq (by omega) (by omega) (by decide)) mv_7_133 rfl (Nat.le_of_ble_eq_true rfl) ⟨Nat.le_of_ble_eq_true rfl, Nat.le_of_ble_eq_true rfl⟩ ⟨Nat.le_of_ble_eq_true rfl, Nat.le_of_ble_eq_true rfl⟩ (fun _ _ _ h => VT_no h) (fun v ad1 F1 hp => ?_)
    obtain ⟨rfl, rfl, h315, h316, h311, h313, hK⟩ := hp
    have hz2 := hM0.pu1 (G := F1) (lk := q) (A := zRw u (2 * q) ++ [c]) (pt := va_up (zPt u) c (zNow u)) (pw := va_up (zPw u) c 1) ⟨_, h315, fun r hr => by have h := rw_len (A := zRw u (2 * q) ++ [c]) (l := q) g315 r hr; rw [List.length_append] at h; exact h⟩ ⟨_, h316, rw_row g316 caps (fun j hj => by
          rw [List.length_append] at hj
          simp only [List.length_cons, List.length_nil] at hj
          rw [getD_app]
          by_cases e : j = (zRw u (2 * q)).length
          · rw [e, pk_us, if_pos rfl]
          · rw [pk_un (by omega), if_neg e]; exact g316 q hq j (by show j < (zRw u (2 * q)).length; omega)) (fun x hx => pk_un (by omega))⟩ ⟨_, h311, pN_upd g311 (by omega)⟩ ⟨_, h313, pN_upd g313 (by omega)⟩ hK
    have hz3 : MRep (xD X) ad F1 (puS (wtS (puT u c) c) c) th := by
      have e1 : puS (wtS (puT u c) c) c = sRw (sPw (sPt u (va_up (zPt u) c (zNow u))) (va_up (zPw u) c 1)) (va_up (zRw u) (2 * (zRc u (mOf c) % 3)) (zRw u (2 * (zRc u (mOf c) % 3)) ++ [c])) := by unfold puS wtS puT; exact Eq.refl _
      rw [e1, ← eq]
      exact hz2
    refine V_goto (tgt := 118) C dX7_becomes_109 (by decide) ?_
    exact V_return C Q dX7_becomes_118 (Nat.le_of_ble_eq_true rfl) (Nat.le_of_ble_eq_true rfl) ⟨rfl, rfl, hz3, fun c hc => ⟨rfl, hK c (by simp; omega)⟩⟩
  · rw [sm3 u c] at Q
    refine V_iload_n C dX7_becomes_15 rfl ?_
    refine V_ifne_t (tgt := 43) C dX7_becomes_16 (by decide) (by decide) ?_
    refine V_iload_n C dX7_becomes_43 rfl ?_
    refine V_iconst (v := 1) C dX7_becomes_44 rfl ?_
    refine V_icmpne_t (tgt := 92) C dX7_becomes_45 (by decide) (by decide) ?_
    refine V_iload_n C dX7_becomes_92 rfl ?_
    refine V_iconst (v := 2) C dX7_becomes_93 rfl ?_
    refine V_icmpne_t (tgt := 112) C dX7_becomes_94 (by decide) (by decide) ?_
    refine V_aload_n C dX7_becomes_112 rfl ?_
    refine V_iload_n C dX7_becomes_113 rfl ?_
    refine V_iconst (v := 2) C dX7_becomes_114 rfl ?_
    refine V_nm (show (2 : Int32) = nI 2 from rfl) ?_
    refine V_invV C dX7_becomes_115 hM rfl (m_ends u th (mOf c) 2 hM0 hI hin.1 hL.2.1 (by decide)) mv_7_149 rfl (Nat.le_of_ble_eq_true rfl) ⟨Nat.le_of_ble_eq_true rfl, Nat.le_of_ble_eq_true rfl⟩ ⟨Nat.le_of_ble_eq_true rfl, Nat.le_of_ble_eq_true rfl⟩ (fun _ _ _ h => VT_no h) (fun v ad1 F1 hp => ?_)
    obtain ⟨rfl, rfl, hz2, hfM⟩ := hp
    exact V_return C Q dX7_becomes_118 (Nat.le_of_ble_eq_true rfl) (Nat.le_of_ble_eq_true rfl) ⟨rfl, rfl, hz2, hfM⟩
