/-! ===== the model: toggleLink, alert ===== -/
theorem pN_upd {f : Nat → Int32} {g : Nat → Nat} {mc c v : Nat} {ms : Nat → List Nat} (h : ∀ m, m < mc → ∀ p, p < npL (ms m) → f (10 * m + p) = nI (g (100 + 10 * m + p))) (hc : 100 ≤ c) : ∀ m, m < mc → ∀ p, p < npL (ms m) → upd f (c - 100) (nI v) (10 * m + p) = nI (va_up g c v (100 + 10 * m + p)) := fun m hm p hp => by
  by_cases e : 10 * m + p = c - 100
  · rw [e, pk_us, show 100 + 10 * m + p = c by omega, up_s]
  · rw [pk_un e, up_n (by omega)]; exact h m hm p hp
theorem upZ {f : Nat → Int32} {up : Nat → Nat} {n j y : Nat} {v : Int32} (h : ∀ r, r < n → f r = if up r = 0 then 1 else 0) (hv : v = if y = 0 then 1 else 0) : ∀ r, r < n → upd f j v r = if va_up up j y r = 0 then 1 else 0 := fun r hr => by
  by_cases e : r = j
  · rw [e, pk_us, up_s, hv]
  · rw [pk_un e, up_n e]; exact h r hr
theorem sRP (s : St) (r : Nat → List Nat) (p : Nat → Nat) : sRw (sPt s p) r = sPt (sRw s r) p := rfl
theorem sRR (s : St) (r r' : Nat → List Nat) : sRw (sRw s r) r' = sRw s r' := rfl
theorem sPP (s : St) (p p' : Nat → Nat) : sPt (sPt s p) p' = sPt s p' := rfl
theorem sRw_id (s : St) : sRw s (zRw s) = s := rfl
theorem sPt_id (s : St) : sPt s (zPt s) = s := rfl
theorem sPw_id (s : St) : sPw s (zPw s) = s := rfl
theorem sR_put (s : St) (r r' : Nat → List Nat) (p : Nat → Nat) : sRw (sPt (sRw s r) p) r' = sPt (sRw s r') p := (sRP (sRw s r) r' p).trans (congrArg (fun z => sPt z p) (sRR s r r'))
theorem sP_put (s : St) (r r' : Nat → List Nat) (p p' : Nat → Nat) : sPt (sRw (sPt (sRw s r) p) r') p' = sPt (sRw s r') p' := (congrArg (fun z => sPt z p') (sR_put s r r' p)).trans (sPP (sRw s r') p p')
theorem dn_alg {w U : St} {A A2 R2 : Nat → List Nat} {P P2 : Nat → Nat} (e4 : w = sPt (sRw U A) P) (e3 : R2 = A2) : sPt (sRw U A2) P2 = sPt (sRw w R2) P2 := by
  subst e3
  subst e4
  exact (sP_put U A R2 P P2).symm
theorem dn_alg2 {U : St} {A : Nat → List Nat} {P : Nat → Nat} (h1 : A = zRw U) (h2 : P = zPt U) : sPt (sRw U A) P = U := by
  subst h1
  subst h2
  exact sPt_id U
/-- the sent from k on have gone back -/
def dnK (u : St) (lk k : Nat) : St := sPt (sRw (sUp u (va_up (zUp u) lk 0)) (va_up (zRw u) (2 * lk) (((zRw u (2 * lk + 1)).drop k).filter (fun c => decide (zSt u (mOf c) = 0)) ++ zRw u (2 * lk)))) (fun c => if c ∈ (zRw u (2 * lk + 1)).drop k ∧ zSt u (mOf c) = 0 then zNow u else zPt u c)
theorem dn_row (u : St) (lk k : Nat) : zRw (dnK u lk k) (2 * lk) = ((zRw u (2 * lk + 1)).drop k).filter (fun c => decide (zSt u (mOf c) = 0)) ++ zRw u (2 * lk) := up_s
theorem dn_oth (u : St) (lk k : Nat) {r : Nat} (h : r ≠ 2 * lk) : zRw (dnK u lk k) r = zRw u r := up_n h
theorem drop_getD {L : List Nat} {k : Nat} (h : k < L.length) : L.drop k = L.getD k 0 :: L.drop (k + 1) := by
  rw [List.drop_eq_getElem_cons h, List.getD_eq_getElem?_getD, List.getElem?_eq_getElem h]
  rfl
theorem dn_skip {u : St} {lk k c : Nat} (hk : k < (zRw u (2 * lk + 1)).length) (ec : c = (zRw u (2 * lk + 1)).getD k 0) (h : ¬ zSt u (mOf c) = 0) : dnK u lk k = dnK u lk (k + 1) := by
  have e1 : ((zRw u (2 * lk + 1)).drop k).filter (fun c => decide (zSt u (mOf c) = 0)) = ((zRw u (2 * lk + 1)).drop (k + 1)).filter (fun c => decide (zSt u (mOf c) = 0)) := by
    rw [drop_getD hk, ← ec, List.filter_cons_of_neg (by simp [h])]
  have e2 : (fun c => if c ∈ (zRw u (2 * lk + 1)).drop k ∧ zSt u (mOf c) = 0 then zNow u else zPt u c) = (fun c => if c ∈ (zRw u (2 * lk + 1)).drop (k + 1) ∧ zSt u (mOf c) = 0 then zNow u else zPt u c) := by
    funext x
    rw [drop_getD hk, ← ec]
    by_cases e : x = c
    · subst e; rw [if_neg (fun g => h g.2), if_neg (fun g => h g.2)]
    · simp only [List.mem_cons, e, false_or]
  unfold dnK
  rw [e1, e2]
theorem dn_put {u : St} {lk k c : Nat} (hk : k < (zRw u (2 * lk + 1)).length) (ec : c = (zRw u (2 * lk + 1)).getD k 0) (h : zSt u (mOf c) = 0) : dnK u lk k = sPt (sRw (dnK u lk (k + 1)) (va_up (zRw (dnK u lk (k + 1))) (2 * lk) (c :: zRw (dnK u lk (k + 1)) (2 * lk)))) (va_up (zPt (dnK u lk (k + 1))) c (zNow u)) := by
  have e1 : ((zRw u (2 * lk + 1)).drop k).filter (fun c => decide (zSt u (mOf c) = 0)) = c :: ((zRw u (2 * lk + 1)).drop (k + 1)).filter (fun c => decide (zSt u (mOf c) = 0)) := by
    rw [drop_getD hk, ← ec, List.filter_cons_of_pos (by simp [h])]
  have e2 : (fun c => if c ∈ (zRw u (2 * lk + 1)).drop k ∧ zSt u (mOf c) = 0 then zNow u else zPt u c) = va_up (zPt (dnK u lk (k + 1))) c (zNow u) := by
    funext x
    rw [drop_getD hk, ← ec]
    by_cases e : x = c
    · subst e; rw [up_s, if_pos ⟨List.mem_cons_self, h⟩]
    · rw [up_n e]
      show _ = if x ∈ (zRw u (2 * lk + 1)).drop (k + 1) ∧ zSt u (mOf x) = 0 then zNow u else zPt u x
      simp only [List.mem_cons, e, false_or]
  have e3 : va_up (zRw (dnK u lk (k + 1))) (2 * lk) (c :: zRw (dnK u lk (k + 1)) (2 * lk)) = va_up (zRw u) (2 * lk) (c :: (((zRw u (2 * lk + 1)).drop (k + 1)).filter (fun c => decide (zSt u (mOf c) = 0)) ++ zRw u (2 * lk))) := by
    rw [dn_row]
    exact bx_uu _ _ _ _
  have e4 : dnK u lk (k + 1) = sPt (sRw (sUp u (va_up (zUp u) lk 0)) (va_up (zRw u) (2 * lk) (((zRw u (2 * lk + 1)).drop (k + 1)).filter (fun c => decide (zSt u (mOf c) = 0)) ++ zRw u (2 * lk)))) (fun c => if c ∈ (zRw u (2 * lk + 1)).drop (k + 1) ∧ zSt u (mOf c) = 0 then zNow u else zPt u c) := by unfold dnK; exact Eq.refl _
  have e5 : dnK u lk k = sPt (sRw (sUp u (va_up (zUp u) lk 0)) (va_up (zRw u) (2 * lk) (c :: (((zRw u (2 * lk + 1)).drop (k + 1)).filter (fun c => decide (zSt u (mOf c) = 0)) ++ zRw u (2 * lk))))) (va_up (zPt (dnK u lk (k + 1))) c (zNow u)) := by
    conv => lhs; unfold dnK
    rw [e1, e2]
    exact Eq.refl _
  exact e5.trans (dn_alg e4 e3)
theorem dn_cap {u : St} (hI : Inv u) {lk k : Nat} (hl : lk < 3) : (zRw (dnK u lk k) (2 * lk)).length ≤ 120 ∧ ∀ r, r < 3 → (zRw (dnK u lk k) (2 * r)).length ≤ 200 := by
  have h1 : (zRw (dnK u lk k) (2 * lk)).length ≤ 120 := by
    rw [dn_row, List.length_append]
    have h2 := List.length_filter_le (fun c => decide (zSt u (mOf c) = 0)) ((zRw u (2 * lk + 1)).drop k)
    rw [List.length_drop] at h2
    have := row_cap hI hl
    omega
  refine ⟨h1, fun r hr => ?_⟩
  by_cases e : r = lk
  · rw [e]; omega
  · rw [dn_oth u lk k (by omega)]; exact Nat.le_trans ((row_200 hI).1 r hr) (by decide)
theorem dn_end (u : St) (lk : Nat) : sRw (dnK u lk 0) (va_up (zRw (dnK u lk 0)) (2 * lk + 1) []) = downS u lk := by
  have e4 : dnK u lk 0 = sPt (sRw (sUp u (va_up (zUp u) lk 0)) (va_up (zRw u) (2 * lk) ((zRw u (2 * lk + 1)).filter (fun c => decide (zSt u (mOf c) = 0)) ++ zRw u (2 * lk)))) (fun c => if c ∈ zRw u (2 * lk + 1) ∧ zSt u (mOf c) = 0 then zNow u else zPt u c) := by unfold dnK; exact Eq.refl _
  have e6 : zRw (dnK u lk 0) = va_up (zRw u) (2 * lk) ((zRw u (2 * lk + 1)).filter (fun c => decide (zSt u (mOf c) = 0)) ++ zRw u (2 * lk)) := by unfold dnK; exact Eq.refl _
  rw [e6, e4, sR_put]
  unfold downS
  exact Eq.refl _
theorem dn_beg {u : St} {lk : Nat} : dnK u lk (zRw u (2 * lk + 1)).length = sUp u (va_up (zUp u) lk 0) := by
  unfold dnK
  refine dn_alg2 ?_ ?_
  · rw [List.drop_length]
    funext r
    show va_up (zRw u) (2 * lk) _ r = zRw u r
    by_cases h : r = 2 * lk
    · subst h; rw [up_s]; rfl
    · rw [up_n h]
  · rw [List.drop_length]
    funext c
    show (if c ∈ ([] : List Nat) ∧ zSt u (mOf c) = 0 then zNow u else zPt u c) = zPt u c
    rw [if_neg (fun h => List.not_mem_nil h.1)]
set_option maxHeartbeats 400000 in
set_option maxRecDepth 100000 in
/-- toggleLink -/
theorem m_toggleLink {l : Launch} {D : Dx} {b0 : Nat} {ad : Nat → Nat} {F : Fn} (u : St) (th : Int32) (a : Int32) (hM0 : MRep D ad F u th) (hI : Inv u) : Ct l D b0 yX7_toggleLink (wsA yX7_toggleLink cX7_toggleLink 5 (some .boolean)) (rK 2) [.ref (ad 300), .int a] ad F (PoM D ad F (spTog u a)) noX := by
  refine Ct.of (by decide +kernel) (by simp [Value.category]) (Nat.le_of_ble_eq_true rfl) (fun X eD eb el C Q => ?_)
  subst eD; subst eb; subst el
  have hO := hM0.1
  have hM := hO
  unfold mObj at hM
  refine V_aload_n C dX7_toggleLink_0 rfl ?_
  refine V_iload_n C dX7_toggleLink_1 rfl ?_
  refine V_invS C dX7_toggleLink_2 (m_isLink a) ms_7_156 rfl (Nat.le_of_ble_eq_true rfl) ⟨Nat.le_of_ble_eq_true rfl, Nat.le_of_ble_eq_true rfl⟩ ⟨Nat.le_of_ble_eq_true rfl, Nat.le_of_ble_eq_true rfl⟩ (fun _ _ _ h => VT_no h) (fun v ad1 F1 hp => ?_)
  obtain ⟨rfl, rfl, rfl⟩ := hp
  rw [isB_n 3 (by decide) (by decide)]
  refine V_ifeq (tgt := 12) C dX7_toggleLink_5 (by decide) (fun h1 => ?_) (fun h1 => ?_)
  · rw [show spTog u a = (1, 0, u) from if_pos (ite01 h1)] at Q
    refine V_iconst (v := 1) C dX7_toggleLink_12 rfl ?_
    refine V_invV C dX7_toggleLink_13 hM rfl (m_fails _ _ _ _ _ _ hO) mv_7_101 rfl (Nat.le_of_ble_eq_true rfl) ⟨Nat.le_of_ble_eq_true rfl, Nat.le_of_ble_eq_true rfl⟩ ⟨Nat.le_of_ble_eq_true rfl, Nat.le_of_ble_eq_true rfl⟩ (fun _ _ _ h => VT_no h) (fun v ad1 F1 hp => ?_)
    obtain ⟨rfl, rfl, hO1, hfr⟩ := hp
    refine V_ifeq_f (tgt := 21) C dX7_toggleLink_16 (by decide) (by decide) ?_
    refine V_iconst (v := 0) C dX7_toggleLink_19 rfl ?_
    exact V_ireturn C Q dX7_toggleLink_20 rfl (Nat.le_of_ble_eq_true rfl) (Nat.le_of_ble_eq_true rfl) ⟨rfl, rfl, hM0.th hO1 hfr, fun c hc => ⟨rfl, hfr c (by omega)⟩⟩
  · have hb := ite01n h1
    obtain ⟨j, hj, rfl⟩ := badI_not (a := a) (n := 3) (by omega) hb
    have ej : (nI j).toNatClampNeg = j := nI_clamp (by omega)
    have eo : spTog u (nI j) = if zUp u j = 0 then (0, 1, sUp u (va_up (zUp u) j 1)) else (0, 0, downS u j) := by unfold spTog; rw [if_neg hb, ej]
    rw [eo] at Q
    have h7 := hI.2.2.2.2.2.2.1 j hj
    refine V_iconst (v := 0) C dX7_toggleLink_8 rfl ?_
    refine V_goto (tgt := 13) C dX7_toggleLink_9 (by decide) ?_
    refine V_invV C dX7_toggleLink_13 hM rfl (m_fails _ _ _ _ _ _ hO) mv_7_101 rfl (Nat.le_of_ble_eq_true rfl) ⟨Nat.le_of_ble_eq_true rfl, Nat.le_of_ble_eq_true rfl⟩ ⟨Nat.le_of_ble_eq_true rfl, Nat.le_of_ble_eq_true rfl⟩ (fun _ _ _ h => VT_no h) (fun v ad1 F1 hp => ?_)
    obtain ⟨rfl, rfl, hO1, hfr⟩ := hp
    have hA : MRep (xD X) ad F1 u 0 := hM0.th hO1 hfr
    have hfrA := hfr
    have hM := hO1
    unfold mObj at hM
    refine V_ifeq_t (tgt := 21) C dX7_toggleLink_16 (by decide) (by decide) ?_
    obtain ⟨f317, h317, g317⟩ := hA.2.2.2.2.2.2.2.2.2.2.2.2.2.2.2.1
    obtain ⟨f319, h319, g319⟩ := hA.2.2.2.2.2.2.2.2.2.2.2.2.2.2.2.2.2.1
    refine V_aload_n C dX7_toggleLink_21 rfl ?_
    refine V_get C dX7_toggleLink_22 fr_7_56 hM rfl ?_
    refine V_iload_n C dX7_toggleLink_25 rfl ?_
    refine V_aload_n C dX7_toggleLink_26 rfl ?_
    refine V_get C dX7_toggleLink_27 fr_7_56 hM rfl ?_
    refine V_iload_n C dX7_toggleLink_30 rfl ?_
    refine V_zald C dX7_toggleLink_31 h319 rfl hj (by decide) ?_
    refine V_nm (show f319 j = (if zUp u j = 0 then 1 else 0) from g319 j hj) ?_
    refine V_ifne (tgt := 39) C dX7_toggleLink_32 (by decide) (fun h2 => ?_) (fun h2 => ?_)
    · have hz : zUp u j = 0 := by
        by_cases hz : zUp u j = 0
        · exact hz
        · exact absurd (if_neg hz) h2
      rw [if_pos hz] at Q
      refine V_iconst (v := 0) C dX7_toggleLink_39 rfl ?_
      refine G_zast C dX7_toggleLink_40 h319 rfl hj (by decide) rfl (fun G1 h319 hfr => ?_)
      have hM := (hfr _ (by omega)).trans hM
      refine V_aload_n C dX7_toggleLink_41 rfl ?_
      refine V_get C dX7_toggleLink_42 fr_7_56 hM rfl ?_
      refine V_iload_n C dX7_toggleLink_45 rfl ?_
      refine V_zald C dX7_toggleLink_46 h319 rfl hj (by decide) ?_
      refine V_nm pk_us ?_
      refine V_ifeq_t (tgt := 185) C dX7_toggleLink_47 (by decide) rfl ?_
      refine V_aload_n C dX7_toggleLink_185 rfl ?_
      refine V_get C dX7_toggleLink_186 fr_7_56 hM rfl ?_
      refine V_iload_n C dX7_toggleLink_189 rfl ?_
      refine V_zald C dX7_toggleLink_190 h319 rfl hj (by decide) ?_
      refine V_nm pk_us ?_
      refine V_ifne_f (tgt := 198) C dX7_toggleLink_191 (by decide) rfl ?_
      refine V_iconst (v := 1) C dX7_toggleLink_194 rfl ?_
      refine V_goto (tgt := 199) C dX7_toggleLink_195 (by decide) ?_
      exact V_ireturn C Q dX7_toggleLink_199 rfl (Nat.le_of_ble_eq_true rfl) (Nat.le_of_ble_eq_true rfl) ⟨rfl, rfl, hA.up (up := va_up (zUp u) j 1) ⟨_, h319, upZ g319 rfl⟩ hfr, fun c hc => ⟨rfl, (hfr c (by omega)).trans (hfrA c (by omega))⟩⟩
    · have hz : ¬ zUp u j = 0 := fun hz => by rw [if_pos hz] at h2; exact absurd h2 (by decide)
      rw [if_neg hz] at Q
      obtain ⟨S, eS⟩ : ∃ S, S = zRw u (2 * j + 1) := ⟨_, rfl⟩
      have hcap := row_cap hI hj
      have hSl : S.length ≤ 120 := by rw [eS]; omega
      have g317q : f317 j = nI S.length := by rw [eS]; exact g317 j hj
      refine V_iconst (v := 1) C dX7_toggleLink_35 rfl ?_
      refine V_goto (tgt := 40) C dX7_toggleLink_36 (by decide) ?_
      refine G_zast C dX7_toggleLink_40 h319 rfl hj (by decide) rfl (fun G0 h319 hfr => ?_)
      have hM := (hfr _ (by omega)).trans hM
      have h317 := (hfr _ (by omega)).trans h317
      have hfr0 := hfr
      refine V_aload_n C dX7_toggleLink_41 rfl ?_
      refine V_get C dX7_toggleLink_42 fr_7_56 hM rfl ?_
      refine V_iload_n C dX7_toggleLink_45 rfl ?_
      refine V_zald C dX7_toggleLink_46 h319 rfl hj (by decide) ?_
      refine V_nm pk_us ?_
      refine V_ifeq_f (tgt := 185) C dX7_toggleLink_47 (by decide) (by decide) ?_
      have hz1 : MRep (xD X) ad G0 (dnK u j S.length) 0 := by
        rw [eS, dn_beg]
        exact hA.up (up := va_up (zUp u) j 0) ⟨_, h319, upZ g319 rfl⟩ hfr0
      clear h319 g319
      refine V_aload_n C dX7_toggleLink_50 rfl ?_
      refine V_get C dX7_toggleLink_51 fr_7_50 hM rfl ?_
      refine V_iload_n C dX7_toggleLink_54 rfl ?_
      refine V_iald C dX7_toggleLink_55 h317 rfl hj (by decide) ?_
      refine V_nm g317q ?_
      refine V_iconst (v := 1) C dX7_toggleLink_56 rfl ?_
      refine V_isub C dX7_toggleLink_57 ?_
      refine V_istore_n C dX7_toggleLink_58 (by decide) ?_
      have loop : ∀ (k : Nat) (G : Fn), k ≤ S.length → MRep (xD X) ad G (dnK u j k) 0 → (∀ c, (c < 300 ∨ 400 ≤ c) → G c = F c) → V X 0 0 59 [(0, .ref (ad 300)), (1, .int (nI j)), (2, .int (nI k - 1))] [] ad G := by
        intro k
        induction k with
        | zero =>
          intro G hk hR hfM
          have hM := hR.1
          unfold mObj at hM
          obtain ⟨f317, h317, g317⟩ := hR.2.2.2.2.2.2.2.2.2.2.2.2.2.2.2.1
          obtain ⟨f318, h318, g318⟩ := hR.2.2.2.2.2.2.2.2.2.2.2.2.2.2.2.2.1
          obtain ⟨f319, h319, g319⟩ := hR.2.2.2.2.2.2.2.2.2.2.2.2.2.2.2.2.2.1
          refine V_iload_n C dX7_toggleLink_59 rfl ?_
          refine V_iflt_t (tgt := 178) C dX7_toggleLink_60 (by decide) (by decide) ?_
          refine V_aload_n C dX7_toggleLink_178 rfl ?_
          refine V_get C dX7_toggleLink_179 fr_7_50 hM rfl ?_
          refine V_iload_n C dX7_toggleLink_182 rfl ?_
          refine V_iconst (v := 0) C dX7_toggleLink_183 rfl ?_
          refine V_nm (show (0 : Int32) = nI 0 from rfl) ?_
          refine G_iast C dX7_toggleLink_184 h317 rfl hj (by decide) (fun G1 h317 hfr => ?_)
          have hM := (hfr _ (by omega)).trans hM
          have h318 := (hfr _ (by omega)).trans h318
          have h319 := (hfr _ (by omega)).trans h319
          refine V_aload_n C dX7_toggleLink_185 rfl ?_
          refine V_get C dX7_toggleLink_186 fr_7_56 hM rfl ?_
          refine V_iload_n C dX7_toggleLink_189 rfl ?_
          refine V_zald C dX7_toggleLink_190 h319 rfl hj (by decide) ?_
          refine V_nm ((g319 j hj).trans (if_pos (show va_up (zUp u) j 0 j = 0 from up_s))) ?_
          refine V_ifne_t (tgt := 198) C dX7_toggleLink_191 (by decide) (by decide) ?_
          refine V_iconst (v := 0) C dX7_toggleLink_198 rfl ?_
          have hz := hR.rs (l := j) (A := []) ⟨_, h317, rw_len (A := []) (l := j) g317⟩ ⟨_, h318, rw_row g318 (fun r hr => by show (zRw (dnK u j 0) (2 * r + 1)).length ≤ 200; rw [dn_oth u j 0 (by omega)]; exact Nat.le_trans ((row_200 hI).2 r hr) (by decide)) (fun i hi => absurd hi (Nat.not_lt_zero i)) (fun _ _ => rfl)⟩ (fun x hx => hfr x (by simp at hx; omega))
          rw [dn_end] at hz
          exact V_ireturn C Q dX7_toggleLink_199 rfl (Nat.le_of_ble_eq_true rfl) (Nat.le_of_ble_eq_true rfl) ⟨rfl, rfl, hz, fun c hc => ⟨rfl, (hfr c (by omega)).trans (hfM c hc)⟩⟩
        | succ k ih =>
          intro G hk hR hfM
          rw [nI_pred]
          have hM := hR.1
          unfold mObj at hM
          obtain ⟨f308, h308, g308⟩ := hR.2.2.2.2.2.2.2.1
          obtain ⟨f311, h311, g311⟩ := hR.2.2.2.2.2.2.2.2.2.1
          obtain ⟨f313, h313, g313⟩ := hR.2.2.2.2.2.2.2.2.2.2.2.1
          obtain ⟨f315, h315, g315⟩ := hR.2.2.2.2.2.2.2.2.2.2.2.2.2.1
          obtain ⟨f316, h316, g316⟩ := hR.2.2.2.2.2.2.2.2.2.2.2.2.2.2.1
          obtain ⟨f318, h318, g318⟩ := hR.2.2.2.2.2.2.2.2.2.2.2.2.2.2.2.2.1
          obtain ⟨c, ec⟩ : ∃ c, c = S.getD k 0 := ⟨_, rfl⟩
          have hcm : c ∈ zRw u (2 * j + 1) := by rw [ec, ← eS]; exact getD_mem (by omega)
          have hin := inr_eq hI (s_in hI hj hcm)
          have hpw0 : zPw u c = 0 := (h7.2.2.2.2.2.2 c hcm).2
          have hmc := hI.2.1
          have hst4 := (hI.2.2.2.2.2.1 (mOf c) hin.1).2.2.2.2.1
          obtain ⟨hLc, hcq⟩ := dn_cap hI (k := k + 1) hj
          obtain ⟨wd, ewd⟩ : ∃ wd, wd = dnK u j (k + 1) := ⟨_, rfl⟩
          have hfk : f318 (200 * j + k) = nI (c - 100) := by
            have h := g318 j hj k (by show k < (zRw (dnK u j (k + 1)) (2 * j + 1)).length; rw [dn_oth u j (k + 1) (by omega), ← eS]; omega)
            have h : f318 (200 * j + k) = nI ((zRw (dnK u j (k + 1)) (2 * j + 1)).getD k 0 - 100) := h
            rw [dn_oth u j (k + 1) (by omega), ← eS, ← ec] at h
            exact h
          have hst : f308 (mOf c) = nI (zSt u (mOf c)) := (g308 (mOf c) (by omega)).trans (if_pos hin.1)
          refine V_iload_n C dX7_toggleLink_59 rfl ?_
          refine V_iflt_f (tgt := 178) C dX7_toggleLink_60 (by decide) (nI_pos (by omega)) ?_
          refine V_aload_n C dX7_toggleLink_63 rfl ?_
          refine V_get C dX7_toggleLink_64 fr_7_53 hM rfl ?_
          refine V_sipush (v := 200) C dX7_toggleLink_67 (by decide) ?_
          refine V_iload_n C dX7_toggleLink_70 rfl ?_
          refine V_imul C dX7_toggleLink_71 ?_
          refine V_nm (pk_mul 200 j) ?_
          refine V_iload_n C dX7_toggleLink_72 rfl ?_
          refine V_iadd C dX7_toggleLink_73 ?_
          refine V_nm (nI_add _ _) ?_
          refine V_iald C dX7_toggleLink_74 h318 rfl (show 200 * j + k < 600 by omega) (by decide) ?_
          refine V_nm hfk ?_
          refine V_istore_n C dX7_toggleLink_75 (by decide) ?_
          refine V_aload_n C dX7_toggleLink_76 rfl ?_
          refine V_get C dX7_toggleLink_77 fr_7_25 hM rfl ?_
          refine V_iload_n C dX7_toggleLink_80 rfl ?_
          refine V_bipush (v := 10) C dX7_toggleLink_81 (by decide) ?_
          refine V_idiv C dX7_toggleLink_83 (by decide) ?_
          refine V_nm (pk_div (a := c - 100) (d := 10) (by omega) (by decide) (by decide)) ?_
          refine V_iald C dX7_toggleLink_84 h308 (show nI ((c - 100) / 10) = nI (mOf c) from rfl) (show mOf c < 20 by omega) (by decide) ?_
          refine V_nm hst ?_
          refine V_ifne (tgt := 172) C dX7_toggleLink_85 (by decide) (fun h3 => ?_) (fun h3 => ?_)
          · refine V_iinc C dX7_toggleLink_172 rfl (nI_decS _) (by decide) ?_
            refine V_goto (tgt := 59) C dX7_toggleLink_175 (by decide) ?_
            exact V_sb (ih G (by omega) (by rw [dn_skip (k := k) (c := c) (by rw [← eS]; omega) (by rw [← eS]; exact ec) (fun e => h3 (by rw [e]; rfl))]; exact hR) hfM) ⟨rfl, rfl, rfl, trivial⟩
          · have hs0 : zSt u (mOf c) = 0 := (nI_eq (b := 0) (by omega) (by decide)).mp h3
            have edn := dn_put (k := k) (c := c) (by rw [← eS]; omega) (by rw [← eS]; exact ec) hs0
            rw [← ewd] at hR hLc hcq edn
            have hnwd : zNow wd = zNow u := by rw [ewd]; rfl
            have hpwd : zPw wd c = 0 := by rw [ewd]; exact hpw0
            obtain ⟨L, eL⟩ : ∃ L, L = zRw wd (2 * j) := ⟨_, rfl⟩
            rw [← eL] at hLc edn
            have g315q : f315 j = nI L.length := by rw [eL, ewd]; exact g315 j hj
            have g316q : ∀ i, i < L.length → f316 (200 * j + i) = nI (L.getD i 0 - 100) := by rw [eL, ewd]; exact g316 j hj
            refine V_sipush (v := 200) C dX7_toggleLink_88 (by decide) ?_
            refine V_iload_n C dX7_toggleLink_91 rfl ?_
            refine V_imul C dX7_toggleLink_92 ?_
            refine V_nm (pk_mul 200 j) ?_
            refine V_aload_n C dX7_toggleLink_93 rfl ?_
            refine V_get C dX7_toggleLink_94 fr_7_44 hM rfl ?_
            refine V_iload_n C dX7_toggleLink_97 rfl ?_
            refine V_iald C dX7_toggleLink_98 h315 rfl hj (by decide) ?_
            refine V_nm g315q ?_
            refine V_iadd C dX7_toggleLink_99 ?_
            refine V_nm (nI_add _ _) ?_
            refine V_istore C dX7_toggleLink_100 (by decide) ?_
            have inner : ∀ (k2 : Nat) (H : Fn) (f : Nat → Int32), k2 ≤ L.length → H 316 = some (aI (xD X) 600 f) → Shb f f316 (200 * j) L.length k2 → (∀ x, x ≠ 316 → H x = G x) →
                V X 0 0 102 [(0, .ref (ad 300)), (1, .int (nI j)), (2, .int (nI k)), (3, .int (nI (c - 100))), (4, .int (nI (200 * j + k2)))] [] ad H := by
              intro k2
              induction k2 with
              | zero =>
                intro H f hk2 h316 hsh hKH
                have hM := (hKH 300 (by decide)).trans hM
                have h315 := (hKH 315 (by decide)).trans h315
                have h311 := (hKH 311 (by decide)).trans h311
                have h313 := (hKH 313 (by decide)).trans h313
                refine V_iload C dX7_toggleLink_102 rfl ?_
                refine V_sipush (v := 200) C dX7_toggleLink_104 (by decide) ?_
                refine V_iload_n C dX7_toggleLink_107 rfl ?_
                refine V_imul C dX7_toggleLink_108 ?_
                refine V_nm (pk_mul 200 j) ?_
                refine V_icmple_t (tgt := 134) C dX7_toggleLink_109 (by decide) (Int32.le_refl _) ?_
                refine V_aload_n C dX7_toggleLink_134 rfl ?_
                refine V_get C dX7_toggleLink_135 fr_7_47 hM rfl ?_
                refine V_sipush (v := 200) C dX7_toggleLink_138 (by decide) ?_
                refine V_iload_n C dX7_toggleLink_141 rfl ?_
                refine V_imul C dX7_toggleLink_142 ?_
                refine V_nm (pk_mul 200 j) ?_
                refine V_iload_n C dX7_toggleLink_143 rfl ?_
                refine G_iast C dX7_toggleLink_144 h316 rfl (show 200 * j < 600 by omega) (by decide) (fun H1 h316 hfr => ?_)
                have hM := (hfr _ (by omega)).trans hM
                have h315 := (hfr _ (by omega)).trans h315
                have h311 := (hfr _ (by omega)).trans h311
                have h313 := (hfr _ (by omega)).trans h313
                have hfr1 := hfr
                refine V_aload_n C dX7_toggleLink_145 rfl ?_
                refine V_get C dX7_toggleLink_146 fr_7_44 hM rfl ?_
                refine V_iload_n C dX7_toggleLink_149 rfl ?_
                refine V_dup2 C dX7_toggleLink_150 rfl rfl ?_
                refine V_iald C dX7_toggleLink_151 h315 rfl hj (by decide) ?_
                refine V_nm g315q ?_
                refine V_iconst (v := 1) C dX7_toggleLink_152 rfl ?_
                refine V_iadd C dX7_toggleLink_153 ?_
                refine V_nm (nI_1 _) ?_
                refine G_iast C dX7_toggleLink_154 h315 rfl hj (by decide) (fun H2 h315 hfr => ?_)
                have hM := (hfr _ (by omega)).trans hM
                have h316 := (hfr _ (by omega)).trans h316
                have h311 := (hfr _ (by omega)).trans h311
                have h313 := (hfr _ (by omega)).trans h313
                have hfr2 := hfr
                refine V_aload_n C dX7_toggleLink_155 rfl ?_
                refine V_get C dX7_toggleLink_156 fr_7_31 hM rfl ?_
                refine V_iload_n C dX7_toggleLink_159 rfl ?_
                refine V_aload_n C dX7_toggleLink_160 rfl ?_
                refine V_get C dX7_toggleLink_161 fr_7_127 hM rfl ?_
                refine G_iast C dX7_toggleLink_164 h311 rfl (show c - 100 < 200 by omega) (by decide) (fun H3 h311 hfr => ?_)
                have hM := (hfr _ (by omega)).trans hM
                have h316 := (hfr _ (by omega)).trans h316
                have h315 := (hfr _ (by omega)).trans h315
                have h313 := (hfr _ (by omega)).trans h313
                have hfr3 := hfr
                refine V_aload_n C dX7_toggleLink_165 rfl ?_
                refine V_get C dX7_toggleLink_166 fr_7_37 hM rfl ?_
                refine V_iload_n C dX7_toggleLink_169 rfl ?_
                refine V_iconst (v := 0) C dX7_toggleLink_170 rfl ?_
                refine G_zast C dX7_toggleLink_171 h313 rfl (show c - 100 < 200 by omega) (by decide) rfl (fun H4 h313 hfr => ?_)
                have hM := (hfr _ (by omega)).trans hM
                have h316 := (hfr _ (by omega)).trans h316
                have h315 := (hfr _ (by omega)).trans h315
                have h311 := (hfr _ (by omega)).trans h311
                rw [← ewd] at g311 g313 g315 g316
                have hq1 := hR.rq (G := H2) (l := j) (A := c :: L) ⟨_, ((hfr 315 (by decide)).trans (hfr3 315 (by decide))).symm.trans h315, rw_len (A := c :: L) g315⟩ ⟨_, ((hfr 316 (by decide)).trans (hfr3 316 (by decide))).symm.trans h316, rw_row g316 hcq (hsh.done g316q) (hsh.out (by omega))⟩ (fun x hx => ((hfr2 x (by simp at hx; omega)).trans (hfr1 x (by simp at hx; omega))).trans (hKH x (by simp at hx; omega)))
                have hq2 := hq1.pt (G := H3) (pt := va_up (zPt wd) c (zNow u)) ⟨_, (hfr 311 (by decide)).symm.trans h311, pN_upd g311 (by omega)⟩ hfr3
                have hq3 := hq2.pw (G := H4) (pw := zPw (sPt (sRw wd (va_up (zRw wd) (2 * j) (c :: L))) (va_up (zPt wd) c (zNow u)))) ⟨_, h313, fun m hm p hp => by
                  by_cases e : 10 * m + p = c - 100
                  · rw [e, pk_us, show 100 + 10 * m + p = c by omega, show zPw (sPt (sRw wd (va_up (zRw wd) (2 * j) (c :: L))) (va_up (zPt wd) c (zNow u))) c = 0 from hpwd]; rfl
                  · rw [pk_un e]; exact g313 m hm p hp⟩ hfr
                rw [sPw_id, ← edn] at hq3
                have hq4 : MRep (xD X) ad H4 (dnK u j k) 0 := hq3
                clear hq1 hq2 hq3
                refine V_iinc C dX7_toggleLink_172 rfl (nI_decS _) (by decide) ?_
                refine V_goto (tgt := 59) C dX7_toggleLink_175 (by decide) ?_
                exact V_sb (ih H4 (by omega) hq4 (fun x hx => (hfr x (by omega)).trans ((hfr3 x (by omega)).trans ((hfr2 x (by omega)).trans ((hfr1 x (by omega)).trans ((hKH x (by omega)).trans (hfM x hx))))))) ⟨rfl, rfl, rfl, trivial⟩
              | succ k2 ih2 =>
                intro H f hk2 h316 hsh hKH
                have hM := (hKH 300 (by decide)).trans hM
                refine V_iload C dX7_toggleLink_102 rfl ?_
                refine V_sipush (v := 200) C dX7_toggleLink_104 (by decide) ?_
                refine V_iload_n C dX7_toggleLink_107 rfl ?_
                refine V_imul C dX7_toggleLink_108 ?_
                refine V_nm (pk_mul 200 j) ?_
                refine V_icmple_f (tgt := 134) C dX7_toggleLink_109 (by decide) (nI_ge (a := 200 * j) (b := 200 * j + (k2 + 1)) (by omega) (by omega)) ?_
                refine V_aload_n C dX7_toggleLink_112 rfl ?_
                refine V_get C dX7_toggleLink_113 fr_7_47 hM rfl ?_
                refine V_iload C dX7_toggleLink_116 rfl ?_
                refine V_aload_n C dX7_toggleLink_118 rfl ?_
                refine V_get C dX7_toggleLink_119 fr_7_47 hM rfl ?_
                refine V_iload C dX7_toggleLink_122 rfl ?_
                refine V_iconst (v := 1) C dX7_toggleLink_124 rfl ?_
                refine V_isub C dX7_toggleLink_125 ?_
                refine V_nm (nI_m1 (by omega)) ?_
                refine V_iald C dX7_toggleLink_126 h316 rfl (show 200 * j + (k2 + 1) - 1 < 600 by omega) (by decide) ?_
                refine G_iast C dX7_toggleLink_127 h316 rfl (show 200 * j + (k2 + 1) < 600 by omega) (by decide) (fun H1 h316 hfr => ?_)
                refine V_iinc C dX7_toggleLink_128 rfl (show _ = nI (200 * j + k2) from (nI_dec (by omega)).trans (congrArg nI (by omega))) (by decide) ?_
                refine V_goto (tgt := 102) C dX7_toggleLink_131 (by decide) ?_
                exact V_sb (ih2 H1 _ (by omega) h316 (hsh.step (by omega)) (fun x hx => (hfr x hx).trans (hKH x hx))) ⟨rfl, rfl, rfl, rfl, rfl, trivial⟩
            exact V_sb (inner L.length G f316 (Nat.le_refl _) h316 Shb.rf (fun _ _ => rfl)) ⟨rfl, rfl, rfl, rfl, rfl, trivial⟩
      exact V_sb (loop S.length G0 (Nat.le_refl _) hz1 (fun c hc => (hfr0 c (by omega)).trans (hfrA c (by omega)))) ⟨rfl, rfl, rfl, trivial⟩
