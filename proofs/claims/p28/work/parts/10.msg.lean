/-! ===== MESSAGES, RECEPTION ===== -/
def MsgAt (F : Fn) (c : Nat) (num rcv en : Int32) (lk sg sa : Nat) (np stt lw : Int32) : Prop := F c = some (oB 1 [.int num, .int rcv, .int en, .ref lk, .ref sg, .ref sa, .int np, .int stt, .int lw])
/-- a set of parts loses one -/
def clrB (w p : Nat) : Nat := if w.testBit p then w - 2 ^ p else w
theorem clr_ok : ∀ w, w < 64 → ∀ p, p < 6 → nI w &&& (((1 : Int32) <<< (nI p &&& 31)) ^^^ (-1)) = nI (clrB w p) := by decide +kernel
theorem has_ok : ∀ w, w < 64 → ∀ p, p < 6 → ((nI w >>> (nI p &&& 31)) &&& 1 = 1 ↔ w.testBit p = true) := by decide +kernel
theorem clr_lt : ∀ w, w < 64 → ∀ p, p < 6 → clrB w p < 64 := by decide +kernel
theorem all_ok : ∀ n, n < 7 → ((1 : Int32) <<< (nI n &&& 31)) - 1 = nI (2 ^ n - 1) := by decide +kernel
set_option maxHeartbeats 400000 in
set_option maxRecDepth 100000 in
/-- Message.lacks -/
theorem c_lacks {l : Launch} {D : Dx} {b0 : Nat} {ad : Nat → Nat} {F : Fn} (c : Nat) (num rcv en : Int32) (lk sg sa : Nat) (np stt : Int32) (w p : Nat) (hm : MsgAt F c num rcv en lk sg sa np stt (nI w)) (hw : w < 64) (hp9 : p < 6) : Ct l D b0 yX1_lacks (wsA yX1_lacks cX1_lacks 2 (some .boolean)) r0 [.ref (ad c), .int (nI p)] ad F (pRd (some (.int (if w.testBit p then 1 else 0))) ad F) noX := by
  refine Ct.of (by decide +kernel) (by simp [Value.category]) (Nat.le_of_ble_eq_true rfl) (fun X eD eb el C Q => ?_)
  subst eD; subst eb; subst el
  unfold MsgAt at hm
  refine V_aload_n C dX1_lacks_0 rfl ?_
  refine V_get C dX1_lacks_1 fr_1_48 hm rfl ?_
  refine V_iload_n C dX1_lacks_4 rfl ?_
  refine V_ishr C dX1_lacks_5 ?_
  refine V_iconst (v := 1) C dX1_lacks_6 rfl ?_
  refine V_iand C dX1_lacks_7 ?_
  refine V_iconst (v := 1) C dX1_lacks_8 rfl ?_
  refine V_icmpne (tgt := 16) C dX1_lacks_9 (by decide) (fun hc => ?_) (fun hc => ?_)
  · rw [if_neg (fun h => hc ((has_ok w hw p hp9).mpr h))] at Q
    refine V_iconst (v := 0) C dX1_lacks_16 rfl ?_
    exact V_ireturn C Q dX1_lacks_17 rfl (Nat.le_of_ble_eq_true rfl) (Nat.le_of_ble_eq_true rfl) ⟨rfl, rfl, rfl⟩
  · rw [if_pos ((has_ok w hw p hp9).mp hc)] at Q
    refine V_iconst (v := 1) C dX1_lacks_12 rfl ?_
    refine V_goto (tgt := 17) C dX1_lacks_13 (by decide) ?_
    exact V_ireturn C Q dX1_lacks_17 rfl (Nat.le_of_ble_eq_true rfl) (Nat.le_of_ble_eq_true rfl) ⟨rfl, rfl, rfl⟩
set_option maxHeartbeats 400000 in
set_option maxRecDepth 100000 in
/-- Message.receive -/
theorem c_receive {l : Launch} {D : Dx} {b0 : Nat} {ad : Nat → Nat} {F : Fn} (c : Nat) (num rcv en : Int32) (lk sg sa : Nat) (np stt : Int32) (w p : Nat) (hm : MsgAt F c num rcv en lk sg sa np stt (nI w)) (hw : w < 64) (hp9 : p < 6) : Ct l D b0 yX1_receive (wsA yX1_receive cX1_receive 2 none) r0 [.ref (ad c), .int (nI p)] ad F (fun v ad1 F1 => v = none ∧ ad = ad1 ∧ MsgAt F1 c num rcv en lk sg sa np stt (nI (clrB w p)) ∧ ∀ x, x ≠ c → F1 x = F x) noX := by
  refine Ct.of (by decide +kernel) (by simp [Value.category]) (Nat.le_of_ble_eq_true rfl) (fun X eD eb el C Q => ?_)
  subst eD; subst eb; subst el
  unfold MsgAt at hm
  refine V_aload_n C dX1_receive_0 rfl ?_
  refine V_dup C dX1_receive_1 rfl ?_
  refine V_get C dX1_receive_2 fr_1_48 hm rfl ?_
  refine V_iconst (v := 1) C dX1_receive_5 rfl ?_
  refine V_iload_n C dX1_receive_6 rfl ?_
  refine V_ishl C dX1_receive_7 ?_
  refine V_iconst (v := (-1)) C dX1_receive_8 rfl ?_
  refine V_ixor C dX1_receive_9 ?_
  refine V_iand C dX1_receive_10 ?_
  refine V_nm (clr_ok w hw p hp9) ?_
  refine G_put C dX1_receive_11 fp_1_48 hm rfl rfl (Nat.le_of_ble_eq_true rfl) (fun F1 hm hfr => ?_)
  dsimp only [List.set] at hm
  exact V_return C Q dX1_receive_14 (Nat.le_of_ble_eq_true rfl) (Nat.le_of_ble_eq_true rfl) ⟨rfl, rfl, hm, hfr⟩
/-- the part that has a place: the last one that begins there or before -/
def pwF (ps : Nat → Nat) (place : Nat) : Nat → Nat
  | 0 => 0
  | n + 1 => if ps (n + 1) ≤ place then n + 1 else pwF ps place n
set_option maxHeartbeats 400000 in
set_option maxRecDepth 100000 in
/-- Message.partWith -/
theorem c_partWith {l : Launch} {D : Dx} {b0 : Nat} {ad : Nat → Nat} {F : Fn} (c sa N place : Nat) (ps : Nat → Nat) (g : Nat → Int32) (num rcv en : Int32) (lk sg : Nat) (np stt lw : Int32) (hm : MsgAt F c num rcv en lk sg (ad sa) np stt lw) (hs : F sa = some (aI D (N + 1) g)) (hg : ∀ j, j ≤ N → g j = nI (ps j)) (hN : N < 100) (hps : ∀ j, j ≤ N → ps j < 2 ^ 31) (hpl : place < 2 ^ 31) : Ct l D b0 yX1_partWith (wsA yX1_partWith cX1_partWith 4 (some .int)) r0 [.ref (ad c), .int (nI place)] ad F (pRd (some (.int (nI (pwF ps place N)))) ad F) noX := by
  refine Ct.of (by decide +kernel) (by simp [Value.category]) (Nat.le_of_ble_eq_true rfl) (fun X eD eb el C Q => ?_)
  subst eD; subst eb; subst el
  unfold MsgAt at hm
  refine V_iconst (v := 0) C dX1_partWith_0 rfl ?_
  refine V_istore_n C dX1_partWith_1 (by decide) ?_
  refine V_iconst (v := 1) C dX1_partWith_2 rfl ?_
  refine V_istore_n C dX1_partWith_3 (by decide) ?_
  have loop : ∀ (d t : Nat), t + d = N → V X 0 0 4 [(0, .ref (ad c)), (1, .int (nI place)), (2, .int (nI (pwF ps place t))), (3, .int (nI (t + 1)))] [] ad F := by
    intro d
    induction d with
    | zero =>
      intro t hd
      have ht : t = N := by omega
      subst ht
      refine V_iload_n C dX1_partWith_4 rfl ?_
      refine V_aload_n C dX1_partWith_5 rfl ?_
      refine V_get C dX1_partWith_6 fr_1_41 hm rfl ?_
      refine V_alen C dX1_partWith_9 hs rfl ?_
      refine V_icmpge_t (tgt := 31) C dX1_partWith_10 (by decide) (Int32.le_refl _) ?_
      refine V_iload_n C dX1_partWith_31 rfl ?_
      exact V_ireturn C Q dX1_partWith_32 rfl (Nat.le_of_ble_eq_true rfl) (Nat.le_of_ble_eq_true rfl) ⟨rfl, rfl, rfl⟩
    | succ d ih =>
      intro t hd
      have h1 := hps (t + 1) (by omega)
      refine V_iload_n C dX1_partWith_4 rfl ?_
      refine V_aload_n C dX1_partWith_5 rfl ?_
      refine V_get C dX1_partWith_6 fr_1_41 hm rfl ?_
      refine V_alen C dX1_partWith_9 hs rfl ?_
      refine V_icmpge_f (tgt := 31) C dX1_partWith_10 (by decide) (nI_ge (by omega) (by omega)) ?_
      refine V_iload_n C dX1_partWith_13 rfl ?_
      refine V_aload_n C dX1_partWith_14 rfl ?_
      refine V_get C dX1_partWith_15 fr_1_41 hm rfl ?_
      refine V_iload_n C dX1_partWith_18 rfl ?_
      refine V_iald C dX1_partWith_19 hs rfl (by omega) (by omega) ?_
      refine V_nm (hg (t + 1) (by omega)) ?_
      refine V_icmplt (tgt := 25) C dX1_partWith_20 (by decide) (fun hc => ?_) (fun hc => ?_)
      · have e : pwF ps place (t + 1) = pwF ps place t := by rw [pwF, if_neg (fun h => nI_nlt h hpl hc)]
        refine V_iinc C dX1_partWith_25 rfl (nI_inc _) (by decide) ?_
        refine V_goto (tgt := 4) C dX1_partWith_28 (by decide) ?_
        refine V_sb (ih (t + 1) (by omega)) ⟨rfl, rfl, by rw [e]; rfl, rfl, trivial⟩
      · have e : pwF ps place (t + 1) = t + 1 := by rw [pwF, if_pos (Nat.le_of_not_lt fun h => hc (nI_lt h h1))]
        refine V_iload_n C dX1_partWith_23 rfl ?_
        refine V_istore_n C dX1_partWith_24 (by decide) ?_
        refine V_iinc C dX1_partWith_25 rfl (nI_inc _) (by decide) ?_
        refine V_goto (tgt := 4) C dX1_partWith_28 (by decide) ?_
        refine V_sb (ih (t + 1) (by omega)) ⟨rfl, rfl, by rw [e]; rfl, rfl, trivial⟩
  refine V_sb (loop N 0 (by omega)) ⟨rfl, rfl, rfl, rfl, trivial⟩
set_option maxHeartbeats 400000 in
set_option maxRecDepth 100000 in
/-- Arrays.fill -/
theorem c_fill {l : Launch} {D : Dx} {b0 : Nat} {ad : Nat → Nat} {F : Fn} (a N : Nat) (f : Nat → Int32) (x : Int32) (ha : F a = some (aI D N f)) (hN : N < 2 ^ 31) : Ct l D b0 yJ7_fill_53178 (wsA yJ7_fill_53178 cJ7_fill_53178 4 none) r0 [.ref (ad a), .int x] ad F (fun v ad1 F1 => v = none ∧ ad = ad1 ∧ (∃ g, F1 a = some (aI D N g) ∧ ∀ j, j < N → g j = x) ∧ ∀ z, z ≠ a → F1 z = F z) noX := by
  refine Ct.of (by decide +kernel) (by simp [Value.category]) (Nat.le_of_ble_eq_true rfl) (fun X eD eb el C Q => ?_)
  subst eD; subst eb; subst el
  refine V_iconst (v := 0) C dJ7_fill_53178_0 rfl ?_
  refine V_istore_n C dJ7_fill_53178_1 (by decide) ?_
  refine V_aload_n C dJ7_fill_53178_2 rfl ?_
  refine V_alen C dJ7_fill_53178_3 ha rfl ?_
  refine V_istore_n C dJ7_fill_53178_4 (by decide) ?_
  have loop : ∀ (d t : Nat) (G : Fn) (g : Nat → Int32), t + d = N → G a = some (aI (xD X) N g) → (∀ j, j < t → g j = x) → (∀ z, z ≠ a → G z = F z) → V X 0 0 5 [(0, .ref (ad a)), (1, .int x), (2, .int (nI t)), (3, .int (nI N))] [] ad G := by
    intro d
    induction d with
    | zero =>
      intro t G g hd ha hg hK
      have ht : t = N := by omega
      subst ht
      refine V_iload_n C dJ7_fill_53178_5 rfl ?_
      refine V_iload_n C dJ7_fill_53178_6 rfl ?_
      refine V_icmpge_t (tgt := 20) C dJ7_fill_53178_7 (by decide) (Int32.le_refl _) ?_
      exact V_return C Q dJ7_fill_53178_20 (Nat.le_of_ble_eq_true rfl) (Nat.le_of_ble_eq_true rfl) ⟨rfl, rfl, ⟨g, ha, hg⟩, hK⟩
    | succ d ih =>
      intro t G g hd ha hg hK
      refine V_iload_n C dJ7_fill_53178_5 rfl ?_
      refine V_iload_n C dJ7_fill_53178_6 rfl ?_
      refine V_icmpge_f (tgt := 20) C dJ7_fill_53178_7 (by decide) (nI_ge (by omega) hN) ?_
      refine V_aload_n C dJ7_fill_53178_10 rfl ?_
      refine V_iload_n C dJ7_fill_53178_11 rfl ?_
      refine V_iload_n C dJ7_fill_53178_12 rfl ?_
      refine G_iast C dJ7_fill_53178_13 ha rfl (by omega) hN (fun G1 ha hfr => ?_)
      refine V_iinc C dJ7_fill_53178_14 rfl (nI_inc _) (by decide) ?_
      refine V_goto (tgt := 5) C dJ7_fill_53178_17 (by decide) ?_
      refine V_sb (ih (t + 1) G1 _ (by omega) ha (fun j hj => ?_) (fun z hz => (hfr z hz).trans (hK z hz))) ⟨rfl, rfl, rfl, rfl, trivial⟩
      by_cases e : j = t
      · subst e; simp [upd]
      · simp [upd, e]; exact hg j (by omega)
  refine V_sb (loop N 0 F f (by omega) ha (fun j hj => absurd hj (Nat.not_lt_zero j)) (fun _ _ => rfl)) ⟨rfl, rfl, rfl, rfl, trivial⟩
def RcpAt (ad : Nat → Nat) (F : Fn) (c k s la : Nat) : Prop := F c = some (oB 3 [.ref (ad k), .ref (ad s), .ref (ad la)])
def svW (kw : Nat → Int32) (x : Int32) : Nat := if kw 1 = x then 1 else if kw 2 = x then 2 else if kw 3 = x then 3 else if kw 4 = x then 4 else 0
set_option maxHeartbeats 400000 in
set_option maxRecDepth 100000 in
/-- Reception.serviceWith -/
theorem c_serviceWith {l : Launch} {D : Dx} {b0 : Nat} {ad : Nat → Nat} {F : Fn} (c k s la : Nat) (kw : Nat → Int32) (x : Int32) (hr : RcpAt ad F c k s la) (hk : F k = some (aI D 5 kw)) : Ct l D b0 yX3_serviceWith (wsA yX3_serviceWith cX3_serviceWith 3 (some .int)) r0 [.ref (ad c), .int x] ad F (pRd (some (.int (nI (svW kw x)))) ad F) noX := by
  refine Ct.of (by decide +kernel) (by simp [Value.category]) (Nat.le_of_ble_eq_true rfl) (fun X eD eb el C Q => ?_)
  subst eD; subst eb; subst el
  unfold RcpAt at hr
  refine V_iconst (v := 1) C dX3_serviceWith_0 rfl ?_
  refine V_istore_n C dX3_serviceWith_1 (by decide) ?_
  refine V_iload_n C dX3_serviceWith_2 rfl ?_
  refine V_aload_n C dX3_serviceWith_3 rfl ?_
  refine V_get C dX3_serviceWith_4 fr_3_9 hr rfl ?_
  refine V_alen C dX3_serviceWith_7 hk rfl ?_
  refine V_icmpge_f (tgt := 29) C dX3_serviceWith_8 (by decide) (by decide) ?_
  refine V_aload_n C dX3_serviceWith_11 rfl ?_
  refine V_get C dX3_serviceWith_12 fr_3_9 hr rfl ?_
  refine V_iload_n C dX3_serviceWith_15 rfl ?_
  refine V_iald C dX3_serviceWith_16 hk (show _ = nI 1 from rfl) (by decide) (by decide) ?_
  refine V_iload_n C dX3_serviceWith_17 rfl ?_
  refine V_icmpne (tgt := 23) C dX3_serviceWith_18 (by decide) (fun h1 => ?_) (fun h1 => ?_)
  · refine V_iinc C dX3_serviceWith_23 rfl rfl (by decide) ?_
    refine V_goto (tgt := 2) C dX3_serviceWith_26 (by decide) ?_
    refine V_iload_n C dX3_serviceWith_2 rfl ?_
    refine V_aload_n C dX3_serviceWith_3 rfl ?_
    refine V_get C dX3_serviceWith_4 fr_3_9 hr rfl ?_
    refine V_alen C dX3_serviceWith_7 hk rfl ?_
    refine V_icmpge_f (tgt := 29) C dX3_serviceWith_8 (by decide) (by decide) ?_
    refine V_aload_n C dX3_serviceWith_11 rfl ?_
    refine V_get C dX3_serviceWith_12 fr_3_9 hr rfl ?_
    refine V_iload_n C dX3_serviceWith_15 rfl ?_
    refine V_iald C dX3_serviceWith_16 hk (show _ = nI 2 from rfl) (by decide) (by decide) ?_
    refine V_iload_n C dX3_serviceWith_17 rfl ?_
    refine V_icmpne (tgt := 23) C dX3_serviceWith_18 (by decide) (fun h2 => ?_) (fun h2 => ?_)
    · refine V_iinc C dX3_serviceWith_23 rfl rfl (by decide) ?_
      refine V_goto (tgt := 2) C dX3_serviceWith_26 (by decide) ?_
      refine V_iload_n C dX3_serviceWith_2 rfl ?_
      refine V_aload_n C dX3_serviceWith_3 rfl ?_
      refine V_get C dX3_serviceWith_4 fr_3_9 hr rfl ?_
      refine V_alen C dX3_serviceWith_7 hk rfl ?_
      refine V_icmpge_f (tgt := 29) C dX3_serviceWith_8 (by decide) (by decide) ?_
      refine V_aload_n C dX3_serviceWith_11 rfl ?_
      refine V_get C dX3_serviceWith_12 fr_3_9 hr rfl ?_
      refine V_iload_n C dX3_serviceWith_15 rfl ?_
      refine V_iald C dX3_serviceWith_16 hk (show _ = nI 3 from rfl) (by decide) (by decide) ?_
      refine V_iload_n C dX3_serviceWith_17 rfl ?_
      refine V_icmpne (tgt := 23) C dX3_serviceWith_18 (by decide) (fun h3 => ?_) (fun h3 => ?_)
      · refine V_iinc C dX3_serviceWith_23 rfl rfl (by decide) ?_
        refine V_goto (tgt := 2) C dX3_serviceWith_26 (by decide) ?_
        refine V_iload_n C dX3_serviceWith_2 rfl ?_
        refine V_aload_n C dX3_serviceWith_3 rfl ?_
        refine V_get C dX3_serviceWith_4 fr_3_9 hr rfl ?_
        refine V_alen C dX3_serviceWith_7 hk rfl ?_
        refine V_icmpge_f (tgt := 29) C dX3_serviceWith_8 (by decide) (by decide) ?_
        refine V_aload_n C dX3_serviceWith_11 rfl ?_
        refine V_get C dX3_serviceWith_12 fr_3_9 hr rfl ?_
        refine V_iload_n C dX3_serviceWith_15 rfl ?_
        refine V_iald C dX3_serviceWith_16 hk (show _ = nI 4 from rfl) (by decide) (by decide) ?_
        refine V_iload_n C dX3_serviceWith_17 rfl ?_
        refine V_icmpne (tgt := 23) C dX3_serviceWith_18 (by decide) (fun h4 => ?_) (fun h4 => ?_)
        · refine V_iinc C dX3_serviceWith_23 rfl rfl (by decide) ?_
          refine V_goto (tgt := 2) C dX3_serviceWith_26 (by decide) ?_
          refine V_iload_n C dX3_serviceWith_2 rfl ?_
          refine V_aload_n C dX3_serviceWith_3 rfl ?_
          refine V_get C dX3_serviceWith_4 fr_3_9 hr rfl ?_
          refine V_alen C dX3_serviceWith_7 hk rfl ?_
          refine V_icmpge_t (tgt := 29) C dX3_serviceWith_8 (by decide) (by decide) ?_
          refine V_iconst (v := 0) C dX3_serviceWith_29 rfl ?_
          exact V_ireturn C Q dX3_serviceWith_30 rfl (Nat.le_of_ble_eq_true rfl) (Nat.le_of_ble_eq_true rfl) ⟨by simp only [svW]; rw [if_neg h1, if_neg h2, if_neg h3, if_neg h4]; rfl, rfl, rfl⟩
        · refine V_iload_n C dX3_serviceWith_21 rfl ?_
          exact V_ireturn C Q dX3_serviceWith_22 rfl (Nat.le_of_ble_eq_true rfl) (Nat.le_of_ble_eq_true rfl) ⟨by simp only [svW]; rw [if_neg h1, if_neg h2, if_neg h3, if_pos h4]; rfl, rfl, rfl⟩
      · refine V_iload_n C dX3_serviceWith_21 rfl ?_
        exact V_ireturn C Q dX3_serviceWith_22 rfl (Nat.le_of_ble_eq_true rfl) (Nat.le_of_ble_eq_true rfl) ⟨by simp only [svW]; rw [if_neg h1, if_neg h2, if_pos h3]; rfl, rfl, rfl⟩
    · refine V_iload_n C dX3_serviceWith_21 rfl ?_
      exact V_ireturn C Q dX3_serviceWith_22 rfl (Nat.le_of_ble_eq_true rfl) (Nat.le_of_ble_eq_true rfl) ⟨by simp only [svW]; rw [if_neg h1, if_pos h2]; rfl, rfl, rfl⟩
  · refine V_iload_n C dX3_serviceWith_21 rfl ?_
    exact V_ireturn C Q dX3_serviceWith_22 rfl (Nat.le_of_ble_eq_true rfl) (Nat.le_of_ble_eq_true rfl) ⟨by simp only [svW]; rw [if_pos h1]; rfl, rfl, rfl⟩
def gkF (kw : Nat → Int32) (sv : Nat) (x : Int32) (j : Nat) : Int32 := if j = sv then x else if kw j = x then -1 else kw j
set_option maxHeartbeats 400000 in
set_option maxRecDepth 100000 in
/-- Reception.giveKeyword -/
theorem c_giveKeyword {l : Launch} {D : Dx} {b0 : Nat} {ad : Nat → Nat} {F : Fn} (c k s la sv : Nat) (kw : Nat → Int32) (x : Int32) (hr : RcpAt ad F c k s la) (hk : F k = some (aI D 5 kw)) (hsv : sv < 5) : Ct l D b0 yX3_giveKeyword (wsA yX3_giveKeyword cX3_giveKeyword 4 none) r0 [.ref (ad c), .int (nI sv), .int x] ad F (fun v ad1 F1 => v = none ∧ ad = ad1 ∧ (∃ g, F1 k = some (aI D 5 g) ∧ ∀ j, j < 5 → g j = gkF kw sv x j) ∧ ∀ z, z ≠ k → F1 z = F z) noX := by
  refine Ct.of (by decide +kernel) (by simp [Value.category]) (Nat.le_of_ble_eq_true rfl) (fun X eD eb el C Q => ?_)
  subst eD; subst eb; subst el
  unfold RcpAt at hr
  have hck : c ≠ k := obj_ne hk hr
  refine V_iconst (v := 0) C dX3_giveKeyword_0 rfl ?_
  refine V_istore_n C dX3_giveKeyword_1 (by decide) ?_
  have loop : ∀ (d t : Nat) (G : Fn) (g : Nat → Int32), t + d = 5 → G c = some (oB 3 [.ref (ad k), .ref (ad s), .ref (ad la)]) → G k = some (aI (xD X) 5 g) → (∀ j, j < t → g j = gkF kw sv x j) → (∀ j, t ≤ j → g j = kw j) → (∀ z, z ≠ k → G z = F z) →
      V X 0 0 2 [(0, .ref (ad c)), (1, .int (nI sv)), (2, .int x), (3, .int (nI t))] [] ad G := by
    intro d
    induction d with
    | zero =>
      intro t G g hd hr hk h1 h2 hK
      have ht : t = 5 := by omega
      subst ht
      refine V_iload_n C dX3_giveKeyword_2 rfl ?_
      refine V_aload_n C dX3_giveKeyword_3 rfl ?_
      refine V_get C dX3_giveKeyword_4 fr_3_9 hr rfl ?_
      refine V_alen C dX3_giveKeyword_7 hk rfl ?_
      refine V_icmpge_t (tgt := 49) C dX3_giveKeyword_8 (by decide) (Int32.le_refl _) ?_
      exact V_return C Q dX3_giveKeyword_49 (Nat.le_of_ble_eq_true rfl) (Nat.le_of_ble_eq_true rfl) ⟨rfl, rfl, ⟨g, hk, h1⟩, hK⟩
    | succ d ih =>
      intro t G g hd hr hk h1 h2 hK
      refine V_iload_n C dX3_giveKeyword_2 rfl ?_
      refine V_aload_n C dX3_giveKeyword_3 rfl ?_
      refine V_get C dX3_giveKeyword_4 fr_3_9 hr rfl ?_
      refine V_alen C dX3_giveKeyword_7 hk rfl ?_
      refine V_icmpge_f (tgt := 49) C dX3_giveKeyword_8 (by decide) (nI_ge (by omega) (by omega)) ?_
      refine V_iload_n C dX3_giveKeyword_11 rfl ?_
      refine V_iload_n C dX3_giveKeyword_12 rfl ?_
      refine V_icmpne (tgt := 26) C dX3_giveKeyword_13 (by decide) (fun hc => ?_) (fun hc => ?_)
      · have hts : ¬ t = sv := fun e => hc (by rw [e])
        refine V_aload_n C dX3_giveKeyword_26 rfl ?_
        refine V_get C dX3_giveKeyword_27 fr_3_9 hr rfl ?_
        refine V_iload_n C dX3_giveKeyword_30 rfl ?_
        refine V_iald C dX3_giveKeyword_31 hk rfl (by omega) (by decide) ?_
        refine V_nm (h2 t (Nat.le_refl t)) ?_
        refine V_iload_n C dX3_giveKeyword_32 rfl ?_
        refine V_icmpne (tgt := 43) C dX3_giveKeyword_33 (by decide) (fun hc2 => ?_) (fun hc2 => ?_)
        · refine V_iinc C dX3_giveKeyword_43 rfl (nI_inc _) (by decide) ?_
          refine V_goto (tgt := 2) C dX3_giveKeyword_46 (by decide) ?_
          refine V_sb (ih (t + 1) G _ (by omega) hr hk (fun j hj => ?_) (fun j hj => ?_) hK) ⟨rfl, rfl, rfl, rfl, trivial⟩
          · by_cases e : j = t
            · subst e; simp only [gkF]; rw [if_neg hts, if_neg hc2]; exact h2 j (Nat.le_refl j)
            · exact h1 j (by omega)
          · exact h2 j (by omega)
        · refine V_aload_n C dX3_giveKeyword_36 rfl ?_
          refine V_get C dX3_giveKeyword_37 fr_3_9 hr rfl ?_
          refine V_iload_n C dX3_giveKeyword_40 rfl ?_
          refine V_iconst (v := (-1)) C dX3_giveKeyword_41 rfl ?_
          refine G_iast C dX3_giveKeyword_42 hk rfl (by omega) (by decide) (fun G1 hk hfr => ?_)
          have hr := (hfr _ hck).trans hr
          refine V_iinc C dX3_giveKeyword_43 rfl (nI_inc _) (by decide) ?_
          refine V_goto (tgt := 2) C dX3_giveKeyword_46 (by decide) ?_
          refine V_sb (ih (t + 1) G1 _ (by omega) hr hk (fun j hj => ?_) (fun j hj => ?_) (fun z hz => (hfr z hz).trans (hK z hz))) ⟨rfl, rfl, rfl, rfl, trivial⟩
          · by_cases e : j = t
            · subst e; simp only [upd, if_pos, gkF]; rw [if_neg hts, if_pos hc2]
            · simp only [upd, if_neg e]; exact h1 j (by omega)
          · rw [upd, if_neg (by omega)]; exact h2 j (by omega)
      · have hts : t = sv := (nI_eq (by omega) (by omega)).mp hc
        refine V_aload_n C dX3_giveKeyword_16 rfl ?_
        refine V_get C dX3_giveKeyword_17 fr_3_9 hr rfl ?_
        refine V_iload_n C dX3_giveKeyword_20 rfl ?_
        refine V_iload_n C dX3_giveKeyword_21 rfl ?_
        refine G_iast C dX3_giveKeyword_22 hk rfl (by omega) (by decide) (fun G1 hk hfr => ?_)
        have hr := (hfr _ hck).trans hr
        refine V_goto (tgt := 43) C dX3_giveKeyword_23 (by decide) ?_
        refine V_iinc C dX3_giveKeyword_43 rfl (nI_inc _) (by decide) ?_
        refine V_goto (tgt := 2) C dX3_giveKeyword_46 (by decide) ?_
        refine V_sb (ih (t + 1) G1 _ (by omega) hr hk (fun j hj => ?_) (fun j hj => ?_) (fun z hz => (hfr z hz).trans (hK z hz))) ⟨rfl, rfl, rfl, rfl, trivial⟩
        · by_cases e : j = t
          · subst e; simp only [upd, if_pos, gkF]; rw [if_pos hts]
          · simp only [upd, if_neg e]; exact h1 j (by omega)
        · rw [upd, if_neg (by omega)]; exact h2 j (by omega)
  refine V_sb (loop 5 0 F kw rfl hr hk (fun j hj => absurd hj (Nat.not_lt_zero j)) (fun _ _ => rfl) (fun _ _ => rfl)) ⟨rfl, rfl, rfl, rfl, trivial⟩
/-- the session behind an incoming text -/
def seW (kw se lt : Nat → Int32) (p : Nat) (x now : Int32) : Int32 := if svW kw x = 0 then (if 20 ≤ now - lt p then 0 else se p) else nI (svW kw x)
theorem svW_lt (kw : Nat → Int32) (x : Int32) : svW kw x < 5 := by unfold svW; (repeat' split) <;> decide
set_option maxHeartbeats 400000 in
set_option maxRecDepth 100000 in
/-- Reception.serviceFor -/
theorem c_serviceFor {l : Launch} {D : Dx} {b0 : Nat} {ad : Nat → Nat} {F : Fn} (c k s la p : Nat) (kw se lt : Nat → Int32) (x now : Int32) (hr : RcpAt ad F c k s la) (hk : F k = some (aI D 5 kw)) (hs : F s = some (aI D 9 se)) (hla : F la = some (aI D 9 lt)) (hp9 : p < 9) (hsl : s ≠ la) : Ct l D b0 yX3_serviceFor (wsA yX3_serviceFor cX3_serviceFor 5 (some .int)) (rK 1) [.ref (ad c), .int (nI p), .int x, .int now] ad F (fun v ad1 F1 => v = some (.int (seW kw se lt p x now)) ∧ ad = ad1 ∧ F1 s = some (aI D 9 (upd se p (seW kw se lt p x now))) ∧ F1 la = some (aI D 9 (upd lt p now)) ∧ ∀ z, z ∉ [s, la] → F1 z = F z) noX := by
  refine Ct.of (by decide +kernel) (by simp [Value.category]) (Nat.le_of_ble_eq_true rfl) (fun X eD eb el C Q => ?_)
  subst eD; subst eb; subst el
  have hr0 := hr
  unfold RcpAt at hr
  have hcs : c ≠ s := obj_ne hs hr
  have hcl : c ≠ la := obj_ne hla hr
  have hv5 := svW_lt kw x
  refine V_iload_n C dX3_serviceFor_0 rfl ?_
  refine V_iflt_f (tgt := 22) C dX3_serviceFor_1 (by decide) (nI_pos (by omega)) ?_
  refine V_iload_n C dX3_serviceFor_4 rfl ?_
  refine V_aload_n C dX3_serviceFor_5 rfl ?_
  refine V_get C dX3_serviceFor_6 fr_3_15 hr rfl ?_
  refine V_alen C dX3_serviceFor_9 hs rfl ?_
  refine V_icmpge_f (tgt := 22) C dX3_serviceFor_10 (by decide) (nI_ge (b := 9) hp9 (by decide)) ?_
  refine V_iload_n C dX3_serviceFor_13 rfl ?_
  refine V_aload_n C dX3_serviceFor_14 rfl ?_
  refine V_get C dX3_serviceFor_15 fr_3_18 hr rfl ?_
  refine V_alen C dX3_serviceFor_18 hla rfl ?_
  refine V_icmplt_t (tgt := 24) C dX3_serviceFor_19 (by decide) (nI_lt (b := 9) hp9 (by decide)) ?_
  refine V_aload_n C dX3_serviceFor_24 rfl ?_
  refine V_iload_n C dX3_serviceFor_25 rfl ?_
  refine V_invV C dX3_serviceFor_26 hr rfl (c_serviceWith c k s la kw x hr0 hk) mv_3_27 rfl (Nat.le_of_ble_eq_true rfl) ⟨Nat.le_of_ble_eq_true rfl, Nat.le_of_ble_eq_true rfl⟩ ⟨Nat.le_of_ble_eq_true rfl, Nat.le_of_ble_eq_true rfl⟩ (fun _ _ _ h => VT_no h) (fun v ad1 F1 hp => ?_)
  obtain ⟨rfl, rfl, rfl⟩ := hp
  have hK : ∀ z, z ∉ [s, la] → F z = F z := fun _ _ => rfl
  refine V_istore C dX3_serviceFor_29 (by decide) ?_
  refine V_iload C dX3_serviceFor_31 rfl ?_
  refine V_ifeq (tgt := 47) C dX3_serviceFor_33 (by decide) (fun hc => ?_) (fun hc => ?_)
  · have h0 : svW kw x = 0 := (nI_eq (b := 0) (by omega) (by decide)).mp hc
    refine V_iload_n C dX3_serviceFor_47 rfl ?_
    refine V_aload_n C dX3_serviceFor_48 rfl ?_
    refine V_get C dX3_serviceFor_49 fr_3_18 hr rfl ?_
    refine V_iload_n C dX3_serviceFor_52 rfl ?_
    refine V_iald C dX3_serviceFor_53 hla rfl hp9 (by decide) ?_
    refine V_isub C dX3_serviceFor_54 ?_
    refine V_bipush (v := 20) C dX3_serviceFor_55 (by decide) ?_
    refine V_icmplt (tgt := 67) C dX3_serviceFor_57 (by decide) (fun hc2 => ?_) (fun hc2 => ?_)
    · have h20 : ¬ (20 : Int32) ≤ now - lt p := Int32.not_le.mpr hc2
      refine V_aload_n C dX3_serviceFor_67 rfl ?_
      refine V_get C dX3_serviceFor_68 fr_3_18 hr rfl ?_
      refine V_iload_n C dX3_serviceFor_71 rfl ?_
      refine V_iload_n C dX3_serviceFor_72 rfl ?_
      refine G_iast C dX3_serviceFor_73 hla rfl hp9 (by decide) (fun G1 hla hfr => ?_)
      have hr := (hfr _ hcl).trans hr
      have hs := (hfr _ hsl).trans hs
      have hK := fr_step hK hfr (by simp)
      refine V_aload_n C dX3_serviceFor_74 rfl ?_
      refine V_get C dX3_serviceFor_75 fr_3_15 hr rfl ?_
      refine V_iload_n C dX3_serviceFor_78 rfl ?_
      refine V_iald C dX3_serviceFor_79 hs rfl hp9 (by decide) ?_
      have ev : se p = seW kw se lt p x now := by simp only [seW]; rw [if_pos h0, if_neg h20]
      have es : upd se p (se p) = se := by funext j; simp only [upd]; split <;> simp_all
      have hs : G1 s = some (aI (xD X) 9 (upd se p (seW kw se lt p x now))) := by rw [← ev, es]; exact hs
      refine V_nm ev ?_
      exact V_ireturn C Q dX3_serviceFor_80 rfl (Nat.le_of_ble_eq_true rfl) (Nat.le_of_ble_eq_true rfl) ⟨rfl, rfl, hs, hla, hK⟩
    · have h20 : (20 : Int32) ≤ now - lt p := Int32.not_lt.mp hc2
      refine V_aload_n C dX3_serviceFor_60 rfl ?_
      refine V_get C dX3_serviceFor_61 fr_3_15 hr rfl ?_
      refine V_iload_n C dX3_serviceFor_64 rfl ?_
      refine V_iconst (v := 0) C dX3_serviceFor_65 rfl ?_
      refine G_iast C dX3_serviceFor_66 hs rfl hp9 (by decide) (fun G1 hs hfr => ?_)
      have hr := (hfr _ hcs).trans hr
      have hla := (hfr _ hsl.symm).trans hla
      have hK := fr_step hK hfr (by simp)
      refine V_aload_n C dX3_serviceFor_67 rfl ?_
      refine V_get C dX3_serviceFor_68 fr_3_18 hr rfl ?_
      refine V_iload_n C dX3_serviceFor_71 rfl ?_
      refine V_iload_n C dX3_serviceFor_72 rfl ?_
      refine G_iast C dX3_serviceFor_73 hla rfl hp9 (by decide) (fun G2 hla hfr => ?_)
      have hr := (hfr _ hcl).trans hr
      have hs := (hfr _ hsl).trans hs
      have hK := fr_step hK hfr (by simp)
      refine V_aload_n C dX3_serviceFor_74 rfl ?_
      refine V_get C dX3_serviceFor_75 fr_3_15 hr rfl ?_
      refine V_iload_n C dX3_serviceFor_78 rfl ?_
      refine V_iald C dX3_serviceFor_79 hs rfl hp9 (by decide) ?_
      have ev : (0 : Int32) = seW kw se lt p x now := by simp only [seW]; rw [if_pos h0, if_pos h20]
      rw [ev] at hs ⊢
      refine V_nm (w := seW kw se lt p x now) (by simp [upd]) ?_
      exact V_ireturn C Q dX3_serviceFor_80 rfl (Nat.le_of_ble_eq_true rfl) (Nat.le_of_ble_eq_true rfl) ⟨rfl, rfl, hs, hla, hK⟩
  · have h0 : ¬ svW kw x = 0 := fun e => hc (by rw [e]; rfl)
    refine V_aload_n C dX3_serviceFor_36 rfl ?_
    refine V_get C dX3_serviceFor_37 fr_3_15 hr rfl ?_
    refine V_iload_n C dX3_serviceFor_40 rfl ?_
    refine V_iload C dX3_serviceFor_41 rfl ?_
    refine G_iast C dX3_serviceFor_43 hs rfl hp9 (by decide) (fun G1 hs hfr => ?_)
    have hr := (hfr _ hcs).trans hr
    have hla := (hfr _ hsl.symm).trans hla
    have hK := fr_step hK hfr (by simp)
    refine V_goto (tgt := 67) C dX3_serviceFor_44 (by decide) ?_
    refine V_aload_n C dX3_serviceFor_67 rfl ?_
    refine V_get C dX3_serviceFor_68 fr_3_18 hr rfl ?_
    refine V_iload_n C dX3_serviceFor_71 rfl ?_
    refine V_iload_n C dX3_serviceFor_72 rfl ?_
    refine G_iast C dX3_serviceFor_73 hla rfl hp9 (by decide) (fun G2 hla hfr => ?_)
    have hr := (hfr _ hcl).trans hr
    have hs := (hfr _ hsl).trans hs
    have hK := fr_step hK hfr (by simp)
    refine V_aload_n C dX3_serviceFor_74 rfl ?_
    refine V_get C dX3_serviceFor_75 fr_3_15 hr rfl ?_
    refine V_iload_n C dX3_serviceFor_78 rfl ?_
    refine V_iald C dX3_serviceFor_79 hs rfl hp9 (by decide) ?_
    have ev : nI (svW kw x) = seW kw se lt p x now := by simp only [seW]; rw [if_neg h0]
    rw [ev] at hs ⊢
    refine V_nm (w := seW kw se lt p x now) (by simp [upd]) ?_
    exact V_ireturn C Q dX3_serviceFor_80 rfl (Nat.le_of_ble_eq_true rfl) (Nat.le_of_ble_eq_true rfl) ⟨rfl, rfl, hs, hla, hK⟩
