/-! ===== LINKS ===== -/
/-- a link at the code k: its rows at o1 (queue) and o2 (sent) -/
def LinkAt (ad : Nat → Nat) (F : Fn) (k o1 o2 : Nat) (up wn tk : Int32) : Prop := F k = some (oB 0 [.ref (ad o1), .ref (ad o2), .int up, .int wn, .int tk])
/-- parts, by the values of their fields -/
def PrtV (F : Fn) (L : List Nat) (pm : Nat → Nat) (pn pf pt pw : Nat → Int32) : Prop := ∀ c ∈ L, F c = some (oB 2 [.ref (pm c), .int (pn c), .int (pf c), .int (pt c), .int (pw c)])
set_option maxHeartbeats 400000 in
set_option maxRecDepth 100000 in
/-- Link.gainToken -/
theorem c_gainToken {l : Launch} {D : Dx} {b0 : Nat} {ad : Nat → Nat} {F : Fn} (k o1 o2 : Nat) (up wn : Int32) (tk : Nat) (hk : LinkAt ad F k o1 o2 up wn (nI tk)) (ht : tk ≤ 5) : Ct l D b0 yX0_gainToken (wsA yX0_gainToken cX0_gainToken 1 none) r0 [.ref (ad k)] ad F (fun v ad1 F1 => v = none ∧ ad = ad1 ∧ LinkAt ad F1 k o1 o2 up wn (nI (if tk < 5 then tk + 1 else tk)) ∧ ∀ x, x ≠ k → F1 x = F x) noX := by
  refine Ct.of (by decide +kernel) (by simp [Value.category]) (Nat.le_of_ble_eq_true rfl) (fun X eD eb el C Q => ?_)
  subst eD; subst eb; subst el
  unfold LinkAt at hk
  refine V_aload_n C dX0_gainToken_0 rfl ?_
  refine V_get C dX0_gainToken_1 fr_0_29 hk rfl ?_
  refine V_iconst (v := 5) C dX0_gainToken_4 rfl ?_
  refine V_icmpge (tgt := 18) C dX0_gainToken_5 (by decide) (fun hc => ?_) (fun hc => ?_)
  · have h5 : ¬ tk < 5 := fun q => nI_ge q (by omega) hc
    exact V_return C Q dX0_gainToken_18 (Nat.le_of_ble_eq_true rfl) (Nat.le_of_ble_eq_true rfl) ⟨rfl, rfl, by rw [if_neg h5]; exact hk, fun _ _ => rfl⟩
  · have h5 : tk < 5 := Nat.lt_of_not_le fun q => hc (nI_le q (by omega))
    refine V_aload_n C dX0_gainToken_8 rfl ?_
    refine V_dup C dX0_gainToken_9 rfl ?_
    refine V_get C dX0_gainToken_10 fr_0_29 hk rfl ?_
    refine V_iconst (v := 1) C dX0_gainToken_13 rfl ?_
    refine V_iadd C dX0_gainToken_14 ?_
    refine V_nm (nI_1 tk) ?_
    refine G_put C dX0_gainToken_15 fp_0_29 hk rfl rfl (Nat.le_of_ble_eq_true rfl) (fun F1 hk hfr => ?_)
    dsimp only [List.set] at hk
    exact V_return C Q dX0_gainToken_18 (Nat.le_of_ble_eq_true rfl) (Nat.le_of_ble_eq_true rfl) ⟨rfl, rfl, by rw [if_pos h5]; exact hk, hfr⟩
set_option maxHeartbeats 400000 in
set_option maxRecDepth 100000 in
/-- Link.sendNext: down, no token, or the window full -/
theorem c_sendNextR {l : Launch} {D : Dx} {b0 : Nat} {ad : Nat → Nat} {F : Fn} (k o1 a1 o2 a2 : Nat) (up : Int32) (wn tk : Nat) (now : Int32) (Lq Ls : List Nat) (hk : LinkAt ad F k o1 o2 up (nI wn) (nI tk)) (hq : RowAt D ad F o1 a1 Lq) (hs : RowAt D ad F o2 a2 Ls) (hw : wn ≤ 10) (ht : tk ≤ 5) (hno : up = 0 ∨ tk < 1 ∨ wn ≤ Ls.length) : Ct l D b0 yX0_sendNext (wsA yX0_sendNext cX0_sendNext 3 (some .boolean)) (rK 3) [.ref (ad k), .int now] ad F (pRd (some (.int 0)) ad F) noX := by
  refine Ct.of (by decide +kernel) (by simp [Value.category]) (Nat.le_of_ble_eq_true rfl) (fun X eD eb el C Q => ?_)
  subst eD; subst eb; subst el
  have hL := hs.2.1
  have hs1 := hs.1
  unfold LinkAt at hk
  refine V_aload_n C dX0_sendNext_0 rfl ?_
  refine V_get C dX0_sendNext_1 fr_0_21 hk rfl ?_
  refine V_ifeq (tgt := 29) C dX0_sendNext_4 (by decide) (fun h1 => ?_) (fun h1 => ?_)
  · refine V_iconst (v := 0) C dX0_sendNext_29 rfl ?_
    exact V_ireturn C Q dX0_sendNext_30 rfl (Nat.le_of_ble_eq_true rfl) (Nat.le_of_ble_eq_true rfl) ⟨rfl, rfl, rfl⟩
  · refine V_aload_n C dX0_sendNext_7 rfl ?_
    refine V_get C dX0_sendNext_8 fr_0_29 hk rfl ?_
    refine V_iconst (v := 1) C dX0_sendNext_11 rfl ?_
    refine V_icmplt (tgt := 29) C dX0_sendNext_12 (by decide) (fun h2 => ?_) (fun h2 => ?_)
    · refine V_iconst (v := 0) C dX0_sendNext_29 rfl ?_
      exact V_ireturn C Q dX0_sendNext_30 rfl (Nat.le_of_ble_eq_true rfl) (Nat.le_of_ble_eq_true rfl) ⟨rfl, rfl, rfl⟩
    · refine V_aload_n C dX0_sendNext_15 rfl ?_
      refine V_get C dX0_sendNext_16 fr_0_18 hk rfl ?_
      refine V_get C dX0_sendNext_19 fr_0_36 hs1 rfl ?_
      refine V_aload_n C dX0_sendNext_22 rfl ?_
      refine V_get C dX0_sendNext_23 fr_0_25 hk rfl ?_
      have hfull : wn ≤ Ls.length := by
        rcases hno with h | h | h
        · exact absurd h h1
        · exact absurd (show nI tk < 1 from nI_lt h (by decide)) h2
        · exact h
      refine V_icmplt_f (tgt := 31) C dX0_sendNext_26 (by decide) (nI_nlt hfull (by omega)) ?_
      refine V_iconst (v := 0) C dX0_sendNext_29 rfl ?_
      exact V_ireturn C Q dX0_sendNext_30 rfl (Nat.le_of_ble_eq_true rfl) (Nat.le_of_ble_eq_true rfl) ⟨rfl, rfl, rfl⟩
set_option maxHeartbeats 400000 in
set_option maxRecDepth 100000 in
/-- Link.sendNext: nothing ready -/
theorem c_sendNextN {l : Launch} {D : Dx} {b0 : Nat} {ad : Nat → Nat} {F : Fn} (k o1 a1 o2 a2 : Nat) (up : Int32) (wn tk : Nat) (now : Int32) (Lq Ls : List Nat) (pm : Nat → Nat) (pn pf pt pw : Nat → Int32) (hk : LinkAt ad F k o1 o2 up (nI wn) (nI tk)) (hq : RowAt D ad F o1 a1 Lq) (hs : RowAt D ad F o2 a2 Ls) (hw : wn ≤ 10) (ht : tk ≤ 5) (hP : PrtV F Lq pm pn pf pt pw) (hup : ¬ up = 0) (htk : 0 < tk) (hwn : Ls.length < wn) (hno : ∀ c ∈ Lq, ¬ rdyI now (pt c) (pw c)) : Ct l D b0 yX0_sendNext (wsA yX0_sendNext cX0_sendNext 3 (some .boolean)) (rK 3) [.ref (ad k), .int now] ad F (pRd (some (.int 0)) ad F) noX := by
  refine Ct.of (by decide +kernel) (by simp [Value.category]) (Nat.le_of_ble_eq_true rfl) (fun X eD eb el C Q => ?_)
  subst eD; subst eb; subst el
  have hL := hs.2.1
  have hs1 := hs.1
  have hq1 := hq.1
  unfold LinkAt at hk
  refine V_aload_n C dX0_sendNext_0 rfl ?_
  refine V_get C dX0_sendNext_1 fr_0_21 hk rfl ?_
  refine V_ifeq_f (tgt := 29) C dX0_sendNext_4 (by decide) hup ?_
  refine V_aload_n C dX0_sendNext_7 rfl ?_
  refine V_get C dX0_sendNext_8 fr_0_29 hk rfl ?_
  refine V_iconst (v := 1) C dX0_sendNext_11 rfl ?_
  refine V_icmplt_f (tgt := 29) C dX0_sendNext_12 (by decide) (fun h => nI_nlt (show 1 ≤ tk from htk) (by omega) h) ?_
  refine V_aload_n C dX0_sendNext_15 rfl ?_
  refine V_get C dX0_sendNext_16 fr_0_18 hk rfl ?_
  refine V_get C dX0_sendNext_19 fr_0_36 hs1 rfl ?_
  refine V_aload_n C dX0_sendNext_22 rfl ?_
  refine V_get C dX0_sendNext_23 fr_0_25 hk rfl ?_
  refine V_icmplt_t (tgt := 31) C dX0_sendNext_26 (by decide) (nI_lt hwn (by omega)) ?_
  refine V_aload_n C dX0_sendNext_31 rfl ?_
  refine V_get C dX0_sendNext_32 fr_0_12 hk rfl ?_
  refine V_iload_n C dX0_sendNext_35 rfl ?_
  refine V_invV C dX0_sendNext_36 hq1 rfl (c_rfrN o1 a1 now Lq pm pn pf pt pw hq hP hno) mv_0_39 rfl (Nat.le_of_ble_eq_true rfl) ⟨Nat.le_of_ble_eq_true rfl, Nat.le_of_ble_eq_true rfl⟩ ⟨Nat.le_of_ble_eq_true rfl, Nat.le_of_ble_eq_true rfl⟩ (fun _ _ _ h => VT_no h) (fun v ad1 F1 hp => ?_)
  obtain ⟨rfl, rfl, rfl⟩ := hp
  refine V_astore_nN C dX0_sendNext_39 (by decide) ?_
  refine V_aload_nN C dX0_sendNext_40 rfl ?_
  refine V_ifnonnullN C dX0_sendNext_41 ?_
  refine V_iconst (v := 0) C dX0_sendNext_44 rfl ?_
  exact V_ireturn C Q dX0_sendNext_45 rfl (Nat.le_of_ble_eq_true rfl) (Nat.le_of_ble_eq_true rfl) ⟨rfl, rfl, rfl⟩
set_option maxHeartbeats 400000 in
set_option maxRecDepth 100000 in
/-- Link.sendNext: a part is sent -/
theorem c_sendNextY {l : Launch} {D : Dx} {b0 : Nat} {ad : Nat → Nat} {F : Fn} (k o1 a1 o2 a2 : Nat) (up : Int32) (wn tk : Nat) (now : Int32) (Lq Ls : List Nat) (pm : Nat → Nat) (pn pf pt pw : Nat → Int32) (i c : Nat) (hk : LinkAt ad F k o1 o2 up (nI wn) (nI tk)) (hq : RowAt D ad F o1 a1 Lq) (hs : RowAt D ad F o2 a2 Ls) (hw : wn ≤ 10) (ht : tk ≤ 5) (hP : PrtV F Lq pm pn pf pt pw) (hup : ¬ up = 0) (htk : 0 < tk) (hwn : Ls.length < wn) (hc : Lq[i]? = some c) (hy : rdyI now (pt c) (pw c)) (hno : ∀ j q, j < i → Lq[j]? = some q → ¬ rdyI now (pt q) (pw q)) (hPs : Prts F Ls) (hd : o1 ≠ o2 ∧ o1 ≠ a2 ∧ a1 ≠ o2 ∧ a1 ≠ a2) : Ct l D b0 yX0_sendNext (wsA yX0_sendNext cX0_sendNext 3 (some .boolean)) (rK 3) [.ref (ad k), .int now] ad F (fun v ad1 F1 => v = some (.int 1) ∧ ad = ad1 ∧ LinkAt ad F1 k o1 o2 up (nI wn) (nI (tk - 1)) ∧ RowAt D ad F1 o1 a1 (Lq.eraseIdx i) ∧ RowAt D ad F1 o2 a2 (Ls ++ [c]) ∧ ∀ x, x ∉ [k, o1, a1, o2, a2] → F1 x = F x) noX := by
  refine Ct.of (by decide +kernel) (by simp [Value.category]) (Nat.le_of_ble_eq_true rfl) (fun X eD eb el C Q => ?_)
  subst eD; subst eb; subst el
  have hL := hs.2.1
  have hs1 := hs.1
  have hq1 := hq.1
  unfold LinkAt at hk
  refine V_aload_n C dX0_sendNext_0 rfl ?_
  refine V_get C dX0_sendNext_1 fr_0_21 hk rfl ?_
  refine V_ifeq_f (tgt := 29) C dX0_sendNext_4 (by decide) hup ?_
  refine V_aload_n C dX0_sendNext_7 rfl ?_
  refine V_get C dX0_sendNext_8 fr_0_29 hk rfl ?_
  refine V_iconst (v := 1) C dX0_sendNext_11 rfl ?_
  refine V_icmplt_f (tgt := 29) C dX0_sendNext_12 (by decide) (fun h => nI_nlt (show 1 ≤ tk from htk) (by omega) h) ?_
  refine V_aload_n C dX0_sendNext_15 rfl ?_
  refine V_get C dX0_sendNext_16 fr_0_18 hk rfl ?_
  refine V_get C dX0_sendNext_19 fr_0_36 hs1 rfl ?_
  refine V_aload_n C dX0_sendNext_22 rfl ?_
  refine V_get C dX0_sendNext_23 fr_0_25 hk rfl ?_
  refine V_icmplt_t (tgt := 31) C dX0_sendNext_26 (by decide) (nI_lt hwn (by omega)) ?_
  refine V_aload_n C dX0_sendNext_31 rfl ?_
  refine V_get C dX0_sendNext_32 fr_0_12 hk rfl ?_
  refine V_iload_n C dX0_sendNext_35 rfl ?_
  refine V_invV C dX0_sendNext_36 hq1 rfl (c_rfr o1 a1 i c now Lq pm pn pf pt pw hq hP hc hy hno) mv_0_39 rfl (Nat.le_of_ble_eq_true rfl) ⟨Nat.le_of_ble_eq_true rfl, Nat.le_of_ble_eq_true rfl⟩ ⟨Nat.le_of_ble_eq_true rfl, Nat.le_of_ble_eq_true rfl⟩ (fun _ _ _ h => VT_no h) (fun v ad1 F1 hp => ?_)
  obtain ⟨rfl, rfl, hq, hf1⟩ := hp
  obtain ⟨fq, hfa1, -⟩ := hq.2.2
  obtain ⟨fs, hfa2, -⟩ := hs.2.2
  have hko1 : k ≠ o1 := cls_ne hk hq1 (by decide)
  have hko2 : k ≠ o2 := cls_ne hk hs1 (by decide)
  have hcF := hP c (List.mem_of_getElem? hc)
  have hka1 : k ≠ a1 := fun e => by have h9 := ‹RowAt (xD X) ad F o1 a1 Lq›.2.2; obtain ⟨f9, h9, -⟩ := h9; exact obj_ne h9 hk e
  have hka2 : k ≠ a2 := obj_ne hfa2 hk
  have hk1 := (hf1 k (by simp [hko1, hka1])).trans hk
  have hs2 := hs.kept (hf1 o2 (by simp [Ne.symm hd.1, Ne.symm hd.2.2.1])) (hf1 a2 (by simp [Ne.symm hd.2.1, Ne.symm hd.2.2.2]))
  have hP1 : Prts F1 Ls := fun q hq9 => by
    obtain ⟨fs9, h9⟩ := hPs q hq9
    obtain ⟨f8, h8, -⟩ := ‹RowAt (xD X) ad F o1 a1 Lq›.2.2
    exact ⟨fs9, (hf1 q (by simp [cls_ne h9 hq1 (by decide), obj_ne h8 h9])).trans h9⟩
  have hc1 : F1 c = some (oB 2 [.ref (pm c), .int (pn c), .int (pf c), .int (pt c), .int (pw c)]) := by
    obtain ⟨f8, h8, -⟩ := ‹RowAt (xD X) ad F o1 a1 Lq›.2.2
    exact (hf1 c (by simp [cls_ne hcF hq1 (by decide), obj_ne h8 hcF])).trans hcF
  have hs3 := hs2.1
  refine V_astore_n C dX0_sendNext_39 (by decide) ?_
  refine V_aload_n C dX0_sendNext_40 rfl ?_
  refine V_ifnonnull (tgt := 46) C dX0_sendNext_41 (by decide) ?_
  refine V_aload_n C dX0_sendNext_46 rfl ?_
  refine V_get C dX0_sendNext_47 fr_0_18 hk1 rfl ?_
  refine V_aload_n C dX0_sendNext_50 rfl ?_
  refine V_invV C dX0_sendNext_51 hs3 rfl (c_addLast o2 a2 c Ls hs2 hP1 ⟨_, hc1⟩ (by omega)) mv_0_43 rfl (Nat.le_of_ble_eq_true rfl) ⟨Nat.le_of_ble_eq_true rfl, Nat.le_of_ble_eq_true rfl⟩ ⟨Nat.le_of_ble_eq_true rfl, Nat.le_of_ble_eq_true rfl⟩ (fun _ _ _ h => VT_no h) (fun v ad2 F2 hp => ?_)
  obtain ⟨rfl, rfl, hs4, hf2⟩ := hp
  have hk2 := (hf2 k (by simp [hko2, hka2])).trans hk1
  have hq2 := hq.kept (hf2 o1 (by simp [hd.1, hd.2.1])) (hf2 a1 (by simp [hd.2.2.1, hd.2.2.2]))
  refine V_aload_n C dX0_sendNext_54 rfl ?_
  refine V_dup C dX0_sendNext_55 rfl ?_
  refine V_get C dX0_sendNext_56 fr_0_29 hk2 rfl ?_
  refine V_iconst (v := 1) C dX0_sendNext_59 rfl ?_
  refine V_isub C dX0_sendNext_60 ?_
  refine V_nm (nI_m1 htk) ?_
  refine G_put C dX0_sendNext_61 fp_0_29 hk2 rfl rfl (Nat.le_of_ble_eq_true rfl) (fun F3 hk2 hfr => ?_)
  dsimp only [List.set] at hk2
  refine V_iconst (v := 1) C dX0_sendNext_64 rfl ?_
  refine V_ireturn C Q dX0_sendNext_65 rfl (Nat.le_of_ble_eq_true rfl) (Nat.le_of_ble_eq_true rfl) ⟨rfl, rfl, hk2, hq2.kept (hfr o1 hko1.symm) (hfr a1 hka1.symm), hs4.kept (hfr o2 hko2.symm) (hfr a2 hka2.symm), fun x hx => ?_⟩
  have h1 : x ≠ k := fun e => hx (by simp [e])
  have h2 : x ∉ [o1, a1] := fun h => hx (by simp at h ⊢; rcases h with h | h <;> simp [h])
  have h3 : x ∉ [o2, a2] := fun h => hx (by simp at h ⊢; rcases h with h | h <;> simp [h])
  exact (hfr x h1).trans ((hf2 x h3).trans (hf1 x h2))
/-- a link's state in lists: the queue, what is under way, the tokens -/
abbrev Lst : Type := List Nat × List Nat × Nat
/-- one part is sent, if one can be -/
def snd1 (rd : Nat → Bool) (up : Bool) (wn : Nat) (q : Lst) : Option Lst :=
  if up = true ∧ 0 < q.2.2 ∧ q.2.1.length < wn then (q.1.findIdx? rd).map (fun i => (q.1.eraseIdx i, q.2.1 ++ [q.1.getD i 0], q.2.2 - 1)) else none
def sndN (rd : Nat → Bool) (up : Bool) (wn : Nat) : Nat → Lst → Lst × Nat
  | 0, q => (q, 0)
  | n + 1, q => match snd1 rd up wn q with
    | none => (q, 0)
    | some q' => ((sndN rd up wn n q').1, (sndN rd up wn n q').2 + 1)
def rdB (now : Int32) (pt pw : Nat → Int32) (c : Nat) : Bool := decide (pw c = 0 ∧ pt c ≤ now)
/-- the whole link: its object, its two rows -/
def LkA (D : Dx) (ad : Nat → Nat) (F : Fn) (k o1 a1 o2 a2 : Nat) (up : Int32) (wn : Nat) (q : Lst) : Prop :=
  LinkAt ad F k o1 o2 up (nI wn) (nI q.2.2) ∧ RowAt D ad F o1 a1 q.1 ∧ RowAt D ad F o2 a2 q.2.1
theorem c_sendNext {l : Launch} {D : Dx} {b0 : Nat} {ad : Nat → Nat} {F : Fn} (k o1 a1 o2 a2 : Nat) (up : Int32) (wn : Nat) (now : Int32) (q : Lst) (pm : Nat → Nat) (pn pf pt pw : Nat → Int32) (hk : LkA D ad F k o1 a1 o2 a2 up wn q) (hP : PrtV F q.1 pm pn pf pt pw) (hPs : Prts F q.2.1) (hd : o1 ≠ o2 ∧ o1 ≠ a2 ∧ a1 ≠ o2 ∧ a1 ≠ a2) (hw : wn ≤ 10) (ht : q.2.2 ≤ 5) :
    Ct l D b0 yX0_sendNext (wsA yX0_sendNext cX0_sendNext 3 (some .boolean)) (rK 3) [.ref (ad k), .int now] ad F (fun v ad1 F1 => ad = ad1 ∧ (match snd1 (rdB now pt pw) (decide (¬ up = 0)) wn q with
      | none => v = some (.int 0) ∧ F = F1
      | some q' => v = some (.int 1) ∧ LkA D ad F1 k o1 a1 o2 a2 up wn q' ∧ ∀ x, x ∉ [k, o1, a1, o2, a2] → F1 x = F x)) noX := by
  obtain ⟨h1, h2, h3⟩ := hk
  by_cases hg : ¬ up = 0 ∧ 0 < q.2.2 ∧ q.2.1.length < wn
  · have hg' : (decide (¬ up = 0) = true ∧ 0 < q.2.2 ∧ q.2.1.length < wn) := ⟨by simpa using hg.1, hg.2⟩
    cases hf : q.1.findIdx? (rdB now pt pw) with
    | none =>
      have e : snd1 (rdB now pt pw) (decide (¬ up = 0)) wn q = none := by simp only [snd1]; rw [if_pos hg', hf]; rfl
      rw [e]
      refine (c_sendNextN k o1 a1 o2 a2 up wn q.2.2 now q.1 q.2.1 pm pn pf pt pw h1 h2 h3 hw ht hP hg.1 hg.2.1 hg.2.2 (fun c hc => ?_)).weaken (fun v a G h => ⟨h.2.1, h.1, h.2.2⟩) (fun _ _ _ h => h)
      have := List.findIdx?_eq_none_iff.mp hf c hc
      simpa [rdB, rdyI] using this
    | some i =>
      obtain ⟨hi, hi1, hi2⟩ := List.findIdx?_eq_some_iff_getElem.mp hf
      have hgi : q.1[i]? = some (q.1.getD i 0) := by rw [List.getD_eq_getElem?_getD, List.getElem?_eq_getElem hi]; rfl
      have e : snd1 (rdB now pt pw) (decide (¬ up = 0)) wn q = some (q.1.eraseIdx i, q.2.1 ++ [q.1.getD i 0], q.2.2 - 1) := by simp only [snd1]; rw [if_pos hg', hf]; rfl
      rw [e]
      refine (c_sendNextY k o1 a1 o2 a2 up wn q.2.2 now q.1 q.2.1 pm pn pf pt pw i (q.1.getD i 0) h1 h2 h3 hw ht hP hg.1 hg.2.1 hg.2.2 hgi ?_ (fun j c hj hc => ?_) hPs hd).weaken (fun v a G h => ⟨h.2.1, h.1, ⟨h.2.2.1, h.2.2.2.1, h.2.2.2.2.1⟩, h.2.2.2.2.2⟩) (fun _ _ _ h => h)
      · have e2 : q.1[i] = q.1.getD i 0 := Option.some.inj ((List.getElem?_eq_getElem hi).symm.trans hgi)
        rw [e2] at hi1
        simpa [rdB, rdyI] using hi1
      · have hjl := (List.getElem?_eq_some_iff.mp hc)
        have := hi2 j hj
        rw [hjl.2] at this
        simpa [rdB, rdyI] using this
  · have e : snd1 (rdB now pt pw) (decide (¬ up = 0)) wn q = none := by
      simp only [snd1]; rw [if_neg]; simpa using hg
    rw [e]
    refine (c_sendNextR k o1 a1 o2 a2 up wn q.2.2 now q.1 q.2.1 h1 h2 h3 hw ht ?_).weaken (fun v a G h => ⟨h.2.1, h.1, h.2.2⟩) (fun _ _ _ h => h)
    by_cases e1 : up = 0
    · exact Or.inl e1
    · by_cases e2 : 0 < q.2.2
      · exact Or.inr (Or.inr (Nat.le_of_not_lt fun h => hg ⟨e1, e2, h⟩))
      · exact Or.inr (Or.inl (by omega))
theorem snd1_sub {rd : Nat → Bool} {up : Bool} {wn : Nat} {q q' : Lst} (h : snd1 rd up wn q = some q') : (∀ c ∈ q'.1, c ∈ q.1) ∧ (∀ c ∈ q'.2.1, c ∈ q.2.1 ∨ c ∈ q.1) ∧ q'.2.2 ≤ q.2.2 := by
  simp only [snd1] at h
  split at h
  · cases hf : q.1.findIdx? rd with
    | none => rw [hf] at h; cases h
    | some i =>
      rw [hf] at h
      obtain ⟨hi, -, -⟩ := List.findIdx?_eq_some_iff_getElem.mp hf
      cases h
      refine ⟨fun c hc => List.mem_of_mem_eraseIdx hc, fun c hc => ?_, Nat.sub_le _ _⟩
      rcases List.mem_append.mp hc with h | h
      · exact Or.inl h
      · rw [List.mem_singleton.mp h, List.getD_eq_getElem?_getD, List.getElem?_eq_getElem hi]
        exact Or.inr (List.getElem_mem hi)
  · cases h
set_option maxHeartbeats 400000 in
set_option maxRecDepth 100000 in
/-- Link.sendAll -/
theorem c_sendAll {l : Launch} {D : Dx} {b0 : Nat} {ad : Nat → Nat} {F : Fn} (k o1 a1 o2 a2 : Nat) (up : Int32) (wn : Nat) (now : Int32) (q : Lst) (pm : Nat → Nat) (pn pf pt pw : Nat → Int32) (hk : LkA D ad F k o1 a1 o2 a2 up wn q) (hP : PrtV F q.1 pm pn pf pt pw) (hPs : Prts F q.2.1) (hd : o1 ≠ o2 ∧ o1 ≠ a2 ∧ a1 ≠ o2 ∧ a1 ≠ a2) (hw : wn ≤ 10) (ht : q.2.2 ≤ 5) : Ct l D b0 yX0_sendAll (wsA yX0_sendAll cX0_sendAll 3 (some .int)) (rK 4) [.ref (ad k), .int now] ad F (fun v ad1 F1 => v = some (.int (nI (sndN (rdB now pt pw) (decide (¬ up = 0)) wn 5 q).2)) ∧ ad = ad1 ∧ LkA D ad F1 k o1 a1 o2 a2 up wn (sndN (rdB now pt pw) (decide (¬ up = 0)) wn 5 q).1 ∧ ∀ x, x ∉ [k, o1, a1, o2, a2] → F1 x = F x) noX := by
  refine Ct.of (by decide +kernel) (by simp [Value.category]) (Nat.le_of_ble_eq_true rfl) (fun X eD eb el C Q => ?_)
  subst eD; subst eb; subst el
  obtain ⟨rd, hrd⟩ : ∃ z, z = rdB now pt pw := ⟨_, rfl⟩
  obtain ⟨ub, hub⟩ : ∃ z, z = decide (¬ up = 0) := ⟨_, rfl⟩
  rw [← hrd, ← hub] at Q
  obtain ⟨fq, hfq, -⟩ := hk.2.1.2.2
  obtain ⟨fs, hfs, -⟩ := hk.2.2.2.2
  have hsep : ∀ c, c ∈ q.1 ∨ c ∈ q.2.1 → c ∉ [k, o1, a1, o2, a2] := fun c hc => by
    obtain ⟨gs, hgs⟩ : ∃ gs, F c = some (oB 2 gs) := hc.elim (fun h => ⟨_, hP c h⟩) (fun h => hPs c h)
    simp [cls_ne hgs hk.1 (by decide), cls_ne hgs hk.2.1.1 (by decide), cls_ne hgs hk.2.2.1 (by decide), obj_ne hfq hgs, obj_ne hfs hgs]
  refine V_iconst (v := 0) C dX0_sendAll_0 rfl ?_
  refine V_istore_n C dX0_sendAll_1 (by decide) ?_
  have loop : ∀ (d t : Nat) (G : Fn) (p : Lst), t + d = 5 → LkA (xD X) ad G k o1 a1 o2 a2 up wn p → (∀ c ∈ p.1, c ∈ q.1) → (∀ c ∈ p.2.1, c ∈ q.2.1 ∨ c ∈ q.1) → p.2.2 ≤ 5 → (∀ x, x ∉ [k, o1, a1, o2, a2] → G x = F x) → (sndN rd ub wn 5 q).2 = t + (sndN rd ub wn d p).2 → (sndN rd ub wn 5 q).1 = (sndN rd ub wn d p).1 →
      V X 0 0 2 [(0, .ref (ad k)), (1, .int now), (2, .int (nI t))] [] ad G := by
    intro d
    induction d with
    | zero =>
      intro t G p hd9 hp h1 h2 h3 hK e1 e2
      have ht5 : t = 5 := by omega
      subst ht5
      refine V_iload_n C dX0_sendAll_2 rfl ?_
      refine V_iconst (v := 5) C dX0_sendAll_3 rfl ?_
      refine V_icmpge_t (tgt := 23) C dX0_sendAll_4 (by decide) (Int32.le_refl _) ?_
      refine V_iconst (v := 5) C dX0_sendAll_23 rfl ?_
      exact V_ireturn C Q dX0_sendAll_24 rfl (Nat.le_of_ble_eq_true rfl) (Nat.le_of_ble_eq_true rfl) ⟨by rw [e1]; rfl, rfl, by rw [e2]; exact hp, hK⟩
    | succ d ih =>
      intro t G p hd9 hp h1 h2 h3 hK e1 e2
      have hk9 := hp.1
      have hPG : PrtV G p.1 pm pn pf pt pw := fun c hc => (hK c (hsep c (Or.inl (h1 c hc)))).trans (hP c (h1 c hc))
      have hPsG : Prts G p.2.1 := fun c hc => by
        rcases h2 c hc with h | h
        · obtain ⟨gs, hgs⟩ := hPs c h
          exact ⟨gs, (hK c (hsep c (Or.inr h))).trans hgs⟩
        · exact ⟨_, (hK c (hsep c (Or.inl h))).trans (hP c h)⟩
      refine V_iload_n C dX0_sendAll_2 rfl ?_
      refine V_iconst (v := 5) C dX0_sendAll_3 rfl ?_
      refine V_icmpge_f (tgt := 23) C dX0_sendAll_4 (by decide) (nI_ge (a := t) (b := 5) (by omega) (by decide)) ?_
      refine V_aload_n C dX0_sendAll_7 rfl ?_
      refine V_iload_n C dX0_sendAll_8 rfl ?_
      refine V_invV C dX0_sendAll_9 hk9 rfl (c_sendNext k o1 a1 o2 a2 up wn now p pm pn pf pt pw hp hPG hPsG hd hw h3) mv_0_32 rfl (Nat.le_of_ble_eq_true rfl) ⟨Nat.le_of_ble_eq_true rfl, Nat.le_of_ble_eq_true rfl⟩ ⟨Nat.le_of_ble_eq_true rfl, Nat.le_of_ble_eq_true rfl⟩ (fun _ _ _ h => VT_no h) (fun v ad1 F1 hpz => ?_)
      obtain ⟨rfl, hp2⟩ := hpz
      rw [← hrd, ← hub] at hp2
      cases hs : snd1 rd ub wn p with
      | none =>
        rw [hs] at hp2
        obtain ⟨rfl, rfl⟩ := hp2
        refine V_ifne_f (tgt := 17) C dX0_sendAll_12 (by decide) (by decide) ?_
        refine V_iload_n C dX0_sendAll_15 rfl ?_
        exact V_ireturn C Q dX0_sendAll_16 rfl (Nat.le_of_ble_eq_true rfl) (Nat.le_of_ble_eq_true rfl) ⟨by rw [e1]; simp only [sndN, hs]; rfl, rfl, by rw [e2]; simp only [sndN, hs]; exact hp, hK⟩
      | some p2 =>
        rw [hs] at hp2
        obtain ⟨rfl, h5, h6⟩ := hp2
        obtain ⟨s1, s2, s3⟩ := snd1_sub hs
        refine V_ifne_t (tgt := 17) C dX0_sendAll_12 (by decide) (by decide) ?_
        refine V_iinc C dX0_sendAll_17 rfl (nI_inc _) (by decide) ?_
        refine V_goto (tgt := 2) C dX0_sendAll_20 (by decide) ?_
        refine V_sb (ih (t + 1) F1 p2 (by omega) h5 (fun c hc => h1 c (s1 c hc)) (fun c hc => (s2 c hc).elim (h2 c) (fun h => Or.inr (h1 c h))) (by omega) (fr_join hK h6 (fun _ h => h)) (by rw [e1]; simp only [sndN, hs]; omega) (by rw [e2]; simp only [sndN, hs])) ⟨rfl, rfl, rfl, trivial⟩
  refine V_sb (loop 5 0 F q rfl hk (fun _ h => h) (fun _ h => Or.inl h) ht (fun _ _ => rfl) (by omega) rfl) ⟨rfl, rfl, rfl, trivial⟩
theorem ins_len (q : Nat) (B : List Nat) : ∀ A : List Nat, (A ++ B).insertIdx A.length q = A ++ q :: B
  | [] => by simp
  | a :: A => by simp [ins_len q B A]
def wtB (stt : Nat → Int32) (c : Nat) : Bool := decide (stt c = 0)
set_option maxHeartbeats 400000 in
set_option maxRecDepth 100000 in
/-- Link.goDown -/
theorem c_goDown {l : Launch} {D : Dx} {b0 : Nat} {ad : Nat → Nat} {F : Fn} (k o1 a1 o2 a2 : Nat) (up wn tk now : Int32) (Lq Ls : List Nat) (pm : Nat → Nat) (pn pf pt pw : Nat → Int32) (mc : Nat → Nat) (mf : Nat → List Value) (stt : Nat → Int32) (hk : LinkAt ad F k o1 o2 up wn tk) (hq : RowAt D ad F o1 a1 Lq) (hs : RowAt D ad F o2 a2 Ls) (hP : PrtV F Ls pm pn pf pt pw) (hPq : Prts F Lq) (hm : ∀ c ∈ Ls, pm c = ad (mc c) ∧ F (mc c) = some (oB 1 (mf c)) ∧ (mf c)[7]? = some (.int (stt c))) (hd : o1 ≠ o2 ∧ o1 ≠ a2 ∧ a1 ≠ o2 ∧ a1 ≠ a2) (hcap : Lq.length + Ls.length ≤ 120) (hnd : ∀ c ∈ Ls, c ∉ Lq) : Ct l D b0 yX0_goDown (wsA yX0_goDown cX0_goDown 6 none) (rK 2) [.ref (ad k), .int now] ad F (fun v ad1 F1 => v = none ∧ ad = ad1 ∧ LinkAt ad F1 k o1 o2 0 wn tk ∧ RowAt D ad F1 o1 a1 (Ls.filter (wtB stt) ++ Lq) ∧ RowAt D ad F1 o2 a2 [] ∧ (∀ c ∈ Ls, F1 c = some (oB 2 [.ref (pm c), .int (pn c), .int (pf c), .int (if wtB stt c then now else pt c), .int (pw c)])) ∧ ∀ x, x ∉ [k, o1, a1, o2, a2] → x ∉ Ls → F1 x = F x) noX := by
  refine Ct.of (by decide +kernel) (by simp [Value.category]) (Nat.le_of_ble_eq_true rfl) (fun X eD eb el C Q => ?_)
  subst eD; subst eb; subst el
  have hs1 := hs.1
  have hq1 := hq.1
  have hL := hs.2.1
  unfold LinkAt at hk
  obtain ⟨fq, hfq, -⟩ := hq.2.2
  obtain ⟨fs, hfs, -⟩ := hs.2.2
  have hko1 : k ≠ o1 := cls_ne hk hq1 (by decide)
  have hko2 : k ≠ o2 := cls_ne hk hs1 (by decide)
  have hka1 : k ≠ a1 := obj_ne hfq hk
  have hka2 : k ≠ a2 := obj_ne hfs hk
  have hsep : ∀ c gs, F c = some (oB 2 gs) → c ∉ [k, o1, a1, o2, a2] := fun c gs hgs => by
    simp [cls_ne hgs hk (by decide), cls_ne hgs hq1 (by decide), cls_ne hgs hs1 (by decide), obj_ne hfq hgs, obj_ne hfs hgs]
  have hsepM : ∀ c gs, F c = some (oB 1 gs) → c ∉ [k, o1, a1, o2, a2] := fun c gs hgs => by
    simp [cls_ne hgs hk (by decide), cls_ne hgs hq1 (by decide), cls_ne hgs hs1 (by decide), obj_ne hfq hgs, obj_ne hfs hgs]
  refine V_aload_n C dX0_goDown_0 rfl ?_
  refine V_iconst (v := 0) C dX0_goDown_1 rfl ?_
  refine G_put C dX0_goDown_2 fp_0_21 hk rfl rfl (Nat.le_of_ble_eq_true rfl) (fun F1 hk hfr => ?_)
  dsimp only [List.set] at hk
  have hs1 := (hfr _ hko2.symm).trans hs1
  have hfr0 := hfr
  refine V_iconst (v := 0) C dX0_goDown_5 rfl ?_
  refine V_istore_n C dX0_goDown_6 (by decide) ?_
  refine V_aload_n C dX0_goDown_7 rfl ?_
  refine V_get C dX0_goDown_8 fr_0_18 hk rfl ?_
  refine V_get C dX0_goDown_11 fr_0_36 hs1 rfl ?_
  refine V_istore_n C dX0_goDown_14 (by decide) ?_
  refine V_iconst (v := 0) C dX0_goDown_15 rfl ?_
  refine V_istore C dX0_goDown_16 (by decide) ?_
  have loop : ∀ (d t : Nat) (G : Fn), t + d = Ls.length → G k = some (oB 0 [.ref (ad o1), .ref (ad o2), .int 0, .int wn, .int tk]) → RowAt (xD X) ad G o1 a1 ((Ls.take t).filter (wtB stt) ++ Lq) → RowAt (xD X) ad G o2 a2 (Ls.drop t) →
        (∀ c ∈ Ls, G c = some (oB 2 [.ref (pm c), .int (pn c), .int (pf c), .int (if c ∈ Ls.take t ∧ wtB stt c = true then now else pt c), .int (pw c)])) → (∀ x, x ∉ [k, o1, a1, o2, a2] → x ∉ Ls → G x = F x) →
      V X 0 0 18 [(0, .ref (ad k)), (1, .int now), (2, .int (nI ((Ls.take t).filter (wtB stt)).length)), (3, .int (nI Ls.length)), (4, .int (nI t))] [] ad G := by
    intro d
    induction d with
    | zero =>
      intro t G hd9 g1 g2 g3 g4 hK
      have ht : t = Ls.length := by omega
      subst ht
      rw [List.take_length] at g2
      rw [List.drop_length] at g3
      refine V_iload C dX0_goDown_18 rfl ?_
      refine V_iload_n C dX0_goDown_20 rfl ?_
      refine V_icmpge_t (tgt := 75) C dX0_goDown_21 (by decide) (Int32.le_refl _) ?_
      exact V_return C Q dX0_goDown_75 (Nat.le_of_ble_eq_true rfl) (Nat.le_of_ble_eq_true rfl) ⟨rfl, rfl, g1, g2, g3, fun c hc => by rw [g4 c hc, List.take_length]; simp [hc], hK⟩
    | succ d ih =>
      intro t G hd9 g1 g2 g3 g4 hK
      obtain ⟨q, hq⟩ : ∃ q, Ls[t]? = some q := ⟨Ls[t]'(by omega), List.getElem?_eq_getElem (by omega)⟩
      have hqm := List.mem_of_getElem? hq
      have hdq : Ls.drop t = q :: Ls.drop (t + 1) := by rw [List.drop_eq_getElem_cons (by omega)]; congr 1; exact Option.some.inj ((List.getElem?_eq_getElem (by omega)).symm.trans hq)
      have hqt : Ls.take (t + 1) = Ls.take t ++ [q] := by rw [List.take_add_one, hq]; rfl
      obtain ⟨em, hmF, hms⟩ := hm q hqm
      have hmG : G (mc q) = some (oB 1 (mf q)) := (hK (mc q) (hsepM _ _ hmF) (fun h => cls_ne (hP _ h) hmF (by decide) rfl)).trans hmF
      have hPG : Prts G (Ls.drop t) := fun c hc => ⟨_, g4 c (List.mem_of_mem_drop hc)⟩
      have hq0 : (Ls.drop t)[0]? = some q := by rw [hdq]; rfl
      have hPqG : Prts G ((Ls.take t).filter (wtB stt) ++ Lq) := fun c hc => by
        rcases List.mem_append.mp hc with h | h
        · exact ⟨_, g4 c (List.mem_of_mem_take (List.mem_filter.mp h).1)⟩
        · obtain ⟨gs, hgs⟩ := hPq c h
          exact ⟨gs, (hK c (hsep c gs hgs) (fun h2 => hnd c h2 h)).trans hgs⟩
      have hgq := g4 q hqm
      have g31 := g3.1
      have hlen : ((Ls.take t).filter (wtB stt)).length ≤ t := Nat.le_trans (List.length_filter_le _ _) (by rw [List.length_take]; omega)
      obtain ⟨fq2, hfq2, -⟩ := g2.2.2
      obtain ⟨fs2, hfs2, -⟩ := g3.2.2
      refine V_iload C dX0_goDown_18 rfl ?_
      refine V_iload_n C dX0_goDown_20 rfl ?_
      refine V_icmpge_f (tgt := 75) C dX0_goDown_21 (by decide) (nI_ge (by omega) (by omega)) ?_
      refine V_aload_n C dX0_goDown_24 rfl ?_
      refine V_get C dX0_goDown_25 fr_0_18 g1 rfl ?_
      refine V_iconst (v := 0) C dX0_goDown_28 rfl ?_
      refine V_invV C dX0_goDown_29 g31 rfl (c_removeAt o2 a2 0 q _ g3 hPG hq0) mv_0_47 rfl (Nat.le_of_ble_eq_true rfl) ⟨Nat.le_of_ble_eq_true rfl, Nat.le_of_ble_eq_true rfl⟩ ⟨Nat.le_of_ble_eq_true rfl, Nat.le_of_ble_eq_true rfl⟩ (fun _ _ _ h => VT_no h) (fun v ad1 G1 hp => ?_)
      obtain ⟨rfl, rfl, g3, f1⟩ := hp
      rw [hdq, List.eraseIdx_cons_zero] at g3
      have hqF := (f1 q (fun h => hsep q _ (hP q hqm) (by simp at h ⊢; rcases h with h | h <;> simp [h]))).trans hgq
      have hmF := (f1 (mc q) (fun h => hsepM _ _ hmF (by simp at h ⊢; rcases h with h | h <;> simp [h]))).trans hmG
      have g1 := (f1 k (by simp [hko2, hka2])).trans g1
      have g2 := g2.kept (f1 o1 (by simp [hd.1, hd.2.1])) (f1 a1 (by simp [hd.2.2.1, hd.2.2.2]))
      have g4 := fun c hc => (f1 c (fun h => hsep c _ (hP c hc) (by simp at h ⊢; rcases h with h | h <;> simp [h]))).trans (g4 c hc)
      have hPqG : Prts G1 ((Ls.take t).filter (wtB stt) ++ Lq) := fun c hc => by
        obtain ⟨gs, hgs⟩ := hPqG c hc
        have hc2 : ∃ gs2, F c = some (oB 2 gs2) := by
          rcases List.mem_append.mp hc with h | h
          · exact ⟨_, hP c (List.mem_of_mem_take (List.mem_filter.mp h).1)⟩
          · exact hPq c h
        obtain ⟨gs2, hgs2⟩ := hc2
        exact ⟨gs, (f1 c (fun h => hsep c _ hgs2 (by simp at h ⊢; rcases h with h | h <;> simp [h]))).trans hgs⟩
      have hK : ∀ x, x ∉ [k, o1, a1, o2, a2] → x ∉ Ls → G1 x = F x := fun x hx hx2 => (f1 x (fun h => hx (by simp at h ⊢; rcases h with h | h <;> simp [h]))).trans (hK x hx hx2)
      rw [em] at hqF
      refine V_astore C dX0_goDown_32 (by decide) ?_
      refine V_aload C dX0_goDown_34 rfl ?_
      refine V_ifnull C dX0_goDown_36 ?_
      refine V_aload C dX0_goDown_39 rfl ?_
      refine V_get C dX0_goDown_41 fr_0_50 hqF rfl ?_
      refine V_get C dX0_goDown_44 fr_0_56 hmF hms ?_
      refine V_ifne (tgt := 69) C dX0_goDown_47 (by decide) (fun hc => ?_) (fun hc => ?_)
      · have hw : wtB stt q = false := by simp [wtB, hc]
        refine V_iinc C dX0_goDown_69 rfl (nI_inc _) (by decide) ?_
        refine V_goto (tgt := 18) C dX0_goDown_72 (by decide) ?_
        refine V_sb (ih (t + 1) G1 (by omega) g1 ?_ g3 (fun c hc => ?_) hK) ⟨rfl, rfl, ?_, rfl, rfl, trivial⟩
        · rw [hqt, List.filter_append, show [q].filter (wtB stt) = [] by simp [hw], List.append_nil]; exact g2
        · rw [g4 c hc, hqt]
          congr 6
          by_cases e : c = q
          · subst e; simp [hw]
          · simp [e]
        · rw [hqt, List.filter_append, show [q].filter (wtB stt) = [] by simp [hw], List.append_nil]; rfl
      · have hw : wtB stt q = true := by simpa [wtB] using hc
        refine V_aload C dX0_goDown_50 rfl ?_
        refine V_iload_n C dX0_goDown_52 rfl ?_
        refine G_put C dX0_goDown_53 fp_0_61 hqF rfl rfl (Nat.le_of_ble_eq_true rfl) (fun G2 hqF hfr => ?_)
        dsimp only [List.set] at hqF
        have hsq : ∀ z, z ∈ [k, o1, a1, o2, a2] → z ≠ q := fun z hz e => hsep q _ (hP q hqm) (e ▸ hz)
        have g1 := (hfr k (hsq k (by simp))).trans g1
        have g2 := g2.kept (hfr o1 (hsq o1 (by simp))) (hfr a1 (hsq a1 (by simp)))
        have g3 := g3.kept (hfr o2 (hsq o2 (by simp))) (hfr a2 (hsq a2 (by simp)))
        have hPqG : Prts G2 ((Ls.take t).filter (wtB stt) ++ Lq) := fun c hc => by
          by_cases e : c = q
          · subst e; exact ⟨_, hqF⟩
          · obtain ⟨gs, hgs⟩ := hPqG c hc
            exact ⟨gs, (hfr c e).trans hgs⟩
        have g21 := g2.1
        refine V_aload_n C dX0_goDown_56 rfl ?_
        refine V_get C dX0_goDown_57 fr_0_12 g1 rfl ?_
        refine V_iload_n C dX0_goDown_60 rfl ?_
        refine V_aload C dX0_goDown_61 rfl ?_
        refine V_invV C dX0_goDown_63 g21 rfl (c_insert o1 a1 ((Ls.take t).filter (wtB stt)).length q _ g2 hPqG ⟨_, hqF⟩ (by rw [List.length_append]; omega) (by rw [List.length_append]; omega)) mv_0_64 rfl (Nat.le_of_ble_eq_true rfl) ⟨Nat.le_of_ble_eq_true rfl, Nat.le_of_ble_eq_true rfl⟩ ⟨Nat.le_of_ble_eq_true rfl, Nat.le_of_ble_eq_true rfl⟩ (fun _ _ _ h => VT_no h) (fun v ad1 G3 hp => ?_)
        obtain ⟨rfl, rfl, g2, f3⟩ := hp
        have hins : ((Ls.take t).filter (wtB stt) ++ Lq).insertIdx ((Ls.take t).filter (wtB stt)).length q = (Ls.take t).filter (wtB stt) ++ q :: Lq := ins_len q Lq _
        rw [hins] at g2
        refine V_iinc C dX0_goDown_66 rfl (nI_inc _) (by decide) ?_
        refine V_iinc C dX0_goDown_69 rfl (nI_inc _) (by decide) ?_
        refine V_goto (tgt := 18) C dX0_goDown_72 (by decide) ?_
        refine V_sb (ih (t + 1) G3 (by omega) ((f3 k (by simp [hko1, hka1])).trans g1) ?_ (g3.kept (f3 o2 (by simp [hd.1.symm, hd.2.2.1.symm])) (f3 a2 (by simp [hd.2.1.symm, hd.2.2.2.symm]))) (fun c hc => ?_) (fun x hx hx2 => ?_)) ⟨rfl, rfl, ?_, rfl, rfl, trivial⟩
        · rw [hqt, List.filter_append, show [q].filter (wtB stt) = [q] by simp [hw], List.append_assoc]; exact g2
        · refine (f3 c (fun h => hsep c _ (hP c hc) (by simp at h ⊢; rcases h with h | h <;> simp [h]))).trans ?_
          by_cases e : c = q
          · subst e
            rw [hqF, hqt, em]
            simp [hw]
          · rw [hfr c e, g4 c hc, hqt]
            simp [e]
        · exact (f3 x (fun h => hx (by simp at h ⊢; rcases h with h | h <;> simp [h]))).trans ((hfr x (fun e => hx2 (e ▸ hqm))).trans (hK x hx hx2))
        · rw [hqt, List.filter_append, show [q].filter (wtB stt) = [q] by simp [hw], List.length_append]; rfl
  refine V_sb (loop Ls.length 0 F1 (by omega) hk (hq.kept (hfr o1 hko1.symm) (hfr a1 hka1.symm)) (hs.kept (hfr o2 hko2.symm) (hfr a2 hka2.symm)) (fun c hc => ?_) (fun x hx _ => hfr x (fun e => hx (by simp [e])))) ⟨rfl, rfl, rfl, rfl, rfl, trivial⟩
  rw [hfr c (fun e => cls_ne (hP c hc) (‹F k = _›) (by decide) e), hP c hc]
  simp
