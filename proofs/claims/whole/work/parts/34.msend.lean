/-! ===== the model: a link sends, time passes ===== -/
/-- with these rows and tokens of a link -/
def sdW (u : St) (lk : Nat) (q : Lst) : St := sTk (sRw u (va_up (va_up (zRw u) (2 * lk) q.1) (2 * lk + 1) q.2.1)) (va_up (zTk u) lk q.2.2)
def sdQ (u : St) (lk : Nat) : Lst × Nat := sndN (rdU u) (decide (¬ nI (zUp u lk) = 0)) (zWn u lk) 5 (zRw u (2 * lk), zRw u (2 * lk + 1), zTk u lk)
theorem sd_q (u : St) (lk : Nat) (q : Lst) : zRw (sdW u lk q) (2 * lk) = q.1 := by
  show va_up (va_up (zRw u) (2 * lk) q.1) (2 * lk + 1) q.2.1 (2 * lk) = _
  rw [up_n (by omega), up_s]
theorem sd_s (u : St) (lk : Nat) (q : Lst) : zRw (sdW u lk q) (2 * lk + 1) = q.2.1 := up_s
theorem sd_t (u : St) (lk : Nat) (q : Lst) : zTk (sdW u lk q) lk = q.2.2 := up_s
theorem sd_next (u : St) (lk t : Nat) (q : Lst) (A B : List Nat) : sRw (sTk (sRw (sdW u lk q) (va_up (zRw (sdW u lk q)) (2 * lk + 1) B)) (va_up (zTk (sdW u lk q)) lk t)) (va_up (va_up (zRw (sdW u lk q)) (2 * lk + 1) B) (2 * lk) A) = sdW u lk (A, B, t) := by
  have e1 : va_up (va_up (zRw (sdW u lk q)) (2 * lk + 1) B) (2 * lk) A = va_up (va_up (zRw u) (2 * lk) A) (2 * lk + 1) B := by
    funext r
    show va_up (va_up (va_up (va_up (zRw u) (2 * lk) q.1) (2 * lk + 1) q.2.1) (2 * lk + 1) B) (2 * lk) A r = _
    by_cases h1 : r = 2 * lk
    · subst h1; rw [up_s, up_n (by omega), up_s]
    · rw [up_n h1]
      by_cases h2 : r = 2 * lk + 1
      · subst h2; rw [up_s, up_s]
      · rw [up_n h2, up_n h2, up_n h1, up_n h2, up_n h1]
  have e2 : va_up (zTk (sdW u lk q)) lk t = va_up (zTk u) lk t := by
    show va_up (va_up (zTk u) lk q.2.2) lk t = _
    exact bx_uu _ _ _ _
  rw [e1, e2]
  rfl
theorem sd_0 (u : St) (lk : Nat) : sdW u lk (zRw u (2 * lk), zRw u (2 * lk + 1), zTk u lk) = u := by
  have e1 : va_up (va_up (zRw u) (2 * lk) (zRw u (2 * lk))) (2 * lk + 1) (zRw u (2 * lk + 1)) = zRw u := by
    funext r
    by_cases h2 : r = 2 * lk + 1
    · subst h2; rw [up_s]
    · rw [up_n h2]
      by_cases h1 : r = 2 * lk
      · subst h1; rw [up_s]
      · rw [up_n h1]
  have e2 : va_up (zTk u) lk (zTk u lk) = zTk u := by
    funext r
    by_cases h2 : r = lk
    · subst h2; rw [up_s]
    · rw [up_n h2]
  unfold sdW
  simp only
  rw [e1, e2]
theorem snd_none {rd : Nat → Bool} {up : Bool} {wn : Nat} {q : Lst} (h : snd1 rd up wn q = none) : ∀ n, sndN rd up wn n q = (q, 0)
  | 0 => rfl
  | n + 1 => by unfold sndN; rw [h]
theorem inv_sd {s : St} {j : Nat} {q : Lst} (hI : Inv s) (hl : j < 3) (hq : OkQ s j q) : Inv (sdW s j q) := by
  obtain ⟨i1, i2, i3, i4, i5, i6, i7, i8, i9, i10⟩ := hI
  have h7 := i7 j hl
  refine ⟨i1, i2, i3, i4, i5, i6, fun k hk => ?_, i8, i9, i10⟩
  by_cases e : k = j
  · subst e
    rw [sd_q, sd_s, sd_t]
    exact ⟨h7.1, h7.2.1, h7.2.2.1, hq.2.2.2, hq.1, hq.2.1, hq.2.2.1⟩
  · have e1 : zRw (sdW s j q) (2 * k) = zRw s (2 * k) := by
      show va_up (va_up (zRw s) (2 * j) _) (2 * j + 1) _ (2 * k) = _
      rw [up_n (by omega), up_n (by omega)]
    have e2 : zRw (sdW s j q) (2 * k + 1) = zRw s (2 * k + 1) := by
      show va_up (va_up (zRw s) (2 * j) _) (2 * j + 1) _ (2 * k + 1) = _
      rw [up_n (by omega), up_n (by omega)]
    have e3 : zTk (sdW s j q) k = zTk s k := up_n e
    rw [e1, e2, e3]
    exact i7 k hk
theorem nI_nm1 {i : Nat} (h : i < 2 ^ 31) : ¬ nI i = -1 := fun e => by
  have h1 := nI_pos h
  rw [e] at h1
  exact h1 (by decide)
set_option maxHeartbeats 400000 in
set_option maxRecDepth 100000 in
/-- sends -/
theorem m_sends {l : Launch} {D : Dx} {b0 : Nat} {ad : Nat → Nat} {F : Fn} (u : St) (th : Int32) (lk : Nat) (hM0 : MRep D ad F u th) (hI : Inv u) (hl : lk < 3) : Ct l D b0 yX7_sends (wsA yX7_sends cX7_sends 5 (some .int)) (rK 1) [.ref (ad 300), .int (nI lk)] ad F (fun v ad1 F1 => v = some (.int (nI (sdQ u lk).2)) ∧ ad = ad1 ∧ MRep D ad1 F1 (sdW u lk (sdQ u lk).1) th ∧ FrM ad F ad1 F1) noX := by
  refine Ct.of (by decide +kernel) (by simp [Value.category]) (Nat.le_of_ble_eq_true rfl) (fun X eD eb el C Q => ?_)
  subst eD; subst eb; subst el
  have hO := hM0.1
  have hM := hO
  unfold mObj at hM
  have h7 := hI.2.2.2.2.2.2.1 lk hl
  have hcap := row_cap hI hl
  refine V_iconst (v := 0) C dX7_sends_0 rfl ?_
  refine V_istore_n C dX7_sends_1 (by decide) ?_
  refine V_aload_n C dX7_sends_2 rfl ?_
  refine V_iload_n C dX7_sends_3 rfl ?_
  refine V_invV C dX7_sends_4 hM rfl (m_first u th lk hM0 hI hl) mv_7_146 rfl (Nat.le_of_ble_eq_true rfl) ⟨Nat.le_of_ble_eq_true rfl, Nat.le_of_ble_eq_true rfl⟩ ⟨Nat.le_of_ble_eq_true rfl, Nat.le_of_ble_eq_true rfl⟩ (fun _ _ _ h => VT_no h) (fun v ad1 F1 hp => ?_)
  obtain ⟨rfl, rfl, rfl⟩ := hp
  refine V_istore_n C dX7_sends_7 (by decide) ?_
  obtain ⟨up, eup⟩ : ∃ up, up = decide (¬ nI (zUp u lk) = 0) := ⟨_, rfl⟩
  have esd : sdQ u lk = sndN (rdU u) up (zWn u lk) 5 (zRw u (2 * lk), zRw u (2 * lk + 1), zTk u lk) := by rw [eup]; rfl
  have loop : ∀ (n : Nat) (q : Lst) (cnt : Nat) (G : Fn), q.2.2 ≤ n → n ≤ 5 → OkQ u lk q → q.1.length + q.2.1.length ≤ 120 → MRep (xD X) ad G (sdW u lk q) th → (∀ c, (c < 300 ∨ 400 ≤ c) → G c = F c) → (sdQ u lk).2 = cnt + (sndN (rdU u) up (zWn u lk) n q).2 → (sdQ u lk).1 = (sndN (rdU u) up (zWn u lk) n q).1 → cnt + n ≤ 5 →
      V X 0 0 8 [(0, .ref (ad 300)), (1, .int (nI lk)), (2, .int (nI cnt)), (3, .int (fsI q.1 (rdU u)))] [] ad G := by
    intro n
    induction n using Nat.strongRecOn with
    | ind n ih =>
      intro q cnt G hqn hn5 hQ hcp hR hfM hs2 hs1 hcn
      have hI1 := inv_sd hI hl hQ
      have hO := hR.1
      have hM := hO
      unfold mObj at hM
      obtain ⟨f315, h315, g315⟩ := hR.2.2.2.2.2.2.2.2.2.2.2.2.2.1
      obtain ⟨f316, h316, g316⟩ := hR.2.2.2.2.2.2.2.2.2.2.2.2.2.2.1
      obtain ⟨f317, h317, g317⟩ := hR.2.2.2.2.2.2.2.2.2.2.2.2.2.2.2.1
      obtain ⟨f318, h318, g318⟩ := hR.2.2.2.2.2.2.2.2.2.2.2.2.2.2.2.2.1
      obtain ⟨f319, h319, g319⟩ := hR.2.2.2.2.2.2.2.2.2.2.2.2.2.2.2.2.2.1
      obtain ⟨f320, h320, g320⟩ := hR.2.2.2.2.2.2.2.2.2.2.2.2.2.2.2.2.2.2.1
      obtain ⟨f321, h321, g321⟩ := hR.2.2.2.2.2.2.2.2.2.2.2.2.2.2.2.2.2.2.2.1
      have g319q : f319 lk = if zUp u lk = 0 then 1 else 0 := g319 lk hl
      have g321q : f321 lk = nI (zWn u lk) := g321 lk hl
      have g320q : f320 lk = nI q.2.2 := (g320 lk hl).trans (congrArg nI (sd_t u lk q))
      have g315q : f315 lk = nI q.1.length := (g315 lk hl).trans (congrArg (fun L => nI (List.length L)) (sd_q u lk q))
      have g317q : f317 lk = nI q.2.1.length := (g317 lk hl).trans (congrArg (fun L => nI (List.length L)) (sd_s u lk q))
      have g316q : ∀ j, j < q.1.length → f316 (200 * lk + j) = nI (q.1.getD j 0 - 100) := by have h := g316 lk hl; simp only [sd_q] at h; exact h
      have g318q : ∀ j, j < q.2.1.length → f318 (200 * lk + j) = nI (q.2.1.getD j 0 - 100) := by have h := g318 lk hl; simp only [sd_s] at h; exact h
      have out : ∀ st : Int32, snd1 (rdU u) up (zWn u lk) q = none → V X 0 0 165 [(0, .ref (ad 300)), (1, .int (nI lk)), (2, .int (nI cnt)), (3, .int st)] [] ad G := by
        intro st hno
        rw [snd_none hno] at hs2 hs1
        have hs2 : (sdQ u lk).2 = cnt := hs2
        have hs1 : (sdQ u lk).1 = q := hs1
        rw [hs2, hs1] at Q
        refine V_iload_n C dX7_sends_165 rfl ?_
        exact V_ireturn C Q dX7_sends_166 rfl (Nat.le_of_ble_eq_true rfl) (Nat.le_of_ble_eq_true rfl) ⟨rfl, rfl, hR, fun c hc => ⟨rfl, hfM c hc⟩⟩
      refine V_aload_n C dX7_sends_8 rfl ?_
      refine V_get C dX7_sends_9 fr_7_56 hM rfl ?_
      refine V_iload_n C dX7_sends_12 rfl ?_
      refine V_zald C dX7_sends_13 h319 rfl hl (by decide) ?_
      refine V_nm g319q ?_
      refine V_ifne (tgt := 165) C dX7_sends_14 (by decide) (fun h1 => ?_) (fun h1 => ?_)
      · refine V_sb (out _ ?_) ⟨rfl, rfl, rfl, rfl, trivial⟩
        unfold snd1
        rw [if_neg]
        rintro ⟨h, -, -⟩
        rw [eup, decide_eq_true_eq] at h
        refine h1 (if_neg (fun e => h ?_))
        rw [e]; rfl
      · have hup : up = true := by
          rw [eup, decide_eq_true_eq]
          intro e
          have e0 : zUp u lk = 0 := (nI_eq (b := 0) (by have := h7.1; omega) (by decide)).mp e
          rw [if_pos e0] at h1
          exact absurd h1 (by decide)
        refine V_aload_n C dX7_sends_17 rfl ?_
        refine V_get C dX7_sends_18 fr_7_59 hM rfl ?_
        refine V_iload_n C dX7_sends_21 rfl ?_
        refine V_iald C dX7_sends_22 h320 rfl hl (by decide) ?_
        refine V_nm g320q ?_
        refine V_ifle (tgt := 165) C dX7_sends_23 (by decide) (fun h2 => ?_) (fun h2 => ?_)
        · refine V_sb (out _ ?_) ⟨rfl, rfl, rfl, rfl, trivial⟩
          unfold snd1
          rw [if_neg]
          rintro ⟨-, h, -⟩
          exact nI_nle h (by omega) h2
        · have htk : 0 < q.2.2 := Nat.pos_of_ne_zero (fun e => h2 (by rw [e]; decide))
          refine V_aload_n C dX7_sends_26 rfl ?_
          refine V_get C dX7_sends_27 fr_7_50 hM rfl ?_
          refine V_iload_n C dX7_sends_30 rfl ?_
          refine V_iald C dX7_sends_31 h317 rfl hl (by decide) ?_
          refine V_nm g317q ?_
          refine V_aload_n C dX7_sends_32 rfl ?_
          refine V_get C dX7_sends_33 fr_7_62 hM rfl ?_
          refine V_iload_n C dX7_sends_36 rfl ?_
          refine V_iald C dX7_sends_37 h321 rfl hl (by decide) ?_
          refine V_nm g321q ?_
          refine V_icmpge (tgt := 165) C dX7_sends_38 (by decide) (fun h3 => ?_) (fun h3 => ?_)
          · refine V_sb (out _ ?_) ⟨rfl, rfl, rfl, rfl, trivial⟩
            unfold snd1
            rw [if_neg]
            rintro ⟨-, -, h⟩
            exact nI_ge h (by have := h7.2.2.1; omega) h3
          · have hrm : q.2.1.length < zWn u lk := Nat.lt_of_not_le (fun h => h3 (nI_le h (by omega)))
            cases hfi : q.1.findIdx? (rdU u) with
            | none =>
              rw [show fsI q.1 (rdU u) = -1 by unfold fsI; rw [hfi]]
              refine V_iload_n C dX7_sends_41 rfl ?_
              refine V_iconst (v := (-1)) C dX7_sends_42 rfl ?_
              refine V_icmpeq_t (tgt := 165) C dX7_sends_43 (by decide) rfl ?_
              refine V_sb (out _ ?_) ⟨rfl, rfl, rfl, rfl, trivial⟩
              unfold snd1
              rw [if_pos ⟨hup, htk, hrm⟩, hfi]
              rfl
            | some i =>
              rw [show fsI q.1 (rdU u) = nI i by unfold fsI; rw [hfi]]
              obtain ⟨hi, hri, -⟩ := List.findIdx?_eq_some_iff_getElem.mp hfi
              obtain ⟨c, ec⟩ : ∃ c, c = q.1.getD i 0 := ⟨_, rfl⟩
              have hsn : snd1 (rdU u) up (zWn u lk) q = some (q.1.eraseIdx i, q.2.1 ++ [c], q.2.2 - 1) := by
                unfold snd1
                rw [if_pos ⟨hup, htk, hrm⟩, hfi, ec]
                rfl
              have hQ2 : OkQ u lk (q.1.eraseIdx i, q.2.1 ++ [c], q.2.2 - 1) := okq_snd hI hQ hsn
              have hI2 := inv_sd hI hl hQ2
              have hlE : (q.1.eraseIdx i).length = q.1.length - 1 := List.length_eraseIdx_of_lt hi
              obtain ⟨n', en⟩ : ∃ n', n = n' + 1 := ⟨n - 1, by omega⟩
              subst en
              have hs2 : (sdQ u lk).2 = cnt + ((sndN (rdU u) up (zWn u lk) n' (q.1.eraseIdx i, q.2.1 ++ [c], q.2.2 - 1)).2 + 1) := by
                rw [hs2]; conv => lhs; unfold sndN; rw [hsn]
              have hs1 : (sdQ u lk).1 = (sndN (rdU u) up (zWn u lk) n' (q.1.eraseIdx i, q.2.1 ++ [c], q.2.2 - 1)).1 := by
                rw [hs1]; conv => lhs; unfold sndN; rw [hsn]
              have hca : f316 (200 * lk + i) = nI (c - 100) := by rw [ec]; exact g316q i hi
              refine V_iload_n C dX7_sends_41 rfl ?_
              refine V_iconst (v := (-1)) C dX7_sends_42 rfl ?_
              refine V_icmpeq_f (tgt := 165) C dX7_sends_43 (by decide) (nI_nm1 (by omega)) ?_
              refine V_aload_n C dX7_sends_46 rfl ?_
              refine V_get C dX7_sends_47 fr_7_53 hM rfl ?_
              refine V_sipush (v := 200) C dX7_sends_50 (by decide) ?_
              refine V_iload_n C dX7_sends_53 rfl ?_
              refine V_imul C dX7_sends_54 ?_
              refine V_nm (pk_mul 200 lk) ?_
              refine V_aload_n C dX7_sends_55 rfl ?_
              refine V_get C dX7_sends_56 fr_7_50 hM rfl ?_
              refine V_iload_n C dX7_sends_59 rfl ?_
              refine V_iald C dX7_sends_60 h317 rfl hl (by decide) ?_
              refine V_nm g317q ?_
              refine V_iadd C dX7_sends_61 ?_
              refine V_nm (nI_add _ _) ?_
              refine V_aload_n C dX7_sends_62 rfl ?_
              refine V_get C dX7_sends_63 fr_7_47 hM rfl ?_
              refine V_sipush (v := 200) C dX7_sends_66 (by decide) ?_
              refine V_iload_n C dX7_sends_69 rfl ?_
              refine V_imul C dX7_sends_70 ?_
              refine V_nm (pk_mul 200 lk) ?_
              refine V_iload_n C dX7_sends_71 rfl ?_
              refine V_iadd C dX7_sends_72 ?_
              refine V_nm (nI_add _ _) ?_
              refine V_iald C dX7_sends_73 h316 rfl (show 200 * lk + i < 600 by omega) (by decide) ?_
              refine V_nm hca ?_
              refine G_iast C dX7_sends_74 h318 rfl (show 200 * lk + q.2.1.length < 600 by omega) (by decide) (fun G1 h318 hfr => ?_)
              have hM := (hfr _ (by omega)).trans hM
              have h315 := (hfr _ (by omega)).trans h315
              have h316 := (hfr _ (by omega)).trans h316
              have h317 := (hfr _ (by omega)).trans h317
              have h319 := (hfr _ (by omega)).trans h319
              have h320 := (hfr _ (by omega)).trans h320
              have h321 := (hfr _ (by omega)).trans h321
              have hfr1 := hfr
              refine V_aload_n C dX7_sends_75 rfl ?_
              refine V_get C dX7_sends_76 fr_7_50 hM rfl ?_
              refine V_iload_n C dX7_sends_79 rfl ?_
              refine V_dup2 C dX7_sends_80 rfl rfl ?_
              refine V_iald C dX7_sends_81 h317 rfl hl (by decide) ?_
              refine V_nm g317q ?_
              refine V_iconst (v := 1) C dX7_sends_82 rfl ?_
              refine V_iadd C dX7_sends_83 ?_
              refine V_nm (nI_1 _) ?_
              refine G_iast C dX7_sends_84 h317 rfl hl (by decide) (fun G2 h317 hfr => ?_)
              have hM := (hfr _ (by omega)).trans hM
              have h315 := (hfr _ (by omega)).trans h315
              have h316 := (hfr _ (by omega)).trans h316
              have h318 := (hfr _ (by omega)).trans h318
              have h319 := (hfr _ (by omega)).trans h319
              have h320 := (hfr _ (by omega)).trans h320
              have h321 := (hfr _ (by omega)).trans h321
              have hfr2 := hfr
              refine V_aload_n C dX7_sends_85 rfl ?_
              refine V_get C dX7_sends_86 fr_7_59 hM rfl ?_
              refine V_iload_n C dX7_sends_89 rfl ?_
              refine V_dup2 C dX7_sends_90 rfl rfl ?_
              refine V_iald C dX7_sends_91 h320 rfl hl (by decide) ?_
              refine V_nm g320q ?_
              refine V_iconst (v := 1) C dX7_sends_92 rfl ?_
              refine V_isub C dX7_sends_93 ?_
              refine V_nm (nI_m1 htk) ?_
              refine G_iast C dX7_sends_94 h320 rfl hl (by decide) (fun G3 h320 hfr => ?_)
              have hM := (hfr _ (by omega)).trans hM
              have h315 := (hfr _ (by omega)).trans h315
              have h316 := (hfr _ (by omega)).trans h316
              have h317 := (hfr _ (by omega)).trans h317
              have h318 := (hfr _ (by omega)).trans h318
              have h319 := (hfr _ (by omega)).trans h319
              have h321 := (hfr _ (by omega)).trans h321
              have hfr3 := hfr
              refine V_aload_n C dX7_sends_95 rfl ?_
              refine V_get C dX7_sends_96 fr_7_44 hM rfl ?_
              refine V_iload_n C dX7_sends_99 rfl ?_
              refine V_dup2 C dX7_sends_100 rfl rfl ?_
              refine V_iald C dX7_sends_101 h315 rfl hl (by decide) ?_
              refine V_nm g315q ?_
              refine V_iconst (v := 1) C dX7_sends_102 rfl ?_
              refine V_isub C dX7_sends_103 ?_
              refine V_nm (nI_m1 (by omega)) ?_
              refine G_iast C dX7_sends_104 h315 rfl hl (by decide) (fun G4 h315 hfr => ?_)
              have hM := (hfr _ (by omega)).trans hM
              have h316 := (hfr _ (by omega)).trans h316
              have h317 := (hfr _ (by omega)).trans h317
              have h318 := (hfr _ (by omega)).trans h318
              have h319 := (hfr _ (by omega)).trans h319
              have h320 := (hfr _ (by omega)).trans h320
              have h321 := (hfr _ (by omega)).trans h321
              have hfr4 := hfr
              have cs : ∀ r, r < 3 → ((fun r => zRw (sdW u lk q) (2 * r + 1)) r).length ≤ 200 := fun r hr => Nat.le_trans ((row_200 hI1).2 r hr) (by decide)
              have cq : ∀ r, r < 3 → ((fun r => zRw (sdW u lk q) (2 * r)) r).length ≤ 200 := fun r hr => Nat.le_trans ((row_200 hI1).1 r hr) (by decide)
              have hB1 : ∀ j, j < (q.2.1 ++ [c]).length → upd f318 (200 * lk + q.2.1.length) (nI (c - 100)) (200 * lk + j) = nI ((q.2.1 ++ [c]).getD j 0 - 100) := fun j hj => by
                rw [List.length_append] at hj
                simp only [List.length_cons, List.length_nil] at hj
                rw [getD_app]
                by_cases e : j = q.2.1.length
                · rw [e, pk_us, if_pos rfl]
                · rw [pk_un (by omega), if_neg e]; exact g318q j (by omega)
              have hz1 := hR.rs (G := G2) (l := lk) (A := q.2.1 ++ [c]) ⟨_, (((hfr4 317 (by decide)).trans (hfr3 317 (by decide))).symm.trans h317), by
                  have h := rw_len (A := q.2.1 ++ [c]) (l := lk) g317
                  rw [List.length_append] at h
                  exact h⟩ ⟨_, (((hfr4 318 (by decide)).trans (hfr3 318 (by decide))).symm.trans h318), rw_row g318 cs hB1 (fun x hx => pk_un (by omega))⟩ (fun x hx => (hfr2 x (by simp at hx; omega)).trans (hfr1 x (by simp at hx; omega)))
              have hz2 := hz1.tk (G := G3) (tk := va_up (zTk (sdW u lk q)) lk (q.2.2 - 1)) ⟨_, ((hfr4 320 (by decide)).symm.trans h320), upd_va g320⟩ hfr3
              clear hz1
              refine V_sipush (v := 200) C dX7_sends_105 (by decide) ?_
              refine V_iload_n C dX7_sends_108 rfl ?_
              refine V_imul C dX7_sends_109 ?_
              refine V_nm (pk_mul 200 lk) ?_
              refine V_iload_n C dX7_sends_110 rfl ?_
              refine V_iadd C dX7_sends_111 ?_
              refine V_nm (nI_add _ _) ?_
              refine V_istore C dX7_sends_112 (by decide) ?_
              have inner : ∀ (d k : Nat) (H : Fn) (f : Nat → Int32), k + d + 1 = q.1.length → i ≤ k → H 316 = some (aI (xD X) 600 f) → Shf f f316 (200 * lk) i k → (∀ x, x ≠ 316 → H x = G4 x) →
                  V X 0 0 114 [(0, .ref (ad 300)), (1, .int (nI lk)), (2, .int (nI cnt)), (3, .int (nI i)), (4, .int (nI (200 * lk + k)))] [] ad H := by
                intro d
                induction d with
                | zero =>
                  intro k H f hd hik h316 hsh hKH
                  have hk : k = q.1.length - 1 := by omega
                  have hM := (hKH 300 (by decide)).trans hM
                  have h315 := (hKH 315 (by decide)).trans h315
                  refine V_iload C dX7_sends_114 rfl ?_
                  refine V_sipush (v := 200) C dX7_sends_116 (by decide) ?_
                  refine V_iload_n C dX7_sends_119 rfl ?_
                  refine V_imul C dX7_sends_120 ?_
                  refine V_nm (pk_mul 200 lk) ?_
                  refine V_aload_n C dX7_sends_121 rfl ?_
                  refine V_get C dX7_sends_122 fr_7_44 hM rfl ?_
                  refine V_iload_n C dX7_sends_125 rfl ?_
                  refine V_iald C dX7_sends_126 h315 rfl hl (by decide) ?_
                  refine V_nm pk_us ?_
                  refine V_iadd C dX7_sends_127 ?_
                  refine V_nm (nI_add _ _) ?_
                  refine V_icmpge_t (tgt := 153) C dX7_sends_128 (by decide) (by rw [hk]; exact Int32.le_refl _) ?_
                  have hz3 := hz2.rq (G := H) (l := lk) (A := q.1.eraseIdx i) ⟨_, h315, by
                      have h := rw_len (A := q.1.eraseIdx i) (l := lk) g315
                      rw [hlE] at h
                      intro r hr
                      refine (h r hr).trans (congrArg (fun L => nI (List.length L)) ?_)
                      by_cases e : r = lk
                      · subst e; rw [up_s, up_s]
                      · rw [up_n e, up_n e]; exact (up_n (by omega)).symm⟩ ⟨_, h316, by
                      intro r hr j hj
                      have h := rw_row (f := f) (l := lk) (A := q.1.eraseIdx i) g316 cq (hsh.done (by omega) hik g316q) (hsh.out (by omega)) r hr
                      by_cases e : r = lk
                      · subst e; rw [up_s] at hj h ⊢; exact h j hj
                      · rw [up_n e] at hj h ⊢
                        have e2 : zRw (sTk (sRw (sdW u lk q) (va_up (zRw (sdW u lk q)) (2 * lk + 1) (q.2.1 ++ [c]))) (va_up (zTk (sdW u lk q)) lk (q.2.2 - 1))) (2 * r) = zRw (sdW u lk q) (2 * r) := up_n (by omega)
                        rw [e2] at hj ⊢
                        exact h j hj⟩ (fun x hx => (hKH x (by simp at hx; omega)).trans (hfr4 x (by simp at hx; omega)))
                  have hz4 : MRep (xD X) ad H (sdW u lk (q.1.eraseIdx i, q.2.1 ++ [c], q.2.2 - 1)) th := by
                    rw [← sd_next u lk (q.2.2 - 1) q (q.1.eraseIdx i) (q.2.1 ++ [c])]
                    exact hz3
                  clear hz3
                  refine V_iinc C dX7_sends_153 rfl (nI_inc _) (by decide) ?_
                  refine V_aload_n C dX7_sends_156 rfl ?_
                  refine V_iload_n C dX7_sends_157 rfl ?_
                  refine V_invV C dX7_sends_158 hM rfl (m_first _ th lk hz4 hI2 hl) mv_7_146 rfl (Nat.le_of_ble_eq_true rfl) ⟨Nat.le_of_ble_eq_true rfl, Nat.le_of_ble_eq_true rfl⟩ ⟨Nat.le_of_ble_eq_true rfl, Nat.le_of_ble_eq_true rfl⟩ (fun _ _ _ h => VT_no h) (fun v ad1 F1 hp => ?_)
                  obtain ⟨rfl, rfl, rfl⟩ := hp
                  rw [sd_q]
                  refine V_istore_n C dX7_sends_161 (by decide) ?_
                  refine V_goto (tgt := 8) C dX7_sends_162 (by decide) ?_
                  refine V_sb (ih n' (by omega) (q.1.eraseIdx i, q.2.1 ++ [c], q.2.2 - 1) (cnt + 1) H (by show q.2.2 - 1 ≤ n'; omega) (by omega) hQ2 (by show (q.1.eraseIdx i).length + (q.2.1 ++ [c]).length ≤ 120; rw [hlE, List.length_append]; simp only [List.length_cons, List.length_nil]; omega) hz4 (fun x hx => ((hKH x (by omega)).trans ((hfr4 x (by omega)).trans ((hfr3 x (by omega)).trans ((hfr2 x (by omega)).trans (hfr1 x (by omega)))))).trans (hfM x hx)) (by rw [hs2]; omega) hs1 (by omega)) ⟨rfl, rfl, rfl, rfl, trivial⟩
                | succ d ihd =>
                  intro k H f hd hik h316 hsh hKH
                  have hM := (hKH 300 (by decide)).trans hM
                  have h315 := (hKH 315 (by decide)).trans h315
                  refine V_iload C dX7_sends_114 rfl ?_
                  refine V_sipush (v := 200) C dX7_sends_116 (by decide) ?_
                  refine V_iload_n C dX7_sends_119 rfl ?_
                  refine V_imul C dX7_sends_120 ?_
                  refine V_nm (pk_mul 200 lk) ?_
                  refine V_aload_n C dX7_sends_121 rfl ?_
                  refine V_get C dX7_sends_122 fr_7_44 hM rfl ?_
                  refine V_iload_n C dX7_sends_125 rfl ?_
                  refine V_iald C dX7_sends_126 h315 rfl hl (by decide) ?_
                  refine V_nm pk_us ?_
                  refine V_iadd C dX7_sends_127 ?_
                  refine V_nm (nI_add _ _) ?_
                  refine V_icmpge_f (tgt := 153) C dX7_sends_128 (by decide) (nI_ge (by omega) (by omega)) ?_
                  refine V_aload_n C dX7_sends_131 rfl ?_
                  refine V_get C dX7_sends_132 fr_7_47 hM rfl ?_
                  refine V_iload C dX7_sends_135 rfl ?_
                  refine V_aload_n C dX7_sends_137 rfl ?_
                  refine V_get C dX7_sends_138 fr_7_47 hM rfl ?_
                  refine V_iload C dX7_sends_141 rfl ?_
                  refine V_iconst (v := 1) C dX7_sends_143 rfl ?_
                  refine V_iadd C dX7_sends_144 ?_
                  refine V_nm (nI_1 _) ?_
                  refine V_iald C dX7_sends_145 h316 rfl (show 200 * lk + k + 1 < 600 by omega) (by decide) ?_
                  refine G_iast C dX7_sends_146 h316 rfl (show 200 * lk + k < 600 by omega) (by decide) (fun H1 h316 hfr => ?_)
                  refine V_iinc C dX7_sends_147 rfl (nI_inc _) (by decide) ?_
                  refine V_goto (tgt := 114) C dX7_sends_150 (by decide) ?_
                  exact V_sb (ihd (k + 1) H1 _ (by omega) (by omega) h316 (hsh.step hik) (fun x hx => (hfr x hx).trans (hKH x hx))) ⟨rfl, rfl, rfl, rfl, rfl, trivial⟩
              exact V_sb (inner (q.1.length - 1 - i) i G4 f316 (by omega) (Nat.le_refl _) h316 Shf.rf (fun _ _ => rfl)) ⟨rfl, rfl, rfl, rfl, rfl, trivial⟩
  refine V_sb (loop 5 (zRw u (2 * lk), zRw u (2 * lk + 1), zTk u lk) 0 F h7.2.2.2.1 (Nat.le_refl _) ⟨h7.2.2.2.2.1, h7.2.2.2.2.2.1, h7.2.2.2.2.2.2, h7.2.2.2.1⟩ hcap (by rw [sd_0]; exact hM0) (fun _ _ => rfl) (by rw [esd, Nat.zero_add]) (by rw [esd]) (by decide)) ⟨rfl, rfl, rfl, rfl, trivial⟩
