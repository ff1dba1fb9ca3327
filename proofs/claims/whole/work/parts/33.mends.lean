/-! ===== the model: a message ends; a link sends ===== -/
theorem flt_suc {L : List Nat} {p : Nat → Bool} {k : Nat} (h : k < L.length) : (L.take (k + 1)).filter p = if p (L.getD k 0) = true then (L.take k).filter p ++ [L.getD k 0] else (L.take k).filter p := by
  rw [List.take_succ, List.filter_append, List.getD_eq_getElem?_getD, List.getElem?_eq_getElem h]
  simp only [Option.toList_some, Option.getD_some]
  by_cases hp : p L[k] = true
  · rw [if_pos hp, List.filter_cons_of_pos hp]; rfl
  · rw [if_neg hp, List.filter_cons_of_neg hp]; simp
theorem getD_mem {L : List Nat} {k : Nat} (h : k < L.length) : L.getD k 0 ∈ L := by
  rw [List.getD_eq_getElem?_getD, List.getElem?_eq_getElem h]
  exact List.getElem_mem h
theorem q_in {u : St} (hI : Inv u) {l c : Nat} (hl : l < 3) (hc : c ∈ zRw u (2 * l)) : InRow u l c := ((hI.2.2.2.2.2.2.1 l hl).2.2.2.2.2.1 c hc).1
theorem s_in {u : St} (hI : Inv u) {l c : Nat} (hl : l < 3) (hc : c ∈ zRw u (2 * l + 1)) : InRow u l c := ((hI.2.2.2.2.2.2.1 l hl).2.2.2.2.2.2 c hc).1
set_option maxHeartbeats 400000 in
set_option maxRecDepth 100000 in
/-- ends -/
theorem m_ends {l : Launch} {D : Dx} {b0 : Nat} {ad : Nat → Nat} {F : Fn} (u : St) (th : Int32) (m how : Nat) (hM0 : MRep D ad F u th) (hI : Inv u) (hm : m < zMc u) (h0 : zSt u m = 0) (hh : how < 4) : Ct l D b0 yX7_ends (wsA yX7_ends cX7_ends 7 none) r0 [.ref (ad 300), .int (nI m), .int (nI how)] ad F (fun v ad1 F1 => v = none ∧ ad = ad1 ∧ MRep D ad1 F1 (finS u m how) th ∧ FrM ad F ad1 F1) noX := by
  refine Ct.of (by decide +kernel) (by simp [Value.category]) (Nat.le_of_ble_eq_true rfl) (fun X eD eb el C Q => ?_)
  subst eD; subst eb; subst el
  have hO := hM0.1
  have hM := hO
  unfold mObj at hM
  have hmc := hI.2.1
  have hr20 := rcp_lt hI hm h0
  obtain ⟨f308, h308, g308⟩ := hM0.2.2.2.2.2.2.2.1
  obtain ⟨f310, h310, g310⟩ := hM0.2.2.2.2.2.2.2.2.1
  obtain ⟨f306, h306, g306⟩ := hM0.2.2.2.2.2.1
  obtain ⟨f315, h315, g315⟩ := hM0.2.2.2.2.2.2.2.2.2.2.2.2.2.1
  obtain ⟨f316, h316, g316⟩ := hM0.2.2.2.2.2.2.2.2.2.2.2.2.2.2.1
  obtain ⟨l, el⟩ : ∃ l, l = zRc u m % 3 := ⟨_, rfl⟩
  have hl : l < 3 := by omega
  obtain ⟨L, eL⟩ : ∃ L, L = zRw u (2 * l) := ⟨_, rfl⟩
  have hlen : L.length ≤ 120 := by rw [eL]; exact (row_200 hI).1 l hl
  have g316q : ∀ j, j < L.length → f316 (200 * l + j) = nI (L.getD j 0 - 100) := by rw [eL]; exact g316 l hl
  have g315q : f315 l = nI L.length := by rw [eL]; exact g315 l hl
  have hrc9 := (hI.2.2.2.2.2.1 m hm).2.2.2.1
  have hK : ∀ x, x ∉ [300, 308, 310] → F x = F x := fun _ _ => rfl
  refine V_aload_n C dX7_ends_0 rfl ?_
  refine V_get C dX7_ends_1 fr_7_25 hM rfl ?_
  refine V_iload_n C dX7_ends_4 rfl ?_
  refine V_iload_n C dX7_ends_5 rfl ?_
  refine G_iast C dX7_ends_6 h308 rfl (show m < 20 by omega) (by decide) (fun F1 h308 hfr => ?_)
  have hM := (hfr _ (by omega)).trans hM
  have h310 := (hfr _ (by omega)).trans h310
  have h306 := (hfr _ (by omega)).trans h306
  have h315 := (hfr _ (by omega)).trans h315
  have h316 := (hfr _ (by omega)).trans h316
  have hK := fr_step hK hfr (by decide)
  refine V_aload_n C dX7_ends_7 rfl ?_
  refine V_get C dX7_ends_8 fr_7_28 hM rfl ?_
  refine V_aload_n C dX7_ends_11 rfl ?_
  refine V_get C dX7_ends_12 fr_7_143 hM rfl ?_
  refine V_bipush (v := 10) C dX7_ends_15 (by decide) ?_
  refine V_iload_n C dX7_ends_17 rfl ?_
  refine V_imul C dX7_ends_18 ?_
  refine V_nm (pk_mul 10 m) ?_
  refine V_iload_n C dX7_ends_19 rfl ?_
  refine V_iadd C dX7_ends_20 ?_
  refine V_nm (nI_add _ how) ?_
  refine G_iast C dX7_ends_21 h310 rfl hr20 (by decide) (fun F2 h310 hfr => ?_)
  have hM := (hfr _ (by omega)).trans hM
  have h308 := (hfr _ (by omega)).trans h308
  have h306 := (hfr _ (by omega)).trans h306
  have h315 := (hfr _ (by omega)).trans h315
  have h316 := (hfr _ (by omega)).trans h316
  have hK := fr_step hK hfr (by decide)
  refine V_aload_n C dX7_ends_22 rfl ?_
  refine V_dup C dX7_ends_23 rfl ?_
  refine V_get C dX7_ends_24 fr_7_143 hM rfl ?_
  refine V_iconst (v := 1) C dX7_ends_27 rfl ?_
  refine V_iadd C dX7_ends_28 ?_
  refine V_nm (nI_1 _) ?_
  refine G_put C dX7_ends_29 fp_7_143 hM rfl rfl (Nat.le_of_ble_eq_true rfl) (fun F3 hM hfr => ?_)
  dsimp only [List.set] at hM
  have h308 := (hfr _ (by omega)).trans h308
  have h310 := (hfr _ (by omega)).trans h310
  have h306 := (hfr _ (by omega)).trans h306
  have h315 := (hfr _ (by omega)).trans h315
  have h316 := (hfr _ (by omega)).trans h316
  have hK := fr_step hK hfr (by decide)
  refine V_aload_n C dX7_ends_32 rfl ?_
  refine V_get C dX7_ends_33 fr_7_19 hM rfl ?_
  refine V_iload_n C dX7_ends_36 rfl ?_
  refine V_iald C dX7_ends_37 h306 rfl (show m < 20 by omega) (by decide) ?_
  refine V_nm (g306 m hm) ?_
  refine V_iconst (v := 3) C dX7_ends_38 rfl ?_
  refine V_irem C dX7_ends_39 (by decide) ?_
  refine V_nm (pk_rem (a := zRc u m) (d := 3) (by omega) (by decide) (by decide)) ?_
  rw [← el]
  refine V_istore_n C dX7_ends_40 (by decide) ?_
  refine V_iconst (v := 0) C dX7_ends_41 rfl ?_
  refine V_istore C dX7_ends_42 (by decide) ?_
  refine V_iconst (v := 0) C dX7_ends_44 rfl ?_
  refine V_istore C dX7_ends_45 (by decide) ?_
  have hB : MRep (xD X) ad F3 (feS u m how) th := hM0.fe hM ⟨_, h308, fun k hk => ?_⟩ ⟨_, h310, fun j hj => ?_⟩ hK
  rotate_left
  · by_cases e : k = m
    · subst e; rw [pk_us]; show _ = if k < zMc u then nI (va_up (zSt u) k how k) else 0; rw [if_pos hm, up_s]
    · rw [pk_un e]; show _ = if k < zMc u then nI (va_up (zSt u) m how k) else 0; rw [up_n e]; exact g308 k hk
  · show _ = nI ((zRcp u ++ [10 * m + how]).getD j 0)
    rw [getD_app]
    by_cases e : j = (zRcp u).length
    · rw [e, pk_us, if_pos rfl]
    · rw [pk_un e, if_neg e]; exact g310 j (by omega)
  clear h308 h310
  have loop : ∀ (d k n : Nat) (G : Fn) (f : Nat → Int32), k + d = L.length → n = ((L.take k).filter (fun c => decide (mOf c ≠ m))).length → n ≤ k → G 316 = some (aI (xD X) 600 f) → (∀ j, j < n → f (200 * l + j) = nI (((L.take k).filter (fun c => decide (mOf c ≠ m))).getD j 0 - 100)) → (∀ i, i < 200 * l ∨ 200 * l + k ≤ i → f i = f316 i) → (∀ x, x ≠ 316 → G x = F3 x) →
      V X 0 0 47 [(0, .ref (ad 300)), (1, .int (nI m)), (2, .int (nI how)), (3, .int (nI l)), (4, .int (nI n)), (5, .int (nI k))] [] ad G := by
    intro d
    induction d with
    | zero =>
      intro k n G f hd hn hnk h316 hf ho hKG
      have hk : k = L.length := by omega
      subst hk
      have hM := (hKG 300 (by decide)).trans hM
      have h315 := (hKG 315 (by decide)).trans h315
      rw [List.take_length] at hn hf
      refine V_iload C dX7_ends_47 rfl ?_
      refine V_aload_n C dX7_ends_49 rfl ?_
      refine V_get C dX7_ends_50 fr_7_44 hM rfl ?_
      refine V_iload_n C dX7_ends_53 rfl ?_
      refine V_iald C dX7_ends_54 h315 rfl hl (by decide) ?_
      refine V_nm g315q ?_
      refine V_icmpge_t (tgt := 106) C dX7_ends_55 (by decide) (Int32.le_refl _) ?_
      refine V_aload_n C dX7_ends_106 rfl ?_
      refine V_get C dX7_ends_107 fr_7_44 hM rfl ?_
      refine V_iload_n C dX7_ends_110 rfl ?_
      refine V_iload C dX7_ends_111 rfl ?_
      refine G_iast C dX7_ends_113 h315 rfl hl (by decide) (fun G1 h315 hfr => ?_)
      have h316 := (hfr _ (by omega)).trans h316
      subst hn
      have hz := hB.rq (l := l) (A := L.filter (fun c => decide (mOf c ≠ m))) ⟨_, h315, rw_len g315⟩ ⟨_, h316, rw_row g316 (fun r hr => Nat.le_trans ((row_200 hI).1 r hr) (by decide)) hf (fun i hi => ho i (by omega))⟩ (fun x hx => (hfr x (by simp at hx; omega)).trans (hKG x (by simp at hx; omega)))
      rw [eL, el] at hz
      exact V_return C Q dX7_ends_114 (Nat.le_of_ble_eq_true rfl) (Nat.le_of_ble_eq_true rfl) ⟨rfl, rfl, hz, fun c hc => ⟨rfl, ((hfr c (by omega)).trans (hKG c (by omega))).trans (hK c (by simp; omega))⟩⟩
    | succ d ih =>
      intro k n G f hd hn hnk h316 hf ho hKG
      have hM := (hKG 300 (by decide)).trans hM
      have h315 := (hKG 315 (by decide)).trans h315
      obtain ⟨c, ec⟩ : ∃ c, c = L.getD k 0 := ⟨_, rfl⟩
      have hcm : c ∈ zRw u (2 * l) := by rw [ec, ← eL]; exact getD_mem (by omega)
      have hin := inr_eq hI (q_in hI hl hcm)
      have hfs := flt_suc (p := fun c => decide (mOf c ≠ m)) (show k < L.length by omega)
      rw [← ec] at hfs
      have hfk : f (200 * l + k) = nI (c - 100) := by rw [ho _ (by omega), g316q k (by omega), ec]
      refine V_iload C dX7_ends_47 rfl ?_
      refine V_aload_n C dX7_ends_49 rfl ?_
      refine V_get C dX7_ends_50 fr_7_44 hM rfl ?_
      refine V_iload_n C dX7_ends_53 rfl ?_
      refine V_iald C dX7_ends_54 h315 rfl hl (by decide) ?_
      refine V_nm g315q ?_
      refine V_icmpge_f (tgt := 106) C dX7_ends_55 (by decide) (nI_ge (by omega) (by omega)) ?_
      refine V_aload_n C dX7_ends_58 rfl ?_
      refine V_get C dX7_ends_59 fr_7_47 hM rfl ?_
      refine V_sipush (v := 200) C dX7_ends_62 (by decide) ?_
      refine V_iload_n C dX7_ends_65 rfl ?_
      refine V_imul C dX7_ends_66 ?_
      refine V_nm (pk_mul 200 l) ?_
      refine V_iload C dX7_ends_67 rfl ?_
      refine V_iadd C dX7_ends_69 ?_
      refine V_nm (nI_add _ k) ?_
      refine V_iald C dX7_ends_70 h316 rfl (show 200 * l + k < 600 by omega) (by decide) ?_
      refine V_nm hfk ?_
      refine V_istore C dX7_ends_71 (by decide) ?_
      refine V_iload C dX7_ends_73 rfl ?_
      refine V_bipush (v := 10) C dX7_ends_75 (by decide) ?_
      refine V_idiv C dX7_ends_77 (by decide) ?_
      refine V_nm (pk_div (a := c - 100) (d := 10) (by omega) (by decide) (by decide)) ?_
      refine V_iload_n C dX7_ends_78 rfl ?_
      refine V_icmpeq (tgt := 100) C dX7_ends_79 (by decide) (fun h1 => ?_) (fun h1 => ?_)
      · have hp : mOf c = m := (nI_eq (by unfold mOf; omega) (by omega)).mp h1
        rw [if_neg (by simp [hp])] at hfs
        refine V_iinc C dX7_ends_100 rfl (nI_inc _) (by decide) ?_
        refine V_goto (tgt := 47) C dX7_ends_103 (by decide) ?_
        exact V_sb (ih (k + 1) n G f (by omega) (by rw [hfs]; exact hn) (by omega) h316 (by rw [hfs]; exact hf) (fun i hi => ho i (by omega)) hKG) ⟨rfl, rfl, rfl, rfl, rfl, rfl, trivial⟩
      · have hp : mOf c ≠ m := fun e => h1 (by rw [← e]; rfl)
        rw [if_pos (by simp [hp])] at hfs
        refine V_aload_n C dX7_ends_82 rfl ?_
        refine V_get C dX7_ends_83 fr_7_47 hM rfl ?_
        refine V_sipush (v := 200) C dX7_ends_86 (by decide) ?_
        refine V_iload_n C dX7_ends_89 rfl ?_
        refine V_imul C dX7_ends_90 ?_
        refine V_nm (pk_mul 200 l) ?_
        refine V_iload C dX7_ends_91 rfl ?_
        refine V_iadd C dX7_ends_93 ?_
        refine V_nm (nI_add _ n) ?_
        refine V_iload C dX7_ends_94 rfl ?_
        refine G_iast C dX7_ends_96 h316 rfl (show 200 * l + n < 600 by omega) (by decide) (fun G1 h316 hfr => ?_)
        refine V_iinc C dX7_ends_97 rfl (nI_inc _) (by decide) ?_
        refine V_iinc C dX7_ends_100 rfl (nI_inc _) (by decide) ?_
        refine V_goto (tgt := 47) C dX7_ends_103 (by decide) ?_
        refine V_sb (ih (k + 1) (n + 1) G1 _ (by omega) (by rw [hfs, List.length_append, ← hn]; rfl) (by omega) h316 (fun j hj => ?_) (fun i hi => ?_) (fun x hx => (hfr x hx).trans (hKG x hx))) ⟨rfl, rfl, rfl, rfl, rfl, rfl, trivial⟩
        · rw [hfs, getD_app, ← hn]
          by_cases e : j = n
          · rw [e, pk_us, if_pos rfl]
          · rw [pk_un (by omega), if_neg e]; exact hf j (by omega)
        · rw [pk_un (by omega)]; exact ho i (by omega)
  exact V_sb (loop L.length 0 0 F3 f316 (Nat.zero_add _) (by simp) (Nat.le_refl _) h316 (fun j hj => absurd hj (Nat.not_lt_zero j)) (fun _ _ => rfl) (fun _ _ => rfl)) ⟨rfl, rfl, rfl, rfl, rfl, rfl, trivial⟩
def rdU (u : St) : Nat → Bool := rdB (nI (zNow u)) (fun c => nI (zPt u c)) (fun c => nI (zPw u c))
def fsI (L : List Nat) (rd : Nat → Bool) : Int32 := match L.findIdx? rd with
  | none => -1
  | some i => nI i
theorem fs_none {L : List Nat} {rd : Nat → Bool} (h : ∀ j, j < L.length → rd (L.getD j 0) = false) : fsI L rd = -1 := by
  unfold fsI
  rw [List.findIdx?_eq_none_iff.mpr (fun x hx => by
    obtain ⟨j, hj, e⟩ := List.mem_iff_getElem.mp hx
    have h1 := h j hj
    rw [List.getD_eq_getElem?_getD, List.getElem?_eq_getElem hj, Option.getD_some, e] at h1
    exact h1)]
theorem fs_some {L : List Nat} {rd : Nat → Bool} {k : Nat} (hk : k < L.length) (h1 : rd (L.getD k 0) = true) (h : ∀ j, j < k → rd (L.getD j 0) = false) : fsI L rd = nI k := by
  unfold fsI
  rw [List.findIdx?_eq_some_iff_getElem.mpr ⟨hk, by rw [List.getD_eq_getElem?_getD, List.getElem?_eq_getElem hk] at h1; exact h1, fun j hj => by
    have h2 := h j hj
    rw [List.getD_eq_getElem?_getD, List.getElem?_eq_getElem (by omega : j < L.length), Option.getD_some] at h2
    rw [h2]; decide⟩]
set_option maxHeartbeats 400000 in
set_option maxRecDepth 100000 in
/-- first -/
theorem m_first {l : Launch} {D : Dx} {b0 : Nat} {ad : Nat → Nat} {F : Fn} (u : St) (th : Int32) (lk : Nat) (hM0 : MRep D ad F u th) (hI : Inv u) (hl : lk < 3) : Ct l D b0 yX7_first (wsA yX7_first cX7_first 4 (some .int)) r0 [.ref (ad 300), .int (nI lk)] ad F (pRd (some (.int (fsI (zRw u (2 * lk)) (rdU u)))) ad F) noX := by
  refine Ct.of (by decide +kernel) (by simp [Value.category]) (Nat.le_of_ble_eq_true rfl) (fun X eD eb el C Q => ?_)
  subst eD; subst eb; subst el
  have hO := hM0.1
  have hM := hO
  unfold mObj at hM
  have hmc := hI.2.1
  obtain ⟨f311, h311, g311⟩ := hM0.2.2.2.2.2.2.2.2.2.1
  obtain ⟨f313, h313, g313⟩ := hM0.2.2.2.2.2.2.2.2.2.2.2.1
  obtain ⟨f315, h315, g315⟩ := hM0.2.2.2.2.2.2.2.2.2.2.2.2.2.1
  obtain ⟨f316, h316, g316⟩ := hM0.2.2.2.2.2.2.2.2.2.2.2.2.2.2.1
  obtain ⟨L, eL⟩ : ∃ L, L = zRw u (2 * lk) := ⟨_, rfl⟩
  have hlen : L.length ≤ 120 := by rw [eL]; exact (row_200 hI).1 lk hl
  have g316q : ∀ j, j < L.length → f316 (200 * lk + j) = nI (L.getD j 0 - 100) := by rw [eL]; exact g316 lk hl
  have g315q : f315 lk = nI L.length := by rw [eL]; exact g315 lk hl
  rw [← eL] at Q
  refine V_iconst (v := 0) C dX7_first_0 rfl ?_
  refine V_istore_n C dX7_first_1 (by decide) ?_
  have loop : ∀ (d k : Nat), k + d = L.length → (∀ j, j < k → rdU u (L.getD j 0) = false) → V X 0 0 2 [(0, .ref (ad 300)), (1, .int (nI lk)), (2, .int (nI k))] [] ad F := by
    intro d
    induction d with
    | zero =>
      intro k hd hno
      have hk : k = L.length := by omega
      subst hk
      rw [fs_none hno] at Q
      refine V_iload_n C dX7_first_2 rfl ?_
      refine V_aload_n C dX7_first_3 rfl ?_
      refine V_get C dX7_first_4 fr_7_44 hM rfl ?_
      refine V_iload_n C dX7_first_7 rfl ?_
      refine V_iald C dX7_first_8 h315 rfl hl (by decide) ?_
      refine V_nm g315q ?_
      refine V_icmpge_t (tgt := 55) C dX7_first_9 (by decide) (Int32.le_refl _) ?_
      refine V_iconst (v := (-1)) C dX7_first_55 rfl ?_
      exact V_ireturn C Q dX7_first_56 rfl (Nat.le_of_ble_eq_true rfl) (Nat.le_of_ble_eq_true rfl) ⟨rfl, rfl, rfl⟩
    | succ d ih =>
      intro k hd hno
      obtain ⟨c, ec⟩ : ∃ c, c = L.getD k 0 := ⟨_, rfl⟩
      have hcm : c ∈ zRw u (2 * lk) := by rw [ec, ← eL]; exact getD_mem (by omega)
      have hin := inr_eq hI (q_in hI hl hcm)
      have e10 : c - 100 = 10 * mOf c + pOf c := by omega
      have ed : f311 (c - 100) = nI (zPt u c) := by
        have h := g311 (mOf c) hin.1 (pOf c) hin.2.1
        rw [← hin.2.2.2.1] at h
        rw [e10]; exact h
      have ew : f313 (c - 100) = nI (zPw u c) := by
        have h := g313 (mOf c) hin.1 (pOf c) hin.2.1
        rw [← hin.2.2.2.1] at h
        rw [e10]; exact h
      have er : rdU u c = decide (nI (zPw u c) = 0 ∧ nI (zPt u c) ≤ nI (zNow u)) := rfl
      have nx : rdU u c = false → V X 0 0 49 [(0, .ref (ad 300)), (1, .int (nI lk)), (2, .int (nI k))] [] ad F := by
        intro hr
        refine V_iinc C dX7_first_49 rfl (nI_inc _) (by decide) ?_
        refine V_goto (tgt := 2) C dX7_first_52 (by decide) ?_
        refine V_sb (ih (k + 1) (by omega) (fun j hj => ?_)) ⟨rfl, rfl, rfl, trivial⟩
        by_cases e : j = k
        · rw [e, ← ec]; exact hr
        · exact hno j (by omega)
      refine V_iload_n C dX7_first_2 rfl ?_
      refine V_aload_n C dX7_first_3 rfl ?_
      refine V_get C dX7_first_4 fr_7_44 hM rfl ?_
      refine V_iload_n C dX7_first_7 rfl ?_
      refine V_iald C dX7_first_8 h315 rfl hl (by decide) ?_
      refine V_nm g315q ?_
      refine V_icmpge_f (tgt := 55) C dX7_first_9 (by decide) (nI_ge (by omega) (by omega)) ?_
      refine V_aload_n C dX7_first_12 rfl ?_
      refine V_get C dX7_first_13 fr_7_47 hM rfl ?_
      refine V_sipush (v := 200) C dX7_first_16 (by decide) ?_
      refine V_iload_n C dX7_first_19 rfl ?_
      refine V_imul C dX7_first_20 ?_
      refine V_nm (pk_mul 200 lk) ?_
      refine V_iload_n C dX7_first_21 rfl ?_
      refine V_iadd C dX7_first_22 ?_
      refine V_nm (nI_add _ k) ?_
      refine V_iald C dX7_first_23 h316 rfl (show 200 * lk + k < 600 by omega) (by decide) ?_
      refine V_nm ((g316q k (by omega)).trans (by rw [← ec])) ?_
      refine V_istore_n C dX7_first_24 (by decide) ?_
      refine V_aload_n C dX7_first_25 rfl ?_
      refine V_get C dX7_first_26 fr_7_31 hM rfl ?_
      refine V_iload_n C dX7_first_29 rfl ?_
      refine V_iald C dX7_first_30 h311 rfl (show c - 100 < 200 by omega) (by decide) ?_
      refine V_nm ed ?_
      refine V_aload_n C dX7_first_31 rfl ?_
      refine V_get C dX7_first_32 fr_7_127 hM rfl ?_
      refine V_icmpgt (tgt := 49) C dX7_first_35 (by decide) (fun h1 => ?_) (fun h1 => ?_)
      · exact V_sb (nx (by rw [er]; exact decide_eq_false (fun h => absurd h1 (Int32.not_lt.mpr h.2)))) ⟨rfl, rfl, rfl, trivial⟩
      · refine V_aload_n C dX7_first_38 rfl ?_
        refine V_get C dX7_first_39 fr_7_37 hM rfl ?_
        refine V_iload_n C dX7_first_42 rfl ?_
        refine V_zald C dX7_first_43 h313 rfl (show c - 100 < 200 by omega) (by decide) ?_
        refine V_nm ew ?_
        refine V_ifne (tgt := 49) C dX7_first_44 (by decide) (fun h2 => ?_) (fun h2 => ?_)
        · exact V_sb (nx (by rw [er]; exact decide_eq_false (fun h => h2 h.1))) ⟨rfl, rfl, rfl, trivial⟩
        · rw [fs_some (k := k) (by omega) (by rw [← ec, er]; exact decide_eq_true ⟨h2, Int32.not_lt.mp h1⟩) hno] at Q
          refine V_iload_n C dX7_first_47 rfl ?_
          exact V_ireturn C Q dX7_first_48 rfl (Nat.le_of_ble_eq_true rfl) (Nat.le_of_ble_eq_true rfl) ⟨rfl, rfl, rfl⟩
  exact V_sb (loop L.length 0 (Nat.zero_add _) (fun j hj => absurd hj (Nat.not_lt_zero j))) ⟨rfl, rfl, rfl, trivial⟩
