/-! ===== the model's parts of a text ===== -/
theorem sg_small {L : List Nat} {p : Nat} (h : (szL L).sum ≤ roomL L) : posL L (p + 1) - posL L p = if p = 0 then L.length else 0 := by
  have h1 : posL L 1 = L.length := by have := one_part h; rw [szL_len] at this; exact this
  split
  · rename_i e
    subst e
    rw [h1]; show L.length - 0 = _; rfl
  · have a := posL_mono L (j := 1) (k := p) (by omega)
    have b := posL_le L (p + 1)
    have c := posL_le L p
    rw [h1] at a
    omega
theorem sz_get {L : List Nat} {i : Nat} (h : i < L.length) : (szL L)[i]? = some (if wideL L then 1 else w1 (L.getD i 0)) := by
  unfold szL
  rw [List.getElem?_map, List.getD_eq_getElem?_getD, List.getElem?_eq_getElem h]
  rfl
theorem tk_step {Z : List Nat} {i r z : Nat} (h : Z[i]? = some z) : takeN r (Z.drop i) = if z ≤ r then takeN (r - z) (Z.drop (i + 1)) + 1 else 0 := by
  obtain ⟨hi, e⟩ := List.getElem?_eq_some_iff.mp h
  rw [List.drop_eq_getElem_cons hi, e, takeN]
theorem tk_end {Z : List Nat} {i r : Nat} (h : Z.length ≤ i) : takeN r (Z.drop i) = 0 := by rw [List.drop_eq_nil_of_le h, takeN]
theorem b2i_nar (b : Bool) : narrow .boolean (.int (b2i b)) = .int (b2i b) := by unfold b2i; split <;> rfl
set_option maxHeartbeats 1000000 in
set_option maxRecDepth 100000 in
/-- signsOf -/
theorem m_signsOf {l : Launch} {D : Dx} {b0 : Nat} {ad : Nat → Nat} {F : Fn} (c N fr p : Nat) (L : List Nat) (hR : RwA D F c N fr L) (hl4 : L.length ≤ 400) (hp9 : p ≤ 10) : Ct l D b0 yX7_signsOf (wsA yX7_signsOf cX7_signsOf 9 (some .int)) (rK 2) [.ref (ad c), .int (nI fr), .int (nI L.length), .int (nI p)] ad F (pRd (some (.int (nI (posL L (p + 1) - posL L p)))) ad F) noX := by
  refine Ct.of (by decide +kernel) (by simp [Value.category]) (Nat.le_of_ble_eq_true rfl) (fun X eD eb el C Q => ?_)
  subst eD; subst eb; subst el
  have hR0 := hR
  obtain ⟨hN, hfr, hL, f, hr, hf⟩ := hR
  have hsl : (szL L).length = L.length := szL_len L
  have hse := sept_le L
  have small : (szL L).sum ≤ roomL L → V X 0 0 34 [(0, .ref (ad c)), (1, .int (nI fr)), (2, .int (nI L.length)), (3, .int (nI p)), (4, .int (b2i (wideL L)))] [] ad F := by
    intro hs
    rw [sg_small hs] at Q
    refine V_iload_n C dX7_signsOf_34 rfl ?_
    refine V_ifne (tgt := 42) C dX7_signsOf_35 (by decide) (fun h1 => ?_) (fun h1 => ?_)
    · rw [if_neg (fun e => h1 (by rw [e]; rfl))] at Q
      refine V_iconst (v := 0) C dX7_signsOf_42 rfl ?_
      exact V_ireturn C Q dX7_signsOf_43 rfl (Nat.le_of_ble_eq_true rfl) (Nat.le_of_ble_eq_true rfl) ⟨rfl, rfl, rfl⟩
    · rw [if_pos ((nI_eq (b := 0) (by omega) (by decide)).mp h1)] at Q
      refine V_iload_n C dX7_signsOf_38 rfl ?_
      refine V_goto (tgt := 43) C dX7_signsOf_39 (by decide) ?_
      exact V_ireturn C Q dX7_signsOf_43 rfl (Nat.le_of_ble_eq_true rfl) (Nat.le_of_ble_eq_true rfl) ⟨rfl, rfl, rfl⟩
  have inner : ∀ (d i n lf k : Nat), i + d = L.length → lf ≤ 200 → n ≤ i → (∀ lf' : Int32, V X 0 0 138 [(0, .ref (ad c)), (1, .int (nI fr)), (2, .int (nI L.length)), (3, .int (nI p)), (4, .int (b2i (wideL L))), (5, .int (nI (i + takeN lf ((szL L).drop i)))), (6, .int (nI (n + takeN lf ((szL L).drop i)))), (7, .int (nI k)), (8, .int lf')] [] ad F) → V X 0 0 77 [(0, .ref (ad c)), (1, .int (nI fr)), (2, .int (nI L.length)), (3, .int (nI p)), (4, .int (b2i (wideL L))), (5, .int (nI i)), (6, .int (nI n)), (7, .int (nI k)), (8, .int (nI lf))] [] ad F := by
    intro d
    induction d with
    | zero =>
      intro i n lf k hd hlf hn K
      rw [tk_end (by omega)] at K
      refine V_iload C dX7_signsOf_77 rfl ?_
      refine V_iload_n C dX7_signsOf_79 rfl ?_
      refine V_icmpge_t (tgt := 138) C dX7_signsOf_80 (by decide) (by rw [show i = L.length by omega]; exact Int32.le_refl _) ?_
      exact V_sb (K _) ⟨rfl, rfl, rfl, rfl, rfl, rfl, rfl, rfl, rfl, trivial⟩
    | succ d ih =>
      intro i n lf k hd hlf hn K
      have hx : L.getD i 0 < 1000 := getD_lt hL i
      have hz := sz_get (L := L) (i := i) (by omega)
      rw [tk_step hz] at K
      have nx : ∀ (z : Nat), (if wideL L then 1 else w1 (L.getD i 0)) = z → z ≤ lf → V X 0 0 77 [(0, .ref (ad c)), (1, .int (nI fr)), (2, .int (nI L.length)), (3, .int (nI p)), (4, .int (b2i (wideL L))), (5, .int (nI (i + 1))), (6, .int (nI (n + 1))), (7, .int (nI k)), (8, .int (nI (lf - z)))] [] ad F := by
        intro z hz2 hzl
        rw [hz2, if_pos hzl] at K
        refine ih (i + 1) (n + 1) (lf - z) k (by omega) (by omega) (by omega) (fun lf' => ?_)
        rw [show i + 1 + takeN (lf - z) ((szL L).drop (i + 1)) = i + (takeN (lf - z) ((szL L).drop (i + 1)) + 1) by omega, show n + 1 + takeN (lf - z) ((szL L).drop (i + 1)) = n + (takeN (lf - z) ((szL L).drop (i + 1)) + 1) by omega]
        exact K lf'
      refine V_iload C dX7_signsOf_77 rfl ?_
      refine V_iload_n C dX7_signsOf_79 rfl ?_
      refine V_icmpge_f (tgt := 138) C dX7_signsOf_80 (by decide) (nI_ge (a := i) (b := L.length) (by omega) (by omega)) ?_
      refine V_iload C dX7_signsOf_83 rfl ?_
      refine V_ifeq (tgt := 92) C dX7_signsOf_85 (by decide) (fun h1 => ?_) (fun h1 => ?_)
      · have hw : wideL L = false := by
          cases hw : wideL L with
          | false => rfl
          | true => rw [hw] at h1; exact absurd h1 (by decide)
        have hzv : (if wideL L then 1 else w1 (L.getD i 0)) = w1 (L.getD i 0) := by rw [hw]; rfl
        have hw2 := w1_12 (L.getD i 0)
        refine V_aload_n C dX7_signsOf_92 rfl ?_
        refine V_iload_n C dX7_signsOf_93 rfl ?_
        refine V_iload C dX7_signsOf_94 rfl ?_
        refine V_iadd C dX7_signsOf_96 ?_
        refine V_nm (nI_add _ _) ?_
        refine V_iald C dX7_signsOf_97 hr rfl (show fr + i < N by omega) (by omega) ?_
        refine V_nm (hf i (by omega)) ?_
        refine V_invS C dX7_signsOf_98 (m_width (L.getD i 0) hx) ms_7_78 rfl (Nat.le_of_ble_eq_true rfl) ⟨Nat.le_of_ble_eq_true rfl, Nat.le_of_ble_eq_true rfl⟩ ⟨Nat.le_of_ble_eq_true rfl, Nat.le_of_ble_eq_true rfl⟩ (fun _ _ _ h => VT_no h) (fun v ad1 F1 hp => ?_)
        obtain ⟨rfl, rfl, rfl⟩ := hp
        refine V_iload C dX7_signsOf_101 rfl ?_
        refine V_icmpgt (tgt := 138) C dX7_signsOf_103 (by decide) (fun h2 => ?_) (fun h2 => ?_)
        · rw [hzv, if_neg (fun h : (w1 (L.getD i 0)) ≤ lf => absurd (show nI (w1 (L.getD i 0)) ≤ nI lf from Int32.not_lt.mp (nI_nlt (a := lf) (b := (w1 (L.getD i 0))) h (by omega))) (Int32.not_le.mpr h2))] at K
          exact V_sb (K _) ⟨rfl, rfl, rfl, rfl, rfl, rfl, rfl, rfl, rfl, trivial⟩
        · have hzl : (w1 (L.getD i 0)) ≤ lf := Nat.le_of_not_lt (fun h => h2 (nI_lt (a := lf) (b := (w1 (L.getD i 0))) h (by omega)))
          refine V_iload C dX7_signsOf_106 rfl ?_
          refine V_iload C dX7_signsOf_108 rfl ?_
          refine V_ifeq_t (tgt := 117) C dX7_signsOf_110 (by decide) h1 ?_
          refine V_aload_n C dX7_signsOf_117 rfl ?_
          refine V_iload_n C dX7_signsOf_118 rfl ?_
          refine V_iload C dX7_signsOf_119 rfl ?_
          refine V_iadd C dX7_signsOf_121 ?_
          refine V_nm (nI_add _ _) ?_
          refine V_iald C dX7_signsOf_122 hr rfl (show fr + i < N by omega) (by omega) ?_
          refine V_nm (hf i (by omega)) ?_
          refine V_invS C dX7_signsOf_123 (m_width (L.getD i 0) hx) ms_7_78 rfl (Nat.le_of_ble_eq_true rfl) ⟨Nat.le_of_ble_eq_true rfl, Nat.le_of_ble_eq_true rfl⟩ ⟨Nat.le_of_ble_eq_true rfl, Nat.le_of_ble_eq_true rfl⟩ (fun _ _ _ h => VT_no h) (fun v ad1 F1 hp => ?_)
          obtain ⟨rfl, rfl, rfl⟩ := hp
          refine V_isub C dX7_signsOf_126 ?_
          refine V_nm (pk_sub (a := lf) (b := (w1 (L.getD i 0))) hzl) ?_
          refine V_istore C dX7_signsOf_127 (by decide) ?_
          refine V_iinc C dX7_signsOf_129 rfl (nI_inc _) (by decide) ?_
          refine V_iinc C dX7_signsOf_132 rfl (nI_inc _) (by decide) ?_
          refine V_goto (tgt := 77) C dX7_signsOf_135 (by decide) ?_
          exact V_sb (nx (w1 (L.getD i 0)) hzv hzl) ⟨rfl, rfl, rfl, rfl, rfl, rfl, rfl, rfl, rfl, trivial⟩
      · have hw : wideL L = true := by
          cases hw : wideL L with
          | true => rfl
          | false => exact absurd (show b2i (wideL L) = 0 by rw [hw]; rfl) h1
        have hzv : (if wideL L then 1 else w1 (L.getD i 0)) = 1 := by rw [hw]; rfl
        refine V_iconst (v := 1) C dX7_signsOf_88 rfl ?_
        refine V_goto (tgt := 101) C dX7_signsOf_89 (by decide) ?_
        refine V_iload C dX7_signsOf_101 rfl ?_
        refine V_icmpgt (tgt := 138) C dX7_signsOf_103 (by decide) (fun h2 => ?_) (fun h2 => ?_)
        · rw [hzv, if_neg (fun h : 1 ≤ lf => absurd (show nI 1 ≤ nI lf from Int32.not_lt.mp (nI_nlt (a := lf) (b := 1) h (by omega))) (Int32.not_le.mpr h2))] at K
          exact V_sb (K _) ⟨rfl, rfl, rfl, rfl, rfl, rfl, rfl, rfl, rfl, trivial⟩
        · have hzl : 1 ≤ lf := Nat.le_of_not_lt (fun h => h2 (nI_lt (a := lf) (b := 1) h (by omega)))
          refine V_iload C dX7_signsOf_106 rfl ?_
          refine V_iload C dX7_signsOf_108 rfl ?_
          refine V_ifeq_f (tgt := 117) C dX7_signsOf_110 (by decide) h1 ?_
          refine V_iconst (v := 1) C dX7_signsOf_113 rfl ?_
          refine V_goto (tgt := 126) C dX7_signsOf_114 (by decide) ?_
          refine V_isub C dX7_signsOf_126 ?_
          refine V_nm (pk_sub (a := lf) (b := 1) hzl) ?_
          refine V_istore C dX7_signsOf_127 (by decide) ?_
          refine V_iinc C dX7_signsOf_129 rfl (nI_inc _) (by decide) ?_
          refine V_iinc C dX7_signsOf_132 rfl (nI_inc _) (by decide) ?_
          refine V_goto (tgt := 77) C dX7_signsOf_135 (by decide) ?_
          exact V_sb (nx 1 hzv hzl) ⟨rfl, rfl, rfl, rfl, rfl, rfl, rfl, rfl, rfl, trivial⟩
  have big : roomL L = (if wideL L then 67 else 153) → V X 0 0 44 [(0, .ref (ad c)), (1, .int (nI fr)), (2, .int (nI L.length)), (3, .int (nI p)), (4, .int (b2i (wideL L)))] [] ad F := by
    intro hroom
    have outer : ∀ (d k n : Nat), k + d = p + 1 → (k = p + 1 → n = posL L (p + 1) - posL L p) → V X 0 0 53 [(0, .ref (ad c)), (1, .int (nI fr)), (2, .int (nI L.length)), (3, .int (nI p)), (4, .int (b2i (wideL L))), (5, .int (nI (posL L k))), (6, .int (nI n)), (7, .int (nI k))] [] ad F := by
      intro d
      induction d with
      | zero =>
        intro k n hd hn
        have hk : k = p + 1 := by omega
        rw [← hn hk] at Q
        refine V_iload C dX7_signsOf_53 rfl ?_
        refine V_iload_n C dX7_signsOf_55 rfl ?_
        refine V_icmpgt_t (tgt := 144) C dX7_signsOf_56 (by decide) (by rw [hk]; exact nI_lt (by omega) (by omega)) ?_
        refine V_iload C dX7_signsOf_144 rfl ?_
        exact V_ireturn C Q dX7_signsOf_146 rfl (Nat.le_of_ble_eq_true rfl) (Nat.le_of_ble_eq_true rfl) ⟨rfl, rfl, rfl⟩
      | succ d ih =>
        intro k n hd hn
        have hle := posL_le L k
        have aft : ∀ lf : Nat, lf = roomL L → lf ≤ 200 → V X 0 0 77 [(0, .ref (ad c)), (1, .int (nI fr)), (2, .int (nI L.length)), (3, .int (nI p)), (4, .int (b2i (wideL L))), (5, .int (nI (posL L k))), (6, .int (nI 0)), (7, .int (nI k)), (8, .int (nI lf))] [] ad F := by
          intro lf elf hlf
          refine inner (L.length - posL L k) (posL L k) 0 lf k (by omega) hlf (Nat.zero_le _) (fun lf' => ?_)
          refine V_iinc C dX7_signsOf_138 rfl (nI_inc _) (by decide) ?_
          refine V_goto (tgt := 53) C dX7_signsOf_141 (by decide) ?_
          rw [elf]
          exact V_sb (ih (k + 1) (0 + takeN (roomL L) ((szL L).drop (posL L k))) (by omega) (fun e => by
            have e : k = p := by omega
            subst e
            show _ = posL L k + takeN (roomL L) ((szL L).drop (posL L k)) - posL L k
            omega)) ⟨rfl, rfl, rfl, rfl, rfl, rfl, rfl, rfl, trivial⟩
        refine V_iload C dX7_signsOf_53 rfl ?_
        refine V_iload_n C dX7_signsOf_55 rfl ?_
        refine V_icmpgt_f (tgt := 144) C dX7_signsOf_56 (by decide) (nI_nlt (a := p) (b := k) (by omega) (by omega)) ?_
        refine V_iconst (v := 0) C dX7_signsOf_59 rfl ?_
        refine V_istore C dX7_signsOf_60 (by decide) ?_
        refine V_iload C dX7_signsOf_62 rfl ?_
        refine V_ifeq (tgt := 72) C dX7_signsOf_64 (by decide) (fun h1 => ?_) (fun h1 => ?_)
        · have hw : wideL L = false := by
            cases hw : wideL L with
            | false => rfl
            | true => rw [hw] at h1; exact absurd h1 (by decide)
          refine V_sipush (v := 153) C dX7_signsOf_72 (by decide) ?_
          refine V_istore C dX7_signsOf_75 (by decide) ?_
          exact V_sb (aft 153 (by rw [hroom, hw]; rfl) (by decide)) ⟨rfl, rfl, rfl, rfl, rfl, rfl, rfl, rfl, rfl, trivial⟩
        · have hw : wideL L = true := by
            cases hw : wideL L with
            | true => rfl
            | false => exact absurd (show b2i (wideL L) = 0 by rw [hw]; rfl) h1
          refine V_bipush (v := 67) C dX7_signsOf_67 (by decide) ?_
          refine V_goto (tgt := 75) C dX7_signsOf_69 (by decide) ?_
          refine V_istore C dX7_signsOf_75 (by decide) ?_
          exact V_sb (aft 67 (by rw [hroom, hw]; rfl) (by decide)) ⟨rfl, rfl, rfl, rfl, rfl, rfl, rfl, rfl, rfl, trivial⟩
    refine V_iconst (v := 0) C dX7_signsOf_44 rfl ?_
    refine V_istore C dX7_signsOf_45 (by decide) ?_
    refine V_iconst (v := 0) C dX7_signsOf_47 rfl ?_
    refine V_istore C dX7_signsOf_48 (by decide) ?_
    refine V_iconst (v := 0) C dX7_signsOf_50 rfl ?_
    refine V_istore C dX7_signsOf_51 (by decide) ?_
    exact V_sb (outer (p + 1) 0 0 (by omega) (fun e => by omega)) ⟨rfl, rfl, rfl, rfl, rfl, rfl, rfl, rfl, trivial⟩
  refine V_aload_n C dX7_signsOf_0 rfl ?_
  refine V_iload_n C dX7_signsOf_1 rfl ?_
  refine V_iload_n C dX7_signsOf_2 rfl ?_
  refine V_invS C dX7_signsOf_3 (m_hasWide c N fr L hR0) ms_7_82 rfl (Nat.le_of_ble_eq_true rfl) ⟨Nat.le_of_ble_eq_true rfl, Nat.le_of_ble_eq_true rfl⟩ ⟨Nat.le_of_ble_eq_true rfl, Nat.le_of_ble_eq_true rfl⟩ (fun _ _ _ h => VT_no h) (fun v ad1 F1 hp => ?_)
  obtain ⟨rfl, rfl, rfl⟩ := hp
  refine V_istore C dX7_signsOf_6 (by decide) ?_
  refine V_iload C dX7_signsOf_8 rfl ?_
  refine V_ifeq (tgt := 22) C dX7_signsOf_10 (by decide) (fun h1 => ?_) (fun h1 => ?_)
  · have hw : wideL L = false := by
      cases hw : wideL L with
      | false => rfl
      | true => rw [hw] at h1; exact absurd h1 (by decide)
    refine V_aload_n C dX7_signsOf_22 rfl ?_
    refine V_iload_n C dX7_signsOf_23 rfl ?_
    refine V_iload_n C dX7_signsOf_24 rfl ?_
    refine V_invS C dX7_signsOf_25 (m_septetsIn c N fr L hR0) ms_7_86 rfl (Nat.le_of_ble_eq_true rfl) ⟨Nat.le_of_ble_eq_true rfl, Nat.le_of_ble_eq_true rfl⟩ ⟨Nat.le_of_ble_eq_true rfl, Nat.le_of_ble_eq_true rfl⟩ (fun _ _ _ h => VT_no h) (fun v ad1 F1 hp => ?_)
    obtain ⟨rfl, rfl, rfl⟩ := hp
    refine V_sipush (v := 160) C dX7_signsOf_28 (by decide) ?_
    refine V_icmpgt (tgt := 44) C dX7_signsOf_31 (by decide) (fun h2 => ?_) (fun h2 => ?_)
    · exact V_sb (big (by unfold roomL; rw [hw]; exact if_neg (fun h => nI_nlt (a := 160) h (by decide) h2))) ⟨rfl, rfl, rfl, rfl, rfl, trivial⟩
    · refine V_sb (small ?_) ⟨rfl, rfl, rfl, rfl, rfl, trivial⟩
      rw [sz_small hw]
      have h160 : septL L ≤ 160 := Nat.le_of_not_lt (fun h => h2 (nI_lt (a := 160) h (by omega)))
      unfold roomL
      rw [if_neg (by rw [hw]; decide), if_pos h160]
      exact h160
  · have hw : wideL L = true := by
      cases hw : wideL L with
      | true => rfl
      | false => exact absurd (show b2i (wideL L) = 0 by rw [hw]; rfl) h1
    refine V_iload_n C dX7_signsOf_13 rfl ?_
    refine V_bipush (v := 70) C dX7_signsOf_14 (by decide) ?_
    refine V_icmpgt (tgt := 44) C dX7_signsOf_16 (by decide) (fun h2 => ?_) (fun h2 => ?_)
    · exact V_sb (big (by unfold roomL; rw [if_pos hw, if_pos hw, if_neg (fun h => nI_nlt (a := 70) h (by decide) h2)])) ⟨rfl, rfl, rfl, rfl, rfl, trivial⟩
    · refine V_goto (tgt := 34) C dX7_signsOf_19 (by decide) ?_
      refine V_sb (small ?_) ⟨rfl, rfl, rfl, rfl, rfl, trivial⟩
      rw [sum_ones _ (sz_wide hw), szL_len]
      have h70 : L.length ≤ 70 := Nat.le_of_not_lt (fun h => h2 (nI_lt (a := 70) h (by omega)))
      unfold roomL
      rw [if_pos hw, if_pos h70]
      exact h70
set_option maxHeartbeats 400000 in
set_option maxRecDepth 100000 in
/-- partsOf -/
theorem m_partsOf {l : Launch} {D : Dx} {b0 : Nat} {ad : Nat → Nat} {F : Fn} (c N fr : Nat) (L : List Nat) (hR : RwA D F c N fr L) (hl4 : L.length ≤ 400) : Ct l D b0 yX7_partsOf (wsA yX7_partsOf cX7_partsOf 4 (some .int)) (rK 3) [.ref (ad c), .int (nI fr), .int (nI L.length)] ad F (pRd (some (.int (nI (npL L)))) ad F) noX := by
  refine Ct.of (by decide +kernel) (by simp [Value.category]) (Nat.le_of_ble_eq_true rfl) (fun X eD eb el C Q => ?_)
  subst eD; subst eb; subst el
  obtain ⟨hn6, hn1, hn2⟩ := npL_spec hl4
  refine V_iconst (v := 0) C dX7_partsOf_0 rfl ?_
  refine V_istore_n C dX7_partsOf_1 (by decide) ?_
  have loop : ∀ (d i : Nat), i + d = npL L → V X 0 0 2 [(0, .ref (ad c)), (1, .int (nI fr)), (2, .int (nI L.length)), (3, .int (nI i))] [] ad F := by
    intro d
    induction d with
    | zero =>
      intro i hd
      have hi : i = npL L := by omega
      subst hi
      have h0 := posL_le L (npL L + 1)
      refine V_aload_n C dX7_partsOf_2 rfl ?_
      refine V_iload_n C dX7_partsOf_3 rfl ?_
      refine V_iload_n C dX7_partsOf_4 rfl ?_
      refine V_iload_n C dX7_partsOf_5 rfl ?_
      refine V_invS C dX7_partsOf_6 (m_signsOf c N fr (npL L) L hR hl4 (by omega)) ms_7_90 rfl (Nat.le_of_ble_eq_true rfl) ⟨Nat.le_of_ble_eq_true rfl, Nat.le_of_ble_eq_true rfl⟩ ⟨Nat.le_of_ble_eq_true rfl, Nat.le_of_ble_eq_true rfl⟩ (fun _ _ _ h => VT_no h) (fun v ad1 F1 hp => ?_)
      obtain ⟨rfl, rfl, rfl⟩ := hp
      rw [show posL L (npL L + 1) - posL L (npL L) = 0 by omega]
      refine V_ifle_t (tgt := 18) C dX7_partsOf_9 (by decide) (by decide) ?_
      refine V_iload_n C dX7_partsOf_18 rfl ?_
      exact V_ireturn C Q dX7_partsOf_19 rfl (Nat.le_of_ble_eq_true rfl) (Nat.le_of_ble_eq_true rfl) ⟨rfl, rfl, rfl⟩
    | succ d ih =>
      intro i hd
      have h1 := posL_lt (hn1 i (by omega))
      have h0 := posL_le L (i + 1)
      refine V_aload_n C dX7_partsOf_2 rfl ?_
      refine V_iload_n C dX7_partsOf_3 rfl ?_
      refine V_iload_n C dX7_partsOf_4 rfl ?_
      refine V_iload_n C dX7_partsOf_5 rfl ?_
      refine V_invS C dX7_partsOf_6 (m_signsOf c N fr i L hR hl4 (by omega)) ms_7_90 rfl (Nat.le_of_ble_eq_true rfl) ⟨Nat.le_of_ble_eq_true rfl, Nat.le_of_ble_eq_true rfl⟩ ⟨Nat.le_of_ble_eq_true rfl, Nat.le_of_ble_eq_true rfl⟩ (fun _ _ _ h => VT_no h) (fun v ad1 F1 hp => ?_)
      obtain ⟨rfl, rfl, rfl⟩ := hp
      refine V_ifle_f (tgt := 18) C dX7_partsOf_9 (by decide) (Int32.not_le.mpr (show (0 : Int32) < nI _ from nI_lt (a := 0) (by omega) (by omega))) ?_
      refine V_iinc C dX7_partsOf_12 rfl (nI_inc _) (by decide) ?_
      refine V_goto (tgt := 2) C dX7_partsOf_15 (by decide) ?_
      exact V_sb (ih (i + 1) (by omega)) ⟨rfl, rfl, rfl, rfl, trivial⟩
  exact V_sb (loop (npL L) 0 (Nat.zero_add _)) ⟨rfl, rfl, rfl, rfl, trivial⟩
set_option maxHeartbeats 400000 in
set_option maxRecDepth 100000 in
/-- begins -/
theorem m_begins {l : Launch} {D : Dx} {b0 : Nat} {ad : Nat → Nat} {F : Fn} (c N fr p : Nat) (L : List Nat) (hR : RwA D F c N fr L) (hl4 : L.length ≤ 400) (hp9 : p ≤ 10) : Ct l D b0 yX7_begins (wsA yX7_begins cX7_begins 6 (some .int)) (rK 3) [.ref (ad c), .int (nI fr), .int (nI L.length), .int (nI p)] ad F (pRd (some (.int (nI (posL L p)))) ad F) noX := by
  refine Ct.of (by decide +kernel) (by simp [Value.category]) (Nat.le_of_ble_eq_true rfl) (fun X eD eb el C Q => ?_)
  subst eD; subst eb; subst el
  refine V_iconst (v := 0) C dX7_begins_0 rfl ?_
  refine V_istore C dX7_begins_1 (by decide) ?_
  refine V_iconst (v := 0) C dX7_begins_3 rfl ?_
  refine V_istore C dX7_begins_4 (by decide) ?_
  have loop : ∀ (d i : Nat), i + d = p → V X 0 0 6 [(0, .ref (ad c)), (1, .int (nI fr)), (2, .int (nI L.length)), (3, .int (nI p)), (4, .int (nI (posL L i))), (5, .int (nI i))] [] ad F := by
    intro d
    induction d with
    | zero =>
      intro i hd
      have hi : i = p := by omega
      subst hi
      refine V_iload C dX7_begins_6 rfl ?_
      refine V_iload_n C dX7_begins_8 rfl ?_
      refine V_icmpge_t (tgt := 31) C dX7_begins_9 (by decide) (Int32.le_refl _) ?_
      refine V_iload C dX7_begins_31 rfl ?_
      exact V_ireturn C Q dX7_begins_33 rfl (Nat.le_of_ble_eq_true rfl) (Nat.le_of_ble_eq_true rfl) ⟨rfl, rfl, rfl⟩
    | succ d ih =>
      intro i hd
      have h1 := posL_mono L (j := i) (k := i + 1) (by omega)
      refine V_iload C dX7_begins_6 rfl ?_
      refine V_iload_n C dX7_begins_8 rfl ?_
      refine V_icmpge_f (tgt := 31) C dX7_begins_9 (by decide) (nI_ge (a := i) (b := p) (by omega) (by omega)) ?_
      refine V_iload C dX7_begins_12 rfl ?_
      refine V_aload_n C dX7_begins_14 rfl ?_
      refine V_iload_n C dX7_begins_15 rfl ?_
      refine V_iload_n C dX7_begins_16 rfl ?_
      refine V_iload C dX7_begins_17 rfl ?_
      refine V_invS C dX7_begins_19 (m_signsOf c N fr i L hR hl4 (by omega)) ms_7_90 rfl (Nat.le_of_ble_eq_true rfl) ⟨Nat.le_of_ble_eq_true rfl, Nat.le_of_ble_eq_true rfl⟩ ⟨Nat.le_of_ble_eq_true rfl, Nat.le_of_ble_eq_true rfl⟩ (fun _ _ _ h => VT_no h) (fun v ad1 F1 hp => ?_)
      obtain ⟨rfl, rfl, rfl⟩ := hp
      refine V_iadd C dX7_begins_22 ?_
      refine V_nm (nI_add _ _) ?_
      refine V_istore C dX7_begins_23 (by decide) ?_
      refine V_iinc C dX7_begins_25 rfl (nI_inc _) (by decide) ?_
      refine V_goto (tgt := 6) C dX7_begins_28 (by decide) ?_
      exact V_sb (ih (i + 1) (by omega)) ⟨rfl, rfl, rfl, rfl, by rw [show posL L i + (posL L (i + 1) - posL L i) = posL L (i + 1) by omega]; rfl, rfl, trivial⟩
  exact V_sb (loop p 0 (Nat.zero_add _)) ⟨rfl, rfl, rfl, rfl, rfl, rfl, trivial⟩
