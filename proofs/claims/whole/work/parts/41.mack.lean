/-! ===== the model: acknowledge ===== -/
theorem inv_puT {s : St} {c : Nat} (hI : Inv s) : Inv (puT s c) := by
  obtain ⟨i1, i2, i3, i4, i5, i6, i7, i8, i9, i10⟩ := hI
  refine ⟨i1, i2, i3, i4, i5, fun m hm => ?_, i7, i8, i9, i10⟩
  obtain ⟨j1, j2, j3, j4, j5, j6, j7, j8⟩ := i6 m hm
  refine ⟨j1, j2, j3, j4, j5, j6, j7, fun p hp => ⟨(j8 p hp).1, ?_, (j8 p hp).2.2⟩⟩
  show va_up (zPt s) c (zNow s) _ ≤ 300000
  by_cases e : 100 + 10 * m + p = c
  · rw [e, up_s]; omega
  · rw [up_n e]; exact (j8 p hp).2.1
theorem lon_puT {s : St} {c : Nat} (h : Lon s c) : Lon (puT s c) c := h
theorem lon_wt {s : St} {c : Nat} (h : Lon s c) : Lon (wtS s c) c := h
theorem inv_stlM {s : St} {c o : Nat} (hI : Inv s) (hL : Lon s c) (hf : zPf s c ≤ 3) (ho : o < 4) : Inv (stlM s c o) := by
  have hin := inr_eq hI hL.1
  rcases (show o = 0 ∨ o = 1 ∨ o = 2 ∨ o = 3 by omega) with rfl | rfl | rfl | rfl
  · by_cases hz : zLk (clS s c) (mOf c) = 0
    · rw [sm0f s c hz, ← st0f s c hz]; exact inv_stl hI hL hf
    · rw [sm0 s c hz]; exact inv_cl hI hL
  · by_cases hz : zPf s c < 3
    · rw [sm1 s c hz, ← st1 s c (by omega)]; exact inv_stl hI hL hf
    · rw [sm1f s c hz]; exact inv_fin hI hin.1 hL.2.1 (by decide) (by decide)
  · rw [sm2 s c, ← st2 (puT s c) c]; exact inv_stl (inv_puT hI) (lon_puT hL) hf
  · rw [sm3 s c]; exact inv_fin hI hin.1 hL.2.1 (by decide) (by decide)
theorem inf_stlM {s : St} {c o : Nat} (hI : Inv s) (hL : Lon s c) (h : Inf s) (ho : o < 4) : Inf (stlM s c o) := by
  rcases (show o = 0 ∨ o = 1 ∨ o = 2 ∨ o = 3 by omega) with rfl | rfl | rfl | rfl
  · by_cases hz : zLk (clS s c) (mOf c) = 0
    · rw [sm0f s c hz, ← st0f s c hz]; exact inf_stl hI hL h
    · rw [sm0 s c hz]; exact h
  · by_cases hz : zPf s c < 3
    · rw [sm1 s c hz, ← st1 s c (by omega)]; exact inf_stl hI hL h
    · rw [sm1f s c hz]; exact inf_fin (by decide) (fun k _ h1 h2 p hp => h k h1 h2 p hp)
  · rw [sm2 s c, ← st2 (puT s c) c]; exact inf_stl (inv_puT hI) (lon_puT hL) h
  · rw [sm3 s c]; exact inf_fin (by decide) (fun k _ h1 h2 p hp => h k h1 h2 p hp)
theorem ackM_ok {s : St} {lk o : Nat} (hI : Inv s) (hF : Inf s) (hl : lk < 3) (hc : 0 < (zRw s (2 * lk + 1)).length) (ho : o < 4) : Inv (ackM s lk o) ∧ Inf (ackM s lk o) := by
  have hg : (zRw s (2 * lk + 1))[0]? = some ((zRw s (2 * lk + 1)).getD 0 0) := by rw [List.getD_eq_getElem?_getD, List.getElem?_eq_getElem hc]; rfl
  have hin := inr_eq hI (s_in hI hl (List.mem_of_getElem? hg))
  unfold ackM
  split
  · rename_i h0
    have hL := lon_rm hI hl hg h0
    have hf : zPf s ((zRw s (2 * lk + 1)).getD 0 0) ≤ 3 := by
      have := hF _ hin.1 h0 _ hin.2.1
      rwa [← hin.2.2.2.1] at this
    exact ⟨inv_stlM (inv_rm hI) hL hf ho, inf_stlM (inv_rm hI) hL hF ho⟩
  · exact ⟨inv_rm hI, hF⟩
set_option maxHeartbeats 400000 in
set_option maxRecDepth 100000 in
/-- acknowledge -/
theorem m_acknowledge {l : Launch} {D : Dx} {b0 : Nat} {ad : Nat → Nat} {F : Fn} (u : St) (th : Int32) (a b : Int32) (hM0 : MRep D ad F u th) (hI : Inv u) (hF : Inf u) : Ct l D b0 yX7_acknowledge (wsA yX7_acknowledge cX7_acknowledge 6 (some .int)) (rK 7) [.ref (ad 300), .int a, .int b] ad F (PoM D ad F (spAckM u a b)) noX := by
  refine Ct.of (by decide +kernel) (by simp [Value.category]) (Nat.le_of_ble_eq_true rfl) (fun X eD eb el C Q => ?_)
  subst eD; subst eb; subst el
  have hO := hM0.1
  have hM := hO
  unfold mObj at hM
  refine V_iload_n C dX7_acknowledge_0 rfl ?_
  refine V_invS C dX7_acknowledge_1 (m_isLink a) ms_7_156 rfl (Nat.le_of_ble_eq_true rfl) ⟨Nat.le_of_ble_eq_true rfl, Nat.le_of_ble_eq_true rfl⟩ ⟨Nat.le_of_ble_eq_true rfl, Nat.le_of_ble_eq_true rfl⟩ (fun _ _ _ h => VT_no h) (fun v ad1 F1 hp => ?_)
  obtain ⟨rfl, rfl, rfl⟩ := hp
  rw [isB_n 3 (by decide) (by decide)]
  refine V_istore_n C dX7_acknowledge_4 (by decide) ?_
  refine V_aload_n C dX7_acknowledge_5 rfl ?_
  refine V_iload_n C dX7_acknowledge_6 rfl ?_
  refine V_ifne (tgt := 14) C dX7_acknowledge_7 (by decide) (fun h1 => ?_) (fun h1 => ?_)
  · have i1 := ite01n h1
    obtain ⟨j, hj, rfl⟩ := badI_not (a := a) (n := 3) (by omega) i1
    have ej : (nI j).toNatClampNeg = j := nI_clamp (by omega)
    refine V_iload_n C dX7_acknowledge_14 rfl ?_
    refine V_iconst (v := 0) C dX7_acknowledge_15 rfl ?_
    refine V_iconst (v := 3) C dX7_acknowledge_16 rfl ?_
    refine V_invS C dX7_acknowledge_17 (m_isIn b 0 3) ms_7_94 rfl (Nat.le_of_ble_eq_true rfl) ⟨Nat.le_of_ble_eq_true rfl, Nat.le_of_ble_eq_true rfl⟩ ⟨Nat.le_of_ble_eq_true rfl, Nat.le_of_ble_eq_true rfl⟩ (fun _ _ _ h => VT_no h) (fun v ad1 F1 hp => ?_)
    obtain ⟨rfl, rfl, rfl⟩ := hp
    refine V_ifne (tgt := 27) C dX7_acknowledge_20 (by decide) (fun h2 => ?_) (fun h2 => ?_)
    · have i2 := isB_1 h2
      obtain ⟨o, ho, rfl⟩ := nI_of2 (n := 3) (M := 3) rfl i2.1 (Int32.not_lt.mp i2.2)
      have eo : (nI o).toNatClampNeg = o := nI_clamp (by omega)
      obtain ⟨S, eS⟩ : ∃ S, S = zRw u (2 * j + 1) := ⟨_, rfl⟩
      have ea : spAckM u (nI j) (nI o) = if S.length = 0 then (3, 0, u) else (0, nI (10 * mOf (S.getD 0 0) + pOf (S.getD 0 0)), ackM u j o) := by unfold spAckM; rw [if_neg i1, if_neg (fun h => h.elim i2.1 i2.2), ej, eo, eS]
      rw [ea] at Q
      have hSl : S.length ≤ 120 := by rw [eS]; exact (row_200 hI).2 j hj
      have h7 := hI.2.2.2.2.2.2.1 j hj
      have hmc := hI.2.1
      obtain ⟨f317, h317, g317⟩ := hM0.2.2.2.2.2.2.2.2.2.2.2.2.2.2.2.1
      have g317q : f317 j = nI S.length := by rw [eS]; exact g317 j hj
      refine V_aload_n C dX7_acknowledge_27 rfl ?_
      refine V_get C dX7_acknowledge_28 fr_7_50 hM rfl ?_
      refine V_iload_n C dX7_acknowledge_31 rfl ?_
      refine V_iald C dX7_acknowledge_32 h317 rfl hj (by decide) ?_
      refine V_nm g317q ?_
      refine V_ifne (tgt := 40) C dX7_acknowledge_33 (by decide) (fun h3 => ?_) (fun h3 => ?_)
      · have hS0 : ¬ S.length = 0 := fun h => h3 (by rw [h]; rfl)
        rw [if_neg hS0] at Q
        obtain ⟨c, ec⟩ : ∃ c, c = S.getD 0 0 := ⟨_, rfl⟩
        rw [← ec] at Q
        have hg : (zRw u (2 * j + 1))[0]? = some c := by rw [← eS, ec, List.getD_eq_getElem?_getD, List.getElem?_eq_getElem (by omega)]; rfl
        have hcm : c ∈ zRw u (2 * j + 1) := List.mem_of_getElem? hg
        have hin := inr_eq hI (s_in hI hj hcm)
        have hpw0 : zPw u c = 0 := (h7.2.2.2.2.2.2 c hcm).2
        have hst4 := (hI.2.2.2.2.2.1 (mOf c) hin.1).2.2.2.2.1
        rw [show 10 * mOf c + pOf c = c - 100 by omega] at Q
        clear h317 g317q g317
        refine V_iconst (v := 0) C dX7_acknowledge_40 rfl ?_
        refine V_invV C dX7_acknowledge_41 hM rfl (m_fails _ _ _ _ _ _ hO) mv_7_101 rfl (Nat.le_of_ble_eq_true rfl) ⟨Nat.le_of_ble_eq_true rfl, Nat.le_of_ble_eq_true rfl⟩ ⟨Nat.le_of_ble_eq_true rfl, Nat.le_of_ble_eq_true rfl⟩ (fun _ _ _ h => VT_no h) (fun v ad1 F1 hp => ?_)
        obtain ⟨rfl, rfl, hO1, hfr⟩ := hp
        have hA : MRep (xD X) ad F1 u 0 := hM0.th hO1 hfr
        have hfrA := hfr
        have hM := hO1
        unfold mObj at hM
        refine V_ifeq_t (tgt := 49) C dX7_acknowledge_44 (by decide) (by decide) ?_
        obtain ⟨f317a, h317, g317a⟩ := hA.2.2.2.2.2.2.2.2.2.2.2.2.2.2.2.1
        obtain ⟨f318a, h318, g318a⟩ := hA.2.2.2.2.2.2.2.2.2.2.2.2.2.2.2.2.1
        have g317q : f317a j = nI S.length := by rw [eS]; exact g317a j hj
        have g318q : ∀ i, i < S.length → f318a (200 * j + i) = nI (S.getD i 0 - 100) := by rw [eS]; exact g318a j hj
        have g3180 : f318a (200 * j) = nI (c - 100) := by rw [ec]; exact g318q 0 (by omega)
        refine V_aload_n C dX7_acknowledge_49 rfl ?_
        refine V_get C dX7_acknowledge_50 fr_7_53 hM rfl ?_
        refine V_sipush (v := 200) C dX7_acknowledge_53 (by decide) ?_
        refine V_iload_n C dX7_acknowledge_56 rfl ?_
        refine V_imul C dX7_acknowledge_57 ?_
        refine V_nm (pk_mul 200 j) ?_
        refine V_iald C dX7_acknowledge_58 h318 rfl (show 200 * j < 600 by omega) (by decide) ?_
        refine V_nm g3180 ?_
        refine V_istore C dX7_acknowledge_59 (by decide) ?_
        refine V_aload_n C dX7_acknowledge_61 rfl ?_
        refine V_get C dX7_acknowledge_62 fr_7_50 hM rfl ?_
        refine V_iload_n C dX7_acknowledge_65 rfl ?_
        refine V_dup2 C dX7_acknowledge_66 rfl rfl ?_
        refine V_iald C dX7_acknowledge_67 h317 rfl hj (by decide) ?_
        refine V_nm g317q ?_
        refine V_iconst (v := 1) C dX7_acknowledge_68 rfl ?_
        refine V_isub C dX7_acknowledge_69 ?_
        refine V_nm (nI_m1 (by omega)) ?_
        refine G_iast C dX7_acknowledge_70 h317 rfl hj (by decide) (fun G0 h317 hfr => ?_)
        have hM := (hfr _ (by omega)).trans hM
        have h318 := (hfr _ (by omega)).trans h318
        have hfr0 := hfr
        refine V_sipush (v := 200) C dX7_acknowledge_71 (by decide) ?_
        refine V_iload_n C dX7_acknowledge_74 rfl ?_
        refine V_imul C dX7_acknowledge_75 ?_
        refine V_nm (pk_mul 200 j) ?_
        refine V_istore C dX7_acknowledge_76 (by decide) ?_
        have hlE : (S.eraseIdx 0).length = S.length - 1 := List.length_eraseIdx_of_lt (by omega)
        have loop : ∀ (d k : Nat) (G : Fn) (f : Nat → Int32), k + d + 1 = S.length → G 318 = some (aI (xD X) 600 f) → Shf f f318a (200 * j) 0 k → (∀ x, x ≠ 318 → G x = G0 x) →
            V X 0 0 78 [(0, .ref (ad 300)), (1, .int (nI j)), (2, .int (nI o)), (4, .int (nI (c - 100))), (5, .int (nI (200 * j + k)))] [] ad G := by
          intro d
          induction d with
          | zero =>
            intro k G f hd h318 hsh hKG
            have hk : k = S.length - 1 := by omega
            have hM := (hKG 300 (by decide)).trans hM
            have h317 := (hKG 317 (by decide)).trans h317
            refine V_iload C dX7_acknowledge_78 rfl ?_
            refine V_sipush (v := 200) C dX7_acknowledge_80 (by decide) ?_
            refine V_iload_n C dX7_acknowledge_83 rfl ?_
            refine V_imul C dX7_acknowledge_84 ?_
            refine V_nm (pk_mul 200 j) ?_
            refine V_aload_n C dX7_acknowledge_85 rfl ?_
            refine V_get C dX7_acknowledge_86 fr_7_50 hM rfl ?_
            refine V_iload_n C dX7_acknowledge_89 rfl ?_
            refine V_iald C dX7_acknowledge_90 h317 rfl hj (by decide) ?_
            refine V_nm pk_us ?_
            refine V_iadd C dX7_acknowledge_91 ?_
            refine V_nm (nI_add _ _) ?_
            refine V_icmpge_t (tgt := 117) C dX7_acknowledge_92 (by decide) (by rw [hk]; exact Int32.le_refl _) ?_
            have hz : MRep (xD X) ad G (rmS u j) 0 := by
              have h := hA.rs (G := G) (l := j) (A := S.eraseIdx 0) ⟨_, h317, by
                have h := rw_len (A := S.eraseIdx 0) (l := j) g317a
                rw [hlE] at h
                exact fun r hr => (h r hr)⟩ ⟨_, h318, rw_row g318a (fun r hr => Nat.le_trans ((row_200 hI).2 r hr) (by decide)) (hsh.done (by omega) (Nat.zero_le _) g318q) (hsh.out (by omega))⟩ (fun x hx => (hKG x (by simp at hx; omega)).trans (hfr0 x (by simp at hx; omega)))
              rw [eS] at h
              exact h
            have hfM : ∀ x, (x < 300 ∨ 400 ≤ x) → G x = F x := fun x hx => ((hKG x (by omega)).trans (hfr0 x (by omega))).trans (hfrA x (by omega))
            obtain ⟨f308, h308, g308⟩ := hz.2.2.2.2.2.2.2.1
            have g308q : f308 (mOf c) = nI (zSt u (mOf c)) := (g308 (mOf c) (by omega)).trans (if_pos hin.1)
            have ek : ackM u j o = if zSt u (mOf c) = 0 then stlM (rmS u j) c o else rmS u j := by unfold ackM; rw [← eS, ← ec]
            rw [ek] at Q
            refine V_aload_n C dX7_acknowledge_117 rfl ?_
            refine V_get C dX7_acknowledge_118 fr_7_25 hM rfl ?_
            refine V_iload C dX7_acknowledge_121 rfl ?_
            refine V_bipush (v := 10) C dX7_acknowledge_123 (by decide) ?_
            refine V_idiv C dX7_acknowledge_125 (by decide) ?_
            refine V_nm (show _ = nI (mOf c) from pk_div (a := c - 100) (d := 10) (by omega) (by decide) (by decide)) ?_
            refine V_iald C dX7_acknowledge_126 h308 rfl (show mOf c < 20 by omega) (by decide) ?_
            refine V_nm g308q ?_
            refine V_ifne (tgt := 137) C dX7_acknowledge_127 (by decide) (fun h4 => ?_) (fun h4 => ?_)
            · rw [if_neg (fun e => h4 (by rw [e]; rfl))] at Q
              refine V_iload C dX7_acknowledge_137 rfl ?_
              exact V_ireturn C Q dX7_acknowledge_139 rfl (Nat.le_of_ble_eq_true rfl) (Nat.le_of_ble_eq_true rfl) ⟨rfl, rfl, hz, fun c hc => ⟨rfl, hfM c hc⟩⟩
            · have hs0 : zSt u (mOf c) = 0 := (nI_eq (b := 0) (by omega) (by decide)).mp h4
              rw [if_pos hs0] at Q
              have hL := lon_rm hI hj hg hs0
              have hf : zPf (rmS u j) c ≤ 3 := by
                have := hF _ hin.1 hs0 _ hin.2.1
                rwa [← hin.2.2.2.1] at this
              refine V_aload_n C dX7_acknowledge_130 rfl ?_
              refine V_iload C dX7_acknowledge_131 rfl ?_
              refine V_iload_n C dX7_acknowledge_133 rfl ?_
              refine V_invV C dX7_acknowledge_134 hM rfl (m_becomes (rmS u j) 0 c o hz (inv_rm hI) hL hf hpw0 (by omega)) mv_7_163 rfl (Nat.le_of_ble_eq_true rfl) ⟨Nat.le_of_ble_eq_true rfl, Nat.le_of_ble_eq_true rfl⟩ ⟨Nat.le_of_ble_eq_true rfl, Nat.le_of_ble_eq_true rfl⟩ (fun _ _ _ h => VT_no h) (fun v ad1 H hp => ?_)
              obtain ⟨rfl, rfl, hz2, hfM2⟩ := hp
              refine V_iload C dX7_acknowledge_137 rfl ?_
              exact V_ireturn C Q dX7_acknowledge_139 rfl (Nat.le_of_ble_eq_true rfl) (Nat.le_of_ble_eq_true rfl) ⟨rfl, rfl, hz2, fun c hc => ⟨rfl, (hfM2 c hc).2.trans (hfM c hc)⟩⟩
          | succ d ih =>
            intro k G f hd h318 hsh hKG
            have hM := (hKG 300 (by decide)).trans hM
            have h317 := (hKG 317 (by decide)).trans h317
            refine V_iload C dX7_acknowledge_78 rfl ?_
            refine V_sipush (v := 200) C dX7_acknowledge_80 (by decide) ?_
            refine V_iload_n C dX7_acknowledge_83 rfl ?_
            refine V_imul C dX7_acknowledge_84 ?_
            refine V_nm (pk_mul 200 j) ?_
            refine V_aload_n C dX7_acknowledge_85 rfl ?_
            refine V_get C dX7_acknowledge_86 fr_7_50 hM rfl ?_
            refine V_iload_n C dX7_acknowledge_89 rfl ?_
            refine V_iald C dX7_acknowledge_90 h317 rfl hj (by decide) ?_
            refine V_nm pk_us ?_
            refine V_iadd C dX7_acknowledge_91 ?_
            refine V_nm (nI_add _ _) ?_
            refine V_icmpge_f (tgt := 117) C dX7_acknowledge_92 (by decide) (nI_ge (by omega) (by omega)) ?_
            refine V_aload_n C dX7_acknowledge_95 rfl ?_
            refine V_get C dX7_acknowledge_96 fr_7_53 hM rfl ?_
            refine V_iload C dX7_acknowledge_99 rfl ?_
            refine V_aload_n C dX7_acknowledge_101 rfl ?_
            refine V_get C dX7_acknowledge_102 fr_7_53 hM rfl ?_
            refine V_iload C dX7_acknowledge_105 rfl ?_
            refine V_iconst (v := 1) C dX7_acknowledge_107 rfl ?_
            refine V_iadd C dX7_acknowledge_108 ?_
            refine V_nm (nI_1 _) ?_
            refine V_iald C dX7_acknowledge_109 h318 rfl (show 200 * j + k + 1 < 600 by omega) (by decide) ?_
            refine G_iast C dX7_acknowledge_110 h318 rfl (show 200 * j + k < 600 by omega) (by decide) (fun G1 h318 hfr => ?_)
            refine V_iinc C dX7_acknowledge_111 rfl (nI_inc _) (by decide) ?_
            refine V_goto (tgt := 78) C dX7_acknowledge_114 (by decide) ?_
            exact V_sb (ih (k + 1) G1 _ (by omega) h318 (hsh.step (Nat.zero_le _)) (fun x hx => (hfr x hx).trans (hKG x hx))) ⟨rfl, rfl, rfl, rfl, rfl, trivial⟩
        exact V_sb (loop (S.length - 1) 0 G0 f318a (by omega) h318 Shf.rf (fun _ _ => rfl)) ⟨rfl, rfl, rfl, rfl, rfl, trivial⟩
      · rw [if_pos ((nI_eq (b := 0) (by omega) (by decide)).mp h3)] at Q
        refine V_iconst (v := 3) C dX7_acknowledge_36 rfl ?_
        refine V_goto (tgt := 41) C dX7_acknowledge_37 (by decide) ?_
        refine V_invV C dX7_acknowledge_41 hM rfl (m_fails _ _ _ _ _ _ hO) mv_7_101 rfl (Nat.le_of_ble_eq_true rfl) ⟨Nat.le_of_ble_eq_true rfl, Nat.le_of_ble_eq_true rfl⟩ ⟨Nat.le_of_ble_eq_true rfl, Nat.le_of_ble_eq_true rfl⟩ (fun _ _ _ h => VT_no h) (fun v ad1 F1 hp => ?_)
        obtain ⟨rfl, rfl, hO1, hfr⟩ := hp
        refine V_ifeq_f (tgt := 49) C dX7_acknowledge_44 (by decide) (by decide) ?_
        refine V_iconst (v := 0) C dX7_acknowledge_47 rfl ?_
        exact V_ireturn C Q dX7_acknowledge_48 rfl (Nat.le_of_ble_eq_true rfl) (Nat.le_of_ble_eq_true rfl) ⟨rfl, rfl, hM0.th hO1 hfr, fun c hc => ⟨rfl, hfr c (by omega)⟩⟩
    · rw [show spAckM u (nI j) b = (2, 0, u) by unfold spAckM; rw [if_neg i1, if_pos (isB_0 h2)]] at Q
      refine V_iconst (v := 2) C dX7_acknowledge_23 rfl ?_
      refine V_goto (tgt := 41) C dX7_acknowledge_24 (by decide) ?_
      refine V_invV C dX7_acknowledge_41 hM rfl (m_fails _ _ _ _ _ _ hO) mv_7_101 rfl (Nat.le_of_ble_eq_true rfl) ⟨Nat.le_of_ble_eq_true rfl, Nat.le_of_ble_eq_true rfl⟩ ⟨Nat.le_of_ble_eq_true rfl, Nat.le_of_ble_eq_true rfl⟩ (fun _ _ _ h => VT_no h) (fun v ad1 F1 hp => ?_)
      obtain ⟨rfl, rfl, hO1, hfr⟩ := hp
      refine V_ifeq_f (tgt := 49) C dX7_acknowledge_44 (by decide) (by decide) ?_
      refine V_iconst (v := 0) C dX7_acknowledge_47 rfl ?_
      exact V_ireturn C Q dX7_acknowledge_48 rfl (Nat.le_of_ble_eq_true rfl) (Nat.le_of_ble_eq_true rfl) ⟨rfl, rfl, hM0.th hO1 hfr, fun c hc => ⟨rfl, hfr c (by omega)⟩⟩
  · rw [show spAckM u a b = (1, 0, u) from if_pos (ite01 h1)] at Q
    refine V_iconst (v := 1) C dX7_acknowledge_10 rfl ?_
    refine V_goto (tgt := 41) C dX7_acknowledge_11 (by decide) ?_
    refine V_invV C dX7_acknowledge_41 hM rfl (m_fails _ _ _ _ _ _ hO) mv_7_101 rfl (Nat.le_of_ble_eq_true rfl) ⟨Nat.le_of_ble_eq_true rfl, Nat.le_of_ble_eq_true rfl⟩ ⟨Nat.le_of_ble_eq_true rfl, Nat.le_of_ble_eq_true rfl⟩ (fun _ _ _ h => VT_no h) (fun v ad1 F1 hp => ?_)
    obtain ⟨rfl, rfl, hO1, hfr⟩ := hp
    refine V_ifeq_f (tgt := 49) C dX7_acknowledge_44 (by decide) (by decide) ?_
    refine V_iconst (v := 0) C dX7_acknowledge_47 rfl ?_
    exact V_ireturn C Q dX7_acknowledge_48 rfl (Nat.le_of_ble_eq_true rfl) (Nat.le_of_ble_eq_true rfl) ⟨rfl, rfl, hM0.th hO1 hfr, fun c hc => ⟨rfl, hfr c (by omega)⟩⟩
