/-! ===== the law: areLinks ===== -/
abbrev rLnk : Room := { frames := 9, cells := 200, slots := 1200, locals := 380 }
/-- lacking parts of messages that wait on a link: counted, and listed -/
def lkC (s : St) (l : Nat) : Nat → Nat
  | 0 => 0
  | k + 1 => lkC s l k + if zRc s k % 3 = l ∧ zSt s k = 0 then bitc (zLk s k) 10 else 0
def lkW (s : St) (l : Nat) : Nat → List Nat
  | 0 => []
  | k + 1 => lkW s l k ++ if zRc s k % 3 = l ∧ zSt s k = 0 then ((List.range 10).filter (fun p => (zLk s k).testBit p)).map (fun p => 100 + 10 * k + p) else []
theorem bitc_len (w : Nat) : ∀ n, bitc w n = ((List.range n).filter (fun p => w.testBit p)).length
  | 0 => rfl
  | n + 1 => by
    rw [List.range_succ, List.filter_append, List.length_append, ← bitc_len w n]
    show bitc w n + w / 2 ^ n % 2 = _
    have h := Nat.testBit_eq_decide_div_mod_eq (x := w) (i := n)
    rcases (show w / 2 ^ n % 2 = 0 ∨ w / 2 ^ n % 2 = 1 by omega) with e | e
    · rw [List.filter_cons_of_neg (by rw [h, e]; decide), e]; rfl
    · rw [List.filter_cons_of_pos (by rw [h, e]; decide), e]; rfl
theorem lkW_len (s : St) (l : Nat) : ∀ k, (lkW s l k).length = lkC s l k
  | 0 => rfl
  | k + 1 => by
    show (lkW s l k ++ _).length = lkC s l k + _
    rw [List.length_append, lkW_len s l k]
    split
    · rw [List.length_map, ← bitc_len]
    · rfl
theorem lkW_mem {s : St} {l c : Nat} : ∀ {k}, c ∈ lkW s l k ↔ ∃ m p, m < k ∧ p < 10 ∧ zRc s m % 3 = l ∧ zSt s m = 0 ∧ (zLk s m).testBit p = true ∧ c = 100 + 10 * m + p
  | 0 => ⟨fun h => absurd h List.not_mem_nil, fun ⟨m, p, h, _⟩ => absurd h (Nat.not_lt_zero m)⟩
  | k + 1 => by
    have ih := lkW_mem (s := s) (l := l) (c := c) (k := k)
    show c ∈ lkW s l k ++ _ ↔ _
    rw [List.mem_append, ih]
    constructor
    · rintro (⟨m, p, h1, h2⟩ | h)
      · exact ⟨m, p, by omega, h2⟩
      · split at h
        · rename_i hc
          obtain ⟨p, hp, rfl⟩ := List.mem_map.mp h
          obtain ⟨hp1, hp2⟩ := List.mem_filter.mp hp
          exact ⟨k, p, Nat.lt_succ_self k, List.mem_range.mp hp1, hc.1, hc.2, hp2, rfl⟩
        · exact absurd h List.not_mem_nil
    · rintro ⟨m, p, h1, h2, h3, h4, h5, h6⟩
      by_cases e : m = k
      · subst e
        right
        rw [if_pos ⟨h3, h4⟩]
        exact List.mem_map.mpr ⟨p, List.mem_filter.mpr ⟨List.mem_range.mpr h2, h5⟩, h6.symm⟩
      · exact Or.inl ⟨m, p, by omega, h2, h3, h4, h5, h6⟩
theorem lkW_nd (s : St) (l : Nat) : ∀ k, (lkW s l k).Nodup
  | 0 => List.nodup_nil
  | k + 1 => by
    show (lkW s l k ++ _).Nodup
    refine List.nodup_append.mpr ⟨lkW_nd s l k, ?_, fun a ha b hb => ?_⟩
    · split
      · refine List.pairwise_map.mpr (List.Pairwise.imp (fun {a b} h => ?_) (List.Nodup.sublist List.filter_sublist List.nodup_range))
        omega
      · exact List.nodup_nil
    · obtain ⟨m, p, h1, h2, -, -, -, h6⟩ := lkW_mem.mp ha
      split at hb
      · obtain ⟨q, hq, rfl⟩ := List.mem_map.mp hb
        omega
      · exact absurd hb List.not_mem_nil
theorem bit_np {s : St} {m p : Nat} (hI : Inv s) (hm : m < zMc s) (h : (zLk s m).testBit p = true) : p < npL (zMs s m) := by
  have h7 := (hI.2.2.2.2.2.1 m hm).2.2.2.2.2.2.1
  rcases Nat.lt_or_ge p (npL (zMs s m)) with g | g
  · exact g
  · rw [Nat.testBit_lt_two_pow (Nat.lt_of_lt_of_le h7 (Nat.pow_le_pow_right (by decide) g))] at h
    exact absurd h (by decide)
theorem lk_cnt {s : St} {l : Nat} (hI : Inv s) (hE : Ex s) (hl : l < 3) : (zRw s (2 * l)).length ≤ lkC s l (zMc s) ∧ lkC s l (zMc s) ≤ (zRw s (2 * l)).length + (zRw s (2 * l + 1)).length := by
  obtain ⟨-, -, -, -, hnd, hin, -⟩ := hI.2.2.2.2.2.2.1 l hl
  rw [← lkW_len, ← List.length_append]
  refine ⟨nodup_len (List.nodup_append.mp hnd).1 (fun c hc => ?_), nodup_len (lkW_nd s l _) (fun c hc => ?_)⟩
  · obtain ⟨h1, h2⟩ := hin c hc
    have h3 := inr_eq hI h1
    exact lkW_mem.mpr ⟨mOf c, pOf c, h3.1, by omega, h3.2.2.2.2.1, h2, h3.2.2.2.2.2 h2, h3.2.2.2.1⟩
  · obtain ⟨m, p, h1, h2, h3, h4, h5, rfl⟩ := lkW_mem.mp hc
    have h := hE.2.2.1 m h1 h4 p (bit_np hI h1 h5) h5 (by omega)
    rw [h3] at h
    exact List.mem_append.mpr h
theorem bitc_le (w : Nat) : ∀ n, bitc w n ≤ n
  | 0 => Nat.le_refl _
  | n + 1 => by
    have := bitc_le w n
    show bitc w n + w / 2 ^ n % 2 ≤ n + 1
    omega
theorem lkC_le (s : St) (l : Nat) : ∀ k, lkC s l k ≤ 10 * k
  | 0 => Nat.le_refl _
  | k + 1 => by
    have h1 := lkC_le s l k
    have h2 := bitc_le (zLk s k) 10
    show lkC s l k + _ ≤ _
    split <;> omega
theorem xqd {s : St} {a : Int32} (h : a < 0 ∨ nI 3 ≤ a) : xv [(-30)] (spQd s a) = -30 := by
  unfold spQd
  rw [if_pos h, xv_b]
  rfl
theorem xuw {s : St} {a : Int32} (h : a < 0 ∨ nI 3 ≤ a) : xv [(-30)] (spUw s a) = -30 := by
  unfold spUw
  rw [if_pos h, xv_b]
  rfl
theorem xtok {s : St} {a : Int32} (h : a < 0 ∨ nI 3 ≤ a) : xv [(-30)] (spTok s a) = -30 := by
  unfold spTok
  rw [if_pos h, xv_b]
  rfl
set_option maxHeartbeats 4000000 in
set_option maxRecDepth 100000 in
/-- areLinks -/
theorem l_areLinks {l : Launch} {D : Dx} {b0 : Nat} {ad : Nat → Nat} {F : Fn} (s : St) (hC : CRep D ad F s) (hQ : Kq s) (hZ : LZ D F (zMc s) (zRc s) (zSt s) (zMs s)) (hL : LQ D F (zWn s) (zUp s)) (hG : LG D F (zTxt s) (zMc s) (zNow s) (zRcp s).length) : Ct l D b0 yL_areLinks (wsA yL_areLinks cL_areLinks 8 (some .boolean)) rLnk [.ref (ad 0), .ref (ad 400), .ref (ad 401), .ref (ad 403)] ad F (PoL D ad F 1 s) noX := by
  refine Ct.of (by decide +kernel) (by simp [Value.category]) (Nat.le_of_ble_eq_true rfl) (fun X eD eb el C Q => ?_)
  subst eD; subst eb; subst el
  have hI := hQ.1.1
  have hE := hQ.2
  have h20 := hI.2.1
  obtain ⟨g, h403, g0, g1, g2, g3, g4, g5⟩ := hG
  obtain ⟨z, h400, hz⟩ := hZ
  obtain ⟨q, h401, hq⟩ := hL
  have hK : FrK ad F ad F := FrK.rf
  have loop : ∀ (d k : Nat) (adk : Nat → Nat) (Fk : Fn), k + d = 3 → CRep (xD X) adk Fk s → Fk 400 = some (aI (xD X) 60 z) → Fk 401 = some (aI (xD X) 9 q) → Fk 403 = some (aI (xD X) 6 g) → FrK ad F adk Fk → V X (7 + 52 * k) (42 + 312 * k) 59 [(0, .ref (adk 0)), (1, .ref (adk 400)), (2, .ref (adk 401)), (3, .ref (adk 403)), (4, .int 1), (5, .int (nI k))] [] adk Fk := by
    intro d
    induction d with
    | zero =>
      intro k adk Fk hkd hC h400 h401 h403 hK
      obtain rfl : k = 3 := by omega
      refine V_iload C dL_areLinks_59 rfl ?_
      refine V_iconst (v := 3) C dL_areLinks_61 rfl ?_
      refine V_icmpge_t (tgt := 231) C dL_areLinks_62 (by decide) (Int32.le_refl _) ?_
      refine V_iload C dL_areLinks_231 rfl ?_
      exact V_ireturn C Q dL_areLinks_233 rfl (Nat.le_of_ble_eq_true rfl) (Nat.le_of_ble_eq_true rfl) ⟨rfl, hC, hK⟩
    | succ d ih =>
      intro k adk Fk hkd hC h400 h401 h403 hK
      have hk : k < 3 := by omega
      obtain ⟨c1, c2⟩ := lk_cnt hI hE hk
      have hle := lkC_le s k (zMc s)
      obtain ⟨u1, u2⟩ := hE.2.2.2.1 k hk
      have hcap := row_cap hI hk
      obtain ⟨i1, i2, i3, i4, -⟩ := hI.2.2.2.2.2.2.1 k hk
      have fin : ∀ (adk : Nat → Nat) (Fk : Fn), CRep (xD X) adk Fk s → Fk 400 = some (aI (xD X) 60 z) → Fk 401 = some (aI (xD X) 9 q) → Fk 403 = some (aI (xD X) 6 g) → FrK ad F adk Fk → V X (47 + 52 * k) (282 + 312 * k) 129 [(0, .ref (adk 0)), (1, .ref (adk 400)), (2, .ref (adk 401)), (3, .ref (adk 403)), (5, .int (nI k)), (6, .int (nI (lkC s k (zMc s))))] [] adk Fk := by
        intro adk Fk hC h400 h401 h403 hK
        refine V_aload_n C dL_areLinks_129 rfl ?_
        refine V_iload C dL_areLinks_130 rfl ?_
        refine V_invV (c0 := 0) C dL_areLinks_132 hC.1 rfl (q_underWay s k hC hI hk) mv_L_81 rfl (Nat.le_of_ble_eq_true rfl) ⟨Nat.le_of_ble_eq_true rfl, Nat.le_of_ble_eq_true rfl⟩ ⟨(by show 47 + 52 * k + 2 ≤ 200; omega), (by show 282 + 312 * k + 12 ≤ 1200; omega)⟩ (fun _ _ _ h => VT_no h) (fun v ad1 F1 hp => ?_)
        obtain ⟨rfl, hC, hfk⟩ := hp
        rw [show adk 0 = ad1 0 from hfk.a0.symm, show adk 400 = ad1 400 from (hfk.ad (by decide)).symm, show adk 401 = ad1 401 from (hfk.ad (by decide)).symm, show adk 403 = ad1 403 from (hfk.ad (by decide)).symm]
        have h400 := (hfk 400 (by decide)).2.trans h400
        have h401 := (hfk 401 (by decide)).2.trans h401
        have h403 := (hfk 403 (by decide)).2.trans h403
        have hK := hK.tr hfk
        refine V_istore C dL_areLinks_135 (by decide) ?_
        refine V_iload C dL_areLinks_137 rfl ?_
        refine V_iflt_f (tgt := 222) C dL_areLinks_139 (by decide) (nI_pos (by omega)) ?_
        refine V_iload C dL_areLinks_142 rfl ?_
        refine V_bipush (v := 11) C dL_areLinks_144 (by decide) ?_
        refine V_icmpge_f (tgt := 222) C dL_areLinks_146 (by decide) (nI_ge (b := 11) (by omega) (by decide)) ?_
        refine V_aload_n C dL_areLinks_149 rfl ?_
        refine V_iload C dL_areLinks_150 rfl ?_
        refine V_invV (c0 := 0) C dL_areLinks_152 hC.1 rfl (q_queued s k hC hI hk) mv_L_78 rfl (Nat.le_of_ble_eq_true rfl) ⟨Nat.le_of_ble_eq_true rfl, Nat.le_of_ble_eq_true rfl⟩ ⟨(by show 47 + 52 * k + 2 + 2 ≤ 200; omega), (by show 282 + 312 * k + 12 + 12 ≤ 1200; omega)⟩ (fun _ _ _ h => VT_no h) (fun v ad2 F2 hp => ?_)
        obtain ⟨rfl, hC, hfk⟩ := hp
        rw [show ad1 0 = ad2 0 from hfk.a0.symm, show ad1 400 = ad2 400 from (hfk.ad (by decide)).symm, show ad1 401 = ad2 401 from (hfk.ad (by decide)).symm, show ad1 403 = ad2 403 from (hfk.ad (by decide)).symm]
        have h400 := (hfk 400 (by decide)).2.trans h400
        have h401 := (hfk 401 (by decide)).2.trans h401
        have h403 := (hfk 403 (by decide)).2.trans h403
        have hK := hK.tr hfk
        refine V_iflt_f (tgt := 222) C dL_areLinks_155 (by decide) (nI_pos (by omega)) ?_
        refine V_aload_n C dL_areLinks_158 rfl ?_
        refine V_iload C dL_areLinks_159 rfl ?_
        refine V_invV (c0 := 0) C dL_areLinks_161 hC.1 rfl (q_queued s k hC hI hk) mv_L_78 rfl (Nat.le_of_ble_eq_true rfl) ⟨Nat.le_of_ble_eq_true rfl, Nat.le_of_ble_eq_true rfl⟩ ⟨(by show 47 + 52 * k + 2 + 2 + 2 ≤ 200; omega), (by show 282 + 312 * k + 12 + 12 + 12 ≤ 1200; omega)⟩ (fun _ _ _ h => VT_no h) (fun v ad3 F3 hp => ?_)
        obtain ⟨rfl, hC, hfk⟩ := hp
        rw [show ad2 0 = ad3 0 from hfk.a0.symm, show ad2 400 = ad3 400 from (hfk.ad (by decide)).symm, show ad2 401 = ad3 401 from (hfk.ad (by decide)).symm, show ad2 403 = ad3 403 from (hfk.ad (by decide)).symm]
        have h400 := (hfk 400 (by decide)).2.trans h400
        have h401 := (hfk 401 (by decide)).2.trans h401
        have h403 := (hfk 403 (by decide)).2.trans h403
        have hK := hK.tr hfk
        refine V_iload C dL_areLinks_164 rfl ?_
        refine V_icmpgt_f (tgt := 222) C dL_areLinks_166 (by decide) (nI_nlt c1 (by omega)) ?_
        refine V_aload_n C dL_areLinks_169 rfl ?_
        refine V_iload C dL_areLinks_170 rfl ?_
        refine V_invV (c0 := 0) C dL_areLinks_172 hC.1 rfl (q_queued s k hC hI hk) mv_L_78 rfl (Nat.le_of_ble_eq_true rfl) ⟨Nat.le_of_ble_eq_true rfl, Nat.le_of_ble_eq_true rfl⟩ ⟨(by show 47 + 52 * k + 2 + 2 + 2 + 2 ≤ 200; omega), (by show 282 + 312 * k + 12 + 12 + 12 + 12 ≤ 1200; omega)⟩ (fun _ _ _ h => VT_no h) (fun v ad4 F4 hp => ?_)
        obtain ⟨rfl, hC, hfk⟩ := hp
        rw [show ad3 0 = ad4 0 from hfk.a0.symm, show ad3 400 = ad4 400 from (hfk.ad (by decide)).symm, show ad3 401 = ad4 401 from (hfk.ad (by decide)).symm, show ad3 403 = ad4 403 from (hfk.ad (by decide)).symm]
        have h400 := (hfk 400 (by decide)).2.trans h400
        have h401 := (hfk 401 (by decide)).2.trans h401
        have h403 := (hfk 403 (by decide)).2.trans h403
        have hK := hK.tr hfk
        refine V_iload C dL_areLinks_175 rfl ?_
        refine V_iadd C dL_areLinks_177 ?_
        refine V_nm (nI_add _ _) ?_
        refine V_iload C dL_areLinks_178 rfl ?_
        refine V_icmplt_f (tgt := 222) C dL_areLinks_180 (by decide) (nI_nlt c2 (by omega)) ?_
        refine V_aload_n C dL_areLinks_183 rfl ?_
        refine V_iload C dL_areLinks_184 rfl ?_
        refine V_invV (c0 := 0) C dL_areLinks_186 hC.1 rfl (q_tokens s k hC hI hk) mv_L_84 rfl (Nat.le_of_ble_eq_true rfl) ⟨Nat.le_of_ble_eq_true rfl, Nat.le_of_ble_eq_true rfl⟩ ⟨(by show 47 + 52 * k + 2 + 2 + 2 + 2 + 2 ≤ 200; omega), (by show 282 + 312 * k + 12 + 12 + 12 + 12 + 12 ≤ 1200; omega)⟩ (fun _ _ _ h => VT_no h) (fun v ad5 F5 hp => ?_)
        obtain ⟨rfl, hC, hfk⟩ := hp
        rw [show ad4 0 = ad5 0 from hfk.a0.symm, show ad4 400 = ad5 400 from (hfk.ad (by decide)).symm, show ad4 401 = ad5 401 from (hfk.ad (by decide)).symm, show ad4 403 = ad5 403 from (hfk.ad (by decide)).symm]
        have h400 := (hfk 400 (by decide)).2.trans h400
        have h401 := (hfk 401 (by decide)).2.trans h401
        have h403 := (hfk 403 (by decide)).2.trans h403
        have hK := hK.tr hfk
        refine V_iflt_f (tgt := 222) C dL_areLinks_189 (by decide) (nI_pos (by omega)) ?_
        refine V_aload_n C dL_areLinks_192 rfl ?_
        refine V_iload C dL_areLinks_193 rfl ?_
        refine V_invV (c0 := 0) C dL_areLinks_195 hC.1 rfl (q_tokens s k hC hI hk) mv_L_84 rfl (Nat.le_of_ble_eq_true rfl) ⟨Nat.le_of_ble_eq_true rfl, Nat.le_of_ble_eq_true rfl⟩ ⟨(by show 47 + 52 * k + 2 + 2 + 2 + 2 + 2 + 2 ≤ 200; omega), (by show 282 + 312 * k + 12 + 12 + 12 + 12 + 12 + 12 ≤ 1200; omega)⟩ (fun _ _ _ h => VT_no h) (fun v ad6 F6 hp => ?_)
        obtain ⟨rfl, hC, hfk⟩ := hp
        rw [show ad5 0 = ad6 0 from hfk.a0.symm, show ad5 400 = ad6 400 from (hfk.ad (by decide)).symm, show ad5 401 = ad6 401 from (hfk.ad (by decide)).symm, show ad5 403 = ad6 403 from (hfk.ad (by decide)).symm]
        have h400 := (hfk 400 (by decide)).2.trans h400
        have h401 := (hfk 401 (by decide)).2.trans h401
        have h403 := (hfk 403 (by decide)).2.trans h403
        have hK := hK.tr hfk
        refine V_bipush (v := 6) C dL_areLinks_198 (by decide) ?_
        refine V_icmpge_f (tgt := 222) C dL_areLinks_200 (by decide) (nI_ge (b := 6) (by omega) (by decide)) ?_
        refine V_aload_n C dL_areLinks_203 rfl ?_
        refine V_bipush (v := 6) C dL_areLinks_204 (by decide) ?_
        refine V_iload C dL_areLinks_206 rfl ?_
        refine V_iadd C dL_areLinks_208 ?_
        refine V_nm (nI_add 6 k) ?_
        refine V_iald C dL_areLinks_209 h401 rfl (by omega) (by decide) ?_
        refine V_nm (hq k hk).2 ?_
        by_cases hup : zUp s k = 0
        · refine V_ifeq_f (tgt := 218) C dL_areLinks_210 (by decide) (by rw [hup]; decide) ?_
          refine V_iload C dL_areLinks_213 rfl ?_
          refine V_ifne_f (tgt := 222) C dL_areLinks_215 (by decide) (by rw [u2 hup]; rfl) ?_
          refine V_iconst (v := 1) C dL_areLinks_218 rfl ?_
          refine V_goto (tgt := 223) C dL_areLinks_219 (by decide) ?_
          refine V_istore C dL_areLinks_223 (by decide) ?_
          refine V_iinc C dL_areLinks_225 rfl (nI_1 k) (by decide) ?_
          refine V_goto (tgt := 59) C dL_areLinks_228 (by decide) ?_
          refine V_wide (k' := 7 + 52 * (k + 1)) (n' := 42 + 312 * (k + 1)) (by show 47 + 52 * k + 2 + 2 + 2 + 2 + 2 + 2 ≤ _; omega) (by show 282 + 312 * k + 12 + 12 + 12 + 12 + 12 + 12 ≤ _; omega) ?_
          exact V_sb (ih (k + 1) ad6 F6 (by omega) hC h400 h401 h403 hK) ⟨rfl, rfl, rfl, rfl, rfl, rfl, trivial⟩
        · refine V_ifeq_t (tgt := 218) C dL_areLinks_210 (by decide) (by rw [show 1 - zUp s k = 0 by omega]; rfl) ?_
          refine V_iconst (v := 1) C dL_areLinks_218 rfl ?_
          refine V_goto (tgt := 223) C dL_areLinks_219 (by decide) ?_
          refine V_istore C dL_areLinks_223 (by decide) ?_
          refine V_iinc C dL_areLinks_225 rfl (nI_1 k) (by decide) ?_
          refine V_goto (tgt := 59) C dL_areLinks_228 (by decide) ?_
          refine V_wide (k' := 7 + 52 * (k + 1)) (n' := 42 + 312 * (k + 1)) (by show 47 + 52 * k + 2 + 2 + 2 + 2 + 2 + 2 ≤ _; omega) (by show 282 + 312 * k + 12 + 12 + 12 + 12 + 12 + 12 ≤ _; omega) ?_
          exact V_sb (ih (k + 1) ad6 F6 (by omega) hC h400 h401 h403 hK) ⟨rfl, rfl, rfl, rfl, rfl, rfl, trivial⟩
      have inner : ∀ (d j : Nat) (adk : Nat → Nat) (Fk : Fn), j + d = zMc s → CRep (xD X) adk Fk s → Fk 400 = some (aI (xD X) 60 z) → Fk 401 = some (aI (xD X) 9 q) → Fk 403 = some (aI (xD X) 6 g) → FrK ad F adk Fk → V X (7 + 52 * k + 2 * j) (42 + 312 * k + 12 * j) 76 [(0, .ref (adk 0)), (1, .ref (adk 400)), (2, .ref (adk 401)), (3, .ref (adk 403)), (5, .int (nI k)), (6, .int (nI (lkC s k j))), (7, .int (nI j))] [] adk Fk := by
        intro d
        induction d with
        | zero =>
          intro j adk Fk hjd hC h400 h401 h403 hK
          obtain rfl : j = zMc s := by omega
          refine V_iload C dL_areLinks_76 rfl ?_
          refine V_aload_n C dL_areLinks_78 rfl ?_
          refine V_iconst (v := 3) C dL_areLinks_79 rfl ?_
          refine V_iald C dL_areLinks_80 h403 (show _ = nI 3 from rfl) (by decide) (by decide) ?_
          refine V_nm g3 ?_
          refine V_icmpge_t (tgt := 129) C dL_areLinks_81 (by decide) (Int32.le_refl _) ?_
          refine V_wide (k' := 47 + 52 * k) (n' := 282 + 312 * k) (by omega) (by omega) ?_
          exact V_sb (fin adk Fk hC h400 h401 h403 hK) ⟨rfl, rfl, rfl, rfl, rfl, rfl, trivial⟩
        | succ d ih2 =>
          intro j adk Fk hjd hC h400 h401 h403 hK
          have hjm : j < zMc s := by omega
          have hzj := hz j hjm
          have hrc9 := (hI.2.2.2.2.2.1 j hjm).2.2.2.1
          have hst4 := (hI.2.2.2.2.2.1 j hjm).2.2.2.2.1
          have hlk := lk_64 hI hjm
          refine V_iload C dL_areLinks_76 rfl ?_
          refine V_aload_n C dL_areLinks_78 rfl ?_
          refine V_iconst (v := 3) C dL_areLinks_79 rfl ?_
          refine V_iald C dL_areLinks_80 h403 (show _ = nI 3 from rfl) (by decide) (by decide) ?_
          refine V_nm g3 ?_
          refine V_icmpge_f (tgt := 129) C dL_areLinks_81 (by decide) (nI_ge hjm (by omega)) ?_
          refine V_iload C dL_areLinks_84 rfl ?_
          refine V_aload_n C dL_areLinks_86 rfl ?_
          refine V_iload C dL_areLinks_87 rfl ?_
          refine V_iald C dL_areLinks_89 h400 rfl (by omega) (by decide) ?_
          refine V_nm hzj.1 ?_
          refine V_iconst (v := 3) C dL_areLinks_90 rfl ?_
          refine V_irem C dL_areLinks_91 (by decide) ?_
          refine V_nm (pk_rem (d := 3) (by omega) (by decide) (by decide)) ?_
          refine V_iload C dL_areLinks_92 rfl ?_
          by_cases hr : zRc s j % 3 = k
          · refine V_icmpne_f (tgt := 119) C dL_areLinks_94 (by decide) (congrArg nI hr) ?_
            refine V_aload_n C dL_areLinks_97 rfl ?_
            refine V_bipush (v := 20) C dL_areLinks_98 (by decide) ?_
            refine V_iload C dL_areLinks_100 rfl ?_
            refine V_iadd C dL_areLinks_102 ?_
            refine V_nm (nI_add 20 j) ?_
            refine V_iald C dL_areLinks_103 h400 rfl (by omega) (by decide) ?_
            refine V_nm hzj.2.1 ?_
            by_cases hw : zSt s j = 0
            · refine V_ifne_f (tgt := 119) C dL_areLinks_104 (by decide) (by rw [hw]; rfl) ?_
              refine V_aload_n C dL_areLinks_107 rfl ?_
              refine V_iload C dL_areLinks_108 rfl ?_
              refine V_invV (c0 := 0) C dL_areLinks_110 hC.1 rfl (q_missing s j hC hI hjm) mv_L_69 rfl (Nat.le_of_ble_eq_true rfl) ⟨Nat.le_of_ble_eq_true rfl, Nat.le_of_ble_eq_true rfl⟩ ⟨(by show 7 + 52 * k + 2 * j + 2 ≤ 200; omega), (by show 42 + 312 * k + 12 * j + 12 ≤ 1200; omega)⟩ (fun _ _ _ h => VT_no h) (fun v ad1 F1 hp => ?_)
              obtain ⟨rfl, hC, hfk⟩ := hp
              rw [show adk 0 = ad1 0 from hfk.a0.symm, show adk 400 = ad1 400 from (hfk.ad (by decide)).symm, show adk 401 = ad1 401 from (hfk.ad (by decide)).symm, show adk 403 = ad1 403 from (hfk.ad (by decide)).symm]
              have h400 := (hfk 400 (by decide)).2.trans h400
              have h401 := (hfk 401 (by decide)).2.trans h401
              have h403 := (hfk 403 (by decide)).2.trans h403
              have hK := hK.tr hfk
              refine V_invS C dL_areLinks_113 (l_bits (zLk s j) (by omega)) ms_L_104 rfl (Nat.le_of_ble_eq_true rfl) ⟨Nat.le_of_ble_eq_true rfl, Nat.le_of_ble_eq_true rfl⟩ ⟨(by show 7 + 52 * k + 2 * j + 2 + 0 ≤ 200; omega), (by show 42 + 312 * k + 12 * j + 12 + 0 ≤ 1200; omega)⟩ (fun _ _ _ h => VT_no h) (fun v ad2 F2 hp => ?_)
              obtain ⟨rfl, rfl, rfl⟩ := hp
              refine V_goto (tgt := 120) C dL_areLinks_116 (by decide) ?_
              refine V_iadd C dL_areLinks_120 ?_
              refine V_nm ((nI_add _ _).trans (congrArg nI (show lkC s k j + bitc (zLk s j) 10 = lkC s k (j + 1) by show _ = lkC s k j + _; rw [if_pos ⟨hr, hw⟩]))) ?_
              refine V_istore C dL_areLinks_121 (by decide) ?_
              refine V_iinc C dL_areLinks_123 rfl (nI_1 j) (by decide) ?_
              refine V_goto (tgt := 76) C dL_areLinks_126 (by decide) ?_
              refine V_wide (k' := 7 + 52 * k + 2 * (j + 1)) (n' := 42 + 312 * k + 12 * (j + 1)) (by show 7 + 52 * k + 2 * j + 2 + 0 ≤ _; omega) (by show 42 + 312 * k + 12 * j + 12 + 0 ≤ _; omega) ?_
              exact V_sb (ih2 (j + 1) ad1 F1 (by omega) hC h400 h401 h403 hK) ⟨rfl, rfl, rfl, rfl, rfl, rfl, rfl, trivial⟩
            · refine V_ifne_t (tgt := 119) C dL_areLinks_104 (by decide) (nI_ne0 (Nat.pos_of_ne_zero hw) (by omega)) ?_
              refine V_iconst (v := 0) C dL_areLinks_119 rfl ?_
              refine V_iadd C dL_areLinks_120 ?_
              refine V_nm ((nI_add _ 0).trans (congrArg nI (show lkC s k j + 0 = lkC s k (j + 1) by show _ = lkC s k j + _; rw [if_neg (fun h => hw h.2)]))) ?_
              refine V_istore C dL_areLinks_121 (by decide) ?_
              refine V_iinc C dL_areLinks_123 rfl (nI_1 j) (by decide) ?_
              refine V_goto (tgt := 76) C dL_areLinks_126 (by decide) ?_
              refine V_wide (k' := 7 + 52 * k + 2 * (j + 1)) (n' := 42 + 312 * k + 12 * (j + 1)) (by show 7 + 52 * k + 2 * j ≤ _; omega) (by show 42 + 312 * k + 12 * j ≤ _; omega) ?_
              exact V_sb (ih2 (j + 1) adk Fk (by omega) hC h400 h401 h403 hK) ⟨rfl, rfl, rfl, rfl, rfl, rfl, rfl, trivial⟩
          · refine V_icmpne_t (tgt := 119) C dL_areLinks_94 (by decide) (fun e => hr ((nI_eq (by omega) (by omega)).mp e)) ?_
            refine V_iconst (v := 0) C dL_areLinks_119 rfl ?_
            refine V_iadd C dL_areLinks_120 ?_
            refine V_nm ((nI_add _ 0).trans (congrArg nI (show lkC s k j + 0 = lkC s k (j + 1) by show _ = lkC s k j + _; rw [if_neg (fun h => hr h.1)]))) ?_
            refine V_istore C dL_areLinks_121 (by decide) ?_
            refine V_iinc C dL_areLinks_123 rfl (nI_1 j) (by decide) ?_
            refine V_goto (tgt := 76) C dL_areLinks_126 (by decide) ?_
            refine V_wide (k' := 7 + 52 * k + 2 * (j + 1)) (n' := 42 + 312 * k + 12 * (j + 1)) (by show 7 + 52 * k + 2 * j ≤ _; omega) (by show 42 + 312 * k + 12 * j ≤ _; omega) ?_
            exact V_sb (ih2 (j + 1) adk Fk (by omega) hC h400 h401 h403 hK) ⟨rfl, rfl, rfl, rfl, rfl, rfl, rfl, trivial⟩
      refine V_iload C dL_areLinks_59 rfl ?_
      refine V_iconst (v := 3) C dL_areLinks_61 rfl ?_
      refine V_icmpge_f (tgt := 231) C dL_areLinks_62 (by decide) (nI_ge (b := 3) (by omega) (by decide)) ?_
      refine V_iload C dL_areLinks_65 rfl ?_
      refine V_ifeq_f (tgt := 231) C dL_areLinks_67 (by decide) (by decide) ?_
      refine V_iconst (v := 0) C dL_areLinks_70 rfl ?_
      refine V_istore C dL_areLinks_71 (by decide) ?_
      refine V_iconst (v := 0) C dL_areLinks_73 rfl ?_
      refine V_istore C dL_areLinks_74 (by decide) ?_
      exact V_sb (inner (zMc s) 0 adk Fk (by omega) hC h400 h401 h403 hK) ⟨rfl, rfl, rfl, rfl, rfl, rfl, rfl, trivial⟩
  refine V_aload_n C dL_areLinks_0 rfl ?_
  refine V_invV (c0 := 0) C dL_areLinks_1 hC.1 rfl (q_time s hC hI) mv_L_101 rfl (Nat.le_of_ble_eq_true rfl) ⟨Nat.le_of_ble_eq_true rfl, Nat.le_of_ble_eq_true rfl⟩ ⟨(Nat.le_of_ble_eq_true rfl), (Nat.le_of_ble_eq_true rfl)⟩ (fun _ _ _ h => VT_no h) (fun v ad1 F1 hp => ?_)
  obtain ⟨rfl, hC, hfk⟩ := hp
  rw [show ad 0 = ad1 0 from hfk.a0.symm, show ad 400 = ad1 400 from (hfk.ad (by decide)).symm, show ad 401 = ad1 401 from (hfk.ad (by decide)).symm, show ad 403 = ad1 403 from (hfk.ad (by decide)).symm]
  have h400 := (hfk 400 (by decide)).2.trans h400
  have h401 := (hfk 401 (by decide)).2.trans h401
  have h403 := (hfk 403 (by decide)).2.trans h403
  have hK := hK.tr hfk
  refine V_aload_n C dL_areLinks_4 rfl ?_
  refine V_iconst (v := 4) C dL_areLinks_5 rfl ?_
  refine V_iald C dL_areLinks_6 h403 (show _ = nI 4 from rfl) (by decide) (by decide) ?_
  refine V_nm g4 ?_
  refine V_icmpne_f (tgt := 53) C dL_areLinks_7 (by decide) rfl ?_
  refine V_aload_n C dL_areLinks_10 rfl ?_
  refine V_bipush (v := 8) C dL_areLinks_11 (by decide) ?_
  refine V_iconst (v := 3) C dL_areLinks_13 rfl ?_
  refine V_iconst (v := 0) C dL_areLinks_14 rfl ?_
  refine V_invH C dL_areLinks_15 (a_queued s _ _ hC hI) mh_L_94 rfl (Nat.le_of_ble_eq_true rfl) ⟨Nat.le_of_ble_eq_true rfl, Nat.le_of_ble_eq_true rfl⟩ ⟨(Nat.le_of_ble_eq_true rfl), (Nat.le_of_ble_eq_true rfl)⟩ (fun _ _ _ h => VT_no h) (fun v ad2 F2 hp => ?_)
  obtain ⟨rfl, hC, hfk⟩ := hp
  rw [show ad1 0 = ad2 0 from hfk.a0.symm, show ad1 400 = ad2 400 from (hfk.ad (by decide)).symm, show ad1 401 = ad2 401 from (hfk.ad (by decide)).symm, show ad1 403 = ad2 403 from (hfk.ad (by decide)).symm]
  have h400 := (hfk 400 (by decide)).2.trans h400
  have h401 := (hfk 401 (by decide)).2.trans h401
  have h403 := (hfk 403 (by decide)).2.trans h403
  have hK := hK.tr hfk
  refine V_nm (xqd (Or.inr (by decide))) ?_
  refine V_bipush (v := (-30)) C dL_areLinks_18 (by decide) ?_
  refine V_icmpne_f (tgt := 53) C dL_areLinks_20 (by decide) rfl ?_
  refine V_aload_n C dL_areLinks_23 rfl ?_
  refine V_bipush (v := 9) C dL_areLinks_24 (by decide) ?_
  refine V_iconst (v := (-1)) C dL_areLinks_26 rfl ?_
  refine V_iconst (v := 0) C dL_areLinks_27 rfl ?_
  refine V_invH C dL_areLinks_28 (a_underWay s _ _ hC hI) mh_L_94 rfl (Nat.le_of_ble_eq_true rfl) ⟨Nat.le_of_ble_eq_true rfl, Nat.le_of_ble_eq_true rfl⟩ ⟨(Nat.le_of_ble_eq_true rfl), (Nat.le_of_ble_eq_true rfl)⟩ (fun _ _ _ h => VT_no h) (fun v ad3 F3 hp => ?_)
  obtain ⟨rfl, hC, hfk⟩ := hp
  rw [show ad2 0 = ad3 0 from hfk.a0.symm, show ad2 400 = ad3 400 from (hfk.ad (by decide)).symm, show ad2 401 = ad3 401 from (hfk.ad (by decide)).symm, show ad2 403 = ad3 403 from (hfk.ad (by decide)).symm]
  have h400 := (hfk 400 (by decide)).2.trans h400
  have h401 := (hfk 401 (by decide)).2.trans h401
  have h403 := (hfk 403 (by decide)).2.trans h403
  have hK := hK.tr hfk
  refine V_nm (xuw (Or.inl (by decide))) ?_
  refine V_bipush (v := (-30)) C dL_areLinks_31 (by decide) ?_
  refine V_icmpne_f (tgt := 53) C dL_areLinks_33 (by decide) rfl ?_
  refine V_aload_n C dL_areLinks_36 rfl ?_
  refine V_bipush (v := 10) C dL_areLinks_37 (by decide) ?_
  refine V_iconst (v := 3) C dL_areLinks_39 rfl ?_
  refine V_iconst (v := 0) C dL_areLinks_40 rfl ?_
  refine V_invH C dL_areLinks_41 (a_tokens s _ _ hC hI) mh_L_94 rfl (Nat.le_of_ble_eq_true rfl) ⟨Nat.le_of_ble_eq_true rfl, Nat.le_of_ble_eq_true rfl⟩ ⟨(Nat.le_of_ble_eq_true rfl), (Nat.le_of_ble_eq_true rfl)⟩ (fun _ _ _ h => VT_no h) (fun v ad4 F4 hp => ?_)
  obtain ⟨rfl, hC, hfk⟩ := hp
  rw [show ad3 0 = ad4 0 from hfk.a0.symm, show ad3 400 = ad4 400 from (hfk.ad (by decide)).symm, show ad3 401 = ad4 401 from (hfk.ad (by decide)).symm, show ad3 403 = ad4 403 from (hfk.ad (by decide)).symm]
  have h400 := (hfk 400 (by decide)).2.trans h400
  have h401 := (hfk 401 (by decide)).2.trans h401
  have h403 := (hfk 403 (by decide)).2.trans h403
  have hK := hK.tr hfk
  refine V_nm (xtok (Or.inr (by decide))) ?_
  refine V_bipush (v := (-30)) C dL_areLinks_44 (by decide) ?_
  refine V_icmpne_f (tgt := 53) C dL_areLinks_46 (by decide) rfl ?_
  refine V_iconst (v := 1) C dL_areLinks_49 rfl ?_
  refine V_goto (tgt := 54) C dL_areLinks_50 (by decide) ?_
  refine V_istore C dL_areLinks_54 (by decide) ?_
  refine V_iconst (v := 0) C dL_areLinks_56 rfl ?_
  refine V_istore C dL_areLinks_57 (by decide) ?_
  exact V_sb (loop 3 0 ad4 F4 rfl hC h400 h401 h403 hK) ⟨rfl, rfl, rfl, rfl, rfl, rfl, trivial⟩
