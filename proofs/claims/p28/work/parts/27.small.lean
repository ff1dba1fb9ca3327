/-! ===== the law's frames; the text's parts in numbers; part, bits, clears ===== -/
/-- the law's cells outside W stay, and all addresses of the law's and the class's own object -/
def FrL (W : List Nat) (ad : Nat → Nat) (F : Fn) (ad1 : Nat → Nat) (F1 : Fn) : Prop := ∀ c, 300 ≤ c → (ad1 c, ad1 0) = (ad c, ad 0) ∧ (c ∉ W → F1 c = F c)
theorem FrL.rf {W : List Nat} {ad : Nat → Nat} {F : Fn} : FrL W ad F ad F := fun _ _ => ⟨rfl, fun _ => rfl⟩
theorem FrL.ad {W : List Nat} {ad : Nat → Nat} {F : Fn} {ad1 : Nat → Nat} {F1 : Fn} (h : FrL W ad F ad1 F1) {c : Nat} (hc : 300 ≤ c) : ad1 c = ad c := (Prod.mk.inj (h c hc).1).1
theorem FrL.a0 {W : List Nat} {ad : Nat → Nat} {F : Fn} {ad1 : Nat → Nat} {F1 : Fn} (h : FrL W ad F ad1 F1) : ad1 0 = ad 0 := (Prod.mk.inj (h 300 (Nat.le_refl _)).1).2
theorem FrL.trk {W : List Nat} {ad : Nat → Nat} {F : Fn} {ad1 : Nat → Nat} {F1 : Fn} {ad2 : Nat → Nat} {F2 : Fn} (h : FrL W ad F ad1 F1) (g : FrK ad1 F1 ad2 F2) : FrL W ad F ad2 F2 := fun c hc => ⟨(g c hc).1.trans (h c hc).1, fun hw => (g c hc).2.trans ((h c hc).2 hw)⟩
theorem FrL.st {W : List Nat} {ad : Nat → Nat} {F : Fn} {ad1 : Nat → Nat} {F1 F2 : Fn} {c0 : Nat} (h : FrL W ad F ad1 F1) (g : ∀ c, c ≠ c0 → F2 c = F1 c) (hm : c0 ∈ W) : FrL W ad F ad1 F2 := fun c hc => ⟨(h c hc).1, fun hw => (g c (fun e => hw (e ▸ hm))).trans ((h c hc).2 hw)⟩
theorem FrL.trl {W V : List Nat} {ad : Nat → Nat} {F : Fn} {ad1 : Nat → Nat} {F1 : Fn} {ad2 : Nat → Nat} {F2 : Fn} (h : FrL W ad F ad1 F1) (g : FrL V ad1 F1 ad2 F2) (hs : ∀ c ∈ V, c ∈ W) : FrL W ad F ad2 F2 := fun c hc => ⟨(g c hc).1.trans (h c hc).1, fun hw => ((g c hc).2 (fun e => hw (hs c e))).trans ((h c hc).2 hw)⟩
theorem FrK.toL {W : List Nat} {ad : Nat → Nat} {F : Fn} {ad1 : Nat → Nat} {F1 : Fn} (h : FrK ad F ad1 F1) : FrL W ad F ad1 F1 := fun c hc => ⟨(h c hc).1, fun _ => (h c hc).2⟩
/-! the text's parts -/
theorem btw_wide {L : List Nat} {a b : Nat} (h : wideL L = true) (hb : b ≤ L.length) : btw L a b = b - a := by
  unfold btw
  rw [sum_ones _ (fun s hs => sz_wide h s (List.mem_of_mem_drop (List.mem_of_mem_take hs))), List.length_take, List.length_drop, szL_len]
  omega
theorem btw_small {L : List Nat} {k : Nat} (h : wideL L = false) : btw L (posL L k) (posL L (k + 1)) = septL (ptL L k) := by
  unfold btw septL ptL
  rw [sz_small h, ← List.map_drop, ← List.map_take]
theorem part_fit (L : List Nat) (k : Nat) : btw L (posL L k) (posL L (k + 1)) ≤ roomL L := (btw_le (posL_le L (k + 1)) (posL_mono L (Nat.le_succ k))).mpr (Nat.le_refl _)
theorem septL_ge : ∀ L : List Nat, L.length ≤ septL L
  | [] => Nat.le_refl _
  | x :: r => by
    have := septL_ge r
    rw [septL_cons, List.length_cons]
    rcases w1_12 x with h | h <;> omega
theorem ptL_len {L : List Nat} {k : Nat} : (ptL L k).length = posL L (k + 1) - posL L k := by
  unfold ptL
  rw [List.length_take, List.length_drop]
  have := posL_le L (k + 1)
  omega
theorem one_np {L : List Nat} (hL : L.length ≤ 400) (h : (szL L).sum ≤ roomL L) : npL L ≤ 1 := by
  have h1 : posL L 1 = L.length := by
    unfold posL
    rw [one_part h, szL_len]
  rcases Nat.lt_or_ge 1 (npL L) with h2 | h2
  · have := (npL_spec hL).2.1 1 h2
    omega
  · exact h2
theorem room_w {L : List Nat} (hL : L.length ≤ 400) (hw : wideL L = true) : roomL L ≤ 70 ∧ (2 ≤ npL L → roomL L = 67) := by
  have e : roomL L = if L.length ≤ 70 then 70 else 67 := by unfold roomL; rw [if_pos hw]
  by_cases h : L.length ≤ 70
  · rw [if_pos h] at e
    refine ⟨by omega, fun h2 => ?_⟩
    have := one_np hL (by rw [e, sum_ones _ (sz_wide hw), szL_len]; exact h)
    omega
  · rw [if_neg h] at e
    exact ⟨by omega, fun _ => e⟩
theorem room_s {L : List Nat} (hL : L.length ≤ 400) (hw : wideL L = false) : roomL L ≤ 160 ∧ (2 ≤ npL L → roomL L = 153) := by
  have e : roomL L = if septL L ≤ 160 then 160 else 153 := by unfold roomL; rw [if_neg (by rw [hw]; decide)]
  by_cases h : septL L ≤ 160
  · rw [if_pos h] at e
    refine ⟨by omega, fun h2 => ?_⟩
    have := one_np hL (by rw [e, sz_small hw]; exact h)
    omega
  · rw [if_neg h] at e
    exact ⟨by omega, fun _ => e⟩
/-- signs and octets of a part -/
abbrev sgN (L : List Nat) (k : Nat) : Nat := posL L (k + 1) - posL L k
theorem pt_w {L : List Nat} {k : Nat} (hL : L.length ≤ 400) (hw : wideL L = true) (hk : k < npL L) : 0 < sgN L k ∧ sgN L k ≤ 70 ∧ (2 ≤ npL L → sgN L k ≤ 67) ∧ octN L k = 2 * sgN L k := by
  have h1 := posL_lt ((npL_spec hL).2.1 k hk)
  have h2 := part_fit L k
  rw [btw_wide hw (posL_le L (k + 1))] at h2
  obtain ⟨r1, r2⟩ := room_w hL hw
  refine ⟨by show 0 < posL L (k + 1) - posL L k; omega, by show posL L (k + 1) - posL L k ≤ 70; omega, fun h => ?_, ?_⟩
  · have := r2 h
    show posL L (k + 1) - posL L k ≤ 67
    omega
  · unfold octN
    rw [if_pos hw]
theorem pt_s {L : List Nat} {k : Nat} (hL : L.length ≤ 400) (hw : wideL L = false) (hk : k < npL L) : 0 < sgN L k ∧ sgN L k ≤ 160 ∧ (2 ≤ npL L → sgN L k ≤ 153) ∧ 0 < octN L k ∧ octN L k ≤ 140 ∧ 7 * septL (ptL L k) ≤ 8 * octN L k ∧ 8 * octN L k ≤ 7 * septL (ptL L k) + 7 := by
  have h1 := posL_lt ((npL_spec hL).2.1 k hk)
  have h2 := part_fit L k
  rw [btw_small hw] at h2
  have h3 := septL_ge (ptL L k)
  rw [ptL_len] at h3
  obtain ⟨r1, r2⟩ := room_s hL hw
  have e : octN L k = (7 * septL (ptL L k) + 7) / 8 := by
    unfold octN
    rw [if_neg (by rw [hw]; decide)]
  rw [e]
  refine ⟨by show 0 < posL L (k + 1) - posL L k; omega, by show posL L (k + 1) - posL L k ≤ 160; omega, fun h => ?_, by omega, by omega, by omega, by omega⟩
  have := r2 h
  show posL L (k + 1) - posL L k ≤ 153
  omega
theorem octI_ok {L : List Nat} {k p : Nat} (hx : ∀ x ∈ L, x < 1000) : ∃ j, j < 256 ∧ octI L k p = nI j := by
  have hg := getD_lt hx (posL L k + p / 2)
  unfold octI
  split
  · split
    · exact ⟨_, by omega, rfl⟩
    · exact ⟨_, Nat.mod_lt _ (by decide), rfl⟩
  · exact pk_andE _ 8 (by decide)
/-- octets of the first parts -/
def ocS (L : List Nat) : Nat → Nat
  | 0 => 0
  | k + 1 => ocS L k + octN L k
theorem ocS_w {L : List Nat} (hw : wideL L = true) : ∀ k, ocS L k = 2 * posL L k
  | 0 => rfl
  | k + 1 => by
    have h1 := ocS_w hw k
    have h2 := posL_mono L (show k ≤ k + 1 by omega)
    have e : octN L k = 2 * (posL L (k + 1) - posL L k) := by unfold octN; rw [if_pos hw]
    show ocS L k + octN L k = _
    omega
theorem septL_ap (a b : List Nat) : septL (a ++ b) = septL a + septL b := by simp [septL]
theorem take_pt (L : List Nat) (k : Nat) : L.take (posL L (k + 1)) = L.take (posL L k) ++ ptL L k := by
  have h := posL_mono L (show k ≤ k + 1 by omega)
  unfold ptL
  rw [← List.take_add, show posL L k + (posL L (k + 1) - posL L k) = posL L (k + 1) by omega]
theorem ocS_s {L : List Nat} (hL : L.length ≤ 400) (hw : wideL L = false) : ∀ k, k ≤ npL L → 7 * septL (L.take (posL L k)) ≤ 8 * ocS L k ∧ 8 * ocS L k ≤ 7 * septL (L.take (posL L k)) + 7 * k
  | 0, _ => by
    have e : posL L 0 = 0 := rfl
    rw [e, List.take_zero]
    exact ⟨Nat.le_refl _, Nat.le_refl _⟩
  | k + 1, h => by
    have h1 := ocS_s hL hw k (by omega)
    obtain ⟨-, -, -, -, -, g1, g2⟩ := pt_s hL hw (show k < npL L by omega)
    rw [take_pt, septL_ap]
    show _ ≤ 8 * (ocS L k + octN L k) ∧ 8 * (ocS L k + octN L k) ≤ _
    omega
theorem ocS_le {L : List Nat} (hL : L.length ≤ 400) : ∀ k, k ≤ npL L → ocS L k ≤ 140 * k
  | 0, _ => Nat.le_refl _
  | k + 1, h => by
    have h1 := ocS_le hL k (by omega)
    have h2 : octN L k ≤ 140 := by
      cases hw : wideL L with
      | true =>
        obtain ⟨-, g2, -, g4⟩ := pt_w hL hw (show k < npL L by omega)
        omega
      | false => exact (pt_s hL hw (show k < npL L by omega)).2.2.2.2.1
    show ocS L k + octN L k ≤ _
    omega
/-! part, bits, clears -/
set_option maxHeartbeats 400000 in
set_option maxRecDepth 100000 in
/-- part -/
theorem l_part {l : Launch} {D : Dx} {b0 : Nat} {ad : Nat → Nat} {F : Fn} (k n : Nat) (hk : k < 2 ^ 31) (hn0 : 0 < n) (hn : n < 2 ^ 31) : Ct l D b0 yL_part (wsA yL_part cL_part 4 (some .int)) (rK 0) [.ref D.2.2.2.1, .int (nI k), .int (nI n)] ad F (fun v ad1 F1 => (∃ j, j < n ∧ v = some (.int (nI j))) ∧ ad = ad1 ∧ F = F1) noX := by
  refine Ct.of (by decide +kernel) (by simp [Value.category]) (Nat.le_of_ble_eq_true rfl) (fun X eD eb el C Q => ?_)
  subst eD; subst eb; subst el
  have fin : ∀ x : Int32, V X 0 0 25 (enL 0 [.ref (xD X).2.2.2.1, .int (nI k), .int (nI n)]) [.int x] ad F := by
    intro x
    obtain ⟨t, ht, e⟩ := pk_andE x (m := 2147483647) 31 (by decide)
    refine V_istore_n C dL_part_25 (by decide) ?_
    refine V_iload_n C dL_part_26 rfl ?_
    refine V_ldc C dL_part_27 cst_L_7 ?_
    refine V_iand C dL_part_29 ?_
    refine V_nm e ?_
    refine V_iload_n C dL_part_30 rfl ?_
    refine V_irem C dL_part_31 (nI_ne0 hn0 hn) ?_
    refine V_nm (pk_rem ht hn0 hn) ?_
    exact V_ireturn C Q dL_part_32 rfl (Nat.le_of_ble_eq_true rfl) (Nat.le_of_ble_eq_true rfl) ⟨⟨t % n, Nat.mod_lt _ hn0, rfl⟩, rfl, rfl⟩
  have hLL := C.ev.2.2.2.2.2.2.2.2.2.2.2.2.2
  refine V_iload_n C dL_part_0 rfl ?_
  refine V_aload_n C dL_part_1 rfl ?_
  refine V_slen C dL_part_2 ?_
  refine V_icmpge (tgt := 12) C dL_part_3 (by decide) (fun hc => ?_) (fun hc => ?_)
  · refine V_sipush (v := 347) C dL_part_12 (by decide) ?_
    refine V_iload_n C dL_part_15 rfl ?_
    refine V_imul C dL_part_16 ?_
    refine V_sipush (v := 211) C dL_part_17 (by decide) ?_
    refine V_iload_n C dL_part_20 rfl ?_
    refine V_imul C dL_part_21 ?_
    refine V_iload_n C dL_part_22 rfl ?_
    refine V_imul C dL_part_23 ?_
    refine V_iadd C dL_part_24 ?_
    exact fin _
  · have hlt : k < (xD X).2.2.2.2.1 := Nat.lt_of_not_le (fun h => hc (nI_le h hk))
    refine V_aload_n C dL_part_6 rfl ?_
    refine V_iload_n C dL_part_7 rfl ?_
    refine V_sld C dL_part_8 rfl hlt ?_
    refine V_goto (tgt := 25) C dL_part_9 (by decide) ?_
    exact fin _
/-- how many of the lowest k bits are set -/
def bitc (w : Nat) : Nat → Nat
  | 0 => 0
  | k + 1 => bitc w k + w / 2 ^ k % 2
theorem shr_ok : ∀ k, k < 10 → ((nI k &&& 31).toBitVec.smod 32).toNat = k := by decide +kernel
set_option maxHeartbeats 400000 in
set_option maxRecDepth 100000 in
/-- bits -/
theorem l_bits {l : Launch} {D : Dx} {b0 : Nat} {ad : Nat → Nat} {F : Fn} (w : Nat) (hw : w < 2 ^ 31) : Ct l D b0 yL_bits (wsA yL_bits cL_bits 3 (some .int)) (rK 0) [.int (nI w)] ad F (pRd (some (.int (nI (bitc w 10)))) ad F) noX := by
  refine Ct.of (by decide +kernel) (by simp [Value.category]) (Nat.le_of_ble_eq_true rfl) (fun X eD eb el C Q => ?_)
  subst eD; subst eb; subst el
  have loop : ∀ d j : Nat, j + d = 10 → V X 0 0 4 [(0, .int (nI w)), (1, .int (nI (bitc w j))), (2, .int (nI j))] [] ad F := by
    intro d
    induction d with
    | zero =>
      intro j hj
      obtain rfl : j = 10 := by omega
      refine V_iload_n C dL_bits_4 rfl ?_
      refine V_bipush (v := 10) C dL_bits_5 (by decide) ?_
      refine V_icmpge_t (tgt := 24) C dL_bits_7 (by decide) (Int32.le_refl _) ?_
      refine V_iload_n C dL_bits_24 rfl ?_
      exact V_ireturn C Q dL_bits_25 rfl (Nat.le_of_ble_eq_true rfl) (Nat.le_of_ble_eq_true rfl) ⟨rfl, rfl, rfl⟩
    | succ d ih =>
      intro j hj
      refine V_iload_n C dL_bits_4 rfl ?_
      refine V_bipush (v := 10) C dL_bits_5 (by decide) ?_
      refine V_icmpge_f (tgt := 24) C dL_bits_7 (by decide) (nI_ge (b := 10) (a := j) (by omega) (by decide)) ?_
      refine V_iload_n C dL_bits_10 rfl ?_
      refine V_iload_n C dL_bits_11 rfl ?_
      refine V_iload_n C dL_bits_12 rfl ?_
      refine V_ishr C dL_bits_13 ?_
      refine V_nm (pk_shrN hw _ j (shr_ok j (by omega))) ?_
      refine V_iconst (v := 1) C dL_bits_14 rfl ?_
      refine V_iand C dL_bits_15 ?_
      refine V_nm (pk_andN (n := w / 2 ^ j) (Nat.lt_of_le_of_lt (Nat.div_le_self _ _) (by omega)) (m := 1) 1 (by decide)) ?_
      refine V_iadd C dL_bits_16 ?_
      refine V_nm (nI_add _ _) ?_
      refine V_istore_n C dL_bits_17 (by decide) ?_
      refine V_iinc C dL_bits_18 rfl (nI_inc _) (by decide) ?_
      refine V_goto (tgt := 4) C dL_bits_21 (by decide) ?_
      exact V_sb (ih (j + 1) (by omega)) ⟨rfl, rfl, rfl, trivial⟩
  refine V_iconst (v := 0) C dL_bits_0 rfl ?_
  refine V_istore_n C dL_bits_1 (by decide) ?_
  refine V_iconst (v := 0) C dL_bits_2 rfl ?_
  refine V_istore_n C dL_bits_3 (by decide) ?_
  exact V_sb (loop 10 0 rfl) ⟨rfl, rfl, rfl, trivial⟩
set_option maxHeartbeats 400000 in
set_option maxRecDepth 100000 in
/-- clears -/
theorem l_clears {l : Launch} {D : Dx} {b0 : Nat} {ad : Nat → Nat} {F : Fn} (g : Nat → Int32) (h403 : F 403 = some (aI D 6 g)) : Ct l D b0 yL_clears (wsA yL_clears cL_clears 1 none) (rK 0) [.ref (ad 403)] ad F (fun v ad1 F1 => v = none ∧ ad = ad1 ∧ F1 403 = some (aI D 6 (upd (upd (upd g 0 0) 1 0) 2 0)) ∧ ∀ c, c ≠ 403 → F1 c = F c) noX := by
  refine Ct.of (by decide +kernel) (by simp [Value.category]) (Nat.le_of_ble_eq_true rfl) (fun X eD eb el C Q => ?_)
  subst eD; subst eb; subst el
  have hK : ∀ c, c ∉ [403] → F c = F c := fun _ _ => rfl
  refine V_aload_n C dL_clears_0 rfl ?_
  refine V_iconst (v := 0) C dL_clears_1 rfl ?_
  refine V_iconst (v := 0) C dL_clears_2 rfl ?_
  refine G_iast C dL_clears_3 h403 (show _ = nI 0 from rfl) (by decide) (by decide) (fun F1 h403 hfr => ?_)
  have hK := fr_step hK hfr (by simp)
  refine V_aload_n C dL_clears_4 rfl ?_
  refine V_iconst (v := 1) C dL_clears_5 rfl ?_
  refine V_iconst (v := 0) C dL_clears_6 rfl ?_
  refine G_iast C dL_clears_7 h403 (show _ = nI 1 from rfl) (by decide) (by decide) (fun F2 h403 hfr => ?_)
  have hK := fr_step hK hfr (by simp)
  refine V_aload_n C dL_clears_8 rfl ?_
  refine V_iconst (v := 2) C dL_clears_9 rfl ?_
  refine V_iconst (v := 0) C dL_clears_10 rfl ?_
  refine G_iast C dL_clears_11 h403 (show _ = nI 2 from rfl) (by decide) (by decide) (fun F3 h403 hfr => ?_)
  have hK := fr_step hK hfr (by simp)
  exact V_return C Q dL_clears_12 (Nat.le_of_ble_eq_true rfl) (Nat.le_of_ble_eq_true rfl) ⟨rfl, rfl, h403, fun c hc => hK c (by simpa using hc)⟩
