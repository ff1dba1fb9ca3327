/-! ===== helpers of walks ===== -/
/-- a room for k levels of calls below, that make nothing -/
abbrev rK (k : Nat) : Room := { frames := k, cells := 0, slots := 0, locals := 40 * k }
abbrev r0 : Room := rK 0
/-- a method that only reads: it answers v, the world stays -/
def pRd (v : Option Value) (ad : Nat → Nat) (F : Fn) : Pst := fun v' ad' F' => v' = v ∧ ad = ad' ∧ F = F'
theorem nI_inc (j : Nat) : nI j + Int32.ofInt 1 = nI (j + 1) := nI_1 j
theorem nI_m1 {j : Nat} (h : 0 < j) : nI j - 1 = nI (j - 1) := by
  obtain ⟨i, rfl⟩ : ∃ i, j = i + 1 := ⟨j - 1, by omega⟩
  exact nI_pred i
theorem nI_dec {j : Nat} (h : 0 < j) : nI j + Int32.ofInt (-1) = nI (j - 1) := by
  obtain ⟨i, rfl⟩ : ∃ i, j = i + 1 := ⟨j - 1, by omega⟩
  exact pk_m1 i
theorem nI_decS (j : Nat) : nI j + Int32.ofInt (-1) = nI j - 1 := by rw [Int32.sub_eq_add_neg]; congr 1
theorem nodup_idx {L : List Nat} (h : L.Nodup) {i j q : Nat} (hi : L[i]? = some q) (hj : L[j]? = some q) : i = j := by
  obtain ⟨i1, i2⟩ := List.getElem?_eq_some_iff.mp hi
  obtain ⟨j1, j2⟩ := List.getElem?_eq_some_iff.mp hj
  rcases Nat.lt_trichotomy i j with hl | hl | hl
  · exact absurd (i2.trans j2.symm) (List.pairwise_iff_getElem.mp h i j i1 j1 hl)
  · exact hl
  · exact absurd (j2.trans i2.symm) (List.pairwise_iff_getElem.mp h j i j1 i1 hl)
theorem V_sb {X : Cxt} {k n pc : Nat} {lv lv' : Lv} {st : List Value} {ad : Nat → Nat} {F : Fn} (K : V X k n pc lv' st ad F) (hs : alls lv lv') : V X k n pc lv st ad F := V_sub hs K
theorem V_acmpneR {X : Cxt} {cc : ByteArray} {nL : Nat} {y : MethodName} {R : Room} {ret : Option FieldType} {tb : List ExceptionTableEntry} {k n pc : Nat} {lv : Lv} {st : List Value} {ad : Nat → Nat} {F : Fn} {a b : Nat} {off : Int} {tgt : Nat} (C : Ok X cc nL y R ret tb) (d : decode cc pc = .ok (.if_acmp .ne off, 3)) (ht : (pc : Int) + off = (tgt : Int)) (Kt : ¬ a = b → V X k n tgt lv st ad F) (Kf : a = b → V X k n (pc + 3) lv st ad F) : V X k n pc lv (.ref b :: .ref a :: st) ad F :=
  V_acmpne (rx := some a) (ry := some b) C d ht (fun h => Kt (fun e => h (by rw [e]))) (fun h => Kf (Option.some.inj h))
theorem rf_or (r : Option Nat) : va_rf r = .null ∨ ∃ a, va_rf r = .ref a := by
  cases r with
  | none => exact Or.inl rfl
  | some a => exact Or.inr ⟨a, rfl⟩
theorem rf_cat (r : Option Nat) : (va_rf r).category = 1 := by cases r <;> rfl
set_option maxHeartbeats 400000 in
set_option maxRecDepth 100000 in
/-- Row.at -/
theorem c_at {l : Launch} {D : Dx} {b0 : Nat} {ad : Nat → Nat} {F : Fn} (o a n j : Nat) (f : Nat → Option Nat) (hr : F o = some (oB 4 [.ref (ad a), .int (nI n)])) (ha : F a = some (aQ D 3 120 f)) (hn : n ≤ 120) (hj : j < 2 ^ 31) : Ct l D b0 yX4_at (wsA yX4_at cX4_at 2 (some (.object "Shortmessage$Part"))) r0 [.ref (ad o), .int (nI j)] ad F (pRd (some (va_rf (if j < n then f j else none))) ad F) noX := by
  refine Ct.of (by decide +kernel) (by simp [Value.category]) (Nat.le_of_ble_eq_true rfl) (fun X eD eb el C Q => ?_)
  subst eD; subst eb; subst el
  refine V_iload_n C dX4_at_0 rfl ?_
  refine V_iflt_f (tgt := 30) C dX4_at_1 (by decide) (nI_pos hj) ?_
  refine V_iload_n C dX4_at_4 rfl ?_
  refine V_aload_n C dX4_at_5 rfl ?_
  refine V_get C dX4_at_6 fr_4_17 hr rfl ?_
  refine V_icmpge (tgt := 30) C dX4_at_9 (by decide) (fun hc => ?_) (fun hc => ?_)
  · have hlt : ¬ j < n := fun h => nI_ge h (by omega) hc
    rw [if_neg hlt] at Q
    refine V_null C dX4_at_30 ?_
    exact V_areturn C Q dX4_at_31 (Or.inl ⟨_, rfl⟩) (Or.inl rfl) (Nat.le_of_ble_eq_true rfl) (Nat.le_of_ble_eq_true rfl) ⟨rfl, rfl, rfl⟩
  · have hlt : j < n := Nat.lt_of_not_le fun h => hc (nI_le h hj)
    rw [if_pos hlt] at Q
    refine V_iload_n C dX4_at_12 rfl ?_
    refine V_aload_n C dX4_at_13 rfl ?_
    refine V_get C dX4_at_14 fr_4_11 hr rfl ?_
    refine V_alen C dX4_at_17 ha rfl ?_
    refine V_icmpge_f (tgt := 30) C dX4_at_18 (by decide) (nI_ge (by omega : j < 120) (by omega)) ?_
    refine V_aload_n C dX4_at_21 rfl ?_
    refine V_get C dX4_at_22 fr_4_11 hr rfl ?_
    refine V_iload_n C dX4_at_25 rfl ?_
    refine V_aald C dX4_at_26 ha rfl rfl (by omega) (by omega) ?_
    refine V_goto (tgt := 31) C dX4_at_27 (by decide) ?_
    exact V_areturn C Q dX4_at_31 (Or.inl ⟨_, rfl⟩) (rf_or _) (Nat.le_of_ble_eq_true rfl) (Nat.le_of_ble_eq_true rfl) ⟨rfl, rfl, rfl⟩
/-- a row of parts: its object at the code o, its array at a, the codes of its parts in their order -/
def RowAt (D : Dx) (ad : Nat → Nat) (F : Fn) (o a : Nat) (L : List Nat) : Prop := F o = some (oB 4 [.ref (ad a), .int (nI L.length)]) ∧ L.length ≤ 120 ∧ ∃ f : Nat → Option Nat, F a = some (aQ D 3 120 f) ∧ ∀ j, j < L.length → f j = (L[j]?).map ad
def Prts (F : Fn) (L : List Nat) : Prop := ∀ c ∈ L, ∃ fs : List Value, F c = some (oB 2 fs)
theorem obj_ne {F : Fn} {a o ci : Nat} {x : ClassId × vp_A} {fs : List Value} (h1 : F a = some (.inl x)) (h2 : F o = some (oB ci fs)) : o ≠ a := fun h => by
  subst h
  rw [h1] at h2
  cases h2
theorem cls_ne {F : Fn} {o p ci cj : Nat} {fs gs : List Value} (h1 : F o = some (oB ci fs)) (h2 : F p = some (oB cj gs)) (h : ci ≠ cj) : o ≠ p := fun e => by
  subst e
  rw [h1] at h2
  cases h2
  exact h rfl
set_option maxHeartbeats 400000 in
set_option maxRecDepth 100000 in
/-- Row.insert -/
theorem c_insert {l : Launch} {D : Dx} {b0 : Nat} {ad : Nat → Nat} {F : Fn} (o a i c : Nat) (L : List Nat) (hR : RowAt D ad F o a L) (hP : Prts F L) (hc : ∃ fs : List Value, F c = some (oB 2 fs)) (hi : i ≤ L.length) (hl : L.length < 120) : Ct l D b0 yX4_insert (wsA yX4_insert cX4_insert 4 none) r0 [.ref (ad o), .int (nI i), .ref (ad c)] ad F (fun v ad1 F1 => v = none ∧ ad = ad1 ∧ RowAt D ad F1 o a (L.insertIdx i c) ∧ ∀ x, x ∉ [o, a] → F1 x = F x) noX := by
  refine Ct.of (by decide +kernel) (by simp [Value.category]) (Nat.le_of_ble_eq_true rfl) (fun X eD eb el C Q => ?_)
  subst eD; subst eb; subst el
  obtain ⟨hr, hl2, f, ha, hf⟩ := hR
  obtain ⟨fc, hcc⟩ := hc
  have hoa : o ≠ a := obj_ne ha hr
  obtain ⟨n, hn⟩ : ∃ n, n = L.length := ⟨_, rfl⟩
  rw [← hn] at hr hl2 hf hi hl
  refine V_iload_n C dX4_insert_0 rfl ?_
  refine V_iflt_f (tgt := 24) C dX4_insert_1 (by decide) (nI_pos (by omega)) ?_
  refine V_iload_n C dX4_insert_4 rfl ?_
  refine V_aload_n C dX4_insert_5 rfl ?_
  refine V_get C dX4_insert_6 fr_4_17 hr rfl ?_
  refine V_icmpgt_f (tgt := 24) C dX4_insert_9 (by decide) (fun h => nI_nlt hi (by omega) h) ?_
  refine V_aload_n C dX4_insert_12 rfl ?_
  refine V_get C dX4_insert_13 fr_4_17 hr rfl ?_
  refine V_aload_n C dX4_insert_16 rfl ?_
  refine V_get C dX4_insert_17 fr_4_11 hr rfl ?_
  refine V_alen C dX4_insert_20 ha rfl ?_
  refine V_icmplt_t (tgt := 25) C dX4_insert_21 (by decide) (nI_lt hl (by omega)) ?_
  refine V_aload_n C dX4_insert_25 rfl ?_
  refine V_get C dX4_insert_26 fr_4_17 hr rfl ?_
  refine V_istore_n C dX4_insert_29 (by decide) ?_
  have hr0 := hr
  have ha0 := ha
  have hcn : c ∉ [o, a] := by simp [cls_ne hcc hr (by decide), obj_ne ha hcc]
  have loop : ∀ (d j : Nat) (G : Fn) (g : Nat → Option Nat), j = i + d → j ≤ n → G o = some (oB 4 [.ref (ad a), .int (nI n)]) → G a = some (aQ (xD X) 3 120 g) → (∀ t, t < j → g t = f t) → (∀ t, j < t → t ≤ n → g t = f (t - 1)) → (∀ x, x ∉ [o, a] → G x = F x) →
      V X 0 0 30 [(0, .ref (ad o)), (1, .int (nI i)), (2, .ref (ad c)), (3, .int (nI j))] [] ad G := by
    intro d
    induction d with
    | zero =>
      intro j G g hj hjn hr ha h1 h2 hK
      have hj' : j = i := by omega
      subst hj'
      refine V_iload_n C dX4_insert_30 rfl ?_
      refine V_iload_n C dX4_insert_31 rfl ?_
      refine V_icmple_t (tgt := 55) C dX4_insert_32 (by decide) (Int32.le_refl _) ?_
      refine V_aload_n C dX4_insert_55 rfl ?_
      refine V_get C dX4_insert_56 fr_4_11 hr rfl ?_
      refine V_iload_n C dX4_insert_59 rfl ?_
      refine V_aload_n C dX4_insert_60 rfl ?_
      have hcG : G c = some (oB 2 fc) := (hK c hcn).trans hcc
      refine G_aast C dX4_insert_61 ha rfl hcG rfl rfl (by omega) (by omega) (fun G1 ha hfr => ?_)
      have hr := (hfr _ hoa).trans hr
      have hK := fr_step hK hfr (by simp)
      refine V_aload_n C dX4_insert_62 rfl ?_
      refine V_dup C dX4_insert_63 rfl ?_
      refine V_get C dX4_insert_64 fr_4_17 hr rfl ?_
      refine V_iconst (v := 1) C dX4_insert_67 rfl ?_
      refine V_iadd C dX4_insert_68 ?_
      refine V_nm (nI_1 n) ?_
      refine G_put C dX4_insert_69 fp_4_17 hr rfl rfl (Nat.le_of_ble_eq_true rfl) (fun G2 hr hfr => ?_)
      dsimp only [List.set] at hr
      have ha := (hfr _ hoa.symm).trans ha
      have hK := fr_step hK hfr (by simp)
      refine V_return C Q dX4_insert_72 (Nat.le_of_ble_eq_true rfl) (Nat.le_of_ble_eq_true rfl) ⟨rfl, rfl, ⟨by rw [List.length_insertIdx_of_le_length (by omega), ← hn]; exact hr, by rw [List.length_insertIdx_of_le_length (by omega)]; omega, _, ha, fun t ht => ?_⟩, hK⟩
      rw [List.length_insertIdx_of_le_length (by omega)] at ht
      rw [List.getElem?_insertIdx]
      rcases Nat.lt_trichotomy t j with h | h | h
      · rw [va_up, if_neg (by omega), h1 t h, hf t (by omega), if_pos h]
      · subst h
        simp [va_up]
        omega
      · rw [va_up, if_neg (by omega), h2 t h (by omega), hf (t - 1) (by omega), if_neg (by omega), if_neg (by omega)]
    | succ d ih =>
      intro j G g hj hjn hr ha h1 h2 hK
      refine V_iload_n C dX4_insert_30 rfl ?_
      refine V_iload_n C dX4_insert_31 rfl ?_
      refine V_icmple_f (tgt := 55) C dX4_insert_32 (by decide) (nI_ge (by omega) (by omega)) ?_
      refine V_aload_n C dX4_insert_35 rfl ?_
      refine V_get C dX4_insert_36 fr_4_11 hr rfl ?_
      refine V_iload_n C dX4_insert_39 rfl ?_
      refine V_aload_n C dX4_insert_40 rfl ?_
      refine V_get C dX4_insert_41 fr_4_11 hr rfl ?_
      refine V_iload_n C dX4_insert_44 rfl ?_
      refine V_iconst (v := 1) C dX4_insert_45 rfl ?_
      refine V_isub C dX4_insert_46 ?_
      refine V_nm (nI_m1 (by omega)) ?_
      refine V_aald C dX4_insert_47 ha rfl rfl (by omega) (by omega) ?_
      obtain ⟨q, hq⟩ : ∃ q, L[j - 1]? = some q := ⟨L[j - 1]'(by omega), List.getElem?_eq_getElem (by omega)⟩
      obtain ⟨fq, hqF⟩ := hP q (List.mem_of_getElem? hq)
      refine V_rf (r' := some (ad q)) (by rw [h1 (j - 1) (by omega), hf (j - 1) (by omega), hq]; rfl) ?_
      have hqG : G q = some (oB 2 fq) := (hK q (by simp [cls_ne hqF hr0 (by decide), obj_ne ha0 hqF])).trans hqF
      refine G_aast C dX4_insert_48 ha rfl hqG rfl rfl (by omega) (by omega) (fun G1 ha hfr => ?_)
      have hr := (hfr _ hoa).trans hr
      have hK := fr_step hK hfr (by simp)
      refine V_iinc C dX4_insert_49 rfl (nI_dec (by omega)) (by decide) ?_
      refine V_goto (tgt := 30) C dX4_insert_52 (by decide) ?_
      refine V_sb (ih (j - 1) G1 _ (by omega) (by omega) hr ha (fun t ht => ?_) (fun t ht1 ht2 => ?_) hK) ⟨rfl, rfl, rfl, rfl, trivial⟩
      · rw [va_up, if_neg (by omega)]; exact h1 t (by omega)
      · by_cases h : t = j
        · subst h; rw [va_up, if_pos rfl, hf (t - 1) (by omega), hq]; rfl
        · rw [va_up, if_neg h]; exact h2 t (by omega) ht2
  refine V_sb (loop (n - i) n F f (by omega) (Nat.le_refl n) hr ha (fun _ _ => rfl) (fun t h1 h2 => absurd h2 (by omega)) (fun _ _ => rfl)) ⟨rfl, rfl, rfl, rfl, trivial⟩
theorem c_atR {l : Launch} {D : Dx} {b0 : Nat} {ad : Nat → Nat} {F : Fn} (o a j c : Nat) (L : List Nat) (hR : RowAt D ad F o a L) (hc : L[j]? = some c) : Ct l D b0 yX4_at (wsA yX4_at cX4_at 2 (some (.object RX2))) r0 [.ref (ad o), .int (nI j)] ad F (pRd (some (.ref (ad c))) ad F) noX := by
  obtain ⟨hr, hl, f, ha, hf⟩ := hR
  have hj : j < L.length := (List.getElem?_eq_some_iff.mp hc).1
  have h := c_at (l := l) (b0 := b0) o a L.length j f hr ha hl (by omega)
  rwa [if_pos hj, hf j hj, hc] at h
theorem c_atN {l : Launch} {D : Dx} {b0 : Nat} {ad : Nat → Nat} {F : Fn} (o a j : Nat) (L : List Nat) (hR : RowAt D ad F o a L) (hj : L.length ≤ j) (hj2 : j < 2 ^ 31) : Ct l D b0 yX4_at (wsA yX4_at cX4_at 2 (some (.object RX2))) r0 [.ref (ad o), .int (nI j)] ad F (pRd (some .null) ad F) noX := by
  obtain ⟨hr, hl, f, ha, hf⟩ := hR
  have h := c_at (l := l) (b0 := b0) o a L.length j f hr ha hl hj2
  rwa [if_neg (by omega)] at h
set_option maxHeartbeats 400000 in
set_option maxRecDepth 100000 in
/-- Row.addLast -/
theorem c_addLast {l : Launch} {D : Dx} {b0 : Nat} {ad : Nat → Nat} {F : Fn} (o a c : Nat) (L : List Nat) (hR : RowAt D ad F o a L) (hP : Prts F L) (hc : ∃ fs : List Value, F c = some (oB 2 fs)) (hl : L.length < 120) : Ct l D b0 yX4_addLast (wsA yX4_addLast cX4_addLast 2 none) (rK 1) [.ref (ad o), .ref (ad c)] ad F (fun v ad1 F1 => v = none ∧ ad = ad1 ∧ RowAt D ad F1 o a (L ++ [c]) ∧ ∀ x, x ∉ [o, a] → F1 x = F x) noX := by
  refine Ct.of (by decide +kernel) (by simp [Value.category]) (Nat.le_of_ble_eq_true rfl) (fun X eD eb el C Q => ?_)
  subst eD; subst eb; subst el
  have hr := hR.1
  refine V_aload_n C dX4_addLast_0 rfl ?_
  refine V_aload_n C dX4_addLast_1 rfl ?_
  refine V_get C dX4_addLast_2 fr_4_17 hr rfl ?_
  refine V_aload_n C dX4_addLast_5 rfl ?_
  refine V_invV C dX4_addLast_6 hr rfl (c_insert o a L.length c L hR hP hc (Nat.le_refl _) hl) mv_4_21 rfl (Nat.le_of_ble_eq_true rfl) ⟨Nat.le_of_ble_eq_true rfl, Nat.le_of_ble_eq_true rfl⟩ ⟨Nat.le_of_ble_eq_true rfl, Nat.le_of_ble_eq_true rfl⟩ (fun _ _ _ h => VT_no h) (fun v ad1 F1 hp => ?_)
  obtain ⟨rfl, rfl, h1, h2⟩ := hp
  rw [List.insertIdx_length_self] at h1
  exact V_return C Q dX4_addLast_9 (Nat.le_of_ble_eq_true rfl) (Nat.le_of_ble_eq_true rfl) ⟨rfl, rfl, h1, h2⟩
set_option maxHeartbeats 400000 in
set_option maxRecDepth 100000 in
/-- Row.removeAt, nothing there -/
theorem c_removeAtN {l : Launch} {D : Dx} {b0 : Nat} {ad : Nat → Nat} {F : Fn} (o a j : Nat) (L : List Nat) (hR : RowAt D ad F o a L) (hj : L.length ≤ j) (hj2 : j < 2 ^ 31) : Ct l D b0 yX4_removeAt (wsA yX4_removeAt cX4_removeAt 4 (some (.object "Shortmessage$Part"))) (rK 1) [.ref (ad o), .int (nI j)] ad F (pRd (some .null) ad F) noX := by
  refine Ct.of (by decide +kernel) (by simp [Value.category]) (Nat.le_of_ble_eq_true rfl) (fun X eD eb el C Q => ?_)
  subst eD; subst eb; subst el
  have hr := hR.1
  refine V_aload_n C dX4_removeAt_0 rfl ?_
  refine V_iload_n C dX4_removeAt_1 rfl ?_
  refine V_invV C dX4_removeAt_2 hr rfl (c_atN o a j L hR hj hj2) mv_4_25 rfl (Nat.le_of_ble_eq_true rfl) ⟨Nat.le_of_ble_eq_true rfl, Nat.le_of_ble_eq_true rfl⟩ ⟨Nat.le_of_ble_eq_true rfl, Nat.le_of_ble_eq_true rfl⟩ (fun _ _ _ h => VT_no h) (fun v ad1 F1 hp => ?_)
  obtain ⟨rfl, rfl, rfl⟩ := hp
  refine V_astore_nN C dX4_removeAt_5 (by decide) ?_
  refine V_aload_nN C dX4_removeAt_6 rfl ?_
  refine V_ifnonnullN C dX4_removeAt_7 ?_
  refine V_null C dX4_removeAt_10 ?_
  exact V_areturn C Q dX4_removeAt_11 (Or.inl ⟨_, rfl⟩) (Or.inl rfl) (Nat.le_of_ble_eq_true rfl) (Nat.le_of_ble_eq_true rfl) ⟨rfl, rfl, rfl⟩
set_option maxHeartbeats 400000 in
set_option maxRecDepth 100000 in
/-- Row.removeAt -/
theorem c_removeAt {l : Launch} {D : Dx} {b0 : Nat} {ad : Nat → Nat} {F : Fn} (o a i c : Nat) (L : List Nat) (hR : RowAt D ad F o a L) (hP : Prts F L) (hc : L[i]? = some c) : Ct l D b0 yX4_removeAt (wsA yX4_removeAt cX4_removeAt 4 (some (.object "Shortmessage$Part"))) (rK 1) [.ref (ad o), .int (nI i)] ad F (fun v ad1 F1 => v = some (.ref (ad c)) ∧ ad = ad1 ∧ RowAt D ad F1 o a (L.eraseIdx i) ∧ ∀ x, x ∉ [o, a] → F1 x = F x) noX := by
  refine Ct.of (by decide +kernel) (by simp [Value.category]) (Nat.le_of_ble_eq_true rfl) (fun X eD eb el C Q => ?_)
  subst eD; subst eb; subst el
  have hr := hR.1
  refine V_aload_n C dX4_removeAt_0 rfl ?_
  refine V_iload_n C dX4_removeAt_1 rfl ?_
  refine V_invV C dX4_removeAt_2 hr rfl (c_atR o a i c L hR hc) mv_4_25 rfl (Nat.le_of_ble_eq_true rfl) ⟨Nat.le_of_ble_eq_true rfl, Nat.le_of_ble_eq_true rfl⟩ ⟨Nat.le_of_ble_eq_true rfl, Nat.le_of_ble_eq_true rfl⟩ (fun _ _ _ h => VT_no h) (fun v ad1 F1 hp => ?_)
  obtain ⟨rfl, rfl, rfl⟩ := hp
  refine V_astore_n C dX4_removeAt_5 (by decide) ?_
  refine V_aload_n C dX4_removeAt_6 rfl ?_
  refine V_ifnonnull (tgt := 12) C dX4_removeAt_7 (by decide) ?_
  refine V_iload_n C dX4_removeAt_12 rfl ?_
  refine V_iconst (v := 1) C dX4_removeAt_13 rfl ?_
  refine V_iadd C dX4_removeAt_14 ?_
  refine V_nm (nI_1 i) ?_
  refine V_istore_n C dX4_removeAt_15 (by decide) ?_
  have hi : i < L.length := (List.getElem?_eq_some_iff.mp hc).1
  have hlen : (L.eraseIdx i).length = L.length - 1 := List.length_eraseIdx_of_lt hi
  obtain ⟨-, hl2, f, ha, hf⟩ := hR
  have hoa : o ≠ a := obj_ne ha hr
  obtain ⟨n, hn⟩ : ∃ n, n = L.length := ⟨_, rfl⟩
  rw [← hn] at hr hl2 hf hi hlen
  have hr0 := hr
  have ha0 := ha
  have loop : ∀ (d t : Nat) (G : Fn) (g : Nat → Option Nat), t + d = n → i < t → G o = some (oB 4 [.ref (ad a), .int (nI n)]) → G a = some (aQ (xD X) 3 120 g) → (∀ s, s < i → g s = f s) → (∀ s, i ≤ s → s + 1 < t → g s = f (s + 1)) → (∀ s, t ≤ s + 1 → s < n → g s = f s) → (∀ x, x ∉ [o, a] → G x = F x) →
      V X 0 0 16 [(0, .ref (ad o)), (1, .int (nI i)), (2, .ref (ad c)), (3, .int (nI t))] [] ad G := by
    intro d
    induction d with
    | zero =>
      intro t G g hd hit hr ha h1 h2 h3 hK
      have ht : t = n := by omega
      subst ht
      refine V_iload_n C dX4_removeAt_16 rfl ?_
      refine V_aload_n C dX4_removeAt_17 rfl ?_
      refine V_get C dX4_removeAt_18 fr_4_17 hr rfl ?_
      refine V_icmpge_t (tgt := 44) C dX4_removeAt_21 (by decide) (Int32.le_refl _) ?_
      refine V_aload_n C dX4_removeAt_44 rfl ?_
      refine V_dup C dX4_removeAt_45 rfl ?_
      refine V_get C dX4_removeAt_46 fr_4_17 hr rfl ?_
      refine V_iconst (v := 1) C dX4_removeAt_49 rfl ?_
      refine V_isub C dX4_removeAt_50 ?_
      refine V_nm (nI_m1 (by omega)) ?_
      refine G_put C dX4_removeAt_51 fp_4_17 hr rfl rfl (Nat.le_of_ble_eq_true rfl) (fun G1 hr hfr => ?_)
      dsimp only [List.set] at hr
      have ha := (hfr _ hoa.symm).trans ha
      have hK := fr_step hK hfr (by simp)
      refine V_aload_n C dX4_removeAt_54 rfl ?_
      refine V_get C dX4_removeAt_55 fr_4_11 hr rfl ?_
      refine V_aload_n C dX4_removeAt_58 rfl ?_
      refine V_get C dX4_removeAt_59 fr_4_17 hr rfl ?_
      refine V_null C dX4_removeAt_62 ?_
      refine G_aastN C dX4_removeAt_63 ha rfl rfl (by omega) (by omega) (fun G2 ha hfr => ?_)
      have hr := (hfr _ hoa).trans hr
      have hK := fr_step hK hfr (by simp)
      refine V_aload_n C dX4_removeAt_64 rfl ?_
      refine V_areturn C Q dX4_removeAt_65 (Or.inl ⟨_, rfl⟩) (Or.inr ⟨_, rfl⟩) (Nat.le_of_ble_eq_true rfl) (Nat.le_of_ble_eq_true rfl) ⟨rfl, rfl, ⟨by rw [hlen]; exact hr, by omega, _, ha, fun s hs => ?_⟩, hK⟩
      rw [hlen] at hs
      rw [List.getElem?_eraseIdx, va_up, if_neg (by omega)]
      by_cases h : s < i
      · rw [if_pos h, h1 s h, hf s (by omega)]
      · rw [if_neg h, h2 s (by omega) (by omega), hf (s + 1) (by omega)]
    | succ d ih =>
      intro t G g hd hit hr ha h1 h2 h3 hK
      refine V_iload_n C dX4_removeAt_16 rfl ?_
      refine V_aload_n C dX4_removeAt_17 rfl ?_
      refine V_get C dX4_removeAt_18 fr_4_17 hr rfl ?_
      refine V_icmpge_f (tgt := 44) C dX4_removeAt_21 (by decide) (nI_ge (by omega) (by omega)) ?_
      refine V_aload_n C dX4_removeAt_24 rfl ?_
      refine V_get C dX4_removeAt_25 fr_4_11 hr rfl ?_
      refine V_iload_n C dX4_removeAt_28 rfl ?_
      refine V_iconst (v := 1) C dX4_removeAt_29 rfl ?_
      refine V_isub C dX4_removeAt_30 ?_
      refine V_nm (nI_m1 (by omega)) ?_
      refine V_aload_n C dX4_removeAt_31 rfl ?_
      refine V_get C dX4_removeAt_32 fr_4_11 hr rfl ?_
      refine V_iload_n C dX4_removeAt_35 rfl ?_
      refine V_aald C dX4_removeAt_36 ha rfl rfl (by omega) (by omega) ?_
      obtain ⟨q, hq⟩ : ∃ q, L[t]? = some q := ⟨L[t]'(by omega), List.getElem?_eq_getElem (by omega)⟩
      obtain ⟨fq, hqF⟩ := hP q (List.mem_of_getElem? hq)
      refine V_rf (r' := some (ad q)) (by rw [h3 t (by omega) (by omega), hf t (by omega), hq]; rfl) ?_
      have hqG : G q = some (oB 2 fq) := (hK q (by simp [cls_ne hqF hr0 (by decide), obj_ne ha0 hqF])).trans hqF
      refine G_aast C dX4_removeAt_37 ha rfl hqG rfl rfl (by omega) (by omega) (fun G1 ha hfr => ?_)
      have hr := (hfr _ hoa).trans hr
      have hK := fr_step hK hfr (by simp)
      refine V_iinc C dX4_removeAt_38 rfl (nI_inc _) (by decide) ?_
      refine V_goto (tgt := 16) C dX4_removeAt_41 (by decide) ?_
      refine V_sb (ih (t + 1) G1 _ (by omega) (by omega) hr ha (fun s hs => ?_) (fun s hs1 hs2 => ?_) (fun s hs1 hs2 => ?_) hK) ⟨rfl, rfl, rfl, rfl, trivial⟩
      · rw [va_up, if_neg (by omega)]; exact h1 s hs
      · by_cases h : s = t - 1
        · subst h; rw [va_up, if_pos rfl, show t - 1 + 1 = t by omega, hf t (by omega), hq]; rfl
        · rw [va_up, if_neg h]; exact h2 s hs1 (by omega)
      · rw [va_up, if_neg (by omega)]; exact h3 s (by omega) hs2
  refine V_sb (loop (n - (i + 1)) (i + 1) F f (by omega) (by omega) hr ha (fun _ _ => rfl) (fun s h1 h2 => absurd h2 (by omega)) (fun _ _ _ => rfl) (fun _ _ => rfl)) ⟨rfl, rfl, rfl, rfl, trivial⟩
/-- is a part ready: it waits for no alert, and may be tried now -/
def rdyI (now ta wf : Int32) : Prop := wf = 0 ∧ ta ≤ now
set_option maxHeartbeats 400000 in
set_option maxRecDepth 100000 in
/-- Part.isReady -/
theorem c_isReadyT {l : Launch} {D : Dx} {b0 : Nat} {ad : Nat → Nat} {F : Fn} (c : Nat) (m : Nat) (p fl ta wf now : Int32) (hc : F c = some (oB 2 [.ref m, .int p, .int fl, .int ta, .int wf])) (h : rdyI now ta wf) : Ct l D b0 yX2_isReady (wsA yX2_isReady cX2_isReady 2 (some .boolean)) r0 [.ref (ad c), .int now] ad F (pRd (some (.int 1)) ad F) noX := by
  refine Ct.of (by decide +kernel) (by simp [Value.category]) (Nat.le_of_ble_eq_true rfl) (fun X eD eb el C Q => ?_)
  subst eD; subst eb; subst el
  refine V_aload_n C dX2_isReady_0 rfl ?_
  refine V_get C dX2_isReady_1 fr_2_13 hc rfl ?_
  refine V_ifne_f (tgt := 19) C dX2_isReady_4 (by decide) h.1 ?_
  refine V_aload_n C dX2_isReady_7 rfl ?_
  refine V_get C dX2_isReady_8 fr_2_24 hc rfl ?_
  refine V_iload_n C dX2_isReady_11 rfl ?_
  refine V_icmpgt_f (tgt := 19) C dX2_isReady_12 (by decide) (fun h2 => absurd h.2 (Int32.not_le.mpr h2)) ?_
  refine V_iconst (v := 1) C dX2_isReady_15 rfl ?_
  refine V_goto (tgt := 20) C dX2_isReady_16 (by decide) ?_
  exact V_ireturn C Q dX2_isReady_20 rfl (Nat.le_of_ble_eq_true rfl) (Nat.le_of_ble_eq_true rfl) ⟨rfl, rfl, rfl⟩
set_option maxHeartbeats 400000 in
set_option maxRecDepth 100000 in
/-- Part.isReady -/
theorem c_isReadyF {l : Launch} {D : Dx} {b0 : Nat} {ad : Nat → Nat} {F : Fn} (c : Nat) (m : Nat) (p fl ta wf now : Int32) (hc : F c = some (oB 2 [.ref m, .int p, .int fl, .int ta, .int wf])) (h : ¬ rdyI now ta wf) : Ct l D b0 yX2_isReady (wsA yX2_isReady cX2_isReady 2 (some .boolean)) r0 [.ref (ad c), .int now] ad F (pRd (some (.int 0)) ad F) noX := by
  refine Ct.of (by decide +kernel) (by simp [Value.category]) (Nat.le_of_ble_eq_true rfl) (fun X eD eb el C Q => ?_)
  subst eD; subst eb; subst el
  refine V_aload_n C dX2_isReady_0 rfl ?_
  refine V_get C dX2_isReady_1 fr_2_13 hc rfl ?_
  refine V_ifne (tgt := 19) C dX2_isReady_4 (by decide) (fun h2 => ?_) (fun h2 => ?_)
  · refine V_iconst (v := 0) C dX2_isReady_19 rfl ?_
    exact V_ireturn C Q dX2_isReady_20 rfl (Nat.le_of_ble_eq_true rfl) (Nat.le_of_ble_eq_true rfl) ⟨rfl, rfl, rfl⟩
  · refine V_aload_n C dX2_isReady_7 rfl ?_
    refine V_get C dX2_isReady_8 fr_2_24 hc rfl ?_
    refine V_iload_n C dX2_isReady_11 rfl ?_
    refine V_icmpgt_t (tgt := 19) C dX2_isReady_12 (by decide) (Int32.not_le.mp fun h3 => h ⟨h2, h3⟩) ?_
    refine V_iconst (v := 0) C dX2_isReady_19 rfl ?_
    exact V_ireturn C Q dX2_isReady_20 rfl (Nat.le_of_ble_eq_true rfl) (Nat.le_of_ble_eq_true rfl) ⟨rfl, rfl, rfl⟩
theorem prts_of {F : Fn} {L : List Nat} {g : Nat → List Value} (h : ∀ c ∈ L, F c = some (oB 2 (g c))) : Prts F L := fun c hc => ⟨_, h c hc⟩
set_option maxHeartbeats 400000 in
set_option maxRecDepth 100000 in
/-- Row.removeFirstReady: none -/
theorem c_rfrN {l : Launch} {D : Dx} {b0 : Nat} {ad : Nat → Nat} {F : Fn} (o a : Nat) (now : Int32) (L : List Nat) (pm : Nat → Nat) (pn pf pt pw : Nat → Int32) (hR : RowAt D ad F o a L) (hP : ∀ c ∈ L, F c = some (oB 2 [.ref (pm c), .int (pn c), .int (pf c), .int (pt c), .int (pw c)])) (hno : ∀ c ∈ L, ¬ rdyI now (pt c) (pw c)) : Ct l D b0 yX4_removeFirstReady (wsA yX4_removeFirstReady cX4_removeFirstReady 4 (some (.object "Shortmessage$Part"))) (rK 2) [.ref (ad o), .int now] ad F (pRd (some .null) ad F) noX := by
  refine Ct.of (by decide +kernel) (by simp [Value.category]) (Nat.le_of_ble_eq_true rfl) (fun X eD eb el C Q => ?_)
  subst eD; subst eb; subst el
  have hr := hR.1
  have hl2 := hR.2.1
  refine V_iconst (v := 0) C dX4_removeFirstReady_0 rfl ?_
  refine V_istore_n C dX4_removeFirstReady_1 (by decide) ?_
  have loop : ∀ (d t : Nat), t + d = L.length → V X 0 0 2 [(0, .ref (ad o)), (1, .int now), (2, .int (nI t))] [] ad F := by
    intro d
    induction d with
    | zero =>
      intro t hd
      have ht : t = L.length := by omega
      subst ht
      refine V_iload_n C dX4_removeFirstReady_2 rfl ?_
      refine V_aload_n C dX4_removeFirstReady_3 rfl ?_
      refine V_get C dX4_removeFirstReady_4 fr_4_17 hr rfl ?_
      refine V_icmpge_t (tgt := 40) C dX4_removeFirstReady_7 (by decide) (Int32.le_refl _) ?_
      refine V_null C dX4_removeFirstReady_40 ?_
      exact V_areturn C Q dX4_removeFirstReady_41 (Or.inl ⟨_, rfl⟩) (Or.inl rfl) (Nat.le_of_ble_eq_true rfl) (Nat.le_of_ble_eq_true rfl) ⟨rfl, rfl, rfl⟩
    | succ d ih =>
      intro t hd
      refine V_iload_n C dX4_removeFirstReady_2 rfl ?_
      refine V_aload_n C dX4_removeFirstReady_3 rfl ?_
      refine V_get C dX4_removeFirstReady_4 fr_4_17 hr rfl ?_
      refine V_icmpge_f (tgt := 40) C dX4_removeFirstReady_7 (by decide) (nI_ge (by omega) (by omega)) ?_
      refine V_aload_n C dX4_removeFirstReady_10 rfl ?_
      refine V_iload_n C dX4_removeFirstReady_11 rfl ?_
      obtain ⟨q, hq⟩ : ∃ q, L[t]? = some q := ⟨L[t]'(by omega), List.getElem?_eq_getElem (by omega)⟩
      have hqm := List.mem_of_getElem? hq
      have hqF := hP q hqm
      refine V_invV C dX4_removeFirstReady_12 hr rfl (c_atR o a t q L hR hq) mv_4_25 rfl (Nat.le_of_ble_eq_true rfl) ⟨Nat.le_of_ble_eq_true rfl, Nat.le_of_ble_eq_true rfl⟩ ⟨Nat.le_of_ble_eq_true rfl, Nat.le_of_ble_eq_true rfl⟩ (fun _ _ _ h => VT_no h) (fun v ad1 F1 hp => ?_)
      obtain ⟨rfl, rfl, rfl⟩ := hp
      refine V_astore_n C dX4_removeFirstReady_15 (by decide) ?_
      refine V_aload_n C dX4_removeFirstReady_16 rfl ?_
      refine V_ifnull C dX4_removeFirstReady_17 ?_
      refine V_aload_n C dX4_removeFirstReady_20 rfl ?_
      refine V_iload_n C dX4_removeFirstReady_21 rfl ?_
      refine V_invV C dX4_removeFirstReady_22 hqF rfl (c_isReadyF q (pm q) (pn q) (pf q) (pt q) (pw q) now hqF (hno q hqm)) mv_4_29 rfl (Nat.le_of_ble_eq_true rfl) ⟨Nat.le_of_ble_eq_true rfl, Nat.le_of_ble_eq_true rfl⟩ ⟨Nat.le_of_ble_eq_true rfl, Nat.le_of_ble_eq_true rfl⟩ (fun _ _ _ h => VT_no h) (fun v ad1 F1 hp => ?_)
      obtain ⟨rfl, rfl, rfl⟩ := hp
      refine V_ifeq_t (tgt := 34) C dX4_removeFirstReady_25 (by decide) rfl ?_
      refine V_iinc C dX4_removeFirstReady_34 rfl (nI_inc _) (by decide) ?_
      refine V_goto (tgt := 2) C dX4_removeFirstReady_37 (by decide) ?_
      refine V_sb (ih (t + 1) (by omega)) ⟨rfl, rfl, rfl, trivial⟩
  refine V_sb (loop L.length 0 (by omega)) ⟨rfl, rfl, rfl, trivial⟩
set_option maxHeartbeats 400000 in
set_option maxRecDepth 100000 in
/-- Row.removeFirstReady -/
theorem c_rfr {l : Launch} {D : Dx} {b0 : Nat} {ad : Nat → Nat} {F : Fn} (o a i c : Nat) (now : Int32) (L : List Nat) (pm : Nat → Nat) (pn pf pt pw : Nat → Int32) (hR : RowAt D ad F o a L) (hP : ∀ c ∈ L, F c = some (oB 2 [.ref (pm c), .int (pn c), .int (pf c), .int (pt c), .int (pw c)])) (hc : L[i]? = some c) (hy : rdyI now (pt c) (pw c)) (hno : ∀ j q, j < i → L[j]? = some q → ¬ rdyI now (pt q) (pw q)) : Ct l D b0 yX4_removeFirstReady (wsA yX4_removeFirstReady cX4_removeFirstReady 4 (some (.object "Shortmessage$Part"))) (rK 2) [.ref (ad o), .int now] ad F (fun v ad1 F1 => v = some (.ref (ad c)) ∧ ad = ad1 ∧ RowAt D ad F1 o a (L.eraseIdx i) ∧ ∀ x, x ∉ [o, a] → F1 x = F x) noX := by
  refine Ct.of (by decide +kernel) (by simp [Value.category]) (Nat.le_of_ble_eq_true rfl) (fun X eD eb el C Q => ?_)
  subst eD; subst eb; subst el
  have hr := hR.1
  have hl2 := hR.2.1
  have hi : i < L.length := (List.getElem?_eq_some_iff.mp hc).1
  refine V_iconst (v := 0) C dX4_removeFirstReady_0 rfl ?_
  refine V_istore_n C dX4_removeFirstReady_1 (by decide) ?_
  have loop : ∀ (d t : Nat), t + d = i → V X 0 0 2 [(0, .ref (ad o)), (1, .int now), (2, .int (nI t))] [] ad F := by
    intro d
    induction d with
    | zero =>
      intro t hd
      have ht : t = i := by omega
      subst ht
      refine V_iload_n C dX4_removeFirstReady_2 rfl ?_
      refine V_aload_n C dX4_removeFirstReady_3 rfl ?_
      refine V_get C dX4_removeFirstReady_4 fr_4_17 hr rfl ?_
      refine V_icmpge_f (tgt := 40) C dX4_removeFirstReady_7 (by decide) (nI_ge (by omega) (by omega)) ?_
      refine V_aload_n C dX4_removeFirstReady_10 rfl ?_
      refine V_iload_n C dX4_removeFirstReady_11 rfl ?_
      have hqF := hP c (List.mem_of_getElem? hc)
      refine V_invV C dX4_removeFirstReady_12 hr rfl (c_atR o a t c L hR hc) mv_4_25 rfl (Nat.le_of_ble_eq_true rfl) ⟨Nat.le_of_ble_eq_true rfl, Nat.le_of_ble_eq_true rfl⟩ ⟨Nat.le_of_ble_eq_true rfl, Nat.le_of_ble_eq_true rfl⟩ (fun _ _ _ h => VT_no h) (fun v ad1 F1 hp => ?_)
      obtain ⟨rfl, rfl, rfl⟩ := hp
      refine V_astore_n C dX4_removeFirstReady_15 (by decide) ?_
      refine V_aload_n C dX4_removeFirstReady_16 rfl ?_
      refine V_ifnull C dX4_removeFirstReady_17 ?_
      refine V_aload_n C dX4_removeFirstReady_20 rfl ?_
      refine V_iload_n C dX4_removeFirstReady_21 rfl ?_
      refine V_invV C dX4_removeFirstReady_22 hqF rfl (c_isReadyT c (pm c) (pn c) (pf c) (pt c) (pw c) now hqF hy) mv_4_29 rfl (Nat.le_of_ble_eq_true rfl) ⟨Nat.le_of_ble_eq_true rfl, Nat.le_of_ble_eq_true rfl⟩ ⟨Nat.le_of_ble_eq_true rfl, Nat.le_of_ble_eq_true rfl⟩ (fun _ _ _ h => VT_no h) (fun v ad1 F1 hp => ?_)
      obtain ⟨rfl, rfl, rfl⟩ := hp
      refine V_ifeq_f (tgt := 34) C dX4_removeFirstReady_25 (by decide) (by decide) ?_
      refine V_aload_n C dX4_removeFirstReady_28 rfl ?_
      refine V_iload_n C dX4_removeFirstReady_29 rfl ?_
      refine V_invV C dX4_removeFirstReady_30 hr rfl (c_removeAt o a t c L hR (prts_of hP) hc) mv_4_33 rfl (Nat.le_of_ble_eq_true rfl) ⟨Nat.le_of_ble_eq_true rfl, Nat.le_of_ble_eq_true rfl⟩ ⟨Nat.le_of_ble_eq_true rfl, Nat.le_of_ble_eq_true rfl⟩ (fun _ _ _ h => VT_no h) (fun v ad1 F1 hp => ?_)
      obtain ⟨rfl, rfl, h1, h2⟩ := hp
      exact V_areturn C Q dX4_removeFirstReady_33 (Or.inl ⟨_, rfl⟩) (Or.inr ⟨_, rfl⟩) (Nat.le_of_ble_eq_true rfl) (Nat.le_of_ble_eq_true rfl) ⟨rfl, rfl, h1, h2⟩
    | succ d ih =>
      intro t hd
      refine V_iload_n C dX4_removeFirstReady_2 rfl ?_
      refine V_aload_n C dX4_removeFirstReady_3 rfl ?_
      refine V_get C dX4_removeFirstReady_4 fr_4_17 hr rfl ?_
      refine V_icmpge_f (tgt := 40) C dX4_removeFirstReady_7 (by decide) (nI_ge (by omega) (by omega)) ?_
      refine V_aload_n C dX4_removeFirstReady_10 rfl ?_
      refine V_iload_n C dX4_removeFirstReady_11 rfl ?_
      obtain ⟨q, hq⟩ : ∃ q, L[t]? = some q := ⟨L[t]'(by omega), List.getElem?_eq_getElem (by omega)⟩
      have hqF := hP q (List.mem_of_getElem? hq)
      refine V_invV C dX4_removeFirstReady_12 hr rfl (c_atR o a t q L hR hq) mv_4_25 rfl (Nat.le_of_ble_eq_true rfl) ⟨Nat.le_of_ble_eq_true rfl, Nat.le_of_ble_eq_true rfl⟩ ⟨Nat.le_of_ble_eq_true rfl, Nat.le_of_ble_eq_true rfl⟩ (fun _ _ _ h => VT_no h) (fun v ad1 F1 hp => ?_)
      obtain ⟨rfl, rfl, rfl⟩ := hp
      refine V_astore_n C dX4_removeFirstReady_15 (by decide) ?_
      refine V_aload_n C dX4_removeFirstReady_16 rfl ?_
      refine V_ifnull C dX4_removeFirstReady_17 ?_
      refine V_aload_n C dX4_removeFirstReady_20 rfl ?_
      refine V_iload_n C dX4_removeFirstReady_21 rfl ?_
      refine V_invV C dX4_removeFirstReady_22 hqF rfl (c_isReadyF q (pm q) (pn q) (pf q) (pt q) (pw q) now hqF (hno t q (by omega) hq)) mv_4_29 rfl (Nat.le_of_ble_eq_true rfl) ⟨Nat.le_of_ble_eq_true rfl, Nat.le_of_ble_eq_true rfl⟩ ⟨Nat.le_of_ble_eq_true rfl, Nat.le_of_ble_eq_true rfl⟩ (fun _ _ _ h => VT_no h) (fun v ad1 F1 hp => ?_)
      obtain ⟨rfl, rfl, rfl⟩ := hp
      refine V_ifeq_t (tgt := 34) C dX4_removeFirstReady_25 (by decide) rfl ?_
      refine V_iinc C dX4_removeFirstReady_34 rfl (nI_inc _) (by decide) ?_
      refine V_goto (tgt := 2) C dX4_removeFirstReady_37 (by decide) ?_
      refine V_sb (ih (t + 1) (by omega)) ⟨rfl, rfl, rfl, trivial⟩
  refine V_sb (loop i 0 (by omega)) ⟨rfl, rfl, rfl, trivial⟩
set_option maxHeartbeats 400000 in
set_option maxRecDepth 100000 in
/-- Row.removeAllOf -/
theorem c_removeAllOf {l : Launch} {D : Dx} {b0 : Nat} {ad : Nat → Nat} {F : Fn} (o a m : Nat) (L : List Nat) (pm : Nat → Nat) (pn pf pt pw : Nat → Int32) (hR : RowAt D ad F o a L) (hP : ∀ c ∈ L, F c = some (oB 2 [.ref (pm c), .int (pn c), .int (pf c), .int (pt c), .int (pw c)])) : Ct l D b0 yX4_removeAllOf (wsA yX4_removeAllOf cX4_removeAllOf 4 none) (rK 2) [.ref (ad o), .ref m] ad F (fun v ad1 F1 => v = none ∧ ad = ad1 ∧ RowAt D ad F1 o a (L.filter (fun c => decide (pm c ≠ m))) ∧ ∀ x, x ∉ [o, a] → F1 x = F x) noX := by
  refine Ct.of (by decide +kernel) (by simp [Value.category]) (Nat.le_of_ble_eq_true rfl) (fun X eD eb el C Q => ?_)
  subst eD; subst eb; subst el
  have hr := hR.1
  have hl2 := hR.2.1
  obtain ⟨f0, ha0, -⟩ := hR.2.2
  have hno : ∀ c ∈ L, c ∉ [o, a] := fun c hc => by simp [cls_ne (hP c hc) hr (by decide), obj_ne ha0 (hP c hc)]
  refine V_aload_n C dX4_removeAllOf_0 rfl ?_
  refine V_get C dX4_removeAllOf_1 fr_4_17 hr rfl ?_
  refine V_iconst (v := 1) C dX4_removeAllOf_4 rfl ?_
  refine V_isub C dX4_removeAllOf_5 ?_
  have loop : ∀ (d : Nat) (x : Int32) (G : Fn), d ≤ L.length → x = nI d - 1 → RowAt (xD X) ad G o a (L.take d ++ (L.drop d).filter (fun c => decide (pm c ≠ m))) → (∀ x, x ∉ [o, a] → G x = F x) →
      V X 0 0 7 [(0, .ref (ad o)), (1, .ref m), (2, .int x)] [] ad G := by
    intro d
    induction d with
    | zero =>
      intro x G hd hx hG hK
      subst hx
      refine V_iload_n C dX4_removeAllOf_7 rfl ?_
      refine V_iflt_t (tgt := 41) C dX4_removeAllOf_8 (by decide) (by decide) ?_
      exact V_return C Q dX4_removeAllOf_41 (Nat.le_of_ble_eq_true rfl) (Nat.le_of_ble_eq_true rfl) ⟨rfl, rfl, by simpa using hG, hK⟩
    | succ d ih =>
      intro x G hd hx hG hK
      rw [nI_pred] at hx
      subst hx
      have hr := hG.1
      obtain ⟨q, hq⟩ : ∃ q, L[d]? = some q := ⟨L[d]'(by omega), List.getElem?_eq_getElem (by omega)⟩
      have hqm := List.mem_of_getElem? hq
      have hqF := (hK q (hno q hqm)).trans (hP q hqm)
      have hqd : L.drop d = q :: L.drop (d + 1) := by rw [List.drop_eq_getElem_cons (by omega)]; congr 1; exact Option.some.inj ((List.getElem?_eq_getElem (by omega)).symm.trans hq)
      have hqt : L.take (d + 1) = L.take d ++ [q] := by rw [List.take_add_one, hq]; rfl
      have hlt : (L.take d).length = d := by rw [List.length_take]; omega
      obtain ⟨Rr, hRr⟩ : ∃ z, z = (L.drop (d + 1)).filter (fun c => decide (pm c ≠ m)) := ⟨_, rfl⟩
      rw [← hRr, hqt, List.append_assoc] at hG
      have hq2 : (L.take d ++ ([q] ++ Rr))[d]? = some q := by rw [List.getElem?_append_right (by omega), hlt, Nat.sub_self]; rfl
      refine V_iload_n C dX4_removeAllOf_7 rfl ?_
      refine V_iflt_f (tgt := 41) C dX4_removeAllOf_8 (by decide) (nI_pos (by omega)) ?_
      refine V_aload_n C dX4_removeAllOf_11 rfl ?_
      refine V_iload_n C dX4_removeAllOf_12 rfl ?_
      refine V_invV C dX4_removeAllOf_13 hr rfl (c_atR o a d q _ hG hq2) mv_4_25 rfl (Nat.le_of_ble_eq_true rfl) ⟨Nat.le_of_ble_eq_true rfl, Nat.le_of_ble_eq_true rfl⟩ ⟨Nat.le_of_ble_eq_true rfl, Nat.le_of_ble_eq_true rfl⟩ (fun _ _ _ h => VT_no h) (fun v ad1 F1 hp => ?_)
      obtain ⟨rfl, rfl, rfl⟩ := hp
      refine V_astore_n C dX4_removeAllOf_16 (by decide) ?_
      refine V_aload_n C dX4_removeAllOf_17 rfl ?_
      refine V_ifnull C dX4_removeAllOf_18 ?_
      refine V_aload_n C dX4_removeAllOf_21 rfl ?_
      refine V_get C dX4_removeAllOf_22 fr_4_36 hqF rfl ?_
      refine V_aload_n C dX4_removeAllOf_25 rfl ?_
      refine V_acmpneR (tgt := 35) C dX4_removeAllOf_26 (by decide) (fun hc => ?_) (fun hc => ?_)
      · refine V_iinc C dX4_removeAllOf_35 rfl (nI_decS _) (by decide) ?_
        refine V_goto (tgt := 7) C dX4_removeAllOf_38 (by decide) ?_
        refine V_sb (ih _ G (by omega) rfl ?_ hK) ⟨rfl, rfl, rfl, trivial⟩
        rw [hqd, List.filter_cons_of_pos (by simpa using hc), ← hRr]
        exact hG
      · refine V_aload_n C dX4_removeAllOf_29 rfl ?_
        refine V_iload_n C dX4_removeAllOf_30 rfl ?_
        have hPG : Prts G (L.take d ++ ([q] ++ Rr)) := fun c hc => by
          have hcL : c ∈ L := by
            rcases List.mem_append.mp hc with h | h
            · exact List.mem_of_mem_take h
            · rcases List.mem_append.mp h with h | h
              · rw [List.mem_singleton.mp h]; exact hqm
              · rw [hRr] at h; exact List.mem_of_mem_drop (List.mem_filter.mp h).1
          exact ⟨_, (hK c (hno c hcL)).trans (hP c hcL)⟩
        refine V_invV C dX4_removeAllOf_31 hr rfl (c_removeAt o a d q _ hG hPG hq2) mv_4_33 rfl (Nat.le_of_ble_eq_true rfl) ⟨Nat.le_of_ble_eq_true rfl, Nat.le_of_ble_eq_true rfl⟩ ⟨Nat.le_of_ble_eq_true rfl, Nat.le_of_ble_eq_true rfl⟩ (fun _ _ _ h => VT_no h) (fun v ad1 F1 hp => ?_)
        obtain ⟨rfl, rfl, h1, h2⟩ := hp
        refine V_pop C dX4_removeAllOf_34 rfl ?_
        refine V_iinc C dX4_removeAllOf_35 rfl (nI_decS _) (by decide) ?_
        refine V_goto (tgt := 7) C dX4_removeAllOf_38 (by decide) ?_
        refine V_sb (ih _ F1 (by omega) rfl ?_ (fr_join hK h2 (fun _ h => h))) ⟨rfl, rfl, rfl, trivial⟩
        rw [hqd, List.filter_cons_of_neg (by simpa using hc), ← hRr]
        rw [List.eraseIdx_append_of_length_le (by omega), hlt, Nat.sub_self] at h1
        exact h1
  refine V_istore_n C dX4_removeAllOf_6 (by decide) ?_
  refine V_sb (loop L.length _ F (Nat.le_refl _) rfl (by simpa using hR) (fun _ _ => rfl)) ⟨rfl, rfl, rfl, trivial⟩
def wkD (rcv : Nat → Int32) (pw : Nat → Int32) (rv : Int32) (c : Nat) : Bool := decide (¬ pw c = 0 ∧ rcv c = rv)
theorem RowAt.kept {D : Dx} {ad : Nat → Nat} {F G : Fn} {o a : Nat} {L : List Nat} (h : RowAt D ad F o a L) (h1 : G o = F o) (h2 : G a = F a) : RowAt D ad G o a L := by
  obtain ⟨x1, x2, f, x3, x4⟩ := h
  exact ⟨h1.trans x1, x2, f, h2.trans x3, x4⟩
set_option maxHeartbeats 400000 in
set_option maxRecDepth 100000 in
/-- Row.wake -/
theorem c_wake {l : Launch} {D : Dx} {b0 : Nat} {ad : Nat → Nat} {F : Fn} (o a : Nat) (rv : Int32) (L : List Nat) (pm : Nat → Nat) (pn pf pt pw : Nat → Int32) (mc : Nat → Nat) (mf : Nat → List Value) (rcv : Nat → Int32) (hR : RowAt D ad F o a L) (hP : ∀ c ∈ L, F c = some (oB 2 [.ref (pm c), .int (pn c), .int (pf c), .int (pt c), .int (pw c)])) (hm : ∀ c ∈ L, pm c = ad (mc c) ∧ F (mc c) = some (oB 1 (mf c)) ∧ (mf c)[1]? = some (.int (rcv c))) (hnd : L.Nodup) : Ct l D b0 yX4_wake (wsA yX4_wake cX4_wake 5 (some .int)) (rK 1) [.ref (ad o), .int rv] ad F (fun v ad1 F1 => v = some (.int (nI (L.filter (wkD rcv pw rv)).length)) ∧ ad = ad1 ∧ (∀ c ∈ L, F1 c = some (oB 2 [.ref (pm c), .int (pn c), .int (pf c), .int (pt c), .int (if wkD rcv pw rv c then 0 else pw c)])) ∧ ∀ x, x ∉ L → F1 x = F x) noX := by
  refine Ct.of (by decide +kernel) (by simp [Value.category]) (Nat.le_of_ble_eq_true rfl) (fun X eD eb el C Q => ?_)
  subst eD; subst eb; subst el
  have hr := hR.1
  have hl2 := hR.2.1
  obtain ⟨f0, ha0, -⟩ := hR.2.2
  have hoL : o ∉ L := fun h => cls_ne (hP o h) hr (by decide) rfl
  have haL : a ∉ L := fun h => obj_ne ha0 (hP a h) rfl
  refine V_iconst (v := 0) C dX4_wake_0 rfl ?_
  refine V_istore_n C dX4_wake_1 (by decide) ?_
  refine V_iconst (v := 0) C dX4_wake_2 rfl ?_
  refine V_istore_n C dX4_wake_3 (by decide) ?_
  have loop : ∀ (d t : Nat) (G : Fn), t + d = L.length → (∀ c ∈ L.take t, G c = some (oB 2 [.ref (pm c), .int (pn c), .int (pf c), .int (pt c), .int (if wkD rcv pw rv c then 0 else pw c)])) → (∀ x, x ∉ L.take t → G x = F x) →
      V X 0 0 4 [(0, .ref (ad o)), (1, .int rv), (2, .int (nI ((L.take t).filter (wkD rcv pw rv)).length)), (3, .int (nI t))] [] ad G := by
    intro d
    induction d with
    | zero =>
      intro t G hd h1 h2
      have ht : t = L.length := by omega
      subst ht
      rw [List.take_length] at h1 h2 ⊢
      have hr := (h2 o hoL).trans hr
      refine V_iload_n C dX4_wake_4 rfl ?_
      refine V_aload_n C dX4_wake_5 rfl ?_
      refine V_get C dX4_wake_6 fr_4_17 hr rfl ?_
      refine V_icmpge_t (tgt := 59) C dX4_wake_9 (by decide) (Int32.le_refl _) ?_
      refine V_iload_n C dX4_wake_59 rfl ?_
      exact V_ireturn C Q dX4_wake_60 rfl (Nat.le_of_ble_eq_true rfl) (Nat.le_of_ble_eq_true rfl) ⟨rfl, rfl, h1, h2⟩
    | succ d ih =>
      intro t G hd h1 h2
      have hsub : ∀ x, x ∈ L.take t → x ∈ L := fun x hx => List.mem_of_mem_take hx
      have hRG := hR.kept (h2 o (fun h => hoL (hsub o h))) (h2 a (fun h => haL (hsub a h)))
      have hr := hRG.1
      obtain ⟨q, hq⟩ : ∃ q, L[t]? = some q := ⟨L[t]'(by omega), List.getElem?_eq_getElem (by omega)⟩
      have hqm := List.mem_of_getElem? hq
      have hqt : q ∉ L.take t := fun h => by
        obtain ⟨j, hj⟩ := List.getElem?_of_mem h
        have hjt : j < t := by have := (List.getElem?_eq_some_iff.mp hj).1; rw [List.length_take] at this; omega
        rw [List.getElem?_take_of_lt hjt] at hj
        exact absurd (nodup_idx hnd hj hq) (by omega)
      have htk : L.take (t + 1) = L.take t ++ [q] := by rw [List.take_add_one, hq]; rfl
      have hqF := (h2 q hqt).trans (hP q hqm)
      obtain ⟨em, hmF, hmr⟩ := hm q hqm
      have hmG : G (mc q) = some (oB 1 (mf q)) := (h2 (mc q) (fun h => cls_ne (hP _ (hsub _ h)) hmF (by decide) rfl)).trans hmF
      rw [em] at hqF
      refine V_iload_n C dX4_wake_4 rfl ?_
      refine V_aload_n C dX4_wake_5 rfl ?_
      refine V_get C dX4_wake_6 fr_4_17 hr rfl ?_
      refine V_icmpge_f (tgt := 59) C dX4_wake_9 (by decide) (nI_ge (by omega) (by omega)) ?_
      refine V_aload_n C dX4_wake_12 rfl ?_
      refine V_iload_n C dX4_wake_13 rfl ?_
      refine V_invV C dX4_wake_14 hr rfl (c_atR o a t q L hRG hq) mv_4_25 rfl (Nat.le_of_ble_eq_true rfl) ⟨Nat.le_of_ble_eq_true rfl, Nat.le_of_ble_eq_true rfl⟩ ⟨Nat.le_of_ble_eq_true rfl, Nat.le_of_ble_eq_true rfl⟩ (fun _ _ _ h => VT_no h) (fun v ad1 F1 hp => ?_)
      obtain ⟨rfl, rfl, rfl⟩ := hp
      refine V_astore C dX4_wake_17 (by decide) ?_
      refine V_aload C dX4_wake_19 rfl ?_
      refine V_ifnull C dX4_wake_21 ?_
      refine V_aload C dX4_wake_24 rfl ?_
      refine V_get C dX4_wake_26 fr_4_40 hqF rfl ?_
      refine V_ifeq (tgt := 53) C dX4_wake_29 (by decide) (fun hc => ?_) (fun hc => ?_)
      · have hw : wkD rcv pw rv q = false := by simp [wkD, hc]
        refine V_iinc C dX4_wake_53 rfl (nI_inc _) (by decide) ?_
        refine V_goto (tgt := 4) C dX4_wake_56 (by decide) ?_
        refine V_sb (ih (t + 1) G (by omega) (fun c hc => ?_) (fun x hx => ?_)) ⟨rfl, rfl, ?_, rfl, trivial⟩
        · rw [htk] at hc
          rcases List.mem_append.mp hc with h | h
          · exact h1 c h
          · rw [List.mem_singleton.mp h, hw, em]; exact hqF
        · rw [htk] at hx
          exact h2 x (fun h => hx (List.mem_append_left _ h))
        · rw [htk, List.filter_append, show [q].filter (wkD rcv pw rv) = [] by simp [hw], List.append_nil]; rfl
      · refine V_aload C dX4_wake_32 rfl ?_
        refine V_get C dX4_wake_34 fr_4_36 hqF rfl ?_
        refine V_get C dX4_wake_37 fr_4_44 hmG hmr ?_
        refine V_iload_n C dX4_wake_40 rfl ?_
        refine V_icmpne (tgt := 53) C dX4_wake_41 (by decide) (fun hc2 => ?_) (fun hc2 => ?_)
        · have hw : wkD rcv pw rv q = false := by simp [wkD, hc2]
          refine V_iinc C dX4_wake_53 rfl (nI_inc _) (by decide) ?_
          refine V_goto (tgt := 4) C dX4_wake_56 (by decide) ?_
          refine V_sb (ih (t + 1) G (by omega) (fun c hc => ?_) (fun x hx => ?_)) ⟨rfl, rfl, ?_, rfl, trivial⟩
          · rw [htk] at hc
            rcases List.mem_append.mp hc with h | h
            · exact h1 c h
            · rw [List.mem_singleton.mp h, hw, em]; exact hqF
          · rw [htk] at hx
            exact h2 x (fun h => hx (List.mem_append_left _ h))
          · rw [htk, List.filter_append, show [q].filter (wkD rcv pw rv) = [] by simp [hw], List.append_nil]; rfl
        · have hw : wkD rcv pw rv q = true := by simp [wkD, hc, hc2]
          refine V_aload C dX4_wake_44 rfl ?_
          refine V_iconst (v := 0) C dX4_wake_46 rfl ?_
          refine G_put C dX4_wake_47 fp_4_40 hqF rfl rfl (Nat.le_of_ble_eq_true rfl) (fun G1 hqF hfr => ?_)
          dsimp only [List.set] at hqF
          refine V_iinc C dX4_wake_50 rfl (nI_inc _) (by decide) ?_
          refine V_iinc C dX4_wake_53 rfl (nI_inc _) (by decide) ?_
          refine V_goto (tgt := 4) C dX4_wake_56 (by decide) ?_
          refine V_sb (ih (t + 1) G1 (by omega) (fun c hc => ?_) (fun x hx => ?_)) ⟨rfl, rfl, ?_, rfl, trivial⟩
          · rw [htk] at hc
            rcases List.mem_append.mp hc with h | h
            · exact (hfr c (fun e => hqt (e ▸ h))).trans (h1 c h)
            · rw [List.mem_singleton.mp h, hw, em]; exact hqF
          · rw [htk] at hx
            exact (hfr x (fun e => hx (List.mem_append_right _ (by rw [e]; simp)))).trans (h2 x (fun h => hx (List.mem_append_left _ h)))
          · rw [htk, List.filter_append, show [q].filter (wkD rcv pw rv) = [q] by simp [hw], List.length_append]; rfl
  refine V_sb (loop L.length 0 F (by omega) (fun c h => by simp at h) (fun _ _ => rfl)) ⟨rfl, rfl, rfl, rfl, trivial⟩
/-- what a constructor's room is: k levels, so many cells and slots -/
abbrev rC (k c n : Nat) : Room := { frames := k, cells := c, slots := n, locals := 40 * k }
set_option maxHeartbeats 400000 in
set_option maxRecDepth 100000 in
/-- Row(): a new array -/
theorem c_Row_init {l : Launch} {D : Dx} {b0 : Nat} {ad : Nat → Nat} {F : Fn} (o a : Nat) (hr : F o = some (oB 4 [.null, .int 0])) (ha : F a = none) : Ct l D b0 yX4_init (wsA yX4_init cX4_init 1 none) (rC 1 1 120) [.ref (ad o)] ad F (fun v ad1 F1 => v = none ∧ (∀ x, x ≠ a → ad1 x = ad x) ∧ RowAt D ad1 F1 o a [] ∧ ∀ x, x ∉ [o, a] → F1 x = F x) noX := by
  refine Ct.of (by decide +kernel) (by simp [Value.category]) (Nat.le_of_ble_eq_true rfl) (fun X eD eb el C Q => ?_)
  subst eD; subst eb; subst el
  have hoa : o ≠ a := fun e => by rw [e, ha] at hr; cases hr
  refine V_aload_n C dX4_init_0 rfl ?_
  refine V_objInit C dX4_init_1 mo_4_3 mo_i mo_c (Nat.le_of_ble_eq_true rfl) (Nat.le_of_ble_eq_true rfl) rfl ?_
  refine V_aload_n C dX4_init_4 rfl ?_
  refine V_bipush (v := 120) C dX4_init_5 (by decide) ?_
  refine G_newq (Cn := RX2) (t := 3) (N := 120) a C dX4_init_7 cl_4_9 C.ev.2.2.2.2.2.2.1.1 rfl ha rfl (by decide) (Nat.le_of_ble_eq_true rfl) (Nat.le_of_ble_eq_true rfl) (fun ad1 F1 had ha hfr => ?_)
  have hr := (hfr o hoa).trans hr
  have eo : ad o = ad1 o := (had o hoa).symm
  rw [eo]
  refine G_putF C rfl dX4_init_10 fp_4_11 hr rfl rfl (Nat.le_of_ble_eq_true rfl) (fun F2 hr hfr2 => ?_)
  dsimp only [List.set] at hr
  have ha := (hfr2 _ hoa.symm).trans ha
  refine V_aload_n C dX4_init_13 rfl ?_
  refine V_iconst (v := 0) C dX4_init_14 rfl ?_
  refine G_put C dX4_init_15 fp_4_17 hr rfl rfl (Nat.le_of_ble_eq_true rfl) (fun F3 hr hfr3 => ?_)
  dsimp only [List.set] at hr
  have ha := (hfr3 _ hoa.symm).trans ha
  refine V_return C Q dX4_init_18 (Nat.le_of_ble_eq_true rfl) (Nat.le_of_ble_eq_true rfl) ⟨rfl, had, ⟨hr, by decide, _, ha, fun j hj => absurd hj (Nat.not_lt_zero j)⟩, fun x hx => ?_⟩
  have h1 : x ≠ o := fun e => hx (by simp [e])
  have h2 : x ≠ a := fun e => hx (by simp [e])
  exact (hfr3 x h1).trans ((hfr2 x h1).trans (hfr x h2))
set_option maxHeartbeats 400000 in
set_option maxRecDepth 100000 in
/-- Part(message, number, tryAt) -/
theorem c_Part_init {l : Launch} {D : Dx} {b0 : Nat} {ad : Nat → Nat} {F : Fn} (c m : Nat) (p ta : Int32) (hc : F c = some (oB 2 [.null, .int 0, .int 0, .int 0, .int 0])) : Ct l D b0 yX2_init (wsA yX2_init cX2_init 4 none) (rK 1) [.ref (ad c), .ref m, .int p, .int ta] ad F (fun v ad1 F1 => v = none ∧ ad = ad1 ∧ F1 c = some (oB 2 [.ref m, .int p, .int 0, .int ta, .int 0]) ∧ ∀ x, x ≠ c → F1 x = F x) noX := by
  refine Ct.of (by decide +kernel) (by simp [Value.category]) (Nat.le_of_ble_eq_true rfl) (fun X eD eb el C Q => ?_)
  subst eD; subst eb; subst el
  refine V_aload_n C dX2_init_0 rfl ?_
  refine V_objInit C dX2_init_1 mo_2_1 mo_i mo_c (Nat.le_of_ble_eq_true rfl) (Nat.le_of_ble_eq_true rfl) rfl ?_
  have hK : ∀ x, x ≠ c → F x = F x := fun _ _ => rfl
  refine V_aload_n C dX2_init_4 rfl ?_
  refine V_iconst (v := 0) C dX2_init_5 rfl ?_
  refine G_put C dX2_init_6 fp_2_7 hc rfl rfl (Nat.le_of_ble_eq_true rfl) (fun F1 hc hfr => ?_)
  dsimp only [List.set] at hc
  have hK := fun x h => (hfr x h).trans (hK x h)
  refine V_aload_n C dX2_init_9 rfl ?_
  refine V_iconst (v := 0) C dX2_init_10 rfl ?_
  refine G_put C dX2_init_11 fp_2_13 hc rfl rfl (Nat.le_of_ble_eq_true rfl) (fun F2 hc hfr => ?_)
  dsimp only [List.set] at hc
  have hK := fun x h => (hfr x h).trans (hK x h)
  refine V_aload_n C dX2_init_14 rfl ?_
  refine V_aload_n C dX2_init_15 rfl ?_
  refine G_putF C rfl dX2_init_16 fp_2_17 hc rfl rfl (Nat.le_of_ble_eq_true rfl) (fun F3 hc hfr => ?_)
  dsimp only [List.set] at hc
  have hK := fun x h => (hfr x h).trans (hK x h)
  refine V_aload_n C dX2_init_19 rfl ?_
  refine V_iload_n C dX2_init_20 rfl ?_
  refine G_putF C rfl dX2_init_21 fp_2_21 hc rfl rfl (Nat.le_of_ble_eq_true rfl) (fun F4 hc hfr => ?_)
  dsimp only [List.set] at hc
  have hK := fun x h => (hfr x h).trans (hK x h)
  refine V_aload_n C dX2_init_24 rfl ?_
  refine V_iload_n C dX2_init_25 rfl ?_
  refine G_put C dX2_init_26 fp_2_24 hc rfl rfl (Nat.le_of_ble_eq_true rfl) (fun F5 hc hfr => ?_)
  dsimp only [List.set] at hc
  have hK := fun x h => (hfr x h).trans (hK x h)
  exact V_return C Q dX2_init_29 (Nat.le_of_ble_eq_true rfl) (Nat.le_of_ble_eq_true rfl) ⟨rfl, rfl, hc, hK⟩
