/-! ===== Arrays.copyOf, and what the text tells of its parts ===== -/
theorem cl_J7_317 : Cond.classLink RJ7 317 "[I" ∈ ALL := inr_12 _ (List.mem_of_getElem? (i := 8) rfl)
section CP
variable {X : Cxt} {cc : ByteArray} {nL : Nat} {y : MethodName} {R : Room} {ret : Option FieldType} {tb : List ExceptionTableEntry} {k n pc : Nat} {lv : Lv} {st : List Value} {ad : Nat → Nat} {F : Fn}
theorem G_clone {N ca : Nat} {f : Nat → Int32} (c0 : Nat) (C : Ok X cc nL y R ret tb) (hy9 : y.cls = RJ7) (d : decode cc pc = .ok (.invokevirtual 316, 3)) (ha : F ca = some (aI (xD X) N f)) (hc : F c0 = none) (hf : 1 ≤ R.frames) (hlo : (st.map fun v => v.category).sum + 14 ≤ R.locals) (h1 : k + 1 ≤ R.cells) (h2 : n + N ≤ R.slots)
    (K : ∀ (ad' : Nat → Nat) (F' : Fn), (∀ c : Nat, c ≠ c0 → ad' c = ad c) → F' c0 = some (aI (xD X) N f) → (∀ c : Nat, c ≠ c0 → F' c = F c) → V X (k + 1) (n + N) (pc + 3) lv (.ref (ad' c0) :: st) ad' F') : V X k n pc lv (.ref (ad ca) :: st) ad F := by
  intro H locs ls hW hS hl
  obtain ⟨⟨ws, hP, hD, hw⟩, hin⟩ := id hW
  obtain ⟨p, hx⟩ := hw _ _ ha
  have hR := C.room
  have hown : (xs X).vm.findClass RJ7 = some (xm X).cls := by rw [← hy9]; exact C.own
  refine va_clone C.1 C.2.1 (by rw [C.2.2.1]; exact hl.1.1.symm) hown (C.ts _ mcl_methodLink) (C.ts _ mcl_sameMethod) (C.ts _ mcl_native) (C.ts _ mcl_instanceMethod) (C.ts _ mcl_selects) C.ev.2.2.2.2.2.1.2.2 C.ev.1 hP hD hS C.fresh p 0 hx rfl (C.ev.1.2 0 _ rfl).2 (fun i v hv => ?_) (by rw [hR]; exact hf) (by rw [hR]; exact hlo) (by rw [hR]; exact h1) (by rw [hR]; exact h2) d (fun q H1 _ hP1 hD1 hS1 => ?_)
  · obtain ⟨hlt, rfl⟩ := Array.getElem?_eq_some_iff.mp hv
    simp [vp_cell, arrV, fits]
  · have h := K (va_up ad c0 q) _ (fun c hc => up_n hc) (up_or rfl).1 (up_or rfl).2
    rw [up_s] at h
    exact h H1 locs ls (WD.push hin hw hc hP1 hD1) hS1 hl
theorem V_castI {N ca : Nat} {f : Nat → Int32} (C : Ok X cc nL y R ret tb) (hy9 : y.cls = RJ7) (d : decode cc pc = .ok (.checkcast 317, 3)) (ha : F ca = some (aI (xD X) N f)) (K : V X k n (pc + 3) lv (.ref (ad ca) :: st) ad F) : V X k n pc lv (.ref (ad ca) :: st) ad F := by
  intro H locs ls hW hS hl
  obtain ⟨⟨ws, hP, hD, hw⟩, hin⟩ := id hW
  obtain ⟨p, hx⟩ := hw _ _ ha
  have hown : (xs X).vm.findClass RJ7 = some (xm X).cls := by rw [← hy9]; exact C.own
  exact va_castA C.1 C.2.1 hown (C.ts _ cl_J7_317) hP p hx (C.ev.1.2 0 _ rfl).2 d (K H locs ls hW hS hl)
end CP
set_option maxHeartbeats 400000 in
set_option maxRecDepth 100000 in
/-- Arrays.copyOf of ints -/
theorem c_copyOf {l : Launch} {D : Dx} {b0 : Nat} {ad : Nat → Nat} {F : Fn} (a N m c : Nat) (f : Nat → Int32) (ha : F a = some (aI D N f)) (hm : m ≤ N) (hN : N ≤ 400) (hc : F c = none) : Ct l D b0 yJ7_copyOf_59c91 (wsA yJ7_copyOf_59c91 cJ7_copyOf_59c91 3 (some (.array .int))) (rC 1 1 400) [.ref (ad a), .int (nI m)] ad F (fun v ad1 F1 => v = some (.ref (ad1 c)) ∧ (∀ x, x ≠ c → ad1 x = ad x) ∧ (∃ g, F1 c = some (aI D m g) ∧ ∀ j, j < m → g j = f j) ∧ ∀ x, x ≠ c → F1 x = F x) noX := by
  refine Ct.of (by decide +kernel) (by simp [Value.category]) (Nat.le_of_ble_eq_true rfl) (fun X eD eb el C Q => ?_)
  subst eD; subst eb; subst el
  have hac : a ≠ c := fun e => by rw [e, hc] at ha; cases ha
  refine V_iload_n C dJ7_copyOf_59c91_0 rfl ?_
  refine V_aload_n C dJ7_copyOf_59c91_1 rfl ?_
  refine V_alen C dJ7_copyOf_59c91_2 ha rfl ?_
  refine V_icmpne (tgt := 14) C dJ7_copyOf_59c91_3 (by decide) (fun hcn => ?_) (fun hcn => ?_)
  · refine V_iload_n C dJ7_copyOf_59c91_14 rfl ?_
    refine G_newi (N := m) c C dJ7_copyOf_59c91_15 ar_int hc rfl (by omega) (Nat.le_of_ble_eq_true rfl) (by show 0 + m ≤ 400; omega) (fun ad1 F1 had hc1 hfr => ?_)
    have ha1 := (hfr a hac).trans ha
    have ea : ad a = ad1 a := (had a hac).symm
    rw [ea]
    refine V_astore_n C dJ7_copyOf_59c91_17 (by decide) ?_
    refine V_aload_n C dJ7_copyOf_59c91_18 rfl ?_
    refine V_iconst (v := 0) C dJ7_copyOf_59c91_19 rfl ?_
    refine V_aload_n C dJ7_copyOf_59c91_20 rfl ?_
    refine V_iconst (v := 0) C dJ7_copyOf_59c91_21 rfl ?_
    refine V_aload_n C dJ7_copyOf_59c91_22 rfl ?_
    refine V_alen C dJ7_copyOf_59c91_23 ha1 rfl ?_
    refine V_iload_n C dJ7_copyOf_59c91_24 rfl ?_
    refine V_min C dJ7_copyOf_59c91_25 mm_methodLink mm_static ini_math mm_code (Nat.le_of_ble_eq_true rfl) (Nat.le_of_ble_eq_true rfl) (Nat.le_of_ble_eq_true rfl) (by show 0 + m ≤ 400; omega) ?_
    refine V_nm (w := nI m) ?_ ?_
    · split
      · rfl
      · rename_i h
        have : ¬ m < N := fun h2 => h (nI_lt h2 (by omega))
        rw [show m = N by omega]
    refine V_copyi C dJ7_copyOf_59c91_28 ml_ac nat_ac st_ac ini_sys ha1 hc1 (sp := 0) (dp := 0) rfl rfl rfl (by omega) (by omega) (by omega) (Nat.le_of_ble_eq_true rfl) (by decide +kernel) ?_
    obtain ⟨F2, hF2⟩ : ∃ z, z = va_up F1 c (some (aI (xD X) m (va_cpy f (fun _ => 0) 0 0 m))) := ⟨_, rfl⟩
    obtain ⟨hc2, hfr2⟩ := up_or hF2
    rw [← hF2]
    refine V_aload_n C dJ7_copyOf_59c91_31 rfl ?_
    refine V_areturn C Q dJ7_copyOf_59c91_32 (Or.inr ⟨_, rfl⟩) (Or.inr ⟨_, rfl⟩) (Nat.le_of_ble_eq_true rfl) (by show 0 + m ≤ 400; omega) ⟨rfl, had, ⟨_, hc2, fun j hj => ?_⟩, fun x hx => (hfr2 x hx).trans (hfr x hx)⟩
    simp [va_cpy, hj]
  · have hmN : m = N := (nI_eq (by omega) (by omega)).mp hcn
    subst hmN
    refine V_aload_n C dJ7_copyOf_59c91_6 rfl ?_
    refine G_clone c C rfl dJ7_copyOf_59c91_7 ha hc (Nat.le_of_ble_eq_true rfl) (Nat.le_of_ble_eq_true rfl) (Nat.le_of_ble_eq_true rfl) (by show 0 + m ≤ 400; omega) (fun ad1 F1 had hc1 hfr => ?_)
    refine V_castI C rfl dJ7_copyOf_59c91_10 hc1 ?_
    exact V_areturn C Q dJ7_copyOf_59c91_13 (Or.inr ⟨_, rfl⟩) (Or.inr ⟨_, rfl⟩) (Nat.le_of_ble_eq_true rfl) (by show 0 + m ≤ 400; omega) ⟨rfl, had, ⟨_, hc1, fun _ _ => rfl⟩, hfr⟩
set_option maxHeartbeats 400000 in
set_option maxRecDepth 100000 in
/-- Text.copyOfSigns -/
theorem c_copyOfSigns {l : Launch} {D : Dx} {b0 : Nat} {ad : Nat → Nat} {F : Fn} (t r s c : Nat) (L : List Nat) (hT : TextAt D ad F t r s L) (hc : F c = none) : Ct l D b0 yX5_copyOfSigns (wsA yX5_copyOfSigns cX5_copyOfSigns 1 (some (.array .int))) (rC 2 1 400) [.ref (ad t)] ad F (fun v ad1 F1 => v = some (.ref (ad1 c)) ∧ (∀ x, x ≠ c → ad1 x = ad x) ∧ (∃ g, F1 c = some (aI D L.length g) ∧ ∀ j, j < L.length → g j = nI (L.getD j 0)) ∧ ∀ x, x ≠ c → F1 x = F x) noX := by
  refine Ct.of (by decide +kernel) (by simp [Value.category]) (Nat.le_of_ble_eq_true rfl) (fun X eD eb el C Q => ?_)
  subst eD; subst eb; subst el
  obtain ⟨ht, ⟨hl, hxs, f0, hr, hf0⟩, g0, hs, hg⟩ := hT
  unfold TxO at ht
  have h6 := (npL_spec hl).1
  refine V_aload_n C dX5_copyOfSigns_0 rfl ?_
  refine V_get C dX5_copyOfSigns_1 fr_5_9 ht rfl ?_
  refine V_aload_n C dX5_copyOfSigns_4 rfl ?_
  refine V_get C dX5_copyOfSigns_5 fr_5_15 ht rfl ?_
  refine V_invS C dX5_copyOfSigns_8 (c_copyOf r 400 L.length c f0 hr hl (by decide) hc) ms_5_52 rfl (Nat.le_of_ble_eq_true rfl) ⟨Nat.le_of_ble_eq_true rfl, Nat.le_of_ble_eq_true rfl⟩ ⟨Nat.le_of_ble_eq_true rfl, Nat.le_of_ble_eq_true rfl⟩ (fun _ _ _ h => VT_no h) (fun v ad1 F1 hp => ?_)
  obtain ⟨rfl, had, ⟨g, h1, h2⟩, h3⟩ := hp
  exact V_areturn C Q dX5_copyOfSigns_11 (Or.inr ⟨_, rfl⟩) (Or.inr ⟨_, rfl⟩) (Nat.le_of_ble_eq_true rfl) (Nat.le_of_ble_eq_true rfl) ⟨rfl, had, ⟨g, h1, fun j hj => (h2 j hj).trans (hf0 j hj)⟩, h3⟩
set_option maxHeartbeats 400000 in
set_option maxRecDepth 100000 in
/-- Text.copyOfStarts -/
theorem c_copyOfStarts {l : Launch} {D : Dx} {b0 : Nat} {ad : Nat → Nat} {F : Fn} (t r s c : Nat) (L : List Nat) (hT : TextAt D ad F t r s L) (hc : F c = none) (hne : L ≠ []) : Ct l D b0 yX5_copyOfStarts (wsA yX5_copyOfStarts cX5_copyOfStarts 1 (some (.array .int))) (rC 2 1 400) [.ref (ad t)] ad F (fun v ad1 F1 => v = some (.ref (ad1 c)) ∧ (∀ x, x ≠ c → ad1 x = ad x) ∧ (∃ g, F1 c = some (aI D (npL L + 1) g) ∧ ∀ j, j ≤ npL L → g j = nI (posL L j)) ∧ ∀ x, x ≠ c → F1 x = F x) noX := by
  refine Ct.of (by decide +kernel) (by simp [Value.category]) (Nat.le_of_ble_eq_true rfl) (fun X eD eb el C Q => ?_)
  subst eD; subst eb; subst el
  obtain ⟨ht, ⟨hl, hxs, f0, hr, hf0⟩, g0, hs, hg⟩ := hT
  unfold TxO at ht
  have h6 := (npL_spec hl).1
  refine V_aload_n C dX5_copyOfStarts_0 rfl ?_
  refine V_get C dX5_copyOfStarts_1 fr_5_26 ht rfl ?_
  refine V_aload_n C dX5_copyOfStarts_4 rfl ?_
  refine V_get C dX5_copyOfStarts_5 fr_5_29 ht rfl ?_
  refine V_iconst (v := 1) C dX5_copyOfStarts_8 rfl ?_
  refine V_iadd C dX5_copyOfStarts_9 ?_
  refine V_nm (nI_1 _) ?_
  refine V_invS C dX5_copyOfStarts_10 (c_copyOf s 7 (npL L + 1) c g0 hs (by omega) (by decide) hc) ms_5_52 rfl (Nat.le_of_ble_eq_true rfl) ⟨Nat.le_of_ble_eq_true rfl, Nat.le_of_ble_eq_true rfl⟩ ⟨Nat.le_of_ble_eq_true rfl, Nat.le_of_ble_eq_true rfl⟩ (fun _ _ _ h => VT_no h) (fun v ad1 F1 hp => ?_)
  obtain ⟨rfl, had, ⟨g, h1, h2⟩, h3⟩ := hp
  exact V_areturn C Q dX5_copyOfStarts_13 (Or.inr ⟨_, rfl⟩) (Or.inr ⟨_, rfl⟩) (Nat.le_of_ble_eq_true rfl) (Nat.le_of_ble_eq_true rfl) ⟨rfl, had, ⟨g, h1, fun j hj => (h2 j (by omega)).trans (hg hne j hj)⟩, h3⟩
