/-! ===== what always holds, call by call ===== -/
def Kp (s : St) : Prop := Inv s ∧ Inf s
theorem ok_st0 : Kp st0S := by
  refine ⟨⟨by decide, by decide, by decide, fun x hx => absurd hx List.not_mem_nil, rfl, fun m hm => absurd hm (Nat.not_lt_zero m), fun l _ => ⟨Nat.le_refl 1, (by show 1 ≤ 2; decide), (by show 2 ≤ 10; decide), Nat.le_refl 5, List.nodup_nil, fun c hc => absurd hc List.not_mem_nil, fun c hc => absurd hc List.not_mem_nil⟩, fun j _ => Or.inl rfl, fun p _ => ⟨0, by decide, rfl⟩, fun p _ => ⟨0, Nat.zero_le _, rfl⟩⟩, fun m hm => absurd hm (Nat.not_lt_zero m)⟩
theorem ok_txt {s : St} {L : List Nat} (h : Kp s) (h1 : L.length ≤ 400) (h2 : ∀ x ∈ L, x < 1000) : Kp (sTxt s L) := by
  obtain ⟨⟨i1, i2, i3, i4, i5, i6, i7, i8, i9, i10⟩, hF⟩ := h
  exact ⟨⟨i1, i2, h1, h2, i5, i6, i7, i8, i9, i10⟩, hF⟩
theorem ok_write {s : St} {a b : Int32} (h : Kp s) : Kp (spWrite s a b).2.2 := by
  unfold spWrite
  split
  · exact h
  · rename_i hab
    split
    · exact h
    · rename_i hl
      have ha : ¬ (a < 0) := fun e => hab (Or.inl e)
      have ha2 : a ≤ 999 := Int32.not_lt.mp (fun e => hab (Or.inr (Or.inl e)))
      obtain ⟨x, hx, rfl⟩ := nI_of2 (n := 999) (M := 999) rfl ha ha2
      rw [show (nI x).toNatClampNeg = x from nI_clamp (by omega)]
      refine ok_txt h (by rw [List.length_append, List.length_replicate]; omega) (fun y hy => ?_)
      rcases List.mem_append.mp hy with e | e
      · exact h.1.2.2.2.1 y e
      · rw [(List.mem_replicate.mp e).2]; omega
theorem ok_erase {s : St} (h : Kp s) : Kp (spErase s).2.2 := ok_txt h (Nat.zero_le _) (fun x hx => absurd hx List.not_mem_nil)
theorem ok_setW {s : St} {a b : Int32} (h : Kp s) : Kp (spSetW s a b).2.2 := by
  unfold spSetW
  split
  · exact h
  · split
    · exact h
    · rename_i hb
      obtain ⟨x, hx, rfl⟩ := nI_of2 (n := 10) (M := 10) (x := b) rfl (fun e => hb (Or.inl (Int32.lt_trans e (by decide)))) (Int32.not_lt.mp (fun e => hb (Or.inr e)))
      have e1 : (nI x).toNatClampNeg = x := nI_clamp (by omega)
      have h1 : 1 ≤ x := Nat.le_of_not_lt (fun e => hb (Or.inl (nI_lt (b := 1) e (by decide))))
      obtain ⟨⟨i1, i2, i3, i4, i5, i6, i7, i8, i9, i10⟩, hF⟩ := h
      refine ⟨⟨i1, i2, i3, i4, i5, i6, fun l hl => ?_, i8, i9, i10⟩, hF⟩
      obtain ⟨j1, j2, j3, j4, j5, j6, j7⟩ := i7 l hl
      refine ⟨j1, ?_, ?_, j4, j5, j6, j7⟩
      · show 1 ≤ va_up (zWn s) _ (nI x).toNatClampNeg l
        rw [e1]
        by_cases e : l = a.toNatClampNeg
        · rw [e, up_s]; exact h1
        · rw [up_n e]; exact j2
      · show va_up (zWn s) _ (nI x).toNatClampNeg l ≤ 10
        rw [e1]
        by_cases e : l = a.toNatClampNeg
        · rw [e, up_s]; omega
        · rw [up_n e]; exact j3
theorem ok_up {s : St} {l : Nat} (h : Kp s) : Kp (sUp s (va_up (zUp s) l 1)) := by
  obtain ⟨⟨i1, i2, i3, i4, i5, i6, i7, i8, i9, i10⟩, hF⟩ := h
  refine ⟨⟨i1, i2, i3, i4, i5, i6, fun k hk => ?_, i8, i9, i10⟩, hF⟩
  obtain ⟨j1, j2, j3, j4, j5, j6, j7⟩ := i7 k hk
  refine ⟨?_, j2, j3, j4, j5, j6, j7⟩
  show va_up (zUp s) l 1 k ≤ 1
  by_cases e : k = l
  · rw [e, up_s]; exact Nat.le_refl _
  · rw [up_n e]; exact j1
theorem ok_pw {s : St} {f : Nat → Nat} (h : Kp s) (hf : ∀ c, f c = zPw s c ∨ f c = 0) : Kp (sPw s f) := by
  obtain ⟨⟨i1, i2, i3, i4, i5, i6, i7, i8, i9, i10⟩, hF⟩ := h
  refine ⟨⟨i1, i2, i3, i4, i5, fun m hm => ?_, fun k hk => ?_, i8, i9, i10⟩, hF⟩
  · obtain ⟨j1, j2, j3, j4, j5, j6, j7, j8⟩ := i6 m hm
    refine ⟨j1, j2, j3, j4, j5, j6, j7, fun p hp => ⟨(j8 p hp).1, (j8 p hp).2.1, ?_⟩⟩
    show f _ ≤ 1
    rcases hf (100 + 10 * m + p) with e | e
    · rw [e]; exact (j8 p hp).2.2
    · rw [e]; exact Nat.zero_le _
  · obtain ⟨j1, j2, j3, j4, j5, j6, j7⟩ := i7 k hk
    refine ⟨j1, j2, j3, j4, j5, j6, fun c hc => ⟨(j7 c hc).1, ?_⟩⟩
    show f c = 0
    rcases hf c with e | e
    · rw [e]; exact (j7 c hc).2
    · exact e
theorem ok_alert {s : St} {a : Int32} (h : Kp s) : Kp (spAlert s a).2.2 := by
  unfold spAlert
  split
  · exact h
  · exact ok_pw h (fun c => by split <;> simp)
theorem ok_down {s : St} {l : Nat} (h : Kp s) (hl : l < 3) : Kp (downS s l) := by
  have h0 := h
  obtain ⟨⟨i1, i2, i3, i4, i5, i6, i7, i8, i9, i10⟩, hF⟩ := h
  refine ⟨⟨i1, i2, i3, i4, i5, fun m hm => ?_, fun k hk => ?_, i8, i9, i10⟩, hF⟩
  · obtain ⟨j1, j2, j3, j4, j5, j6, j7, j8⟩ := i6 m hm
    refine ⟨j1, j2, j3, j4, j5, j6, j7, fun p hp => ⟨(j8 p hp).1, ?_, (j8 p hp).2.2⟩⟩
    show (if _ then zNow s else zPt s _) ≤ 300000
    split
    · omega
    · exact (j8 p hp).2.1
  · obtain ⟨j1, j2, j3, j4, j5, j6, j7⟩ := i7 k hk
    have e1 : zRw (downS s l) (2 * k) = if k = l then (zRw s (2 * l + 1)).filter (fun c => decide (zSt s (mOf c) = 0)) ++ zRw s (2 * l) else zRw s (2 * k) := by
      show va_up (va_up (zRw s) (2 * l) _) (2 * l + 1) [] (2 * k) = _
      rw [up_n (by omega)]
      by_cases e : k = l
      · subst e; rw [up_s, if_pos rfl]
      · rw [up_n (by omega), if_neg e]
    have e2 : zRw (downS s l) (2 * k + 1) = if k = l then [] else zRw s (2 * k + 1) := by
      show va_up (va_up (zRw s) (2 * l) _) (2 * l + 1) [] (2 * k + 1) = _
      by_cases e : k = l
      · subst e; rw [up_s, if_pos rfl]
      · rw [up_n (by omega), up_n (by omega), if_neg e]
    rw [e1, e2]
    have hup : zUp (downS s l) k ≤ 1 := by
      show va_up (zUp s) l 0 k ≤ 1
      by_cases e : k = l
      · rw [e, up_s]; exact Nat.zero_le _
      · rw [up_n e]; exact j1
    by_cases e : k = l
    · subst e
      rw [if_pos rfl, if_pos rfl, List.append_nil]
      refine ⟨hup, j2, j3, j4, ?_, fun c hc => ?_, fun c hc => absurd hc List.not_mem_nil⟩
      · have hp := (List.perm_append_comm (l₁ := zRw s (2 * k)) (l₂ := zRw s (2 * k + 1))).nodup_iff.mp j5
        exact List.Nodup.sublist (List.filter_sublist.append (List.Sublist.refl _)) hp
      · rcases List.mem_append.mp hc with h | h
        · have h2 := List.mem_filter.mp h
          exact ⟨(j7 c h2.1).1, of_decide_eq_true h2.2⟩
        · exact j6 c h
    · rw [if_neg e, if_neg e]
      exact ⟨hup, j2, j3, j4, j5, j6, j7⟩
theorem ok_tog {s : St} {a : Int32} (h : Kp s) : Kp (spTog s a).2.2 := by
  unfold spTog
  split
  · exact h
  · rename_i ha
    split
    · exact ok_up h
    · obtain ⟨j, hj, rfl⟩ := badI_not (n := 3) (by decide) ha
      rw [show (nI j).toNatClampNeg = j from nI_clamp (by omega)]
      exact ok_down h hj
theorem ok_ack {s : St} {a o : Int32} (h : Kp s) : Kp (spAck s a o).2.2 := by
  unfold spAck
  split
  · exact h
  · rename_i ha
    split
    · exact h
    · split
      · exact h
      · rename_i hz
        obtain ⟨j, hj, rfl⟩ := badI_not (n := 3) (by decide) ha
        rw [show (nI j).toNatClampNeg = j from nI_clamp (by omega)] at hz ⊢
        exact ack_ok h.1 h.2 hj (by omega)
theorem ok_pass {s : St} {a : Int32} (h : Kp s) (hb : zNow s ≤ 190000) : Kp (spPass s a).2.2 := by
  unfold spPass
  split
  · exact h
  · rename_i ha
    obtain ⟨n, hn, rfl⟩ := nI_of2 (n := 200) (M := 200) (x := a) rfl (fun e => ha (Or.inl (Int32.lt_trans e (by decide)))) (Int32.not_lt.mp (fun e => ha (Or.inr e)))
    rw [show (nI n).toNatClampNeg = n from nI_clamp (by omega)]
    exact ⟨inv_pas h.1 n (by omega), inf_pas h.2 n⟩
theorem i32_m1 {b : Int32} (h1 : ¬ b < -1) (h2 : b < 0) : b = -1 := by
  rw [Int32.lt_iff_toInt_lt] at h1 h2
  apply Int32.toInt_inj.mp
  have e1 : (-1 : Int32).toInt = -1 := by decide
  have e2 : (0 : Int32).toInt = 0 := by decide
  rw [e1] at h1 ⊢
  rw [e2] at h2
  omega
theorem ok_key {s : St} {a b : Int32} (h : Kp s) : Kp (spKey s a b).2.2 := by
  unfold spKey
  split
  · exact h
  · rename_i hab
    obtain ⟨⟨i1, i2, i3, i4, i5, i6, i7, i8, i9, i10⟩, hF⟩ := h
    refine ⟨⟨i1, i2, i3, i4, i5, i6, i7, fun j hj => ?_, i9, i10⟩, hF⟩
    show gkF (zKw s) _ b j = -1 ∨ ∃ x, x < 1000 ∧ gkF (zKw s) _ b j = nI x
    unfold gkF
    split
    · by_cases hb0 : b < 0
      · exact Or.inl (i32_m1 (fun e => hab (Or.inr (Or.inr (Or.inl e)))) hb0)
      · obtain ⟨x, hx, rfl⟩ := nI_of2 (n := 999) (M := 999) (x := b) rfl hb0 (Int32.not_lt.mp (fun e => hab (Or.inr (Or.inr (Or.inr e)))))
        exact Or.inr ⟨x, by omega, rfl⟩
    · split
      · exact Or.inl rfl
      · exact i8 j hj
theorem nwS_row (s : St) (r life k : Nat) : zRw (nwS s r life) k = if k = 2 * (r % 3) then zRw s k ++ nps (zMc s) (npL (zTxt s)) else zRw s k := by
  show va_up (zRw s) _ _ k = _
  by_cases e : k = 2 * (r % 3)
  · rw [e, up_s, if_pos rfl]
  · rw [up_n e, if_neg e]
theorem pw_bit : ∀ n, n < 7 → ∀ p, p < n → (2 ^ n - 1).testBit p = true := by decide +kernel
theorem ok_new {s : St} {r life : Nat} (h : Kp s) (hr : r < 9) (hl : life ≤ 1000) (hne : (zTxt s).length ≠ 0) (hmc : zMc s < 20) : Kp (nwS s r life) := by
  have h0 := h
  obtain ⟨⟨i1, i2, i3, i4, i5, i6, i7, i8, i9, i10⟩, hF⟩ := h
  have hnp := (npL_spec i3).1
  have hold : ∀ {l c}, InRow s l c → InRow (nwS s r life) l c ∧ mOf c ≠ zMc s ∧ c < 100 + 10 * zMc s := fun {l c} h => by
    have h1 := inr_eq h0.1 h
    have hm : mOf c ≠ zMc s := by omega
    refine ⟨⟨mOf c, pOf c, Nat.lt_succ_of_lt h1.1, ?_, h1.2.2.2.1, ?_, fun e => ?_⟩, hm, by omega⟩
    · show pOf c < npL (va_up (zMs s) (zMc s) (zTxt s) (mOf c)); rw [up_n hm]; exact h1.2.1
    · show va_up (zRc s) (zMc s) r (mOf c) % 3 = l; rw [up_n hm]; exact h1.2.2.2.2.1
    · show (va_up (zLk s) (zMc s) _ (mOf c)).testBit _ = true
      rw [up_n hm]
      have e : va_up (zSt s) (zMc s) 0 (mOf c) = 0 := e
      rw [up_n hm] at e
      exact h1.2.2.2.2.2 e
  refine ⟨⟨i1, hmc, Nat.zero_le _, fun x hx => absurd hx List.not_mem_nil, ?_, fun m hm => ?_, fun l hl => ?_, i8, i9, i10⟩, fun m hm h00 p hp => ?_⟩
  · show (zRcp s).length = ((List.range (zMc s + 1)).filter (fun k => decide (va_up (zSt s) (zMc s) 0 k ≠ 0))).length
    rw [List.range_succ, List.filter_append, List.length_append, List.filter_cons_of_neg (by rw [up_s]; simp), i5]
    show _ = _ + 0
    rw [Nat.add_zero]
    congr 1
    refine List.filter_congr (fun k hk => ?_)
    rw [up_n (by have := List.mem_range.mp hk; omega)]
  · show va_up (zMs s) (zMc s) (zTxt s) m ≠ [] ∧ (va_up (zMs s) (zMc s) (zTxt s) m).length ≤ 400 ∧ (∀ x ∈ va_up (zMs s) (zMc s) (zTxt s) m, x < 1000) ∧ va_up (zRc s) (zMc s) r m < 9 ∧ va_up (zSt s) (zMc s) 0 m < 4 ∧ va_up (zEn s) (zMc s) (zNow s + life) m ≤ 300000 ∧ va_up (zLk s) (zMc s) (2 ^ npL (zTxt s) - 1) m < 2 ^ npL (va_up (zMs s) (zMc s) (zTxt s) m) ∧ ∀ p, p < npL (va_up (zMs s) (zMc s) (zTxt s) m) → nwP (zMc s) 0 (zPf s) (100 + 10 * m + p) ≤ 4 ∧ nwP (zMc s) (zNow s) (zPt s) (100 + 10 * m + p) ≤ 300000 ∧ nwP (zMc s) 0 (zPw s) (100 + 10 * m + p) ≤ 1
    by_cases e : m = zMc s
    · subst e
      simp only [up_s]
      refine ⟨fun e => hne (by rw [e]; rfl), i3, i4, hr, by decide, by omega, Nat.sub_lt (Nat.two_pow_pos _) (by decide), fun p hp => ?_⟩
      unfold nwP
      rw [if_pos (by omega), if_pos (by omega), if_pos (by omega)]
      omega
    · simp only [up_n e]
      have hm : m < zMc s + 1 := hm
      obtain ⟨j1, j2, j3, j4, j5, j6, j7, j8⟩ := i6 m (by omega)
      have hl9 := (npL_spec j2).1
      refine ⟨j1, j2, j3, j4, j5, j6, j7, fun p hp => ?_⟩
      unfold nwP
      rw [if_neg (by omega), if_neg (by omega), if_neg (by omega)]
      exact j8 p hp
  · obtain ⟨j1, j2, j3, j4, j5, j6, j7⟩ := i7 l hl
    rw [nwS_row, nwS_row, if_neg (show ¬ (2 * l + 1 = 2 * (r % 3)) by omega)]
    have hsent : ∀ c ∈ zRw s (2 * l + 1), InRow (nwS s r life) l c ∧ nwP (zMc s) 0 (zPw s) c = 0 := fun c hc => by
      have h1 := hold (j7 c hc).1
      refine ⟨h1.1, ?_⟩
      unfold nwP
      rw [if_neg (by omega)]
      exact (j7 c hc).2
    have hque : ∀ c ∈ zRw s (2 * l), InRow (nwS s r life) l c ∧ va_up (zSt s) (zMc s) 0 (mOf c) = 0 := fun c hc => by
      have h1 := hold (j6 c hc).1
      exact ⟨h1.1, by rw [up_n h1.2.1]; exact (j6 c hc).2⟩
    by_cases e : 2 * l = 2 * (r % 3)
    · rw [if_pos e]
      refine ⟨j1, j2, j3, j4, ?_, fun c hc => ?_, hsent⟩
      · have hp : (zRw s (2 * l) ++ nps (zMc s) (npL (zTxt s)) ++ zRw s (2 * l + 1)).Perm (nps (zMc s) (npL (zTxt s)) ++ (zRw s (2 * l) ++ zRw s (2 * l + 1))) := by
          rw [← List.append_assoc]
          exact List.perm_append_comm.append_right _
        refine hp.nodup_iff.mpr (List.nodup_append.mpr ⟨nps_nd, j5, fun a ha b hb => ?_⟩)
        have h1 := nps_mem.mp ha
        have h2 : b < 100 + 10 * zMc s := by
          rcases List.mem_append.mp hb with h | h
          · exact (hold (j6 b h).1).2.2
          · exact (hold (j7 b h).1).2.2
        omega
      · rcases List.mem_append.mp hc with h | h
        · exact hque c h
        · have h1 := nps_mem.mp h
          have e1 : mOf c = zMc s := by unfold mOf; omega
          refine ⟨⟨zMc s, c - (100 + 10 * zMc s), Nat.lt_succ_self _, ?_, by omega, ?_, fun _ => ?_⟩, ?_⟩
          · show _ < npL (va_up (zMs s) (zMc s) (zTxt s) (zMc s)); rw [up_s]; omega
          · show va_up (zRc s) (zMc s) r (zMc s) % 3 = l; rw [up_s]; omega
          · show (va_up (zLk s) (zMc s) _ (zMc s)).testBit _ = true
            rw [up_s]; exact pw_bit _ (by omega) _ (by omega)
          · show va_up (zSt s) (zMc s) 0 (mOf c) = 0
            rw [e1, up_s]
    · rw [if_neg e]
      exact ⟨j1, j2, j3, j4, j5, hque, hsent⟩
  · have hm : m < zMc s + 1 := hm
    have h00 : va_up (zSt s) (zMc s) 0 m = 0 := h00
    have hp : p < npL (va_up (zMs s) (zMc s) (zTxt s) m) := hp
    show nwP (zMc s) 0 (zPf s) (100 + 10 * m + p) ≤ 3
    by_cases e : m = zMc s
    · subst e
      rw [up_s] at hp
      unfold nwP
      rw [if_pos (by omega)]; omega
    · rw [up_n e] at hp h00
      have hl9 := (npL_spec (i6 m (by omega)).2.1).1
      unfold nwP
      rw [if_neg (by omega)]
      exact hF m (by omega) h00 p hp
theorem ok_sub {s : St} {a b : Int32} (h : Kp s) : Kp (spSub s a b).2.2 := by
  unfold spSub
  split
  · exact h
  · rename_i ha
    split
    · exact h
    · rename_i hb
      split
      · exact h
      · rename_i hz
        obtain ⟨r, hr, rfl⟩ := badI_not (n := 9) (by decide) ha
        obtain ⟨x, hx, rfl⟩ := nI_of2 (n := 1000) (M := 1000) (x := b) rfl (fun e => hb (Or.inl (Int32.lt_trans e (by decide)))) (Int32.not_lt.mp (fun e => hb (Or.inr e)))
        rw [show (nI r).toNatClampNeg = r from nI_clamp (by omega), show (nI x).toNatClampNeg = x from nI_clamp (by omega)]
        exact ok_new h hr hx (fun e => hz (Or.inl e)) (Nat.lt_of_not_le (fun e => hz (Or.inr e)))
theorem se_small {kw se lt : Nat → Int32} {p : Nat} {x now : Int32} (h : ∃ y, y < 5 ∧ se p = nI y) : ∃ y, y < 5 ∧ seW kw se lt p x now = nI y := by
  unfold seW
  split
  · split
    · exact ⟨0, by decide, rfl⟩
    · exact h
  · exact ⟨svW kw x, svW_lt kw x, rfl⟩
theorem ok_come {s : St} {a b : Int32} (h : Kp s) : Kp (spCome s a b).2.2 := by
  unfold spCome
  split
  · exact h
  · rename_i hab
    obtain ⟨p0, hp0, rfl⟩ := badI_not (a := a) (n := 9) (by decide) (fun e => hab (e.elim Or.inl (fun e => Or.inr (Or.inl e))))
    rw [show (nI p0).toNatClampNeg = p0 from nI_clamp (by omega)]
    obtain ⟨⟨i1, i2, i3, i4, i5, i6, i7, i8, i9, i10⟩, hF⟩ := h
    refine ⟨⟨i1, i2, i3, i4, i5, i6, i7, i8, fun p hp => ?_, fun p hp => ?_⟩, hF⟩
    · show ∃ x, x < 5 ∧ upd (zSe s) p0 _ p = nI x
      unfold upd
      split
      · exact se_small (i9 p0 hp0)
      · exact i9 p hp
    · show ∃ x, x ≤ zNow s ∧ upd (zLa s) p0 (nI (zNow s)) p = nI x
      unfold upd
      split
      · exact ⟨zNow s, Nat.le_refl _, rfl⟩
      · exact i10 p hp
