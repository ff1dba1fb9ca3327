/-! ===== the acknowledgement ===== -/
theorem clr_ts : ∀ w, w < 64 → ∀ p, p < 6 → ∀ q, q < 6 → (clrB w p).testBit q = (decide (q ≠ p) && w.testBit q) := by decide +kernel
theorem clr_le (w p : Nat) : clrB w p ≤ w := by
  unfold clrB
  split
  · exact Nat.sub_le _ _
  · exact Nat.le_refl _
/-- a part leaves the row of the sent; a part joins its link's queue -/
def rmS (s : St) (l : Nat) : St := sRw s (va_up (zRw s) (2 * l + 1) ((zRw s (2 * l + 1)).eraseIdx 0))
def puS (s : St) (c : Nat) : St := sRw s (va_up (zRw s) (2 * (zRc s (mOf c) % 3)) (zRw s (2 * (zRc s (mOf c) % 3)) ++ [c]))
def clS (s : St) (c : Nat) : St := sLk s (va_up (zLk s) (mOf c) (clrB (zLk s (mOf c)) (pOf c)))
def flS (s : St) (c : Nat) : St := sPf s (va_up (zPf s) c (zPf s c + 1))
def tmS (s : St) (c : Nat) : St := sPt s (va_up (zPt s) c (zNow s + 2 ^ zPf s c))
def wtS (s : St) (c : Nat) : St := sPw s (va_up (zPw s) c 1)
def stlS (s : St) (c o : Nat) : St :=
  if o = 0 then (if zLk (clS s c) (mOf c) = 0 then finS (clS s c) (mOf c) 1 else clS s c)
  else if o = 1 then (if zPf s c + 1 < 4 then puS (tmS (flS s c) c) c else finS (flS s c) (mOf c) 2)
  else if o = 2 then puS (wtS s c) c else finS s (mOf c) 2
def ackS (s : St) (l o : Nat) : St := if zSt s (mOf ((zRw s (2 * l + 1)).getD 0 0)) = 0 then stlS (rmS s l) ((zRw s (2 * l + 1)).getD 0 0) o else rmS s l
/-- a message that waits has no part that failed four times -/
def Inf (s : St) : Prop := ∀ m, m < zMc s → zSt s m = 0 → ∀ p, p < npL (zMs s m) → zPf s (100 + 10 * m + p) ≤ 3
/-- a part on its own: in no row -/
def Lon (s : St) (c : Nat) : Prop := InRow s (zRc s (mOf c) % 3) c ∧ zSt s (mOf c) = 0 ∧ ∀ l, l < 3 → c ∉ zRw s (2 * l) ∧ c ∉ zRw s (2 * l + 1)
theorem inr_eq {s : St} {l c : Nat} (hI : Inv s) (h : InRow s l c) : mOf c < zMc s ∧ pOf c < npL (zMs s (mOf c)) ∧ pOf c < 6 ∧ c = 100 + 10 * mOf c + pOf c ∧ zRc s (mOf c) % 3 = l ∧ (zSt s (mOf c) = 0 → (zLk s (mOf c)).testBit (pOf c) = true) := by
  obtain ⟨m, p, h1, h2, h3, h4, h5⟩ := h
  have hl9 := (npL_spec (hI.2.2.2.2.2.1 m h1).2.1).1
  have e1 : mOf c = m := by rw [h3]; exact mOf_c (by omega)
  have e2 : pOf c = p := by rw [h3]; exact pOf_c (by omega)
  rw [e1, e2]
  exact ⟨h1, h2, by omega, h3, h4, h5⟩
theorem nd_len : ∀ (n : Nat) {L : List Nat}, L.Nodup → (∀ x ∈ L, x < n) → L.length ≤ n
  | 0, [], _, _ => Nat.le_refl _
  | 0, a :: l, _, h => absurd (h a (by simp)) (by omega)
  | n + 1, L, hn, h => by
    have h1 : (L.erase n).length ≤ n := nd_len n (hn.erase n) (fun x hx => by
      have h2 := (hn.mem_erase_iff).mp hx
      have := h x h2.2
      have := h2.1
      omega)
    rw [List.length_erase] at h1
    split at h1 <;> omega
theorem row_len {s : St} {l : Nat} {L : List Nat} (hI : Inv s) (hn : L.Nodup) (h : ∀ c ∈ L, InRow s l c) : L.length ≤ 6 * zMc s := by
  have h1 := nd_len (6 * zMc s) (L := L.map (fun c => 6 * mOf c + pOf c)) (by
    refine List.pairwise_map.mpr (List.Pairwise.imp_of_mem (fun {a b} ha hb hne => ?_) hn)
    have h2 := inr_eq hI (h a ha)
    have h3 := inr_eq hI (h b hb)
    intro e
    have e : 6 * mOf a + pOf a = 6 * mOf b + pOf b := e
    exact hne (by omega)) (fun x hx => by
    obtain ⟨c, hc, rfl⟩ := List.mem_map.mp hx
    have h2 := inr_eq hI (h c hc)
    omega)
  rwa [List.length_map] at h1
theorem nd_app {A B : List Nat} {c : Nat} (h : (A ++ B).Nodup) (ha : c ∉ A) (hb : c ∉ B) : (A ++ [c] ++ B).Nodup := by
  have hp : (A ++ [c] ++ B).Perm (c :: (A ++ B)) := by
    rw [List.append_assoc]
    exact List.perm_middle
  refine hp.nodup_iff.mpr (List.nodup_cons.mpr ⟨fun hm => ?_, h⟩)
  rcases List.mem_append.mp hm with h | h
  · exact ha h
  · exact hb h
theorem puS_row (s : St) (c r : Nat) : zRw (puS s c) r = if r = 2 * (zRc s (mOf c) % 3) then zRw s r ++ [c] else zRw s r := by
  show va_up (zRw s) _ _ r = _
  by_cases e : r = 2 * (zRc s (mOf c) % 3)
  · subst e; rw [up_s, if_pos rfl]
  · rw [up_n e, if_neg e]
theorem inv_pu {s : St} {c : Nat} (hI : Inv s) (hL : Lon s c) : Inv (puS s c) := by
  obtain ⟨i1, i2, i3, i4, i5, i6, i7, i8, i9, i10⟩ := hI
  refine ⟨i1, i2, i3, i4, i5, i6, fun l hl => ?_, i8, i9, i10⟩
  obtain ⟨j1, j2, j3, j4, j5, j6, j7⟩ := i7 l hl
  rw [puS_row, puS_row, if_neg (show ¬ (2 * l + 1 = 2 * (zRc s (mOf c) % 3)) by omega)]
  by_cases e : 2 * l = 2 * (zRc s (mOf c) % 3)
  · have el : zRc s (mOf c) % 3 = l := by omega
    rw [if_pos e]
    refine ⟨j1, j2, j3, j4, nd_app j5 (hL.2.2 l hl).1 (hL.2.2 l hl).2, fun x hx => ?_, j7⟩
    rcases List.mem_append.mp hx with h | h
    · exact j6 x h
    · rw [List.mem_singleton.mp h]; exact ⟨el ▸ hL.1, hL.2.1⟩
  · rw [if_neg e]; exact ⟨j1, j2, j3, j4, j5, j6, j7⟩
theorem inv_wt {s : St} {c : Nat} (hI : Inv s) (hL : Lon s c) : Inv (wtS s c) := by
  obtain ⟨i1, i2, i3, i4, i5, i6, i7, i8, i9, i10⟩ := hI
  refine ⟨i1, i2, i3, i4, i5, fun m hm => ?_, fun l hl => ?_, i8, i9, i10⟩
  · obtain ⟨j1, j2, j3, j4, j5, j6, j7, j8⟩ := i6 m hm
    refine ⟨j1, j2, j3, j4, j5, j6, j7, fun p hp => ⟨(j8 p hp).1, (j8 p hp).2.1, ?_⟩⟩
    show va_up (zPw s) c 1 _ ≤ 1
    by_cases e : 100 + 10 * m + p = c
    · rw [e, up_s]; exact Nat.le_refl _
    · rw [up_n e]; exact (j8 p hp).2.2
  · obtain ⟨j1, j2, j3, j4, j5, j6, j7⟩ := i7 l hl
    refine ⟨j1, j2, j3, j4, j5, j6, fun x hx => ⟨(j7 x hx).1, ?_⟩⟩
    show va_up (zPw s) c 1 x = 0
    rw [up_n (fun e : x = c => (hL.2.2 l hl).2 (by rw [← e]; exact hx))]
    exact (j7 x hx).2
theorem inv_fl {s : St} {c : Nat} (hI : Inv s) (hf : zPf s c ≤ 3) : Inv (flS s c) := by
  obtain ⟨i1, i2, i3, i4, i5, i6, i7, i8, i9, i10⟩ := hI
  refine ⟨i1, i2, i3, i4, i5, fun m hm => ?_, i7, i8, i9, i10⟩
  obtain ⟨j1, j2, j3, j4, j5, j6, j7, j8⟩ := i6 m hm
  refine ⟨j1, j2, j3, j4, j5, j6, j7, fun p hp => ⟨?_, (j8 p hp).2⟩⟩
  show va_up (zPf s) c (zPf s c + 1) _ ≤ 4
  by_cases e : 100 + 10 * m + p = c
  · rw [e, up_s]; omega
  · rw [up_n e]; exact (j8 p hp).1
theorem inv_tm {s : St} {c : Nat} (hI : Inv s) (hf : zPf s c ≤ 3) : Inv (tmS s c) := by
  obtain ⟨i1, i2, i3, i4, i5, i6, i7, i8, i9, i10⟩ := hI
  refine ⟨i1, i2, i3, i4, i5, fun m hm => ?_, i7, i8, i9, i10⟩
  obtain ⟨j1, j2, j3, j4, j5, j6, j7, j8⟩ := i6 m hm
  refine ⟨j1, j2, j3, j4, j5, j6, j7, fun p hp => ⟨(j8 p hp).1, ?_, (j8 p hp).2.2⟩⟩
  show va_up (zPt s) c (zNow s + 2 ^ zPf s c) _ ≤ 300000
  by_cases e : 100 + 10 * m + p = c
  · have h8 : 2 ^ zPf s c ≤ 2 ^ 3 := Nat.pow_le_pow_right (by decide) hf
    rw [e, up_s]; omega
  · rw [up_n e]; exact (j8 p hp).2.1
theorem inv_cl {s : St} {c : Nat} (hI : Inv s) (hL : Lon s c) : Inv (clS s c) := by
  have hI0 := hI
  obtain ⟨i1, i2, i3, i4, i5, i6, i7, i8, i9, i10⟩ := hI
  have hc0 := inr_eq hI0 hL.1
  have hin : ∀ {l x}, l < 3 → (x ∈ zRw s (2 * l) ∨ x ∈ zRw s (2 * l + 1)) → InRow s l x → InRow (clS s c) l x := fun {l x} hl hx h => by
    have h0 := inr_eq hI0 h
    refine ⟨mOf x, pOf x, h0.1, h0.2.1, h0.2.2.2.1, h0.2.2.2.2.1, fun hst => ?_⟩
    show (va_up (zLk s) (mOf c) (clrB (zLk s (mOf c)) (pOf c)) (mOf x)).testBit (pOf x) = true
    by_cases e : mOf x = mOf c
    · rw [e, up_s]
      have hne : pOf x ≠ pOf c := fun e2 => by
        have : x = c := by omega
        rcases hx with hx | hx
        · exact (hL.2.2 l hl).1 (this ▸ hx)
        · exact (hL.2.2 l hl).2 (this ▸ hx)
      have hlk : zLk s (mOf c) < 64 := Nat.lt_of_lt_of_le (i6 (mOf c) hc0.1).2.2.2.2.2.2.1 (Nat.pow_le_pow_right (by decide) (npL_spec (i6 (mOf c) hc0.1).2.1).1)
      rw [clr_ts _ hlk _ hc0.2.2.1 _ h0.2.2.1]
      simp only [hne, ne_eq, not_false_eq_true, decide_true, Bool.true_and]
      rw [← e]
      exact h0.2.2.2.2.2 hst
    · rw [up_n e]; exact h0.2.2.2.2.2 hst
  refine ⟨i1, i2, i3, i4, i5, fun m hm => ?_, fun l hl => ?_, i8, i9, i10⟩
  · obtain ⟨j1, j2, j3, j4, j5, j6, j7, j8⟩ := i6 m hm
    refine ⟨j1, j2, j3, j4, j5, j6, ?_, j8⟩
    show va_up (zLk s) (mOf c) _ m < _
    by_cases e : m = mOf c
    · subst e; rw [up_s]; exact Nat.lt_of_le_of_lt (clr_le _ _) j7
    · rw [up_n e]; exact j7
  · obtain ⟨j1, j2, j3, j4, j5, j6, j7⟩ := i7 l hl
    exact ⟨j1, j2, j3, j4, j5, fun x hx => ⟨hin hl (Or.inl hx) (j6 x hx).1, (j6 x hx).2⟩, fun x hx => ⟨hin hl (Or.inr hx) (j7 x hx).1, (j7 x hx).2⟩⟩
theorem rmS_row (s : St) (l r : Nat) : zRw (rmS s l) r = if r = 2 * l + 1 then (zRw s r).eraseIdx 0 else zRw s r := by
  show va_up (zRw s) _ _ r = _
  by_cases e : r = 2 * l + 1
  · subst e; rw [up_s, if_pos rfl]
  · rw [up_n e, if_neg e]
theorem inv_rm {s : St} {l : Nat} (hI : Inv s) : Inv (rmS s l) := by
  obtain ⟨i1, i2, i3, i4, i5, i6, i7, i8, i9, i10⟩ := hI
  refine ⟨i1, i2, i3, i4, i5, i6, fun k hk => ?_, i8, i9, i10⟩
  obtain ⟨j1, j2, j3, j4, j5, j6, j7⟩ := i7 k hk
  rw [rmS_row, rmS_row, if_neg (show ¬ (2 * k = 2 * l + 1) by omega)]
  have hsub : (if 2 * k + 1 = 2 * l + 1 then (zRw s (2 * k + 1)).eraseIdx 0 else zRw s (2 * k + 1)).Sublist (zRw s (2 * k + 1)) := by
    split
    · exact List.eraseIdx_sublist _ _
    · exact List.Sublist.refl _
  exact ⟨j1, j2, j3, j4, List.Nodup.sublist ((List.Sublist.refl _).append hsub) j5, j6, fun x hx => j7 x (hsub.subset hx)⟩
theorem lon_rm {s : St} {l c : Nat} (hI : Inv s) (hl : l < 3) (h : (zRw s (2 * l + 1))[0]? = some c) (h0 : zSt s (mOf c) = 0) : Lon (rmS s l) c := by
  have hm := List.mem_of_getElem? h
  have j := hI.2.2.2.2.2.2.1 l hl
  have hr := (j.2.2.2.2.2.2 c hm).1
  have hr2 := inr_eq hI hr
  refine ⟨by show InRow s (zRc s (mOf c) % 3) c; rw [hr2.2.2.2.2.1]; exact hr, h0, fun k hk => ?_⟩
  rw [rmS_row, rmS_row, if_neg (show ¬ (2 * k = 2 * l + 1) by omega)]
  have hk2 := hI.2.2.2.2.2.2.1 k hk
  by_cases e : k = l
  · subst e
    rw [if_pos rfl]
    have hnd := (List.nodup_append.mp j.2.2.2.2.1)
    refine ⟨fun hc => hnd.2.2 c hc c hm rfl, fun hc => ?_⟩
    have := ((er_perm h).nodup_iff.mp hnd.2.1)
    exact (List.nodup_cons.mp this).1 hc
  · rw [if_neg (by omega)]
    refine ⟨fun hc => e ?_, fun hc => e ?_⟩
    · exact (inr_eq hI (hk2.2.2.2.2.2.1 c hc).1).2.2.2.2.1.symm.trans hr2.2.2.2.2.1
    · exact (inr_eq hI (hk2.2.2.2.2.2.2 c hc).1).2.2.2.2.1.symm.trans hr2.2.2.2.2.1
theorem inv_stl {s : St} {c o : Nat} (hI : Inv s) (hL : Lon s c) (hf : zPf s c ≤ 3) : Inv (stlS s c o) := by
  have hc := (inr_eq hI hL.1).1
  unfold stlS
  split
  · split
    · exact inv_fin (inv_cl hI hL) hc hL.2.1 (by decide) (by decide)
    · exact inv_cl hI hL
  · split
    · split
      · exact inv_pu (inv_tm (inv_fl hI hf) (by show va_up (zPf s) c _ c ≤ 3; rw [up_s]; omega)) hL
      · exact inv_fin (inv_fl hI hf) hc hL.2.1 (by decide) (by decide)
    · split
      · exact inv_pu (inv_wt hI hL) hL
      · exact inv_fin hI hc hL.2.1 (by decide) (by decide)
theorem inf_fin {s : St} {m how : Nat} (hh : how ≠ 0) (h : ∀ k, k ≠ m → k < zMc s → zSt s k = 0 → ∀ p, p < npL (zMs s k) → zPf s (100 + 10 * k + p) ≤ 3) : Inf (finS s m how) := fun k hk h0 p hp => by
  by_cases e : k = m
  · have h0 : va_up (zSt s) m how k = 0 := h0
    rw [e, up_s] at h0
    exact absurd h0 hh
  · have h0 : va_up (zSt s) m how k = 0 := h0
    rw [up_n e] at h0
    exact h k e hk h0 p hp
theorem inf_exp {s : St} (h : Inf s) : ∀ i, Inf (expN s i)
  | 0 => h
  | i + 1 => by
    unfold expN
    split
    · exact inf_fin (by decide) (fun k _ h1 h2 p hp => inf_exp h i k h1 h2 p hp)
    · exact inf_exp h i
theorem inf_lks {s : St} (h : Inf s) : ∀ i, Inf (lksN s i).1
  | 0 => h
  | i + 1 => inf_lks h i
theorem inf_tick {s : St} (h : Inf s) : Inf (tickS s).1 := by
  unfold tickS
  have h1 : Inf (sNow s (zNow s + 1)) := h
  exact inf_lks (inf_exp h1 _) _
theorem inf_pas {s : St} (h : Inf s) : ∀ i, Inf (pasN s i).1
  | 0 => h
  | i + 1 => inf_tick (inf_pas h i)
theorem inf_stl {s : St} {c o : Nat} (hI : Inv s) (hL : Lon s c) (h : Inf s) : Inf (stlS s c o) := by
  have hc0 := inr_eq hI hL.1
  have hne : ∀ {k p}, k ≠ mOf c → k < zMc s → p < npL (zMs s k) → 100 + 10 * k + p ≠ c := fun {k p} e hk hp ec => by
    have hl9 := (npL_spec (hI.2.2.2.2.2.1 k hk).2.1).1
    exact e ((mOf_c (m := k) (p := p) (by omega)).symm.trans (by rw [ec]))
  unfold stlS
  split
  · split
    · exact inf_fin (by decide) (fun k _ h1 h2 p hp => h k h1 h2 p hp)
    · exact h
  · split
    · split
      · rename_i hlt
        intro k hk hk0 p hp
        show va_up (zPf s) c (zPf s c + 1) _ ≤ 3
        by_cases e : 100 + 10 * k + p = c
        · rw [e, up_s]; omega
        · rw [up_n e]; exact h k hk hk0 p hp
      · refine inf_fin (by decide) (fun k e h1 h2 p hp => ?_)
        show va_up (zPf s) c (zPf s c + 1) _ ≤ 3
        rw [up_n (hne e h1 hp)]
        exact h k h1 h2 p hp
    · split
      · exact h
      · exact inf_fin (by decide) (fun k _ h1 h2 p hp => h k h1 h2 p hp)
theorem ack_ok {s : St} {l o : Nat} (hI : Inv s) (hF : Inf s) (hl : l < 3) (hc : 0 < (zRw s (2 * l + 1)).length) : Inv (ackS s l o) ∧ Inf (ackS s l o) := by
  have hg : (zRw s (2 * l + 1))[0]? = some ((zRw s (2 * l + 1)).getD 0 0) := by rw [List.getD_eq_getElem?_getD, List.getElem?_eq_getElem hc]; rfl
  have hin := inr_eq hI ((hI.2.2.2.2.2.2.1 l hl).2.2.2.2.2.2 _ (List.mem_of_getElem? hg)).1
  unfold ackS
  split
  · rename_i h0
    have hL := lon_rm hI hl hg h0
    have hf : zPf s ((zRw s (2 * l + 1)).getD 0 0) ≤ 3 := by
      have := hF _ hin.1 h0 _ hin.2.1
      rwa [← hin.2.2.2.1] at this
    exact ⟨inv_stl (inv_rm hI) hL hf, inf_stl (inv_rm hI) hL hF⟩
  · exact ⟨inv_rm hI, hF⟩
