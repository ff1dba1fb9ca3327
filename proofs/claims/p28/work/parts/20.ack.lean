/-! ===== the acknowledgement ===== -/
theorem clr_ts : ∀ w, w < 64 → ∀ p, p < 6 → ∀ q, q < 6 → (clrB w p).testBit q = (decide (q ≠ p) && w.testBit q) := by decide +kernel
theorem clr_le (w p : Nat) : clrB w p ≤ w := by
  unfold clrB
  split
  · exact Nat.sub_le _ _
  · exact Nat.le_refl _
/-- a part leaves the row of the sent; a part joins its link's queue -/
def rmS (s : St) (l : Nat) : St := sRw s (va_up (zRw s) (2 * l + 1) ((zRw s (2 * l + 1)).eraseIdx 0))
def puS (s : St) (c : Nat) : St := sRw s (va_up (zRw s) (2 * (zRc s (mOf c) % 3)) (zRw s (2 * (zRc s (mOf c) % 3)) ++ [c]))
def clS (s : St) (c : Nat) : St := sLk s (va_up (zLk s) (mOf c) (clrB (zLk s (mOf c)) (pOf c)))
def flS (s : St) (c : Nat) : St := sPf s (va_up (zPf s) c (zPf s c + 1))
def tmS (s : St) (c : Nat) : St := sPt s (va_up (zPt s) c (zNow s + 2 ^ zPf s c))
def wtS (s : St) (c : Nat) : St := sPw s (va_up (zPw s) c 1)
def stlS (s : St) (c o : Nat) : St :=
  if o = 0 then (if zLk (clS s c) (mOf c) = 0 then finS (clS s c) (mOf c) 1 else clS s c)
  else if o = 1 then (if zPf s c + 1 < 4 then puS (tmS (flS s c) c) c else finS (flS s c) (mOf c) 2)
  else if o = 2 then puS (wtS s c) c else finS s (mOf c) 2
def ackS (s : St) (l o : Nat) : St := if zSt s (mOf ((zRw s (2 * l + 1)).getD 0 0)) = 0 then stlS (rmS s l) ((zRw s (2 * l + 1)).getD 0 0) o else rmS s l
/-- a message that waits has no part that failed four times -/
def Inf (s : St) : Prop := ∀ m, m < zMc s → zSt s m = 0 → ∀ p, p < npL (zMs s m) → zPf s (100 + 10 * m + p) ≤ 3
/-- a part on its own: in no row -/
def Lon (s : St) (c : Nat) : Prop := InRow s (zRc s (mOf c) % 3) c ∧ zSt s (mOf c) = 0 ∧ ∀ l, l < 3 → c ∉ zRw s (2 * l) ∧ c ∉ zRw s (2 * l + 1)
theorem inr_eq {s : St} {l c : Nat} (hI : Inv s) (h : InRow s l c) : mOf c < zMc s ∧ pOf c < npL (zMs s (mOf c)) ∧ pOf c < 6 ∧ c = 100 + 10 * mOf c + pOf c ∧ zRc s (mOf c) % 3 = l ∧ (zSt s (mOf c) = 0 → (zLk s (mOf c)).testBit (pOf c) = true) := by
  obtain ⟨m, p, h1, h2, h3, h4, h5⟩ := h
  have hl9 := (npL_spec (hI.2.2.2.2.2.1 m h1).2.1).1
  have e1 : mOf c = m := by rw [h3]; exact mOf_c (by omega)
  have e2 : pOf c = p := by rw [h3]; exact pOf_c (by omega)
  rw [e1, e2]
  exact ⟨h1, h2, by omega, h3, h4, h5⟩
theorem nd_len : ∀ (n : Nat) {L : List Nat}, L.Nodup → (∀ x ∈ L, x < n) → L.length ≤ n
  | 0, [], _, _ => Nat.le_refl _
  | 0, a :: l, _, h => absurd (h a (by simp)) (by omega)
  | n + 1, L, hn, h => by
    have h1 : (L.erase n).length ≤ n := nd_len n (hn.erase n) (fun x hx => by
      have h2 := (hn.mem_erase_iff).mp hx
      have := h x h2.2
      have := h2.1
      omega)
    rw [List.length_erase] at h1
    split at h1 <;> omega
theorem row_len {s : St} {l : Nat} {L : List Nat} (hI : Inv s) (hn : L.Nodup) (h : ∀ c ∈ L, InRow s l c) : L.length ≤ 6 * zMc s := by
  have h1 := nd_len (6 * zMc s) (L := L.map (fun c => 6 * mOf c + pOf c)) (by
    refine List.pairwise_map.mpr (List.Pairwise.imp_of_mem (fun {a b} ha hb hne => ?_) hn)
    have h2 := inr_eq hI (h a ha)
    have h3 := inr_eq hI (h b hb)
    intro e
    have e : 6 * mOf a + pOf a = 6 * mOf b + pOf b := e
    exact hne (by omega)) (fun x hx => by
    obtain ⟨c, hc, rfl⟩ := List.mem_map.mp hx
    have h2 := inr_eq hI (h c hc)
    omega)
  rwa [List.length_map] at h1
theorem nd_app {A B : List Nat} {c : Nat} (h : (A ++ B).Nodup) (ha : c ∉ A) (hb : c ∉ B) : (A ++ [c] ++ B).Nodup := by
  have hp : (A ++ [c] ++ B).Perm (c :: (A ++ B)) := by
    rw [List.append_assoc]
    exact List.perm_middle
  refine hp.nodup_iff.mpr (List.nodup_cons.mpr ⟨fun hm => ?_, h⟩)
  rcases List.mem_append.mp hm with h | h
  · exact ha h
  · exact hb h
theorem puS_row (s : St) (c r : Nat) : zRw (puS s c) r = if r = 2 * (zRc s (mOf c) % 3) then zRw s r ++ [c] else zRw s r := by
  show va_up (zRw s) _ _ r = _
  by_cases e : r = 2 * (zRc s (mOf c) % 3)
  · subst e; rw [up_s, if_pos rfl]
  · rw [up_n e, if_neg e]
theorem inv_pu {s : St} {c : Nat} (hI : Inv s) (hL : Lon s c) : Inv (puS s c) := by
  obtain ⟨i1, i2, i3, i4, i5, i6, i7, i8, i9, i10⟩ := hI
  refine ⟨i1, i2, i3, i4, i5, i6, fun l hl => ?_, i8, i9, i10⟩
  obtain ⟨j1, j2, j3, j4, j5, j6, j7⟩ := i7 l hl
  rw [puS_row, puS_row, if_neg (show ¬ (2 * l + 1 = 2 * (zRc s (mOf c) % 3)) by omega)]
  by_cases e : 2 * l = 2 * (zRc s (mOf c) % 3)
  · have el : zRc s (mOf c) % 3 = l := by omega
    rw [if_pos e]
    refine ⟨j1, j2, j3, j4, nd_app j5 (hL.2.2 l hl).1 (hL.2.2 l hl).2, fun x hx => ?_, j7⟩
    rcases List.mem_append.mp hx with h | h
    · exact j6 x h
    · rw [List.mem_singleton.mp h]; exact ⟨el ▸ hL.1, hL.2.1⟩
  · rw [if_neg e]; exact ⟨j1, j2, j3, j4, j5, j6, j7⟩
theorem inv_wt {s : St} {c : Nat} (hI : Inv s) (hL : Lon s c) : Inv (wtS s c) := by
  obtain ⟨i1, i2, i3, i4, i5, i6, i7, i8, i9, i10⟩ := hI
  refine ⟨i1, i2, i3, i4, i5, fun m hm => ?_, fun l hl => ?_, i8, i9, i10⟩
  · obtain ⟨j1, j2, j3, j4, j5, j6, j7, j8⟩ := i6 m hm
    refine ⟨j1, j2, j3, j4, j5, j6, j7, fun p hp => ⟨(j8 p hp).1, (j8 p hp).2.1, ?_⟩⟩
    show va_up (zPw s) c 1 _ ≤ 1
    by_cases e : 100 + 10 * m + p = c
    · rw [e, up_s]; exact Nat.le_refl _
    · rw [up_n e]; exact (j8 p hp).2.2
  · obtain ⟨j1, j2, j3, j4, j5, j6, j7⟩ := i7 l hl
    refine ⟨j1, j2, j3, j4, j5, j6, fun x hx => ⟨(j7 x hx).1, ?_⟩⟩
    show va_up (zPw s) c 1 x = 0
    rw [up_n (fun e : x = c => (hL.2.2 l hl).2 (by rw [← e]; exact hx))]
    exact (j7 x hx).2
theorem inv_fl {s : St} {c : Nat} (hI : Inv s) (hf : zPf s c ≤ 3) : Inv (flS s c) := by
  obtain ⟨i1, i2, i3, i4, i5, i6, i7, i8, i9, i10⟩ := hI
  refine ⟨i1, i2, i3, i4, i5, fun m hm => ?_, i7, i8, i9, i10⟩
  obtain ⟨j1, j2, j3, j4, j5, j6, j7, j8⟩ := i6 m hm
  refine ⟨j1, j2, j3, j4, j5, j6, j7, fun p hp => ⟨?_, (j8 p hp).2⟩⟩
  show va_up (zPf s) c (zPf s c + 1) _ ≤ 4
  by_cases e : 100 + 10 * m + p = c
  · rw [e, up_s]; omega
  · rw [up_n e]; exact (j8 p hp).1
theorem inv_tm {s : St} {c : Nat} (hI : Inv s) (hf : zPf s c ≤ 3) : Inv (tmS s c) := by
  obtain ⟨i1, i2, i3, i4, i5, i6, i7, i8, i9, i10⟩ := hI
  refine ⟨i1, i2, i3, i4, i5, fun m hm => ?_, i7, i8, i9, i10⟩
  obtain ⟨j1, j2, j3, j4, j5, j6, j7, j8⟩ := i6 m hm
  refine ⟨j1, j2, j3, j4, j5, j6, j7, fun p hp => ⟨(j8 p hp).1, ?_, (j8 p hp).2.2⟩⟩
  show va_up (zPt s) c (zNow s + 2 ^ zPf s c) _ ≤ 300000
  by_cases e : 100 + 10 * m + p = c
  · have h8 : 2 ^ zPf s c ≤ 2 ^ 3 := Nat.pow_le_pow_right (by decide) hf
    rw [e, up_s]; omega
  · rw [up_n e]; exact (j8 p hp).2.1
theorem inv_cl {s : St} {c : Nat} (hI : Inv s) (hL : Lon s c) : Inv (clS s c) := by
  have hI0 := hI
  obtain ⟨i1, i2, i3, i4, i5, i6, i7, i8, i9, i10⟩ := hI
  have hc0 := inr_eq hI0 hL.1
  have hin : ∀ {l x}, l < 3 → (x ∈ zRw s (2 * l) ∨ x ∈ zRw s (2 * l + 1)) → InRow s l x → InRow (clS s c) l x := fun {l x} hl hx h => by
    have h0 := inr_eq hI0 h
    refine ⟨mOf x, pOf x, h0.1, h0.2.1, h0.2.2.2.1, h0.2.2.2.2.1, fun hst => ?_⟩
    show (va_up (zLk s) (mOf c) (clrB (zLk s (mOf c)) (pOf c)) (mOf x)).testBit (pOf x) = true
    by_cases e : mOf x = mOf c
    · rw [e, up_s]
      have hne : pOf x ≠ pOf c := fun e2 => by
        have : x = c := by omega
        rcases hx with hx | hx
        · exact (hL.2.2 l hl).1 (this ▸ hx)
        · exact (hL.2.2 l hl).2 (this ▸ hx)
      have hlk : zLk s (mOf c) < 64 := Nat.lt_of_lt_of_le (i6 (mOf c) hc0.1).2.2.2.2.2.2.1 (Nat.pow_le_pow_right (by decide) (npL_spec (i6 (mOf c) hc0.1).2.1).1)
      rw [clr_ts _ hlk _ hc0.2.2.1 _ h0.2.2.1]
      simp only [hne, ne_eq, not_false_eq_true, decide_true, Bool.true_and]
      rw [← e]
      exact h0.2.2.2.2.2 hst
    · rw [up_n e]; exact h0.2.2.2.2.2 hst
  refine ⟨i1, i2, i3, i4, i5, fun m hm => ?_, fun l hl => ?_, i8, i9, i10⟩
  · obtain ⟨j1, j2, j3, j4, j5, j6, j7, j8⟩ := i6 m hm
    refine ⟨j1, j2, j3, j4, j5, j6, ?_, j8⟩
    show va_up (zLk s) (mOf c) _ m < _
    by_cases e : m = mOf c
    · subst e; rw [up_s]; exact Nat.lt_of_le_of_lt (clr_le _ _) j7
    · rw [up_n e]; exact j7
  · obtain ⟨j1, j2, j3, j4, j5, j6, j7⟩ := i7 l hl
    exact ⟨j1, j2, j3, j4, j5, fun x hx => ⟨hin hl (Or.inl hx) (j6 x hx).1, (j6 x hx).2⟩, fun x hx => ⟨hin hl (Or.inr hx) (j7 x hx).1, (j7 x hx).2⟩⟩
theorem rmS_row (s : St) (l r : Nat) : zRw (rmS s l) r = if r = 2 * l + 1 then (zRw s r).eraseIdx 0 else zRw s r := by
  show va_up (zRw s) _ _ r = _
  by_cases e : r = 2 * l + 1
  · subst e; rw [up_s, if_pos rfl]
  · rw [up_n e, if_neg e]
theorem inv_rm {s : St} {l : Nat} (hI : Inv s) : Inv (rmS s l) := by
  obtain ⟨i1, i2, i3, i4, i5, i6, i7, i8, i9, i10⟩ := hI
  refine ⟨i1, i2, i3, i4, i5, i6, fun k hk => ?_, i8, i9, i10⟩
  obtain ⟨j1, j2, j3, j4, j5, j6, j7⟩ := i7 k hk
  rw [rmS_row, rmS_row, if_neg (show ¬ (2 * k = 2 * l + 1) by omega)]
  have hsub : (if 2 * k + 1 = 2 * l + 1 then (zRw s (2 * k + 1)).eraseIdx 0 else zRw s (2 * k + 1)).Sublist (zRw s (2 * k + 1)) := by
    split
    · exact List.eraseIdx_sublist _ _
    · exact List.Sublist.refl _
  exact ⟨j1, j2, j3, j4, List.Nodup.sublist ((List.Sublist.refl _).append hsub) j5, j6, fun x hx => j7 x (hsub.subset hx)⟩
theorem lon_rm {s : St} {l c : Nat} (hI : Inv s) (hl : l < 3) (h : (zRw s (2 * l + 1))[0]? = some c) (h0 : zSt s (mOf c) = 0) : Lon (rmS s l) c := by
  have hm := List.mem_of_getElem? h
  have j := hI.2.2.2.2.2.2.1 l hl
  have hr := (j.2.2.2.2.2.2 c hm).1
  have hr2 := inr_eq hI hr
  refine ⟨by show InRow s (zRc s (mOf c) % 3) c; rw [hr2.2.2.2.2.1]; exact hr, h0, fun k hk => ?_⟩
  rw [rmS_row, rmS_row, if_neg (show ¬ (2 * k = 2 * l + 1) by omega)]
  have hk2 := hI.2.2.2.2.2.2.1 k hk
  by_cases e : k = l
  · subst e
    rw [if_pos rfl]
    have hnd := (List.nodup_append.mp j.2.2.2.2.1)
    refine ⟨fun hc => hnd.2.2 c hc c hm rfl, fun hc => ?_⟩
    have := ((er_perm h).nodup_iff.mp hnd.2.1)
    exact (List.nodup_cons.mp this).1 hc
  · rw [if_neg (by omega)]
    refine ⟨fun hc => e ?_, fun hc => e ?_⟩
    · exact (inr_eq hI (hk2.2.2.2.2.2.1 c hc).1).2.2.2.2.1.symm.trans hr2.2.2.2.2.1
    · exact (inr_eq hI (hk2.2.2.2.2.2.2 c hc).1).2.2.2.2.1.symm.trans hr2.2.2.2.2.1
theorem inv_stl {s : St} {c o : Nat} (hI : Inv s) (hL : Lon s c) (hf : zPf s c ≤ 3) : Inv (stlS s c o) := by
  have hc := (inr_eq hI hL.1).1
  unfold stlS
  split
  · split
    · exact inv_fin (inv_cl hI hL) hc hL.2.1 (by decide) (by decide)
    · exact inv_cl hI hL
  · split
    · split
      · exact inv_pu (inv_tm (inv_fl hI hf) (by show va_up (zPf s) c _ c ≤ 3; rw [up_s]; omega)) hL
      · exact inv_fin (inv_fl hI hf) hc hL.2.1 (by decide) (by decide)
    · split
      · exact inv_pu (inv_wt hI hL) hL
      · exact inv_fin hI hc hL.2.1 (by decide) (by decide)
theorem inf_fin {s : St} {m how : Nat} (hh : how ≠ 0) (h : ∀ k, k ≠ m → k < zMc s → zSt s k = 0 → ∀ p, p < npL (zMs s k) → zPf s (100 + 10 * k + p) ≤ 3) : Inf (finS s m how) := fun k hk h0 p hp => by
  by_cases e : k = m
  · have h0 : va_up (zSt s) m how k = 0 := h0
    rw [e, up_s] at h0
    exact absurd h0 hh
  · have h0 : va_up (zSt s) m how k = 0 := h0
    rw [up_n e] at h0
    exact h k e hk h0 p hp
theorem inf_exp {s : St} (h : Inf s) : ∀ i, Inf (expN s i)
  | 0 => h
  | i + 1 => by
    unfold expN
    split
    · exact inf_fin (by decide) (fun k _ h1 h2 p hp => inf_exp h i k h1 h2 p hp)
    · exact inf_exp h i
theorem inf_lks {s : St} (h : Inf s) : ∀ i, Inf (lksN s i).1
  | 0 => h
  | i + 1 => inf_lks h i
theorem inf_tick {s : St} (h : Inf s) : Inf (tickS s).1 := by
  unfold tickS
  have h1 : Inf (sNow s (zNow s + 1)) := h
  exact inf_lks (inf_exp h1 _) _
theorem inf_pas {s : St} (h : Inf s) : ∀ i, Inf (pasN s i).1
  | 0 => h
  | i + 1 => inf_tick (inf_pas h i)
theorem inf_stl {s : St} {c o : Nat} (hI : Inv s) (hL : Lon s c) (h : Inf s) : Inf (stlS s c o) := by
  have hc0 := inr_eq hI hL.1
  have hne : ∀ {k p}, k ≠ mOf c → k < zMc s → p < npL (zMs s k) → 100 + 10 * k + p ≠ c := fun {k p} e hk hp ec => by
    have hl9 := (npL_spec (hI.2.2.2.2.2.1 k hk).2.1).1
    exact e ((mOf_c (m := k) (p := p) (by omega)).symm.trans (by rw [ec]))
  unfold stlS
  split
  · split
    · exact inf_fin (by decide) (fun k _ h1 h2 p hp => h k h1 h2 p hp)
    · exact h
  · split
    · split
      · rename_i hlt
        intro k hk hk0 p hp
        show va_up (zPf s) c (zPf s c + 1) _ ≤ 3
        by_cases e : 100 + 10 * k + p = c
        · rw [e, up_s]; omega
        · rw [up_n e]; exact h k hk hk0 p hp
      · refine inf_fin (by decide) (fun k e h1 h2 p hp => ?_)
        show va_up (zPf s) c (zPf s c + 1) _ ≤ 3
        rw [up_n (hne e h1 hp)]
        exact h k h1 h2 p hp
    · split
      · exact h
      · exact inf_fin (by decide) (fun k _ h1 h2 p hp => h k h1 h2 p hp)
theorem ack_ok {s : St} {l o : Nat} (hI : Inv s) (hF : Inf s) (hl : l < 3) (hc : 0 < (zRw s (2 * l + 1)).length) : Inv (ackS s l o) ∧ Inf (ackS s l o) := by
  have hg : (zRw s (2 * l + 1))[0]? = some ((zRw s (2 * l + 1)).getD 0 0) := by rw [List.getD_eq_getElem?_getD, List.getElem?_eq_getElem hc]; rfl
  have hin := inr_eq hI ((hI.2.2.2.2.2.2.1 l hl).2.2.2.2.2.2 _ (List.mem_of_getElem? hg)).1
  unfold ackS
  split
  · rename_i h0
    have hL := lon_rm hI hl hg h0
    have hf : zPf s ((zRw s (2 * l + 1)).getD 0 0) ≤ 3 := by
      have := hF _ hin.1 h0 _ hin.2.1
      rwa [← hin.2.2.2.1] at this
    exact ⟨inv_stl (inv_rm hI) hL hf, inf_stl (inv_rm hI) hL hF⟩
  · exact ⟨inv_rm hI, hF⟩
theorem CRep.row1 {D : Dx} {ad : Nat → Nat} {F G : Fn} {s : St} {r : Nat} {A : List Nat} (hC : CRep D ad F s) (hr : r < 6) (g : RowAt D ad G (14 + r) (20 + r) A) (hK : ∀ x, x ∉ [14 + r, 20 + r] → G x = F x) : CRep D ad G (sRw s (va_up (zRw s) r A)) := by
  refine ⟨hC.1.kept (hK 0 (by simp; omega)), TxtK hC.2.1 (hK _ (by simp; omega)) (hK _ (by simp; omega)) (hK _ (by simp; omega)), hC.2.2.1.kept (hK _ (by simp; omega)), hC.2.2.2.1.kept (hK _ (by simp; omega)), hC.2.2.2.2.1.kept (hK _ (by simp; omega)), hC.2.2.2.2.2.1.kept (hK _ (by simp; omega)) (hK _ (by simp; omega)) (hK _ (by simp; omega)) (hK _ (by simp; omega)), hC.2.2.2.2.2.2.1.kept (fun l hl => hK _ (by simp; omega)), fun k hk => ?_, hC.2.2.2.2.2.2.2.2.1.kept (fun m hm => ⟨hK _ (by simp; omega), hK _ (by simp; omega), hK _ (by simp; omega)⟩), hC.2.2.2.2.2.2.2.2.2.1.kept (fun m hm p hp => hK _ (by simp; omega)), hC.2.2.2.2.2.2.2.2.2.2.kept (fun c h1 _ h => (hK c (by simp; omega)).trans h)⟩
  show RowAt D ad G _ _ (va_up (zRw s) r A k)
  by_cases e : k = r
  · subst e; rw [up_s]; exact g
  · rw [up_n e]; exact (hC.2.2.2.2.2.2.2.1 k hk).kept (hK _ (by simp; omega)) (hK _ (by simp; omega))
theorem CRep.lkw {D : Dx} {ad : Nat → Nat} {F G : Fn} {s : St} {m w : Nat} (hC : CRep D ad F s) (hI : Inv s) (hm : m < zMc s) (g : MsgAt G (30 + 3 * m) (nI m) (nI (zRc s m)) (nI (zEn s m)) (ad (11 + zRc s m % 3)) (ad (31 + 3 * m)) (ad (32 + 3 * m)) (nI (npL (zMs s m))) (nI (zSt s m)) (nI w)) (hK : ∀ x, x ≠ 30 + 3 * m → G x = F x) : CRep D ad G (sLk s (va_up (zLk s) m w)) := by
  have hmc := hI.2.1
  refine ⟨hC.1.kept (hK 0 (by omega)), TxtK hC.2.1 (hK _ (by omega)) (hK _ (by omega)) (hK _ (by omega)), hC.2.2.1.kept (hK _ (by omega)), hC.2.2.2.1.kept (hK _ (by omega)), hC.2.2.2.2.1.kept (hK _ (by omega)), hC.2.2.2.2.2.1.kept (hK _ (by omega)) (hK _ (by omega)) (hK _ (by omega)) (hK _ (by omega)), hC.2.2.2.2.2.2.1.kept (fun l hl => hK _ (by omega)), hC.2.2.2.2.2.2.2.1.kept (fun r hr => ⟨hK _ (by omega), hK _ (by omega)⟩), fun k hk => ?_, hC.2.2.2.2.2.2.2.2.2.1.kept (fun k hk p hp => hK _ (by omega)), fun k h1 h2 => ?_⟩
  · have hk : k < zMc s := hk
    have h1 := hC.2.2.2.2.2.2.2.2.1 k hk
    refine ⟨?_, h1.2.1.imp fun f hf => ⟨(hK _ (by omega)).trans hf.1, hf.2⟩, h1.2.2.imp fun f hf => ⟨(hK _ (by omega)).trans hf.1, hf.2⟩⟩
    show MsgAt G _ _ _ _ _ _ _ _ _ (nI (va_up (zLk s) m w k))
    by_cases e : k = m
    · subst e; rw [up_s]; exact g
    · rw [up_n e]; exact (hK _ (by omega)).trans h1.1
  · have h1 : zMc s ≤ k := h1
    have h3 := hC.2.2.2.2.2.2.2.2.2.2 k h1 h2
    exact ⟨(hK _ (by omega)).trans h3.1, (hK _ (by omega)).trans h3.2.1, (hK _ (by omega)).trans h3.2.2.1, fun p hp => (hK _ (by omega)).trans (h3.2.2.2 p hp)⟩
theorem CRep.prt1 {D : Dx} {ad : Nat → Nat} {F G : Fn} {s : St} {l c : Nat} {pf pt pw : Nat → Nat} (hC : CRep D ad F s) (hI : Inv s) (hin : InRow s l c) (g : G c = some (oB 2 [.ref (ad (30 + 3 * mOf c)), .int (nI (pOf c)), .int (nI (pf c)), .int (nI (pt c)), .int (nI (pw c))])) (h1 : ∀ x, x ≠ c → pf x = zPf s x ∧ pt x = zPt s x ∧ pw x = zPw s x) (hK : ∀ x, x ≠ c → G x = F x) : CRep D ad G (sPw (sPt (sPf s pf) pt) pw) := by
  have hmc := hI.2.1
  obtain ⟨k1, k2, k3, k4, k5, k6, k7⟩ := prt_at hC hI hin
  refine ⟨hC.1.kept (hK 0 (by omega)), TxtK hC.2.1 (hK _ (by omega)) (hK _ (by omega)) (hK _ (by omega)), hC.2.2.1.kept (hK _ (by omega)), hC.2.2.2.1.kept (hK _ (by omega)), hC.2.2.2.2.1.kept (hK _ (by omega)), hC.2.2.2.2.2.1.kept (hK _ (by omega)) (hK _ (by omega)) (hK _ (by omega)) (hK _ (by omega)), hC.2.2.2.2.2.2.1.kept (fun l hl => hK _ (by omega)), hC.2.2.2.2.2.2.2.1.kept (fun r hr => ⟨hK _ (by omega), hK _ (by omega)⟩), hC.2.2.2.2.2.2.2.2.1.kept (fun m hm => ⟨hK _ (by omega), hK _ (by omega), hK _ (by omega)⟩), fun m hm p hp => ?_, hC.2.2.2.2.2.2.2.2.2.2.kept (fun x _ _ h => (hK x (fun e => by rw [e, k7] at h; cases h)).trans h)⟩
  have hl9 := (npL_spec (hI.2.2.2.2.2.1 m hm).2.1).1
  have hp2 : p < npL (zMs s m) := hp
  show G _ = some (oB 2 [.ref (ad (30 + 3 * m)), .int (nI p), .int (nI (pf _)), .int (nI (pt _)), .int (nI (pw _))])
  by_cases e : 100 + 10 * m + p = c
  · have e1 : mOf c = m := by rw [← e]; exact mOf_c (by omega)
    have e2 : pOf c = p := by rw [← e]; exact pOf_c (by omega)
    rw [e]
    rw [e1, e2] at g
    exact g
  · rw [(h1 _ e).1, (h1 _ e).2.1, (h1 _ e).2.2]
    exact (hK _ e).trans (hC.2.2.2.2.2.2.2.2.2.1 m hm p hp)
theorem CRep.fl {D : Dx} {ad : Nat → Nat} {F G : Fn} {s : St} {l c : Nat} (hC : CRep D ad F s) (hI : Inv s) (hin : InRow s l c) (g : G c = some (oB 2 [.ref (ad (30 + 3 * mOf c)), .int (nI (pOf c)), .int (nI (zPf s c + 1)), .int (nI (zPt s c)), .int (nI (zPw s c))])) (hK : ∀ x, x ≠ c → G x = F x) : CRep D ad G (flS s c) := by
  unfold flS
  exact hC.prt1 (pf := va_up (zPf s) c (zPf s c + 1)) (pt := zPt s) (pw := zPw s) hI hin (by rw [up_s]; exact g) (fun x hx => ⟨up_n hx, rfl, rfl⟩) hK
theorem CRep.tm {D : Dx} {ad : Nat → Nat} {F G : Fn} {s : St} {l c : Nat} (hC : CRep D ad F s) (hI : Inv s) (hin : InRow s l c) (g : G c = some (oB 2 [.ref (ad (30 + 3 * mOf c)), .int (nI (pOf c)), .int (nI (zPf s c)), .int (nI (zNow s + 2 ^ zPf s c)), .int (nI (zPw s c))])) (hK : ∀ x, x ≠ c → G x = F x) : CRep D ad G (tmS s c) := by
  unfold tmS
  generalize zNow s + 2 ^ zPf s c = z at g ⊢
  exact hC.prt1 (pf := zPf s) (pt := va_up (zPt s) c z) (pw := zPw s) hI hin (by rw [up_s]; exact g) (fun x hx => ⟨rfl, up_n hx, rfl⟩) hK
theorem CRep.wt {D : Dx} {ad : Nat → Nat} {F G : Fn} {s : St} {l c : Nat} (hC : CRep D ad F s) (hI : Inv s) (hin : InRow s l c) (g : G c = some (oB 2 [.ref (ad (30 + 3 * mOf c)), .int (nI (pOf c)), .int (nI (zPf s c)), .int (nI (zPt s c)), .int (nI 1)])) (hK : ∀ x, x ≠ c → G x = F x) : CRep D ad G (wtS s c) := by
  unfold wtS
  exact hC.prt1 (pf := zPf s) (pt := zPt s) (pw := va_up (zPw s) c 1) hI hin (by rw [up_s]; exact g) (fun x hx => ⟨rfl, rfl, up_n hx⟩) hK
theorem CRep.pu {D : Dx} {ad : Nat → Nat} {F G : Fn} {s : St} {j c : Nat} (hC : CRep D ad F s) (ej : j = zRc s (mOf c) % 3) (g : RowAt D ad G (14 + 2 * j) (20 + 2 * j) (zRw s (2 * j) ++ [c])) (hK : ∀ x, x ∉ [14 + 2 * j, 20 + 2 * j] → G x = F x) : CRep D ad G (puS s c) := by
  unfold puS
  rw [← ej]
  exact hC.row1 (by omega) g hK
theorem CRep.cl {D : Dx} {ad : Nat → Nat} {F G : Fn} {s : St} {c : Nat} (hC : CRep D ad F s) (hI : Inv s) (hm : mOf c < zMc s) (g : MsgAt G (30 + 3 * mOf c) (nI (mOf c)) (nI (zRc s (mOf c))) (nI (zEn s (mOf c))) (ad (11 + zRc s (mOf c) % 3)) (ad (31 + 3 * mOf c)) (ad (32 + 3 * mOf c)) (nI (npL (zMs s (mOf c)))) (nI (zSt s (mOf c))) (nI (clrB (zLk s (mOf c)) (pOf c)))) (hK : ∀ x, x ≠ 30 + 3 * mOf c → G x = F x) : CRep D ad G (clS s c) := by
  unfold clS
  exact hC.lkw hI hm g hK
theorem cl_lk (s : St) (c : Nat) : zLk (clS s c) (mOf c) = clrB (zLk s (mOf c)) (pOf c) := up_s
theorem fl_pf (s : St) (c : Nat) : zPf (flS s c) c = zPf s c + 1 := up_s
theorem in_fl {s : St} {l c x : Nat} (h : InRow s l x) : InRow (flS s c) l x := h
theorem st0 (s : St) (c : Nat) (hz : ¬ zLk (clS s c) (mOf c) = 0) : stlS s c 0 = clS s c := by unfold stlS; rw [if_pos rfl, if_neg hz]
theorem st0f (s : St) (c : Nat) (hz : zLk (clS s c) (mOf c) = 0) : stlS s c 0 = finS (clS s c) (mOf c) 1 := by unfold stlS; rw [if_pos rfl, if_pos hz]
theorem st1 (s : St) (c : Nat) (hz : zPf s c + 1 < 4) : stlS s c 1 = puS (tmS (flS s c) c) c := by unfold stlS; rw [if_neg (by decide), if_pos rfl, if_pos hz]
theorem st1f (s : St) (c : Nat) (hz : ¬ zPf s c + 1 < 4) : stlS s c 1 = finS (flS s c) (mOf c) 2 := by unfold stlS; rw [if_neg (by decide), if_pos rfl, if_neg hz]
theorem st2 (s : St) (c : Nat) : stlS s c 2 = puS (wtS s c) c := by unfold stlS; rw [if_neg (by decide), if_neg (by decide), if_pos rfl]
theorem st3 (s : St) (c : Nat) : stlS s c 3 = finS s (mOf c) 2 := by unfold stlS; rw [if_neg (by decide), if_neg (by decide), if_neg (by decide)]
theorem shl_ok : ∀ k, k < 5 → (1 : Int32) <<< (nI k &&& 31) = nI (2 ^ k) := by decide +kernel
theorem stl_mc (s : St) (c o : Nat) : zMc (stlS s c o) = zMc s ∧ zMs (stlS s c o) = zMs s := by
  unfold stlS
  split
  · split
    · exact ⟨rfl, rfl⟩
    · exact ⟨rfl, rfl⟩
  · split
    · split
      · exact ⟨rfl, rfl⟩
      · exact ⟨rfl, rfl⟩
    · split
      · exact ⟨rfl, rfl⟩
      · exact ⟨rfl, rfl⟩
set_option maxHeartbeats 1000000 in
set_option maxRecDepth 100000 in
/-- settle -/
theorem c_settle {l : Launch} {D : Dx} {b0 : Nat} {ad : Nat → Nat} {F : Fn} (s : St) (c o : Nat) (hC : CRep D ad F s) (hI : Inv s) (hL : Lon s c) (hf : zPf s c ≤ 3) (ho : o < 4) : Ct l D b0 yX6_settle (wsA yX6_settle cX6_settle 4 none) (rK 4) [.ref (ad 0), .ref (ad c), .int (nI o)] ad F (fun v ad1 F1 => v = none ∧ ad = ad1 ∧ CRep D ad F1 (stlS s c o) ∧ FrK ad F ad F1) noX := by
  refine Ct.of (by decide +kernel) (by simp [Value.category]) (Nat.le_of_ble_eq_true rfl) (fun X eD eb el C Q => ?_)
  subst eD; subst eb; subst el
  have hM := hC.1
  have hmc := hI.2.1
  unfold kMain at hM
  obtain ⟨k1, k2, k3, k4, k5, k6, hp⟩ := prt_at hC hI hL.1
  have hin := inr_eq hI hL.1
  obtain ⟨m, em⟩ : ∃ m, m = mOf c := ⟨_, rfl⟩
  obtain ⟨p, ep⟩ : ∃ p, p = pOf c := ⟨_, rfl⟩
  rw [← em, ← ep] at k4 hp hin
  rw [← em] at k3
  obtain ⟨j, ej⟩ : ∃ j, j = zRc s m % 3 := ⟨_, rfl⟩
  have hj3 : j < 3 := by omega
  have h0 : zSt s m = 0 := em ▸ hL.2.1
  have hm0 := (hC.2.2.2.2.2.2.2.2.1 m k3).1
  have hm := hm0
  unfold MsgAt at hm
  have hk := hC.2.2.2.2.2.2.1 j hj3
  unfold LinkAt at hk
  have hq := hC.2.2.2.2.2.2.2.1 (2 * j) (by omega)
  have hq1 := hq.1
  obtain ⟨-, -, -, -, hnd, hin6, -⟩ := hI.2.2.2.2.2.2.1 j hj3
  have hLj : InRow s j c := by have := hL.1; rw [← em, ← ej] at this; exact this
  have hlen := row_len hI (L := c :: zRw s (2 * j)) (List.nodup_cons.mpr ⟨(hL.2.2 j hj3).1, (List.nodup_append.mp hnd).1⟩) (fun x hx => (List.mem_cons.mp hx).elim (fun e => e ▸ hLj) (fun h => (hin6 x h).1))
  rw [List.length_cons] at hlen
  have hpa := fun x hx => prt_at hC hI (hin6 x hx).1
  have hlw : zLk s m < 64 := Nat.lt_of_lt_of_le (hI.2.2.2.2.2.1 m k3).2.2.2.2.2.2.1 (Nat.pow_le_pow_right (by decide) (npL_spec (hI.2.2.2.2.2.1 m k3).2.1).1)
  rw [← ej] at hm
  have hcq : c ∉ zRw s (2 * j) := (hL.2.2 j hj3).1
  have hPrs : ∀ G : Fn, (∀ x, x ≠ c → G x = F x) → Prts G (zRw s (2 * j)) := fun G hG x hx => ⟨_, (hG x (fun e => hcq (e ▸ hx))).trans (hpa x hx).2.2.2.2.2.2⟩
  refine V_aload_n C dX6_settle_0 rfl ?_
  refine V_get C dX6_settle_1 fr_6_211 hp rfl ?_
  refine V_astore_n C dX6_settle_4 (by decide) ?_
  refine V_iload_n C dX6_settle_5 rfl ?_
  rcases (show o = 0 ∨ o = 1 ∨ o = 2 ∨ o = 3 by omega) with rfl | rfl | rfl | rfl
  · refine V_tableIn (off := 26) (tgt := 32) C dX6_settle_6 (by decide) (by decide) rfl (by decide) ?_
    refine V_aload_n C dX6_settle_32 rfl ?_
    refine V_aload_n C dX6_settle_33 rfl ?_
    refine V_get C dX6_settle_34 fr_6_219 hp rfl ?_
    refine V_invV C dX6_settle_37 hm rfl (c_receive (30 + 3 * m) _ _ _ _ _ _ _ _ (zLk s m) p hm0 hlw hin.2.2.1) mv_6_238 rfl (Nat.le_of_ble_eq_true rfl) ⟨Nat.le_of_ble_eq_true rfl, Nat.le_of_ble_eq_true rfl⟩ ⟨Nat.le_of_ble_eq_true rfl, Nat.le_of_ble_eq_true rfl⟩ (fun _ _ _ h => VT_no h) (fun v ad1 F1 hp => ?_)
    obtain ⟨rfl, rfl, hm1, hfr⟩ := hp
    rename F c = _ => hp
    have hC1 : CRep (xD X) ad F1 (clS s c) := by
      refine hC.cl hI (em ▸ k3) ?_ (by rw [← em]; exact hfr)
      rw [← em, ← ep]
      exact hm1
    have hI1 := inv_cl hI hL
    have hlk : zLk (clS s c) (mOf c) = clrB (zLk s m) p := by rw [cl_lk, ← em, ← ep]
    have hlb := clr_le (zLk s m) p
    have hM := (hfr 0 (by omega)).trans hM
    have hm := hm1
    unfold MsgAt at hm
    refine V_aload_n C dX6_settle_40 rfl ?_
    refine V_get C dX6_settle_41 fr_6_150 hm rfl ?_
    refine V_ifne (tgt := 137) C dX6_settle_44 (by decide) (fun hw0 => ?_) (fun hw0 => ?_)
    · have hz : ¬ zLk (clS s c) (mOf c) = 0 := fun e => hw0 (by rw [hlk] at e; rw [e]; rfl)
      refine V_return C Q dX6_settle_137 (Nat.le_of_ble_eq_true rfl) (Nat.le_of_ble_eq_true rfl) ⟨rfl, rfl, ?_, fun x hx => ⟨rfl, hfr x (by omega)⟩⟩
      rw [st0 s c hz]
      exact hC1
    · have hz : zLk (clS s c) (mOf c) = 0 := by rw [hlk]; exact (nI_eq (b := 0) (by omega) (by decide)).mp hw0
      have h01 : zSt (clS s c) m = 0 := h0
      refine V_aload_n C dX6_settle_47 rfl ?_
      refine V_aload_n C dX6_settle_48 rfl ?_
      refine V_iconst (v := 1) C dX6_settle_49 rfl ?_
      refine V_invV C dX6_settle_50 hM rfl (c_finish (clS s c) m 1 hC1 hI1 k3 h01 (by decide)) mv_6_228 rfl (Nat.le_of_ble_eq_true rfl) ⟨Nat.le_of_ble_eq_true rfl, Nat.le_of_ble_eq_true rfl⟩ ⟨Nat.le_of_ble_eq_true rfl, Nat.le_of_ble_eq_true rfl⟩ (fun _ _ _ h => VT_no h) (fun v ad1 F1 hp => ?_)
      obtain ⟨rfl, rfl, hC2, hK2⟩ := hp
      refine V_goto (tgt := 137) C dX6_settle_53 (by decide) ?_
      refine V_return C Q dX6_settle_137 (Nat.le_of_ble_eq_true rfl) (Nat.le_of_ble_eq_true rfl) ⟨rfl, rfl, ?_, fun x hx => ⟨rfl, (hK2 x hx).2.trans (hfr x (by omega))⟩⟩
      rw [st0f s c hz, ← em]
      exact hC2
  · refine V_tableIn (off := 50) (tgt := 56) C dX6_settle_6 (by decide) (by decide) rfl (by decide) ?_
    refine V_aload_n C dX6_settle_56 rfl ?_
    refine V_dup C dX6_settle_57 rfl ?_
    refine V_get C dX6_settle_58 fr_6_241 hp rfl ?_
    refine V_iconst (v := 1) C dX6_settle_61 rfl ?_
    refine V_iadd C dX6_settle_62 ?_
    refine V_nm (nI_add _ _) ?_
    refine G_put C dX6_settle_63 fp_6_241 hp rfl rfl (Nat.le_of_ble_eq_true rfl) (fun F1 hp hfr => ?_)
    dsimp only [List.set] at hp
    have hM := (hfr _ (by omega)).trans hM
    have hfr1 := hfr
    have hC1 : CRep (xD X) ad F1 (flS s c) := hC.fl hI hLj (by rw [← em, ← ep]; exact hp) hfr
    have hI1 := inv_fl hI hf
    refine V_aload_n C dX6_settle_66 rfl ?_
    refine V_get C dX6_settle_67 fr_6_241 hp rfl ?_
    refine V_iconst (v := 4) C dX6_settle_70 rfl ?_
    refine V_icmplt (tgt := 83) C dX6_settle_71 (by decide) (fun hb => ?_) (fun hb => ?_)
    · have h4 : zPf s c + 1 < 4 := Nat.lt_of_not_le (fun h => nI_nlt (a := zPf s c + 1) (b := 4) h (by omega) hb)
      refine V_aload_n C dX6_settle_83 rfl ?_
      refine V_aload_n C dX6_settle_84 rfl ?_
      refine V_get C dX6_settle_85 fr_6_46 hM rfl ?_
      refine V_iconst (v := 1) C dX6_settle_88 rfl ?_
      refine V_aload_n C dX6_settle_89 rfl ?_
      refine V_get C dX6_settle_90 fr_6_241 hp rfl ?_
      refine V_ishl C dX6_settle_93 ?_
      refine V_nm (shl_ok _ (by omega)) ?_
      refine V_iadd C dX6_settle_94 ?_
      refine V_nm (nI_add _ _) ?_
      refine G_put C dX6_settle_95 fp_6_244 hp rfl rfl (Nat.le_of_ble_eq_true rfl) (fun F2 hp hfr => ?_)
      dsimp only [List.set] at hp
      have hfr2 : ∀ x, x ≠ c → F2 x = F x := fun x hx => (hfr x hx).trans (hfr1 x hx)
      have hCt : CRep (xD X) ad F2 (tmS (flS s c) c) := hC1.tm hI1 (in_fl hLj) (by rw [fl_pf, ← em, ← ep]; exact hp) hfr
      have hm := (hfr2 _ (by omega)).trans hm
      have hk := (hfr2 _ (by omega)).trans hk
      have hq1 := (hfr2 _ (by omega)).trans hq1
      have hq := hq.kept (hfr2 _ (by omega)) (hfr2 _ (by omega))
      refine V_aload_n C dX6_settle_98 rfl ?_
      refine V_get C dX6_settle_99 fr_6_121 hm rfl ?_
      refine V_get C dX6_settle_102 fr_6_125 hk rfl ?_
      refine V_aload_n C dX6_settle_105 rfl ?_
      refine V_invV C dX6_settle_106 hq1 rfl (c_addLast (14 + 2 * j) (20 + 2 * j) c (zRw s (2 * j)) hq (hPrs F2 hfr2) ⟨_, hp⟩ (by omega)) mv_6_134 rfl (Nat.le_of_ble_eq_true rfl) ⟨Nat.le_of_ble_eq_true rfl, Nat.le_of_ble_eq_true rfl⟩ ⟨Nat.le_of_ble_eq_true rfl, Nat.le_of_ble_eq_true rfl⟩ (fun _ _ _ h => VT_no h) (fun v ad1 G1 hp1 => ?_)
      obtain ⟨rfl, rfl, hq2, hfq⟩ := hp1
      refine V_goto (tgt := 137) C dX6_settle_109 (by decide) ?_
      refine V_return C Q dX6_settle_137 (Nat.le_of_ble_eq_true rfl) (Nat.le_of_ble_eq_true rfl) ⟨rfl, rfl, ?_, fun x hx => ⟨rfl, (hfq x (by simp; omega)).trans (hfr2 x (by omega))⟩⟩
      rw [st1 s c h4]
      exact hCt.pu (j := j) (em ▸ ej) hq2 hfq
    · have h4 : ¬ zPf s c + 1 < 4 := fun h => hb (nI_lt (b := 4) h (by decide))
      have h01 : zSt (flS s c) m = 0 := h0
      have hm := (hfr1 _ (by omega)).trans hm
      refine V_aload_n C dX6_settle_74 rfl ?_
      refine V_aload_n C dX6_settle_75 rfl ?_
      refine V_iconst (v := 2) C dX6_settle_76 rfl ?_
      refine V_invV C dX6_settle_77 hM rfl (c_finish (flS s c) m 2 hC1 hI1 k3 h01 (by decide)) mv_6_228 rfl (Nat.le_of_ble_eq_true rfl) ⟨Nat.le_of_ble_eq_true rfl, Nat.le_of_ble_eq_true rfl⟩ ⟨Nat.le_of_ble_eq_true rfl, Nat.le_of_ble_eq_true rfl⟩ (fun _ _ _ h => VT_no h) (fun v ad1 G1 hp1 => ?_)
      obtain ⟨rfl, rfl, hC2, hK2⟩ := hp1
      refine V_goto (tgt := 137) C dX6_settle_80 (by decide) ?_
      refine V_return C Q dX6_settle_137 (Nat.le_of_ble_eq_true rfl) (Nat.le_of_ble_eq_true rfl) ⟨rfl, rfl, ?_, fun x hx => ⟨rfl, (hK2 x hx).2.trans (hfr1 x (by omega))⟩⟩
      rw [st1f s c h4, ← em]
      exact hC2
  · refine V_tableIn (off := 106) (tgt := 112) C dX6_settle_6 (by decide) (by decide) rfl (by decide) ?_
    refine V_aload_n C dX6_settle_112 rfl ?_
    refine V_iconst (v := 1) C dX6_settle_113 rfl ?_
    refine G_put C dX6_settle_114 fp_6_247 hp rfl rfl (Nat.le_of_ble_eq_true rfl) (fun F1 hp hfr => ?_)
    dsimp only [List.set] at hp
    have hCt : CRep (xD X) ad F1 (wtS s c) := hC.wt hI hLj (by rw [← em, ← ep]; exact hp) hfr
    have hm := (hfr _ (by omega)).trans hm
    have hk := (hfr _ (by omega)).trans hk
    have hq1 := (hfr _ (by omega)).trans hq1
    have hq := hq.kept (hfr _ (by omega)) (hfr _ (by omega))
    refine V_aload_n C dX6_settle_117 rfl ?_
    refine V_get C dX6_settle_118 fr_6_121 hm rfl ?_
    refine V_get C dX6_settle_121 fr_6_125 hk rfl ?_
    refine V_aload_n C dX6_settle_124 rfl ?_
    refine V_invV C dX6_settle_125 hq1 rfl (c_addLast (14 + 2 * j) (20 + 2 * j) c (zRw s (2 * j)) hq (hPrs F1 hfr) ⟨_, hp⟩ (by omega)) mv_6_134 rfl (Nat.le_of_ble_eq_true rfl) ⟨Nat.le_of_ble_eq_true rfl, Nat.le_of_ble_eq_true rfl⟩ ⟨Nat.le_of_ble_eq_true rfl, Nat.le_of_ble_eq_true rfl⟩ (fun _ _ _ h => VT_no h) (fun v ad1 G1 hp1 => ?_)
    obtain ⟨rfl, rfl, hq2, hfq⟩ := hp1
    refine V_goto (tgt := 137) C dX6_settle_128 (by decide) ?_
    refine V_return C Q dX6_settle_137 (Nat.le_of_ble_eq_true rfl) (Nat.le_of_ble_eq_true rfl) ⟨rfl, rfl, ?_, fun x hx => ⟨rfl, (hfq x (by simp; omega)).trans (hfr x (by omega))⟩⟩
    rw [st2]
    exact hCt.pu (j := j) (em ▸ ej) hq2 hfq
  · refine V_tableOut (tgt := 131) C dX6_settle_6 (by decide) (by decide) ?_
    refine V_aload_n C dX6_settle_131 rfl ?_
    refine V_aload_n C dX6_settle_132 rfl ?_
    refine V_iconst (v := 2) C dX6_settle_133 rfl ?_
    refine V_invV C dX6_settle_134 hM rfl (c_finish s m 2 hC hI k3 h0 (by decide)) mv_6_228 rfl (Nat.le_of_ble_eq_true rfl) ⟨Nat.le_of_ble_eq_true rfl, Nat.le_of_ble_eq_true rfl⟩ ⟨Nat.le_of_ble_eq_true rfl, Nat.le_of_ble_eq_true rfl⟩ (fun _ _ _ h => VT_no h) (fun v ad1 G1 hp1 => ?_)
    obtain ⟨rfl, rfl, hC2, hK2⟩ := hp1
    refine V_return C Q dX6_settle_137 (Nat.le_of_ble_eq_true rfl) (Nat.le_of_ble_eq_true rfl) ⟨rfl, rfl, ?_, hK2⟩
    rw [st3, ← em]
    exact hC2
theorem ack_st (s : St) (j o c : Nat) (hc : (zRw s (2 * j + 1)).getD 0 0 = c) (h0 : zSt s (mOf c) = 0) : ackS s j o = stlS (rmS s j) c o := by unfold ackS; rw [hc, if_pos h0]
theorem ack_no (s : St) (j o c : Nat) (hc : (zRw s (2 * j + 1)).getD 0 0 = c) (h0 : ¬ zSt s (mOf c) = 0) : ackS s j o = rmS s j := by unfold ackS; rw [hc, if_neg h0]
theorem CRep.rm {D : Dx} {ad : Nat → Nat} {F G : Fn} {s : St} {j : Nat} (hC : CRep D ad F s) (hj : j < 3) (g : RowAt D ad G (14 + (2 * j + 1)) (20 + (2 * j + 1)) ((zRw s (2 * j + 1)).eraseIdx 0)) (hK : ∀ x, x ∉ [14 + (2 * j + 1), 20 + (2 * j + 1)] → G x = F x) : CRep D ad G (rmS s j) := by
  unfold rmS
  exact hC.row1 (by omega) g hK
def spAck (s : St) (a o : Int32) : Ans := if a < 0 ∨ nI 3 ≤ a then (1, 0, s) else if o < 0 ∨ 3 < o then (2, 0, s) else if (zRw s (2 * a.toNatClampNeg + 1)).length = 0 then (3, 0, s) else
  (0, nI (10 * mOf ((zRw s (2 * a.toNatClampNeg + 1)).getD 0 0) + pOf ((zRw s (2 * a.toNatClampNeg + 1)).getD 0 0)), ackS s a.toNatClampNeg o.toNatClampNeg)
set_option maxHeartbeats 1000000 in
set_option maxRecDepth 100000 in
/-- acknowledge -/
theorem c_acknowledge {l : Launch} {D : Dx} {b0 : Nat} {ad : Nat → Nat} {F : Fn} (s : St) (a o : Int32) (hC : CRep D ad F s) (hI : Inv s) (hF : Inf s) : Ct l D b0 yX6_acknowledge (wsA yX6_acknowledge cX6_acknowledge 5 (some .int)) (rZ 8) [.ref (ad 0), .int a, .int o] ad F (PoS D ad F (spAck s a o)) (PxS D ad F [eIOB, eIAE, eISE] (spAck s a o)) := by
  refine Ct.of (by decide +kernel) (by simp [Value.category]) (Nat.le_of_ble_eq_true rfl) (fun X eD eb el C Q => ?_)
  subst eD; subst eb; subst el
  have hM := hC.1
  have hmc := hI.2.1
  unfold kMain at hM
  refine V_aload_n C dX6_acknowledge_0 rfl ?_
  refine V_iload_n C dX6_acknowledge_1 rfl ?_
  refine V_invV C dX6_acknowledge_2 hM rfl (c_linkAt s a hC hI) mv_6_182 rfl (Nat.le_of_ble_eq_true rfl) ⟨Nat.le_of_ble_eq_true rfl, Nat.le_of_ble_eq_true rfl⟩ ⟨Nat.le_of_ble_eq_true rfl, Nat.le_of_ble_eq_true rfl⟩ ?_ ?_
  · intro E ad1 F1 h
    obtain ⟨h1, rfl, rfl, rfl⟩ := h
    rw [show spAck s a o = (1, 0, s) from if_pos h1] at Q
    exact VT_out C Q (Nat.le_of_ble_eq_true rfl) (Nat.le_of_ble_eq_true rfl) ⟨⟨0, rfl, rfl⟩, hC, FrK.rf⟩
  intro v ad1 F1 hp
  obtain ⟨hga, rfl, rfl, rfl⟩ := hp
  obtain ⟨j, hj3, rfl⟩ := badI_not (n := 3) (by decide) hga
  have ej : (nI j).toNatClampNeg = j := nI_clamp (by omega)
  rw [ej]
  have hk := hC.2.2.2.2.2.2.1 j hj3
  unfold LinkAt at hk
  have hw := hC.2.2.2.2.2.2.2.1 (2 * j + 1) (by omega)
  rw [show 14 + (2 * j + 1) = 15 + 2 * j by omega, show 20 + (2 * j + 1) = 21 + 2 * j by omega] at hw
  have hw1 := hw.1
  obtain ⟨-, -, -, -, hnd, hin6, hin7⟩ := hI.2.2.2.2.2.2.1 j hj3
  have hpb := fun x hx => prt_at hC hI (hin7 x hx).1
  refine V_astore_n C dX6_acknowledge_5 (by decide) ?_
  refine V_iload_n C dX6_acknowledge_6 rfl ?_
  refine V_iflt (tgt := 15) C dX6_acknowledge_7 (by decide) (fun h1 => ?_) (fun h1 => ?_)
  · rw [show spAck s (nI j) o = (2, 0, s) by unfold spAck; rw [if_neg hga, if_pos (Or.inl h1)]] at Q
    exact V_throwS C Q rfl (th_IAE 203 _ sw_203) dX6_acknowledge_15 dX6_acknowledge_18 dX6_acknowledge_19 dX6_acknowledge_21 dX6_acknowledge_24 ⟨Nat.le_of_ble_eq_true rfl, Nat.le_of_ble_eq_true rfl⟩ (Nat.le_of_ble_eq_true rfl) (Nat.le_of_ble_eq_true rfl) ⟨⟨1, rfl, rfl⟩, hC, FrK.rf⟩
  · refine V_iload_n C dX6_acknowledge_10 rfl ?_
    refine V_iconst (v := 3) C dX6_acknowledge_11 rfl ?_
    refine V_icmple (tgt := 25) C dX6_acknowledge_12 (by decide) (fun h2 => ?_) (fun h2 => ?_)
    · have hgo : ¬ (o < 0 ∨ 3 < o) := fun h => h.elim h1 (fun h => absurd h2 (Int32.not_le.mpr h))
      obtain ⟨n, hn, rfl⟩ := nI_of2 (n := 3) (M := 3) rfl h1 h2
      have en : (nI n).toNatClampNeg = n := nI_clamp (by omega)
      refine V_aload_n C dX6_acknowledge_25 rfl ?_
      refine V_get C dX6_acknowledge_26 fr_6_197 hk rfl ?_
      refine V_iconst (v := 0) C dX6_acknowledge_29 rfl ?_
      by_cases hz : (zRw s (2 * j + 1)).length = 0
      · rw [show spAck s (nI j) (nI n) = (3, 0, s) by unfold spAck; rw [if_neg hga, if_neg hgo, ej, if_pos hz]] at Q
        refine V_invV C dX6_acknowledge_30 hw1 rfl (c_removeAtN (15 + 2 * j) (21 + 2 * j) 0 (zRw s (2 * j + 1)) hw (by omega) (by decide)) mv_6_205 rfl (Nat.le_of_ble_eq_true rfl) ⟨Nat.le_of_ble_eq_true rfl, Nat.le_of_ble_eq_true rfl⟩ ⟨Nat.le_of_ble_eq_true rfl, Nat.le_of_ble_eq_true rfl⟩ (fun _ _ _ h => VT_no h) (fun v ad1 F1 hp => ?_)
        obtain ⟨rfl, rfl, rfl⟩ := hp
        refine V_astoreN C dX6_acknowledge_33 (by decide) ?_
        refine V_aloadN C dX6_acknowledge_35 rfl ?_
        refine V_ifnonnullN C dX6_acknowledge_37 ?_
        exact V_throwS C Q rfl (th_ISE 209 _ sw_209) dX6_acknowledge_40 dX6_acknowledge_43 dX6_acknowledge_44 dX6_acknowledge_46 dX6_acknowledge_49 ⟨Nat.le_of_ble_eq_true rfl, Nat.le_of_ble_eq_true rfl⟩ (Nat.le_of_ble_eq_true rfl) (Nat.le_of_ble_eq_true rfl) ⟨⟨2, rfl, rfl⟩, hC, FrK.rf⟩
      · obtain ⟨c, ec⟩ : ∃ c, c = (zRw s (2 * j + 1)).getD 0 0 := ⟨_, rfl⟩
        have hg : (zRw s (2 * j + 1))[0]? = some c := by rw [ec, List.getD_eq_getElem?_getD, List.getElem?_eq_getElem (by omega)]; rfl
        have hcm := List.mem_of_getElem? hg
        rw [show spAck s (nI j) (nI n) = (0, nI (10 * mOf c + pOf c), ackS s j n) by unfold spAck; rw [if_neg hga, if_neg hgo, ej, if_neg hz, en, ← ec]] at Q
        obtain ⟨k1, k2, k3, k4, k5, k6, hp⟩ := hpb c hcm
        have hin := inr_eq hI (hin7 c hcm).1
        refine V_invV C dX6_acknowledge_30 hw1 rfl (c_removeAt (15 + 2 * j) (21 + 2 * j) 0 c (zRw s (2 * j + 1)) hw (fun x hx => ⟨_, (hpb x hx).2.2.2.2.2.2⟩) hg) mv_6_205 rfl (Nat.le_of_ble_eq_true rfl) ⟨Nat.le_of_ble_eq_true rfl, Nat.le_of_ble_eq_true rfl⟩ ⟨Nat.le_of_ble_eq_true rfl, Nat.le_of_ble_eq_true rfl⟩ (fun _ _ _ h => VT_no h) (fun v ad1 F1 hp1 => ?_)
        obtain ⟨rfl, rfl, hw2, hfr⟩ := hp1
        have hC1 : CRep (xD X) ad F1 (rmS s j) := hC.rm hj3 (by rw [show 14 + (2 * j + 1) = 15 + 2 * j by omega, show 20 + (2 * j + 1) = 21 + 2 * j by omega]; exact hw2) (by rw [show 14 + (2 * j + 1) = 15 + 2 * j by omega, show 20 + (2 * j + 1) = 21 + 2 * j by omega]; exact hfr)
        have hI1 := inv_rm (l := j) hI
        have hf1 : ∀ x, 100 ≤ x → F1 x = F x := fun x hx => hfr x (by simp; omega)
        have hp0 := hp
        have hp := (hf1 c k1).trans hp
        have hm0 := (hC1.2.2.2.2.2.2.2.2.1 (mOf c) k3).1
        have hm := hm0
        unfold MsgAt at hm
        have hM := hC1.1
        unfold kMain at hM
        have tail : ∀ (t : St) (G : Fn), zMc t = zMc s → zMs t = zMs s → CRep (xD X) ad G t → FrK ad F ad G → t = ackS s j n → V X 1 6 68 [(0, .ref (ad 0)), (1, .int (nI j)), (2, .int (nI n)), (3, .ref (ad (11 + j))), (4, .ref (ad c))] [] ad G := by
          intro t G e1 e2 hCt hKt et
          have hp := hCt.2.2.2.2.2.2.2.2.2.1 (mOf c) (e1 ▸ k3) (pOf c) (e2 ▸ hin.2.1)
          rw [← hin.2.2.2.1] at hp
          have hm := (hCt.2.2.2.2.2.2.2.2.1 (mOf c) (e1 ▸ k3)).1
          unfold MsgAt at hm
          refine V_bipush (v := 10) C dX6_acknowledge_68 (by decide) ?_
          refine V_aload C dX6_acknowledge_70 rfl ?_
          refine V_get C dX6_acknowledge_72 fr_6_211 hp rfl ?_
          refine V_get C dX6_acknowledge_75 fr_6_140 hm rfl ?_
          refine V_imul C dX6_acknowledge_78 ?_
          refine V_nm (pk_mul 10 _) ?_
          refine V_aload C dX6_acknowledge_79 rfl ?_
          refine V_get C dX6_acknowledge_81 fr_6_219 hp rfl ?_
          refine V_iadd C dX6_acknowledge_84 ?_
          refine V_nm (nI_add _ _) ?_
          exact V_ireturn C Q dX6_acknowledge_85 rfl (Nat.le_of_ble_eq_true rfl) (Nat.le_of_ble_eq_true rfl) ⟨rfl, rfl, et ▸ hCt, hKt⟩
        refine V_astore C dX6_acknowledge_33 (by decide) ?_
        refine V_aload C dX6_acknowledge_35 rfl ?_
        refine V_ifnonnull (tgt := 50) C dX6_acknowledge_37 (by decide) ?_
        refine V_aload C dX6_acknowledge_50 rfl ?_
        refine V_get C dX6_acknowledge_52 fr_6_211 hp rfl ?_
        refine V_get C dX6_acknowledge_55 fr_6_147 hm rfl ?_
        refine V_ifne (tgt := 68) C dX6_acknowledge_58 (by decide) (fun hs0 => ?_) (fun hs0 => ?_)
        · have h0 : ¬ zSt s (mOf c) = 0 := fun e => hs0 (by show nI (zSt s (mOf c)) = 0; rw [e]; rfl)
          refine V_sb (tail (rmS s j) F1 rfl rfl hC1 (fun x hx => ⟨rfl, hf1 x (by omega)⟩) (ack_no s j n c ec.symm h0).symm) ⟨rfl, rfl, rfl, rfl, rfl, trivial⟩
        · have h4 : zSt s (mOf c) < 4 := (hI.2.2.2.2.2.1 (mOf c) k3).2.2.2.2.1
          have h0 : zSt s (mOf c) = 0 := (nI_eq (b := 0) (by omega) (by decide)).mp hs0
          have hL := lon_rm hI hj3 hg h0
          have hpf : zPf s c ≤ 3 := by
            have := hF _ hin.1 h0 _ hin.2.1
            rwa [← hin.2.2.2.1] at this
          refine V_aload_n C dX6_acknowledge_61 rfl ?_
          refine V_aload C dX6_acknowledge_62 rfl ?_
          refine V_iload_n C dX6_acknowledge_64 rfl ?_
          refine V_invV C dX6_acknowledge_65 hM rfl (c_settle (rmS s j) c n hC1 hI1 hL hpf (by omega)) mv_6_215 rfl (Nat.le_of_ble_eq_true rfl) ⟨Nat.le_of_ble_eq_true rfl, Nat.le_of_ble_eq_true rfl⟩ ⟨Nat.le_of_ble_eq_true rfl, Nat.le_of_ble_eq_true rfl⟩ (fun _ _ _ h => VT_no h) (fun v ad1 F2 hp2 => ?_)
          obtain ⟨rfl, rfl, hC2, hK2⟩ := hp2
          refine V_sb (tail (stlS (rmS s j) c n) F2 (stl_mc _ _ _).1 (stl_mc _ _ _).2 hC2 (fun x hx => ⟨rfl, (hK2 x hx).2.trans (hf1 x (by omega))⟩) (ack_st s j n c ec.symm h0).symm) ⟨rfl, rfl, rfl, rfl, rfl, trivial⟩
    · rw [show spAck s (nI j) o = (2, 0, s) by unfold spAck; rw [if_neg hga, if_pos (Or.inr (Int32.not_le.mp h2))]] at Q
      exact V_throwS C Q rfl (th_IAE 203 _ sw_203) dX6_acknowledge_15 dX6_acknowledge_18 dX6_acknowledge_19 dX6_acknowledge_21 dX6_acknowledge_24 ⟨Nat.le_of_ble_eq_true rfl, Nat.le_of_ble_eq_true rfl⟩ (Nat.le_of_ble_eq_true rfl) (Nat.le_of_ble_eq_true rfl) ⟨⟨1, rfl, rfl⟩, hC, FrK.rf⟩
