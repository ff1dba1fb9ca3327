/-! ===== what more always holds: the acknowledgement, a submission, a link's change, the rest ===== -/
theorem x3_rm {s : St} {l c : Nat} (h3 : X3 s 0) (hc : (zRw s (2 * l + 1))[0]? = some c) : X3 (rmS s l) c := fun m hm h0 p hp hb hne => by
  have h := h3 m hm h0 p hp hb (by omega)
  show _ ∈ zRw (rmS s l) (2 * (zRc s m % 3)) ∨ _ ∈ zRw (rmS s l) (2 * (zRc s m % 3) + 1)
  rw [rmS_row, rmS_row, if_neg (by omega)]
  rcases h with g | g
  · exact Or.inl g
  · right
    by_cases e : 2 * (zRc s m % 3) + 1 = 2 * l + 1
    · rw [if_pos e]
      rw [e] at g ⊢
      exact (mem_er hc g).resolve_left hne
    · rw [if_neg e]; exact g
theorem x4_rm {s : St} {l : Nat} (h : X4 s) : X4 (rmS s l) := fun j hj => by
  rw [rmS_row]
  have h1 := h j hj
  split
  · refine ⟨?_, fun hu => ?_⟩
    · rw [List.length_eraseIdx]
      split <;> omega
    · have hu : zUp s j = 0 := hu
      rw [h1.2 hu]
      rfl
  · exact h1
theorem x3_pu {t : St} {c : Nat} (hI : Inv t) (h : X3 t c) : X3 (puS t c) 0 := fun m hm h0 p hp hb _ => by
  have hp : p < npL (zMs t m) := hp
  have hp6 := (npL_spec (hI.2.2.2.2.2.1 m hm).2.1).1
  show _ ∈ zRw (puS t c) (2 * (zRc t m % 3)) ∨ _ ∈ zRw (puS t c) (2 * (zRc t m % 3) + 1)
  rw [puS_row, puS_row, if_neg (show ¬ 2 * (zRc t m % 3) + 1 = 2 * (zRc t (mOf c) % 3) by omega)]
  by_cases e : 100 + 10 * m + p = c
  · have em : mOf c = m := by rw [← e]; exact mOf_c (by omega)
    left
    rw [em, if_pos rfl]
    exact List.mem_append_right _ (by rw [e]; exact List.mem_cons_self)
  · rcases h m hm h0 p hp hb e with g | g
    · left
      split
      · exact List.mem_append_left _ g
      · exact g
    · exact Or.inr g
theorem sent_pu (t : St) (c l : Nat) : zRw (puS t c) (2 * l + 1) = zRw t (2 * l + 1) := by rw [puS_row, if_neg (by omega)]
theorem x4_pu {t : St} {c : Nat} (h : X4 t) : X4 (puS t c) := fun l hl => by
  rw [sent_pu]
  exact h l hl
theorem clr_bit {w p q : Nat} (hw : w < 64) (hp : p < 6) (hq : q < 6) (h : (clrB w p).testBit q = true) : q ≠ p ∧ w.testBit q = true := by
  rw [clr_ts w hw p hp q hq] at h
  simpa using h
theorem lk_64 {s : St} {m : Nat} (hI : Inv s) (hm : m < zMc s) : zLk s m < 64 := by
  obtain ⟨j1, j2, -, -, -, -, j7, -⟩ := hI.2.2.2.2.2.1 m hm
  have h6 := (npL_spec j2).1
  exact Nat.lt_of_lt_of_le j7 (Nat.pow_le_pow_right (by decide) (show npL (zMs s m) ≤ 6 from h6))
theorem x3_cl {t : St} {c c0 : Nat} (hI : Inv t) (hc : mOf c < zMc t) (hp6 : pOf c < 6) (hcc : c = 100 + 10 * mOf c + pOf c) (h : X3 t c) (hc0 : c0 = 0 ∨ c0 = c) : X3 (clS t c) c0 := fun m hm h0 p hp hb hne => by
  have hp : p < npL (zMs t m) := hp
  have hp6' := (npL_spec (hI.2.2.2.2.2.1 m hm).2.1).1
  have hb : (va_up (zLk t) (mOf c) (clrB (zLk t (mOf c)) (pOf c)) m).testBit p = true := hb
  by_cases e : m = mOf c
  · subst e
    rw [up_s] at hb
    have h2 := clr_bit (lk_64 hI hc) hp6 (by omega) hb
    exact h _ hm h0 p hp h2.2 (by omega)
  · rw [up_n e] at hb
    exact h m hm h0 p hp hb (by omega)
theorem ex_stl {t : St} {c o : Nat} (hI : Inv t) (hL : Lon t c) (hf : zPf t c ≤ 3) (h1 : X1 t) (h2 : X2 t) (h3 : X3 t c) (h4 : X4 t) (h5 : X5 (zKw t)) : Ex (stlS t c o) ∧ Mo t (stlS t c o) := by
  have hin := inr_eq hI hL.1
  have h0 := hL.2.1
  have hcd : ∀ k p, p < 10 → k ≠ mOf c → 100 + 10 * k + p ≠ c := fun k p hp hk e => hk (by rw [← e]; exact (mOf_c hp).symm)
  have hne := lk_ne h1 hin.1 h0
  unfold stlS
  by_cases o0 : o = 0
  · rw [if_pos o0]
    have hIc := inv_cl hI hL
    by_cases hz : zLk (clS t c) (mOf c) = 0
    · rw [if_pos hz]
      refine ⟨ex_fin (c0 := c) hIc (fun k hk hk2 => ?_) h2 (x3_cl hI hin.1 hin.2.2.1 hin.2.2.2.1 h3 (Or.inr rfl)) h4 h5 hin.1 h0 (by decide) ⟨fun _ => hz, fun _ => rfl⟩ hcd, mo_fin (s := clS t c) h0⟩
      show zSt t k = 1 ↔ va_up (zLk t) (mOf c) _ k = 0
      rw [up_n hk2]
      exact h1 k hk
    · rw [if_neg hz]
      refine ⟨⟨fun k hk => ?_, h2, x3_cl hI hin.1 hin.2.2.1 hin.2.2.2.1 h3 (Or.inl rfl), h4, h5⟩, Nat.le_refl _, fun _ _ _ => rfl, Nat.le_refl _⟩
      show zSt t k = 1 ↔ va_up (zLk t) (mOf c) _ k = 0
      by_cases e : k = mOf c
      · subst e
        exact ⟨fun g => by omega, fun g => absurd g hz⟩
      · rw [up_n e]
        exact h1 k hk
  · rw [if_neg o0]
    by_cases o1 : o = 1
    · rw [if_pos o1]
      by_cases hz : zPf t c + 1 < 4
      · rw [if_pos hz]
        have hI2 := inv_tm (inv_fl hI hf) (by show va_up (zPf t) c _ c ≤ 3; rw [up_s]; omega)
        exact ⟨⟨h1, h2, x3_pu hI2 h3, x4_pu (t := tmS (flS t c) c) h4, h5⟩, Nat.le_refl _, fun _ _ _ => rfl, Nat.le_refl _⟩
      · rw [if_neg hz]
        exact ⟨ex_fin (s := flS t c) (c0 := c) (inv_fl hI hf) (fun k hk _ => h1 k hk) h2 h3 h4 h5 hin.1 h0 (by decide) ⟨fun e => absurd e (by decide), fun e => absurd e hne⟩ hcd, mo_fin (s := flS t c) h0⟩
    · rw [if_neg o1]
      by_cases o2 : o = 2
      · rw [if_pos o2]
        exact ⟨⟨h1, h2, x3_pu (inv_wt hI hL) h3, x4_pu (t := wtS t c) h4, h5⟩, Nat.le_refl _, fun _ _ _ => rfl, Nat.le_refl _⟩
      · rw [if_neg o2]
        exact ⟨ex_fin (c0 := c) hI (fun k hk _ => h1 k hk) h2 h3 h4 h5 hin.1 h0 (by decide) ⟨fun e => absurd e (by decide), fun e => absurd e hne⟩ hcd, mo_fin h0⟩
/-- the part that has been under way the longest -/
theorem hd_in {s : St} {l : Nat} (hI : Inv s) (hl : l < 3) (hc : 0 < (zRw s (2 * l + 1)).length) : (zRw s (2 * l + 1))[0]? = some ((zRw s (2 * l + 1)).getD 0 0) ∧ InRow s l ((zRw s (2 * l + 1)).getD 0 0) := by
  have hg : (zRw s (2 * l + 1))[0]? = some ((zRw s (2 * l + 1)).getD 0 0) := by rw [List.getD_eq_getElem?_getD, List.getElem?_eq_getElem hc]; rfl
  exact ⟨hg, ((hI.2.2.2.2.2.2.1 l hl).2.2.2.2.2.2 _ (List.mem_of_getElem? hg)).1⟩
theorem ex_ack {s : St} {l o : Nat} (hI : Inv s) (hF : Inf s) (hE : Ex s) (hl : l < 3) (hc : 0 < (zRw s (2 * l + 1)).length) : Ex (ackS s l o) ∧ Mo s (ackS s l o) := by
  obtain ⟨hg, hr⟩ := hd_in hI hl hc
  have hin := inr_eq hI hr
  obtain ⟨e1, e2, e3, e4, e5⟩ := hE
  by_cases h0 : zSt s (mOf ((zRw s (2 * l + 1)).getD 0 0)) = 0
  · rw [ack_st s l o _ rfl h0]
    have hf : zPf s ((zRw s (2 * l + 1)).getD 0 0) ≤ 3 := by
      have := hF _ hin.1 h0 _ hin.2.1
      rwa [← hin.2.2.2.1] at this
    exact ex_stl (inv_rm hI) (lon_rm hI hl hg h0) hf e1 e2 (x3_rm e3 hg) (x4_rm e4) e5
  · rw [ack_no s l o _ rfl h0]
    refine ⟨⟨e1, e2, fun m hm hm0 p hp hb _ => ?_, x4_rm e4, e5⟩, Nat.le_refl _, fun _ _ _ => rfl, Nat.le_refl _⟩
    have hp6 := (npL_spec (hI.2.2.2.2.2.1 m hm).2.1).1
    have hp2 : p < npL (zMs s m) := hp
    exact x3_rm e3 hg m hm hm0 p hp hb (fun e => h0 (by rw [← e, mOf_c (by omega)]; exact hm0))
/-- a submission -/
theorem ex_new {s : St} {r life : Nat} (hI : Inv s) (hE : Ex s) (hne : (zTxt s).length ≠ 0) : Ex (nwS s r life) ∧ Mo s (nwS s r life) := by
  obtain ⟨e1, e2, e3, e4, e5⟩ := hE
  have hnp := npL_spec hI.2.2.1
  have hpos := npL_pos hI.2.2.1 (fun e => hne (by rw [e]; rfl))
  refine ⟨⟨fun m hm => ?_, fun x hx => ?_, fun m hm h0 p hp hb _ => ?_, fun l hl => ?_, e5⟩, Nat.le_succ _, fun m hm h0 => ?_, Nat.le_refl _⟩
  · show va_up (zSt s) (zMc s) 0 m = 1 ↔ va_up (zLk s) (zMc s) (2 ^ npL (zTxt s) - 1) m = 0
    by_cases e : m = zMc s
    · subst e
      rw [up_s, up_s]
      have : 2 ^ 1 ≤ 2 ^ npL (zTxt s) := Nat.pow_le_pow_right (by decide) hpos
      exact ⟨fun e => by omega, fun e => by omega⟩
    · have hm : m < zMc s + 1 := hm
      rw [up_n e, up_n e]
      exact e1 m (by omega)
  · obtain ⟨m, h1, h2, h3⟩ := e2 x hx
    have e : m ≠ zMc s := by omega
    refine ⟨m, Nat.lt_succ_of_lt h1, ?_, ?_⟩
    · show va_up (zSt s) (zMc s) 0 m ≠ 0
      rw [up_n e]; exact h2
    · show x = 10 * m + va_up (zSt s) (zMc s) 0 m
      rw [up_n e]; exact h3
  · have hm : m < zMc s + 1 := hm
    have h0 : va_up (zSt s) (zMc s) 0 m = 0 := h0
    have hp : p < npL (va_up (zMs s) (zMc s) (zTxt s) m) := hp
    have hb : (va_up (zLk s) (zMc s) (2 ^ npL (zTxt s) - 1) m).testBit p = true := hb
    show _ ∈ zRw (nwS s r life) (2 * (va_up (zRc s) (zMc s) r m % 3)) ∨ _ ∈ zRw (nwS s r life) (2 * (va_up (zRc s) (zMc s) r m % 3) + 1)
    by_cases e : m = zMc s
    · subst e
      rw [up_s] at hp ⊢
      left
      rw [nwS_row, if_pos rfl]
      exact List.mem_append_right _ (nps_mem.mpr (by omega))
    · rw [up_n e] at h0 hp hb ⊢
      rw [nwS_row, nwS_row, if_neg (show ¬ 2 * (zRc s m % 3) + 1 = 2 * (r % 3) by omega)]
      rcases e3 m (by omega) h0 p hp hb (by omega) with g | g
      · left
        split
        · exact List.mem_append_left _ g
        · exact g
      · exact Or.inr g
  · rw [nwS_row, if_neg (by omega)]
    exact e4 l hl
  · show va_up (zSt s) (zMc s) 0 m = zSt s m
    rw [up_n (by omega)]
/-- a link goes down, comes up -/
theorem down_rows (s : St) (l j : Nat) : zRw (downS s l) j = if j = 2 * l then (zRw s (2 * l + 1)).filter (fun c => decide (zSt s (mOf c) = 0)) ++ zRw s (2 * l) else if j = 2 * l + 1 then [] else zRw s j := by
  show va_up (va_up (zRw s) (2 * l) _) (2 * l + 1) [] j = _
  by_cases e : j = 2 * l + 1
  · subst e; rw [up_s, if_neg (by omega), if_pos rfl]
  · rw [up_n e]
    by_cases e2 : j = 2 * l
    · subst e2; rw [up_s, if_pos rfl]
    · rw [up_n e2, if_neg e2, if_neg e]
theorem ex_down {s : St} {l : Nat} (hI : Inv s) (hE : Ex s) : Ex (downS s l) ∧ Mo s (downS s l) := by
  obtain ⟨e1, e2, e3, e4, e5⟩ := hE
  refine ⟨⟨e1, e2, fun m hm h0 p hp hb hc => ?_, fun j hj => ?_, e5⟩, Nat.le_refl _, fun _ _ _ => rfl, Nat.le_refl _⟩
  · have hp2 : p < npL (zMs s m) := hp
    have hp6 := (npL_spec (hI.2.2.2.2.2.1 m hm).2.1).1
    show _ ∈ zRw (downS s l) (2 * (zRc s m % 3)) ∨ _ ∈ zRw (downS s l) (2 * (zRc s m % 3) + 1)
    rw [down_rows, down_rows]
    have h := e3 m hm h0 p hp hb hc
    by_cases e : zRc s m % 3 = l
    · rw [e] at h ⊢
      rw [if_pos rfl]
      left
      rcases h with g | g
      · exact List.mem_append_right _ g
      · refine List.mem_append_left _ (List.mem_filter.mpr ⟨g, ?_⟩)
        rw [mOf_c (by omega)]
        exact decide_eq_true h0
    · rw [if_neg (by omega), if_neg (by omega), if_neg (by omega), if_neg (by omega)]
      exact h
  · rw [down_rows, if_neg (by omega)]
    by_cases e : j = l
    · subst e
      rw [if_pos rfl]
      exact ⟨Nat.zero_le _, fun _ => rfl⟩
    · rw [if_neg (by omega)]
      refine ⟨(e4 j hj).1, fun hu => (e4 j hj).2 ?_⟩
      have hu : va_up (zUp s) l 0 j = 0 := hu
      rwa [up_n e] at hu
theorem ex_up {s : St} {l : Nat} (hE : Ex s) : Ex (sUp s (va_up (zUp s) l 1)) ∧ Mo s (sUp s (va_up (zUp s) l 1)) := by
  obtain ⟨e1, e2, e3, e4, e5⟩ := hE
  refine ⟨⟨e1, e2, e3, fun j hj => ⟨(e4 j hj).1, fun hu => ?_⟩, e5⟩, Nat.le_refl _, fun _ _ _ => rfl, Nat.le_refl _⟩
  have hu : va_up (zUp s) l 1 j = 0 := hu
  by_cases e : j = l
  · rw [e, up_s] at hu
    exact absurd hu (by decide)
  · rw [up_n e] at hu
    exact (e4 j hj).2 hu
/-- keywords -/
theorem x5_gk {kw : Nat → Int32} {sv : Nat} {x : Int32} (h : X5 kw) : X5 (gkF kw sv x) := fun j k hj hj5 hk hk5 e => by
  unfold gkF at e ⊢
  by_cases e1 : j = sv
  · by_cases e2 : k = sv
    · exact Or.inl (e1.trans e2.symm)
    · rw [if_pos e1, if_neg e2] at e
      rw [if_pos e1]
      split at e
      · exact Or.inr e
      · rename_i h3
        exact absurd e.symm h3
  · rw [if_neg e1] at e ⊢
    by_cases e2 : kw j = x
    · rw [if_pos e2]; exact Or.inr rfl
    · rw [if_neg e2] at e ⊢
      by_cases e3 : k = sv
      · rw [if_pos e3] at e
        exact absurd e e2
      · rw [if_neg e3] at e
        by_cases e4 : kw k = x
        · rw [if_pos e4] at e; exact Or.inr e
        · rw [if_neg e4] at e
          exact h j k hj hj5 hk hk5 e
/-- both together, and the calls -/
def Kq (s : St) : Prop := Kp s ∧ Ex s
theorem kq_0 : Kq st0S := ⟨ok_st0, fun m hm => absurd hm (Nat.not_lt_zero m), fun x hx => absurd hx List.not_mem_nil, fun m hm => absurd hm (Nat.not_lt_zero m), fun l _ => ⟨Nat.zero_le _, fun _ => rfl⟩, fun j k _ _ _ _ _ => Or.inr rfl⟩
theorem kq_write {s : St} {a b : Int32} (h : Kq s) : Kq (spWrite s a b).2.2 ∧ Mo s (spWrite s a b).2.2 := by
  refine ⟨⟨ok_write h.1, ?_⟩, ?_⟩
  · unfold spWrite
    (repeat' split) <;> exact h.2
  · unfold spWrite
    (repeat' split) <;> exact ⟨Nat.le_refl _, fun _ _ _ => rfl, Nat.le_refl _⟩
theorem kq_erase {s : St} (h : Kq s) : Kq (spErase s).2.2 ∧ Mo s (spErase s).2.2 := ⟨⟨ok_erase h.1, h.2⟩, Nat.le_refl _, fun _ _ _ => rfl, Nat.le_refl _⟩
theorem kq_setW {s : St} {a b : Int32} (h : Kq s) : Kq (spSetW s a b).2.2 ∧ Mo s (spSetW s a b).2.2 := by
  refine ⟨⟨ok_setW h.1, ?_⟩, ?_⟩
  · unfold spSetW
    (repeat' split) <;> exact h.2
  · unfold spSetW
    (repeat' split) <;> exact ⟨Nat.le_refl _, fun _ _ _ => rfl, Nat.le_refl _⟩
theorem kq_alert {s : St} {a : Int32} (h : Kq s) : Kq (spAlert s a).2.2 ∧ Mo s (spAlert s a).2.2 := by
  refine ⟨⟨ok_alert h.1, ?_⟩, ?_⟩
  · unfold spAlert
    split <;> exact h.2
  · unfold spAlert
    split <;> exact ⟨Nat.le_refl _, fun _ _ _ => rfl, Nat.le_refl _⟩
theorem kq_come {s : St} {a b : Int32} (h : Kq s) : Kq (spCome s a b).2.2 ∧ Mo s (spCome s a b).2.2 := by
  refine ⟨⟨ok_come h.1, ?_⟩, ?_⟩
  · unfold spCome
    split <;> exact h.2
  · unfold spCome
    split <;> exact ⟨Nat.le_refl _, fun _ _ _ => rfl, Nat.le_refl _⟩
theorem kq_key {s : St} {a b : Int32} (h : Kq s) : Kq (spKey s a b).2.2 ∧ Mo s (spKey s a b).2.2 := by
  refine ⟨⟨ok_key h.1, ?_⟩, ?_⟩
  · unfold spKey
    split
    · exact h.2
    · exact ⟨h.2.1, h.2.2.1, h.2.2.2.1, h.2.2.2.2.1, x5_gk h.2.2.2.2.2⟩
  · unfold spKey
    split <;> exact ⟨Nat.le_refl _, fun _ _ _ => rfl, Nat.le_refl _⟩
theorem kq_tog {s : St} {a : Int32} (h : Kq s) : Kq (spTog s a).2.2 ∧ Mo s (spTog s a).2.2 := by
  have e : Ex (spTog s a).2.2 ∧ Mo s (spTog s a).2.2 := by
    unfold spTog
    split
    · exact ⟨h.2, Mo.rf⟩
    · split
      · exact ex_up h.2
      · exact ex_down h.1.1 h.2
  exact ⟨⟨ok_tog h.1, e.1⟩, e.2⟩
theorem kq_ack {s : St} {a o : Int32} (h : Kq s) : Kq (spAck s a o).2.2 ∧ Mo s (spAck s a o).2.2 := by
  have e : Ex (spAck s a o).2.2 ∧ Mo s (spAck s a o).2.2 := by
    unfold spAck
    split
    · exact ⟨h.2, Mo.rf⟩
    · rename_i ha
      split
      · exact ⟨h.2, Mo.rf⟩
      · split
        · exact ⟨h.2, Mo.rf⟩
        · rename_i hz
          obtain ⟨j, hj, rfl⟩ := badI_not (n := 3) (by decide) ha
          rw [show (nI j).toNatClampNeg = j from nI_clamp (by omega)] at hz ⊢
          exact ex_ack h.1.1 h.1.2 h.2 hj (by omega)
  exact ⟨⟨ok_ack h.1, e.1⟩, e.2⟩
theorem kq_pass {s : St} {a : Int32} (h : Kq s) (hb : zNow s ≤ 190000) : Kq (spPass s a).2.2 ∧ Mo s (spPass s a).2.2 := by
  have e : Ex (spPass s a).2.2 ∧ Mo s (spPass s a).2.2 := by
    unfold spPass
    split
    · exact ⟨h.2, Mo.rf⟩
    · rename_i ha
      obtain ⟨n, hn, rfl⟩ := nI_of2 (n := 200) (M := 200) (x := a) rfl (fun e => ha (Or.inl (Int32.lt_trans e (by decide)))) (Int32.not_lt.mp (fun e => ha (Or.inr e)))
      rw [show (nI n).toNatClampNeg = n from nI_clamp (by omega)]
      have k := ex_pas h.1.1 h.2 n (by omega)
      exact ⟨k.1, k.2.1⟩
  exact ⟨⟨ok_pass h.1 hb, e.1⟩, e.2⟩
theorem kq_sub {s : St} {a b : Int32} (h : Kq s) : Kq (spSub s a b).2.2 ∧ Mo s (spSub s a b).2.2 := by
  have e : Ex (spSub s a b).2.2 ∧ Mo s (spSub s a b).2.2 := by
    unfold spSub
    split
    · exact ⟨h.2, Mo.rf⟩
    · split
      · exact ⟨h.2, Mo.rf⟩
      · split
        · exact ⟨h.2, Mo.rf⟩
        · rename_i hz
          exact ex_new h.1.1 h.2 (fun e => hz (Or.inl e))
  exact ⟨⟨ok_sub h.1, e.1⟩, e.2⟩
