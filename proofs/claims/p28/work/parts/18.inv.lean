/-! ===== the steps inside the calls, and what always holds ===== -/
/-- a message waits no more -/
def finS (s : St) (m how : Nat) : St := (zNow s, zMc s, zTxt s, zRcp s ++ [10 * m + how], zUp s, zWn s, zTk s, va_up (zRw s) (2 * (zRc s m % 3)) ((zRw s (2 * (zRc s m % 3))).filter (fun c => decide (mOf c ≠ m))), va_up (zSt s) m how, zRc s, zEn s, zLk s, zMs s, zPf s, zPt s, zPw s, zKw s, zSe s, zLa s)
/-- the messages below i that are over expire -/
def expN (s : St) : Nat → St
  | 0 => s
  | i + 1 => if zSt (expN s i) i = 0 ∧ zEn (expN s i) i ≤ zNow (expN s i) then finS (expN s i) i 3 else expN s i
def lkQ (s : St) (l : Nat) : Lst × Nat := sndN (rdB (nI (zNow s)) (fun c => nI (zPt s c)) (fun c => nI (zPw s c))) (decide (¬ nI (zUp s l) = 0)) (zWn s l) 5 (zRw s (2 * l), zRw s (2 * l + 1), if zTk s l < 5 then zTk s l + 1 else zTk s l)
def lkS (s : St) (l : Nat) : St := sTk (sRw s (va_up (va_up (zRw s) (2 * l) (lkQ s l).1.1) (2 * l + 1) (lkQ s l).1.2.1)) (va_up (zTk s) l (lkQ s l).1.2.2)
/-- the links below i send; how many parts -/
def lksN (s : St) : Nat → St × Nat
  | 0 => (s, 0)
  | i + 1 => (lkS (lksN s i).1 i, (lksN s i).2 + (lkQ (lksN s i).1 i).2)
def tickS (s : St) : St × Nat := lksN (expN (sNow s (zNow s + 1)) (zMc s)) 3
def pasN (s : St) : Nat → St × Nat
  | 0 => (s, 0)
  | i + 1 => ((tickS (pasN s i).1).1, (pasN s i).2 + (tickS (pasN s i).1).2)
theorem er_perm : ∀ {L : List Nat} {i c : Nat}, L[i]? = some c → L.Perm (c :: L.eraseIdx i)
  | [], i, c, h => by simp at h
  | a :: l, 0, c, h => by simp at h; subst h; exact List.Perm.refl _
  | a :: l, i + 1, c, h => by
    have h1 : l[i]? = some c := by simpa using h
    exact ((er_perm h1).cons a).trans (List.Perm.swap c a _)
theorem cnt_up {st : Nat → Nat} {m how : Nat} (h0 : st m = 0) (hh : how ≠ 0) : ∀ n, ((List.range n).filter (fun k => decide (va_up st m how k ≠ 0))).length = ((List.range n).filter (fun k => decide (st k ≠ 0))).length + if m < n then 1 else 0 := by
  intro n
  induction n with
  | zero => simp
  | succ n ih =>
    rw [List.range_succ, List.filter_append, List.filter_append, List.length_append, List.length_append, ih]
    by_cases e : n = m
    · subst e
      rw [List.filter_cons_of_pos (by simp [up_s, hh]), List.filter_cons_of_neg (by simp [h0])]
      simp
    · have e1 : ([n].filter fun k => decide (va_up st m how k ≠ 0)) = [n].filter fun k => decide (st k ≠ 0) := by
        refine List.filter_congr (fun k hk => ?_)
        rw [List.mem_singleton.mp hk, up_n e]
      rw [e1]
      by_cases h : m < n
      · rw [if_pos h, if_pos (by omega)]; omega
      · rw [if_neg h, if_neg (by omega)]; omega
theorem cnt_le {st : Nat → Nat} {m n : Nat} (hm : m < n) (h0 : st m = 0) : ((List.range n).filter (fun k => decide (st k ≠ 0))).length < n := by
  have h1 := cnt_up (st := st) (how := 1) h0 (by decide) n
  rw [if_pos hm] at h1
  have h2 : ((List.range n).filter (fun k => decide (va_up st m 1 k ≠ 0))).length ≤ n := Nat.le_trans (List.length_filter_le _ _) (by rw [List.length_range]; exact Nat.le_refl _)
  omega
theorem inv_fin {s : St} {m how : Nat} (hI : Inv s) (hm : m < zMc s) (h0 : zSt s m = 0) (hh : how ≠ 0) (hh4 : how < 4) : Inv (finS s m how) := by
  obtain ⟨i1, i2, i3, i4, i5, i6, i7, i8, i9, i10⟩ := hI
  have hst : ∀ k, zSt (finS s m how) k = 0 → zSt s k = 0 := fun k hk => by
    by_cases e : k = m
    · rw [e]; exact h0
    · have : va_up (zSt s) m how k = 0 := hk
      rwa [up_n e] at this
  refine ⟨i1, i2, i3, i4, ?_, fun k hk => ?_, fun l hl => ?_, i8, i9, i10⟩
  · show (zRcp s ++ [10 * m + how]).length = _
    rw [List.length_append, i5]
    show _ + 1 = ((List.range (zMc s)).filter (fun k => decide (va_up (zSt s) m how k ≠ 0))).length
    rw [cnt_up h0 hh, if_pos hm]
  · obtain ⟨j1, j2, j3, j4, j5, j6, j7, j8⟩ := i6 k hk
    refine ⟨j1, j2, j3, j4, ?_, j6, j7, j8⟩
    show va_up (zSt s) m how k < 4
    by_cases e : k = m
    · rw [e, up_s]; exact hh4
    · rw [up_n e]; exact j5
  · obtain ⟨j1, j2, j3, j4, j5, j6, j7⟩ := i7 l hl
    have hin : ∀ {c}, InRow s l c → InRow (finS s m how) l c := fun {c} h => by
      obtain ⟨a, p, k1, k2, k3, k4, k5⟩ := h
      exact ⟨a, p, k1, k2, k3, k4, fun h => k5 (hst a h)⟩
    have hev : ∀ j, va_up (zRw s) (2 * (zRc s m % 3)) ((zRw s (2 * (zRc s m % 3))).filter (fun c => decide (mOf c ≠ m))) (2 * j + 1) = zRw s (2 * j + 1) := fun j => up_n (by omega)
    have hsub : (zRw (finS s m how) (2 * l)).Sublist (zRw s (2 * l)) := by
      show (va_up (zRw s) (2 * (zRc s m % 3)) _ (2 * l)).Sublist _
      by_cases e : 2 * l = 2 * (zRc s m % 3)
      · rw [e, up_s]; exact List.filter_sublist
      · rw [up_n e]; exact List.Sublist.refl _
    refine ⟨j1, j2, j3, j4, ?_, fun c hc => ?_, fun c hc => ?_⟩
    · refine List.Nodup.sublist ?_ j5
      show (zRw (finS s m how) (2 * l) ++ va_up (zRw s) _ _ (2 * l + 1)).Sublist _
      rw [hev]
      exact hsub.append (List.Sublist.refl _)
    · have h1 := j6 c (hsub.subset hc)
      refine ⟨hin h1.1, ?_⟩
      have hc2 : c ∈ va_up (zRw s) (2 * (zRc s m % 3)) ((zRw s (2 * (zRc s m % 3))).filter (fun c => decide (mOf c ≠ m))) (2 * l) := hc
      have hne : mOf c ≠ m := by
        obtain ⟨a, p, k1, k2, k3, k4, k5⟩ := h1.1
        have hl9 := (npL_spec (i6 a k1).2.1).1
        have e1 : mOf c = a := by rw [k3]; exact mOf_c (by omega)
        intro e
        rw [e1] at e
        subst e
        rw [k4, up_s] at hc2
        have := (List.mem_filter.mp hc2).2
        rw [e1] at this
        simp at this
      show va_up (zSt s) m how (mOf c) = 0
      rw [up_n hne]
      exact h1.2
    · have hc2 : c ∈ va_up (zRw s) (2 * (zRc s m % 3)) ((zRw s (2 * (zRc s m % 3))).filter (fun c => decide (mOf c ≠ m))) (2 * l + 1) := hc
      rw [hev] at hc2
      exact ⟨hin (j7 c hc2).1, (j7 c hc2).2⟩
theorem expN_now (s : St) : ∀ i, zNow (expN s i) = zNow s ∧ zMc (expN s i) = zMc s
  | 0 => ⟨rfl, rfl⟩
  | i + 1 => by
    have h := expN_now s i
    unfold expN
    split
    · exact h
    · exact h
theorem inv_exp {s : St} (hI : Inv s) : ∀ i, i ≤ zMc s → Inv (expN s i)
  | 0, _ => hI
  | i + 1, h => by
    have h1 := inv_exp hI i (by omega)
    unfold expN
    split
    · rename_i h2
      exact inv_fin h1 (by rw [(expN_now s i).2]; omega) h2.1 (by decide) (by decide)
    · exact h1
theorem inv_now {s : St} {n : Nat} (hI : Inv s) (hn : zNow s ≤ n) (hb : n ≤ 200000) : Inv (sNow s n) := by
  obtain ⟨i1, i2, i3, i4, i5, i6, i7, i8, i9, i10⟩ := hI
  exact ⟨hb, i2, i3, i4, i5, i6, i7, i8, i9, fun p hp => (i10 p hp).imp fun x hx => ⟨Nat.le_trans hx.1 hn, hx.2⟩⟩
/-- the rows of a link, in lists -/
def OkQ (s : St) (l : Nat) (q : Lst) : Prop := (q.1 ++ q.2.1).Nodup ∧ (∀ c ∈ q.1, InRow s l c ∧ zSt s (mOf c) = 0) ∧ (∀ c ∈ q.2.1, InRow s l c ∧ zPw s c = 0) ∧ q.2.2 ≤ 5
theorem prt_pw {s : St} {l c : Nat} (hI : Inv s) (h : InRow s l c) : zPw s c ≤ 1 := by
  obtain ⟨m, p, k1, k2, k3, k4, k5⟩ := h
  have := ((hI.2.2.2.2.2.1 m k1).2.2.2.2.2.2.2 p k2).2.2
  rw [← k3] at this
  exact this
theorem okq_snd {s : St} {l : Nat} (hI : Inv s) {now : Int32} {pt : Nat → Int32} {up : Bool} {wn : Nat} {q q' : Lst} (h : OkQ s l q) (hs : snd1 (rdB now pt (fun c => nI (zPw s c))) up wn q = some q') : OkQ s l q' := by
  obtain ⟨h1, h2, h3, h4⟩ := h
  have hs0 := hs
  simp only [snd1] at hs
  split at hs
  · cases hf : q.1.findIdx? (rdB now pt (fun c => nI (zPw s c))) with
    | none => rw [hf] at hs; cases hs
    | some i =>
      rw [hf] at hs
      obtain ⟨hi, hi1, -⟩ := List.findIdx?_eq_some_iff_getElem.mp hf
      have hgi : q.1[i]? = some (q.1.getD i 0) := by rw [List.getD_eq_getElem?_getD, List.getElem?_eq_getElem hi]; rfl
      have hgm := List.mem_of_getElem? hgi
      have e2 : q.1[i] = q.1.getD i 0 := Option.some.inj ((List.getElem?_eq_getElem hi).symm.trans hgi)
      rw [e2] at hi1
      cases hs
      refine ⟨?_, fun c hc => h2 c (List.mem_of_mem_eraseIdx hc), fun c hc => ?_, by show q.2.2 - 1 ≤ 5; omega⟩
      · have hp : (q.1.eraseIdx i ++ (q.2.1 ++ [q.1.getD i 0])).Perm (q.1 ++ q.2.1) := by
          have e1 := (er_perm hgi).append_right q.2.1
          refine List.Perm.trans ?_ e1.symm
          rw [← List.append_assoc]
          exact List.perm_append_singleton _ _
        exact hp.nodup_iff.mpr h1
      · rcases List.mem_append.mp hc with h | h
        · exact h3 c h
        · rw [List.mem_singleton.mp h]
          have hb := prt_pw hI (h2 _ hgm).1
          have : nI (zPw s (q.1.getD i 0)) = 0 := by
            have := hi1
            simp only [rdB, decide_eq_true_eq] at this
            exact this.1
          exact ⟨(h2 _ hgm).1, (nI_eq (b := 0) (by omega) (by decide)).mp this⟩
  · cases hs
theorem okq_sndN {s : St} {l : Nat} (hI : Inv s) {now : Int32} {pt : Nat → Int32} {up : Bool} {wn : Nat} : ∀ (n : Nat) {q : Lst}, OkQ s l q → OkQ s l (sndN (rdB now pt (fun c => nI (zPw s c))) up wn n q).1
  | 0, q, h => h
  | n + 1, q, h => by
    unfold sndN
    cases hs : snd1 (rdB now pt (fun c => nI (zPw s c))) up wn q with
    | none => exact h
    | some q' => exact okq_sndN hI n (okq_snd hI h hs)
theorem inv_lk {s : St} {l : Nat} (hI : Inv s) (hl : l < 3) : Inv (lkS s l) := by
  have hI0 := hI
  obtain ⟨i1, i2, i3, i4, i5, i6, i7, i8, i9, i10⟩ := hI
  have h7 := i7 l hl
  have hq : OkQ s l (lkQ s l).1 := okq_sndN hI0 5 ⟨h7.2.2.2.2.1, h7.2.2.2.2.2.1, h7.2.2.2.2.2.2, by
    have := h7.2.2.2.1
    show (if zTk s l < 5 then zTk s l + 1 else zTk s l) ≤ 5
    split <;> omega⟩
  refine ⟨i1, i2, i3, i4, i5, i6, fun j hj => ?_, i8, i9, i10⟩
  by_cases e : j = l
  · subst e
    refine ⟨h7.1, h7.2.1, h7.2.2.1, ?_, ?_, fun c hc => ?_, fun c hc => ?_⟩
    · show va_up (zTk s) j _ j ≤ 5
      rw [up_s]; exact hq.2.2.2
    · show (va_up (va_up (zRw s) (2 * j) _) (2 * j + 1) _ (2 * j) ++ va_up (va_up (zRw s) (2 * j) _) (2 * j + 1) _ (2 * j + 1)).Nodup
      rw [up_s, up_n (by omega), up_s]
      exact hq.1
    · have hc2 : c ∈ va_up (va_up (zRw s) (2 * j) (lkQ s j).1.1) (2 * j + 1) (lkQ s j).1.2.1 (2 * j) := hc
      rw [up_n (by omega), up_s] at hc2
      exact hq.2.1 c hc2
    · have hc2 : c ∈ va_up (va_up (zRw s) (2 * j) (lkQ s j).1.1) (2 * j + 1) (lkQ s j).1.2.1 (2 * j + 1) := hc
      rw [up_s] at hc2
      exact hq.2.2.1 c hc2
  · have e1 : zRw (lkS s l) (2 * j) = zRw s (2 * j) := by
      show va_up (va_up (zRw s) (2 * l) _) (2 * l + 1) _ (2 * j) = _
      rw [up_n (by omega), up_n (by omega)]
    have e2 : zRw (lkS s l) (2 * j + 1) = zRw s (2 * j + 1) := by
      show va_up (va_up (zRw s) (2 * l) _) (2 * l + 1) _ (2 * j + 1) = _
      rw [up_n (by omega), up_n (by omega)]
    have e3 : zTk (lkS s l) j = zTk s j := up_n e
    rw [e1, e2, e3]
    exact i7 j hj
theorem inv_lks {s : St} (hI : Inv s) : ∀ i, i ≤ 3 → Inv (lksN s i).1
  | 0, _ => hI
  | i + 1, h => inv_lk (inv_lks hI i (by omega)) (by omega)
theorem lksN_now (s : St) : ∀ i, zNow (lksN s i).1 = zNow s
  | 0 => rfl
  | i + 1 => lksN_now s i
theorem tick_now (s : St) : zNow (tickS s).1 = zNow s + 1 := (lksN_now _ 3).trans (expN_now _ _).1
theorem inv_tick {s : St} (hI : Inv s) (hb : zNow s + 1 ≤ 200000) : Inv (tickS s).1 := inv_lks (inv_exp (inv_now hI (Nat.le_succ _) hb) _ (Nat.le_refl _)) 3 (Nat.le_refl _)
theorem pas_now (s : St) : ∀ i, zNow (pasN s i).1 = zNow s + i
  | 0 => rfl
  | i + 1 => (tick_now _).trans (by rw [pas_now s i]; omega)
theorem inv_pas {s : St} (hI : Inv s) : ∀ i, zNow s + i ≤ 200000 → Inv (pasN s i).1
  | 0, _ => hI
  | i + 1, h => inv_tick (inv_pas hI i (by omega)) (by rw [pas_now]; omega)
theorem sndN_le {rd : Nat → Bool} {up : Bool} {wn : Nat} : ∀ (n : Nat) (q : Lst), (sndN rd up wn n q).2 ≤ n
  | 0, _ => Nat.le_refl _
  | n + 1, q => by
    unfold sndN
    cases snd1 rd up wn q with
    | none => exact Nat.zero_le _
    | some q' => have := sndN_le n q' (rd := rd) (up := up) (wn := wn); simp only; omega
theorem lks_le (s : St) : ∀ i, (lksN s i).2 ≤ 5 * i
  | 0 => Nat.le_refl _
  | i + 1 => by have := lks_le s i; have h2 : (lkQ (lksN s i).1 i).2 ≤ 5 := sndN_le 5 _; show (lksN s i).2 + (lkQ (lksN s i).1 i).2 ≤ _; omega
theorem pas_le (s : St) : ∀ i, (pasN s i).2 ≤ 15 * i
  | 0 => Nat.le_refl _
  | i + 1 => by have := pas_le s i; have h2 : (tickS (pasN s i).1).2 ≤ 15 := lks_le _ 3; show (pasN s i).2 + (tickS (pasN s i).1).2 ≤ _; omega
