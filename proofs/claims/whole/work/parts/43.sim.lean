/-! ===== class and model: two states that tell the same ===== -/
/-- all is equal, but for the failures and the times of parts -/
def CE (s u : St) : Prop := zNow u = zNow s ∧ zMc u = zMc s ∧ zTxt u = zTxt s ∧ zRcp u = zRcp s ∧ zUp u = zUp s ∧ zWn u = zWn s ∧ zTk u = zTk s ∧ zRw u = zRw s ∧ zSt u = zSt s ∧ zRc u = zRc s ∧ zEn u = zEn s ∧ zLk u = zLk s ∧ zMs u = zMs s ∧ zPw u = zPw s ∧ zKw u = zKw s ∧ zSe u = zSe s ∧ zLa u = zLa s
def SimR (s : St) (pf pt : Nat → Nat) : Prop :=
  (∀ l, l < 3 → ∀ c ∈ zRw s (2 * l), zPt s c = pt c ∨ (zPt s c ≤ zNow s ∧ pt c ≤ zNow s)) ∧
  (∀ l, l < 3 → ∀ c ∈ zRw s (2 * l + 1), zPt s c ≤ zNow s ∧ pt c ≤ zNow s) ∧
  (∀ l, l < 3 → ∀ c, c ∈ zRw s (2 * l) ∨ c ∈ zRw s (2 * l + 1) → zSt s (mOf c) = 0 → zPf s c = pf c) ∧
  zKw s 0 = -1 ∧ KwU (zKw s)
def Sim (s u : St) : Prop := CE s u ∧ SimR s (zPf u) (zPt u)
/-- two answers that tell the same -/
def SimA (r r' : Ans) : Prop := r'.1 = r.1 ∧ r'.2.1 = r.2.1 ∧ Sim r.2.2 r'.2.2
theorem sim_rf {s u : St} {x y : Int32} {k : Nat} (h : Sim s u) (e : y = x) : SimA (k, x, s) (k, y, u) := ⟨rfl, e, h⟩
theorem sim_if {c c' : Prop} {_ : Decidable c} {_ : Decidable c'} {a b a' b' : Ans} (hc : c' ↔ c) (h1 : c → SimA a a') (h2 : ¬ c → SimA b b') : SimA (if c then a else b) (if c' then a' else b') := by
  by_cases h : c
  · rw [if_pos h, if_pos (hc.mpr h)]; exact h1 h
  · rw [if_neg h, if_neg (fun g => h (hc.mp g))]; exact h2 h
theorem sim_ie {c : Prop} {_ : Decidable c} {a b a' b' : Ans} (h1 : c → SimA a a') (h2 : ¬ c → SimA b b') : SimA (if c then a else b) (if c then a' else b') := sim_if Iff.rfl h1 h2
variable {s u : St}
theorem sm_write {a b : Int32} (h : Sim s u) : SimA (spWrite s a b) (spWrite u a b) := by
  have h0 := h
  obtain ⟨⟨e1, e2, e3, e4, e5, e6, e7, e8, e9, e10, e11, e12, e13, e14, e15, e16, e17⟩, hR⟩ := h
  unfold spWrite
  refine sim_ie (fun _ => sim_rf h0 rfl) (fun _ => ?_)
  rw [e3]
  exact sim_ie (fun _ => sim_rf h0 rfl) (fun _ => sim_rf ⟨⟨e1, e2, rfl, e4, e5, e6, e7, e8, e9, e10, e11, e12, e13, e14, e15, e16, e17⟩, hR⟩ rfl)
theorem sm_erase  (h : Sim s u) : SimA (spErase s) (spErase u) := by
  have h0 := h
  obtain ⟨⟨e1, e2, e3, e4, e5, e6, e7, e8, e9, e10, e11, e12, e13, e14, e15, e16, e17⟩, hR⟩ := h
  exact sim_rf ⟨⟨e1, e2, rfl, e4, e5, e6, e7, e8, e9, e10, e11, e12, e13, e14, e15, e16, e17⟩, hR⟩ (by rw [e3])
theorem sm_wide  (h : Sim s u) : SimA (spWide s) (spWide u) := by
  have h0 := h
  obtain ⟨⟨e1, e2, e3, e4, e5, e6, e7, e8, e9, e10, e11, e12, e13, e14, e15, e16, e17⟩, hR⟩ := h
  exact sim_rf h0 (by rw [e3])
theorem sm_parts  (h : Sim s u) : SimA (spParts s) (spParts u) := by
  have h0 := h
  obtain ⟨⟨e1, e2, e3, e4, e5, e6, e7, e8, e9, e10, e11, e12, e13, e14, e15, e16, e17⟩, hR⟩ := h
  exact sim_rf h0 (by rw [e3])
theorem sm_rcps  (h : Sim s u) : SimA (spRcps s) (spRcps u) := by
  have h0 := h
  obtain ⟨⟨e1, e2, e3, e4, e5, e6, e7, e8, e9, e10, e11, e12, e13, e14, e15, e16, e17⟩, hR⟩ := h
  exact sim_rf h0 (by rw [e4])
theorem sm_time  (h : Sim s u) : SimA (spTime s) (spTime u) := by
  have h0 := h
  obtain ⟨⟨e1, e2, e3, e4, e5, e6, e7, e8, e9, e10, e11, e12, e13, e14, e15, e16, e17⟩, hR⟩ := h
  exact sim_rf h0 (by rw [e1])
theorem sm_sept  (h : Sim s u) : SimA (spSept s) (spSept u) := by
  have h0 := h
  obtain ⟨⟨e1, e2, e3, e4, e5, e6, e7, e8, e9, e10, e11, e12, e13, e14, e15, e16, e17⟩, hR⟩ := h
  unfold spSept
  rw [e3]
  exact sim_ie (fun _ => sim_rf h0 rfl) (fun _ => sim_rf h0 rfl)
theorem sm_signs {a : Int32} (h : Sim s u) : SimA (spSigns s a) (spSigns u a) := by
  have h0 := h
  obtain ⟨⟨e1, e2, e3, e4, e5, e6, e7, e8, e9, e10, e11, e12, e13, e14, e15, e16, e17⟩, hR⟩ := h
  unfold spSigns
  rw [e3]
  exact sim_ie (fun _ => sim_rf h0 rfl) (fun _ => sim_rf h0 rfl)
theorem sm_octs {a : Int32} (h : Sim s u) : SimA (spOcts s a) (spOcts u a) := by
  have h0 := h
  obtain ⟨⟨e1, e2, e3, e4, e5, e6, e7, e8, e9, e10, e11, e12, e13, e14, e15, e16, e17⟩, hR⟩ := h
  unfold spOcts
  rw [e3]
  exact sim_ie (fun _ => sim_rf h0 rfl) (fun _ => sim_rf h0 rfl)
theorem sm_state {a : Int32} (h : Sim s u) : SimA (spState s a) (spState u a) := by
  have h0 := h
  obtain ⟨⟨e1, e2, e3, e4, e5, e6, e7, e8, e9, e10, e11, e12, e13, e14, e15, e16, e17⟩, hR⟩ := h
  unfold spState
  rw [e2, e9]
  exact sim_ie (fun _ => sim_rf h0 rfl) (fun _ => sim_rf h0 rfl)
theorem sm_miss {a : Int32} (h : Sim s u) : SimA (spMiss s a) (spMiss u a) := by
  have h0 := h
  obtain ⟨⟨e1, e2, e3, e4, e5, e6, e7, e8, e9, e10, e11, e12, e13, e14, e15, e16, e17⟩, hR⟩ := h
  unfold spMiss
  rw [e2, e12]
  exact sim_ie (fun _ => sim_rf h0 rfl) (fun _ => sim_rf h0 rfl)
theorem sm_rcp {a : Int32} (h : Sim s u) : SimA (spRcp s a) (spRcp u a) := by
  have h0 := h
  obtain ⟨⟨e1, e2, e3, e4, e5, e6, e7, e8, e9, e10, e11, e12, e13, e14, e15, e16, e17⟩, hR⟩ := h
  unfold spRcp
  rw [e4]
  exact sim_ie (fun _ => sim_rf h0 rfl) (fun _ => sim_rf h0 rfl)
theorem sm_qd {a : Int32} (h : Sim s u) : SimA (spQd s a) (spQd u a) := by
  have h0 := h
  obtain ⟨⟨e1, e2, e3, e4, e5, e6, e7, e8, e9, e10, e11, e12, e13, e14, e15, e16, e17⟩, hR⟩ := h
  unfold spQd
  rw [e8]
  exact sim_ie (fun _ => sim_rf h0 rfl) (fun _ => sim_rf h0 rfl)
theorem sm_uw {a : Int32} (h : Sim s u) : SimA (spUw s a) (spUw u a) := by
  have h0 := h
  obtain ⟨⟨e1, e2, e3, e4, e5, e6, e7, e8, e9, e10, e11, e12, e13, e14, e15, e16, e17⟩, hR⟩ := h
  unfold spUw
  rw [e8]
  exact sim_ie (fun _ => sim_rf h0 rfl) (fun _ => sim_rf h0 rfl)
theorem sm_tok {a : Int32} (h : Sim s u) : SimA (spTok s a) (spTok u a) := by
  have h0 := h
  obtain ⟨⟨e1, e2, e3, e4, e5, e6, e7, e8, e9, e10, e11, e12, e13, e14, e15, e16, e17⟩, hR⟩ := h
  unfold spTok
  rw [e7]
  exact sim_ie (fun _ => sim_rf h0 rfl) (fun _ => sim_rf h0 rfl)
theorem sm_oct {a b : Int32} (h : Sim s u) : SimA (spOct s a b) (spOct u a b) := by
  have h0 := h
  obtain ⟨⟨e1, e2, e3, e4, e5, e6, e7, e8, e9, e10, e11, e12, e13, e14, e15, e16, e17⟩, hR⟩ := h
  unfold spOct
  rw [e3]
  exact sim_ie (fun _ => sim_rf h0 rfl) (fun _ => sim_ie (fun _ => sim_rf h0 rfl) (fun _ => sim_rf h0 rfl))
theorem sm_join {a b : Int32} (h : Sim s u) : SimA (spJoin s a b) (spJoin u a b) := by
  have h0 := h
  obtain ⟨⟨e1, e2, e3, e4, e5, e6, e7, e8, e9, e10, e11, e12, e13, e14, e15, e16, e17⟩, hR⟩ := h
  unfold spJoin
  rw [e2, e13, e12]
  exact sim_ie (fun _ => sim_rf h0 rfl) (fun _ => sim_ie (fun _ => sim_rf h0 rfl) (fun _ => sim_rf h0 rfl))
theorem sm_setW {a b : Int32} (h : Sim s u) : SimA (spSetW s a b) (spSetW u a b) := by
  have h0 := h
  obtain ⟨⟨e1, e2, e3, e4, e5, e6, e7, e8, e9, e10, e11, e12, e13, e14, e15, e16, e17⟩, hR⟩ := h
  unfold spSetW
  rw [e6]
  exact sim_ie (fun _ => sim_rf h0 rfl) (fun _ => sim_ie (fun _ => sim_rf h0 rfl) (fun _ => sim_rf ⟨⟨e1, e2, e3, e4, e5, rfl, e7, e8, e9, e10, e11, e12, e13, e14, e15, e16, e17⟩, hR⟩ rfl))
theorem wk_ce {r : Nat} (h : Sim s u) : wkS u r = wkS s r := by
  have h0 := h
  obtain ⟨⟨e1, e2, e3, e4, e5, e6, e7, e8, e9, e10, e11, e12, e13, e14, e15, e16, e17⟩, hR⟩ := h
  funext c
  show wkD (fun c => nI (zRc u (mOf c))) (fun c => nI (zPw u c)) (nI r) c = wkD (fun c => nI (zRc s (mOf c))) (fun c => nI (zPw s c)) (nI r) c
  rw [e10, e14]
theorem sm_alert {a : Int32} (h : Sim s u) : SimA (spAlert s a) (spAlert u a) := by
  have hw := fun r => wk_ce (r := r) h
  have h0 := h
  obtain ⟨⟨e1, e2, e3, e4, e5, e6, e7, e8, e9, e10, e11, e12, e13, e14, e15, e16, e17⟩, hR⟩ := h
  unfold spAlert
  rw [hw, e8, e14]
  exact sim_ie (fun _ => sim_rf h0 rfl) (fun _ => sim_rf ⟨⟨e1, e2, e3, e4, e5, e6, e7, e8, e9, e10, e11, e12, e13, rfl, e15, e16, e17⟩, hR⟩ rfl)
theorem sm_come {a b : Int32} (h : Sim s u) : SimA (spCome s a b) (spCome u a b) := by
  have h0 := h
  obtain ⟨⟨e1, e2, e3, e4, e5, e6, e7, e8, e9, e10, e11, e12, e13, e14, e15, e16, e17⟩, hR⟩ := h
  unfold spCome
  rw [e15, e16, e17, e1]
  exact sim_ie (fun _ => sim_rf h0 rfl) (fun _ => sim_rf ⟨⟨e1, e2, e3, e4, e5, e6, e7, e8, e9, e10, e11, e12, e13, e14, e15, rfl, rfl⟩, hR⟩ rfl)
theorem sm_key {a b : Int32} (h : Sim s u) : SimA (spKey s a b) (spKey u a b) := by
  have h0 := h
  obtain ⟨⟨e1, e2, e3, e4, e5, e6, e7, e8, e9, e10, e11, e12, e13, e14, e15, e16, e17⟩, hR⟩ := h
  unfold spKey
  rw [e15]
  refine sim_ie (fun _ => sim_rf h0 rfl) (fun hg => sim_rf ⟨⟨e1, e2, e3, e4, e5, e6, e7, e8, e9, e10, e11, e12, e13, e14, rfl, e16, e17⟩, hR.1, hR.2.1, hR.2.2.1, ?_, ?_⟩ rfl)
  · obtain ⟨-, -, -, h0, hu⟩ := hR
    show gkF (zKw s) a.toNatClampNeg b 0 = -1
    obtain ⟨j, hj, rfl⟩ := badI_not (a := a) (n := 5) (by decide) (fun g => g.elim (fun g => hg (Or.inl (Int32.le_of_lt g))) (fun g => hg (Or.inr (Or.inl g))))
    have hj0 : j ≠ 0 := fun e => hg (Or.inl (by rw [e]; exact Int32.le_refl _))
    rw [show (nI j).toNatClampNeg = j from nI_clamp (by omega)]
    unfold gkF
    rw [if_neg (Ne.symm hj0), h0]
    split <;> rfl
  · obtain ⟨-, -, -, h0, hu⟩ := hR
    show KwU (gkF (zKw s) a.toNatClampNeg b)
    intro i k h1 h2 h3 h4
    unfold gkF at h4 ⊢
    by_cases ei : i = a.toNatClampNeg
    · rw [if_pos ei] at h4 ⊢
      rw [if_neg (by omega)] at h4
      by_cases ek : zKw s k = b
      · rw [if_pos ek] at h4; exact h4
      · rw [if_neg ek] at h4; exact absurd h4.symm ek
    · rw [if_neg ei] at h4 ⊢
      by_cases ek : k = a.toNatClampNeg
      · rw [if_pos ek] at h4
        by_cases e2 : zKw s i = b
        · rw [if_pos e2]
        · rw [if_neg e2] at h4; exact absurd h4 e2
      · rw [if_neg ek] at h4
        by_cases e2 : zKw s i = b
        · rw [if_pos e2]
        · rw [if_neg e2] at h4 ⊢
          by_cases e3 : zKw s k = b
          · rw [if_pos e3] at h4; exact h4
          · rw [if_neg e3] at h4; exact hu i k h1 h2 h3 h4
/-! the steps inside -/
theorem fin_rw {m how r : Nat} : ∀ c ∈ zRw (finS s m how) r, c ∈ zRw s r := by
  intro c hc
  have hc : c ∈ va_up (zRw s) (2 * (zRc s m % 3)) ((zRw s (2 * (zRc s m % 3))).filter (fun c => decide (mOf c ≠ m))) r := hc
  by_cases e : r = 2 * (zRc s m % 3)
  · rw [e, up_s] at hc; rw [e]; exact (List.mem_filter.mp hc).1
  · rw [up_n e] at hc; exact hc
theorem fin_st {m how k : Nat} (hh : how ≠ 0) (h : zSt (finS s m how) k = 0) : zSt s k = 0 ∧ k ≠ m := by
  have h : va_up (zSt s) m how k = 0 := h
  by_cases e : k = m
  · rw [e, up_s] at h; exact absurd h hh
  · rw [up_n e] at h; exact ⟨h, e⟩
theorem sr_fin {m how : Nat} {pf pt : Nat → Nat} (hh : how ≠ 0) (h : SimR s pf pt) : SimR (finS s m how) pf pt :=
  ⟨fun l hl c hc => h.1 l hl c (fin_rw c hc), fun l hl c hc => h.2.1 l hl c (fin_rw c hc), fun l hl c hc h0 => h.2.2.1 l hl c (hc.elim (fun g => Or.inl (fin_rw c g)) (fun g => Or.inr (fin_rw c g))) (fin_st hh h0).1, h.2.2.2.1, h.2.2.2.2⟩
theorem si_fin {m how : Nat} (h : Sim s u) (hh : how ≠ 0) : Sim (finS s m how) (finS u m how) := by
  have h0 := h
  obtain ⟨⟨e1, e2, e3, e4, e5, e6, e7, e8, e9, e10, e11, e12, e13, e14, e15, e16, e17⟩, hR⟩ := h
  refine ⟨⟨e1, e2, e3, ?_, e5, e6, e7, ?_, ?_, e10, e11, e12, e13, e14, e15, e16, e17⟩, ?_⟩
  · show zRcp u ++ [10 * m + how] = zRcp s ++ [10 * m + how]
    rw [e4]
  · show va_up (zRw u) (2 * (zRc u m % 3)) ((zRw u (2 * (zRc u m % 3))).filter (fun c => decide (mOf c ≠ m))) = va_up (zRw s) (2 * (zRc s m % 3)) ((zRw s (2 * (zRc s m % 3))).filter (fun c => decide (mOf c ≠ m)))
    rw [e8, e10]
  · show va_up (zSt u) m how = va_up (zSt s) m how
    rw [e9]
  · exact sr_fin hh hR
theorem si_exp  (h : Sim s u) : ∀ i, Sim (expN s i) (expN u i) := by
  intro i
  induction i with
  | zero => exact h
  | succ i ih =>
    have hc : (zSt (expN u i) i = 0 ∧ zEn (expN u i) i ≤ zNow (expN u i)) ↔ (zSt (expN s i) i = 0 ∧ zEn (expN s i) i ≤ zNow (expN s i)) := by
      obtain ⟨⟨e1, e2, e3, e4, e5, e6, e7, e8, e9, e10, e11, e12, e13, e14, e15, e16, e17⟩, -⟩ := ih
      rw [e9, e11, e1]
    by_cases g : zSt (expN s i) i = 0 ∧ zEn (expN s i) i ≤ zNow (expN s i)
    · rw [exp_yes g, exp_yes (hc.mpr g)]; exact si_fin ih (by decide)
    · rw [exp_no g, exp_no (fun q => g (hc.mp q))]; exact ih
theorem si_now {n : Nat} (h : Sim s u) (hn : zNow s ≤ n) : Sim (sNow s n) (sNow u n) := by
  have h0 := h
  obtain ⟨⟨e1, e2, e3, e4, e5, e6, e7, e8, e9, e10, e11, e12, e13, e14, e15, e16, e17⟩, hR⟩ := h
  refine ⟨⟨rfl, e2, e3, e4, e5, e6, e7, e8, e9, e10, e11, e12, e13, e14, e15, e16, e17⟩, fun l hl c hc => ?_, fun l hl c hc => ?_, hR.2.2⟩
  · rcases hR.1 l hl c hc with g | g
    · exact Or.inl g
    · exact Or.inr ⟨Nat.le_trans g.1 hn, Nat.le_trans g.2 hn⟩
  · exact ⟨Nat.le_trans (hR.2.1 l hl c hc).1 hn, Nat.le_trans (hR.2.1 l hl c hc).2 hn⟩
theorem fi_cg {rd rd' : Nat → Bool} : ∀ {L : List Nat}, (∀ c ∈ L, rd c = rd' c) → L.findIdx? rd = L.findIdx? rd'
  | [], _ => rfl
  | a :: l, h => by
    rw [List.findIdx?_cons, List.findIdx?_cons, h a List.mem_cons_self, fi_cg (fun c hc => h c (List.mem_cons_of_mem _ hc))]
theorem sn_cg {rd rd' : Nat → Bool} {up : Bool} {wn : Nat} : ∀ (n : Nat) {q : Lst}, (∀ c ∈ q.1, rd c = rd' c) → sndN rd up wn n q = sndN rd' up wn n q
  | 0, _, _ => rfl
  | n + 1, q, h => by
    have e : snd1 rd up wn q = snd1 rd' up wn q := by
      unfold snd1
      rw [fi_cg h]
    unfold sndN
    rw [e]
    cases hs : snd1 rd' up wn q with
    | none => rfl
    | some q' =>
      have hq : ∀ c ∈ q'.1, rd c = rd' c := fun c hc => h c ((snd1_sub hs).1 c hc)
      simp only [sn_cg n hq]
theorem sn_sub {rd : Nat → Bool} {up : Bool} {wn : Nat} : ∀ (n : Nat) {q : Lst}, (∀ c ∈ (sndN rd up wn n q).1.1, c ∈ q.1) ∧ ∀ c ∈ (sndN rd up wn n q).1.2.1, c ∈ q.2.1 ∨ (c ∈ q.1 ∧ rd c = true)
  | 0, q => ⟨fun c hc => hc, fun c hc => Or.inl hc⟩
  | n + 1, q => by
    unfold sndN
    cases hs : snd1 rd up wn q with
    | none => exact ⟨fun c hc => hc, fun c hc => Or.inl hc⟩
    | some q' =>
      obtain ⟨h1, h2⟩ := sn_sub n (rd := rd) (up := up) (wn := wn) (q := q')
      have hs0 := hs
      have hq : ∀ c ∈ q'.2.1, c ∈ q.2.1 ∨ (c ∈ q.1 ∧ rd c = true) := by
        intro c hc
        simp only [snd1] at hs
        split at hs
        · cases hf : q.1.findIdx? rd with
          | none => rw [hf] at hs; cases hs
          | some i =>
            rw [hf] at hs
            obtain ⟨hi, hr, -⟩ := List.findIdx?_eq_some_iff_getElem.mp hf
            cases hs
            rcases List.mem_append.mp hc with g | g
            · exact Or.inl g
            · rw [List.mem_singleton.mp g, List.getD_eq_getElem?_getD, List.getElem?_eq_getElem hi]
              exact Or.inr ⟨List.getElem_mem hi, hr⟩
        · cases hs
      refine ⟨fun c hc => (snd1_sub hs0).1 c (h1 c hc), fun c hc => ?_⟩
      rcases h2 c hc with g | g
      · exact hq c g
      · exact Or.inr ⟨(snd1_sub hs0).1 c g.1, g.2⟩
theorem pt_small (hI : Inv s) {l c : Nat} (h : InRow s l c) : zPt s c ≤ 300000 := by
  obtain ⟨m, p, k1, k2, k3, k4, k5⟩ := h
  have := ((hI.2.2.2.2.2.1 m k1).2.2.2.2.2.2.2 p k2).2.1
  rwa [← k3] at this
theorem si_lkQ {j : Nat} (h : Sim s u) (hI : Inv s) (hIu : Inv u) (hj : j < 3) : lkQ u j = lkQ s j := by
  have h0 := h
  obtain ⟨⟨e1, e2, e3, e4, e5, e6, e7, e8, e9, e10, e11, e12, e13, e14, e15, e16, e17⟩, hR⟩ := h
  unfold lkQ
  rw [e1, e5, e6, e7, e8, e14]
  refine (sn_cg 5 (fun c hc => ?_)).symm
  have hc : c ∈ zRw s (2 * j) := hc
  have b1 := pt_small hI (q_in hI hj hc)
  have b2 := pt_small hIu (q_in hIu hj (by rw [e8]; exact hc))
  have b3 := hI.1
  show decide (nI (zPw s c) = 0 ∧ nI (zPt s c) ≤ nI (zNow s)) = decide (nI (zPw s c) = 0 ∧ nI (zPt u c) ≤ nI (zNow s))
  rcases hR.1 j hj c hc with g | g
  · rw [g]
  · have g1 : nI (zPt s c) ≤ nI (zNow s) := nI_le g.1 (by omega)
    have g2 : nI (zPt u c) ≤ nI (zNow s) := nI_le g.2 (by omega)
    simp only [g1, g2, and_true]
theorem si_lk {j : Nat} (h : Sim s u) (hI : Inv s) (hIu : Inv u) (hj : j < 3) : Sim (lkS s j) (lkS u j) := by
  have hQ := si_lkQ h hI hIu hj
  have h0 := h
  obtain ⟨⟨e1, e2, e3, e4, e5, e6, e7, e8, e9, e10, e11, e12, e13, e14, e15, e16, e17⟩, hR⟩ := h
  refine ⟨⟨e1, e2, e3, e4, e5, e6, ?_, ?_, e9, e10, e11, e12, e13, e14, e15, e16, e17⟩, ?_⟩
  · show va_up (zTk u) j (lkQ u j).1.2.2 = va_up (zTk s) j (lkQ s j).1.2.2
    rw [hQ, e7]
  · show va_up (va_up (zRw u) (2 * j) (lkQ u j).1.1) (2 * j + 1) (lkQ u j).1.2.1 = va_up (va_up (zRw s) (2 * j) (lkQ s j).1.1) (2 * j + 1) (lkQ s j).1.2.1
    rw [hQ, e8]
  · have hsub := sn_sub 5 (rd := rdB (nI (zNow s)) (fun c => nI (zPt s c)) (fun c => nI (zPw s c))) (up := decide (¬ nI (zUp s j) = 0)) (wn := zWn s j) (q := (zRw s (2 * j), zRw s (2 * j + 1), if zTk s j < 5 then zTk s j + 1 else zTk s j))
    have hq1 : ∀ c ∈ (lkQ s j).1.1, c ∈ zRw s (2 * j) := hsub.1
    have hq2 : ∀ c ∈ (lkQ s j).1.2.1, c ∈ zRw s (2 * j + 1) ∨ (c ∈ zRw s (2 * j) ∧ rdB (nI (zNow s)) (fun c => nI (zPt s c)) (fun c => nI (zPw s c)) c = true) := hsub.2
    have ea : ∀ r, zRw (lkS s j) (2 * r) = if r = j then (lkQ s j).1.1 else zRw s (2 * r) := fun r => by
      show va_up (va_up (zRw s) (2 * j) (lkQ s j).1.1) (2 * j + 1) (lkQ s j).1.2.1 (2 * r) = _
      rw [up_n (by omega)]
      by_cases e : r = j
      · rw [e, up_s, if_pos rfl]
      · rw [up_n (by omega), if_neg e]
    have eb : ∀ r, zRw (lkS s j) (2 * r + 1) = if r = j then (lkQ s j).1.2.1 else zRw s (2 * r + 1) := fun r => by
      show va_up (va_up (zRw s) (2 * j) (lkQ s j).1.1) (2 * j + 1) (lkQ s j).1.2.1 (2 * r + 1) = _
      by_cases e : r = j
      · rw [e, up_s, if_pos rfl]
      · rw [up_n (by omega), up_n (by omega), if_neg e]
    refine ⟨fun l hl c hc => ?_, fun l hl c hc => ?_, fun l hl c hc hs0 => ?_, hR.2.2.2⟩
    · rw [ea] at hc
      by_cases e : l = j
      · rw [if_pos e] at hc; exact hR.1 j hj c (hq1 c hc)
      · rw [if_neg e] at hc; exact hR.1 l hl c hc
    · rw [eb] at hc
      by_cases e : l = j
      · rw [if_pos e] at hc
        rcases hq2 c hc with g | g
        · exact hR.2.1 j hj c g
        · have b1 := pt_small hI (q_in hI hj g.1)
          have b3 := hI.1
          have g2 : nI (zPw s c) = 0 ∧ nI (zPt s c) ≤ nI (zNow s) := of_decide_eq_true g.2
          have g3 : zPt s c ≤ zNow s := (nI_leI (by omega) (by omega)).mp g2.2
          rcases hR.1 j hj c g.1 with q | q
          · exact ⟨g3, by show zPt u c ≤ zNow s; rw [← q]; exact g3⟩
          · exact q
      · rw [if_neg e] at hc; exact hR.2.1 l hl c hc
    · rw [ea, eb] at hc
      by_cases e : l = j
      · rw [if_pos e, if_pos e] at hc
        refine hR.2.2.1 j hj c ?_ hs0
        rcases hc with g | g
        · exact Or.inl (hq1 c g)
        · exact (hq2 c g).elim Or.inr (fun q => Or.inl q.1)
      · rw [if_neg e, if_neg e] at hc; exact hR.2.2.1 l hl c hc hs0
theorem si_lks  (h : Sim s u) (hI : Inv s) (hIu : Inv u) : ∀ i, i ≤ 3 → Sim (lksN s i).1 (lksN u i).1 ∧ (lksN u i).2 = (lksN s i).2 := by
  intro i
  induction i with
  | zero => exact fun _ => ⟨h, rfl⟩
  | succ i ih =>
    intro hi
    obtain ⟨g1, g2⟩ := ih (by omega)
    have hI1 := inv_lks hI i (by omega)
    have hI2 := inv_lks hIu i (by omega)
    refine ⟨si_lk g1 hI1 hI2 (by omega), ?_⟩
    show (lksN u i).2 + (lkQ (lksN u i).1 i).2 = (lksN s i).2 + (lkQ (lksN s i).1 i).2
    rw [g2, si_lkQ g1 hI1 hI2 (by omega)]
theorem si_tick  (h : Sim s u) (hI : Inv s) (hIu : Inv u) (hb : zNow s + 1 ≤ 200000) : Sim (tickS s).1 (tickS u).1 ∧ (tickS u).2 = (tickS s).2 := by
  have e1 := h.1.1
  have e2 := h.1.2.1
  have g := si_now (n := zNow s + 1) h (Nat.le_succ _)
  have g2 := si_exp g (zMc s)
  have hI1 := inv_exp (inv_now hI (Nat.le_succ _) hb) (zMc s) (Nat.le_refl _)
  have hI2 := inv_exp (inv_now (n := zNow u + 1) hIu (Nat.le_succ _) (by rw [e1]; exact hb)) (zMc u) (Nat.le_refl _)
  unfold tickS
  rw [e1, e2] at hI2
  rw [e1, e2]
  exact si_lks g2 hI1 hI2 3 (Nat.le_refl _)
theorem si_pas  (h : Sim s u) (hI : Inv s) (hIu : Inv u) : ∀ i, zNow s + i ≤ 200000 → Sim (pasN s i).1 (pasN u i).1 ∧ (pasN u i).2 = (pasN s i).2 := by
  intro i
  induction i with
  | zero => exact fun _ => ⟨h, rfl⟩
  | succ i ih =>
    intro hi
    obtain ⟨g1, g2⟩ := ih (by omega)
    have e1 := h.1.1
    have t := si_tick g1 (inv_pas hI i (by omega)) (inv_pas hIu i (by rw [e1]; omega)) (by rw [pas_now]; omega)
    refine ⟨t.1, ?_⟩
    show (pasN u i).2 + (tickS (pasN u i).1).2 = (pasN s i).2 + (tickS (pasN s i).1).2
    rw [g2, t.2]
theorem sm_pass {a : Int32} (h : Sim s u) (hI : Inv s) (hIu : Inv u) (hb : zNow s ≤ 190000) : SimA (spPass s a) (spPass u a) := by
  unfold spPass
  refine sim_ie (fun _ => sim_rf h rfl) (fun g => ?_)
  obtain ⟨k, hk, rfl⟩ := nI_of2 (n := 200) (M := 200) rfl (fun q => g (Or.inl (Int32.lt_trans q (by decide)))) (Int32.not_lt.mp (fun q => g (Or.inr q)))
  rw [show (nI k).toNatClampNeg = k from nI_clamp (by omega)]
  obtain ⟨t1, t2⟩ := si_pas h hI hIu k (by omega)
  exact sim_rf t1 (by rw [t2])
