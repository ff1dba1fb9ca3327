/-! ===== class and model: the link's fall, a text submitted, an acknowledgement ===== -/
variable {s u : St}
theorem si_down {j : Nat} (h : Sim s u) (hj : j < 3) : Sim (downS s j) (downS u j) := by
  have h0 := h
  obtain ⟨⟨e1, e2, e3, e4, e5, e6, e7, e8, e9, e10, e11, e12, e13, e14, e15, e16, e17⟩, hR⟩ := h
  refine ⟨⟨e1, e2, e3, e4, ?_, e6, e7, ?_, e9, e10, e11, e12, e13, e14, e15, e16, e17⟩, ?_⟩
  · show va_up (zUp u) j 0 = va_up (zUp s) j 0
    rw [e5]
  · show va_up (va_up (zRw u) (2 * j) ((zRw u (2 * j + 1)).filter (fun c => decide (zSt u (mOf c) = 0)) ++ zRw u (2 * j))) (2 * j + 1) [] = va_up (va_up (zRw s) (2 * j) ((zRw s (2 * j + 1)).filter (fun c => decide (zSt s (mOf c) = 0)) ++ zRw s (2 * j))) (2 * j + 1) []
    rw [e8, e9]
  · have p1 : ∀ c, zPt (downS s j) c = if c ∈ zRw s (2 * j + 1) ∧ zSt s (mOf c) = 0 then zNow s else zPt s c := fun c => rfl
    have p2 : ∀ c, zPt (downS u j) c = if c ∈ zRw s (2 * j + 1) ∧ zSt s (mOf c) = 0 then zNow s else zPt u c := fun c => by
      show (if c ∈ zRw u (2 * j + 1) ∧ zSt u (mOf c) = 0 then zNow u else zPt u c) = _
      rw [e8, e9, e1]
    have ea : ∀ r, zRw (downS s j) (2 * r) = if r = j then (zRw s (2 * j + 1)).filter (fun c => decide (zSt s (mOf c) = 0)) ++ zRw s (2 * j) else zRw s (2 * r) := fun r => by
      show va_up (va_up (zRw s) (2 * j) _) (2 * j + 1) [] (2 * r) = _
      rw [up_n (by omega)]
      by_cases e : r = j
      · rw [e, up_s, if_pos rfl]
      · rw [up_n (by omega), if_neg e]
    have eb : ∀ r, zRw (downS s j) (2 * r + 1) = if r = j then [] else zRw s (2 * r + 1) := fun r => by
      show va_up (va_up (zRw s) (2 * j) _) (2 * j + 1) [] (2 * r + 1) = _
      by_cases e : r = j
      · rw [e, up_s, if_pos rfl]
      · rw [up_n (by omega), up_n (by omega), if_neg e]
    refine ⟨fun l hl c hc => ?_, fun l hl c hc => ?_, fun l hl c hc hs0 => ?_, hR.2.2.2⟩
    · rw [p1, p2]
      by_cases g : c ∈ zRw s (2 * j + 1) ∧ zSt s (mOf c) = 0
      · rw [if_pos g, if_pos g]; exact Or.inl rfl
      · rw [if_neg g, if_neg g]
        rw [ea] at hc
        by_cases e : l = j
        · rw [if_pos e] at hc
          rcases List.mem_append.mp hc with q | q
          · exact absurd ⟨(List.mem_filter.mp q).1, of_decide_eq_true (List.mem_filter.mp q).2⟩ g
          · exact hR.1 j hj c q
        · rw [if_neg e] at hc; exact hR.1 l hl c hc
    · rw [p1, p2]
      by_cases g : c ∈ zRw s (2 * j + 1) ∧ zSt s (mOf c) = 0
      · rw [if_pos g, if_pos g]; exact ⟨Nat.le_refl _, Nat.le_refl _⟩
      · rw [if_neg g, if_neg g]
        rw [eb] at hc
        by_cases e : l = j
        · rw [if_pos e] at hc; exact absurd hc List.not_mem_nil
        · rw [if_neg e] at hc; exact hR.2.1 l hl c hc
    · rw [ea, eb] at hc
      have hs0 : zSt s (mOf c) = 0 := hs0
      show zPf s c = zPf u c
      by_cases e : l = j
      · rw [if_pos e, if_pos e] at hc
        refine hR.2.2.1 j hj c ?_ hs0
        rcases hc with q | q
        · rcases List.mem_append.mp q with q | q
          · exact Or.inr (List.mem_filter.mp q).1
          · exact Or.inl q
        · exact absurd q List.not_mem_nil
      · rw [if_neg e, if_neg e] at hc; exact hR.2.2.1 l hl c hc hs0
theorem sm_tog {a : Int32} (h : Sim s u) : SimA (spTog s a) (spTog u a) := by
  have hd := fun j hj => si_down (j := j) h hj
  have h0 := h
  obtain ⟨⟨e1, e2, e3, e4, e5, e6, e7, e8, e9, e10, e11, e12, e13, e14, e15, e16, e17⟩, hR⟩ := h
  unfold spTog
  rw [e5]
  refine sim_ie (fun _ => sim_rf h0 rfl) (fun hg => ?_)
  obtain ⟨j, hj, rfl⟩ := badI_not (a := a) (n := 3) (by decide) hg
  rw [show (nI j).toNatClampNeg = j from nI_clamp (by omega)]
  exact sim_ie (fun _ => sim_rf ⟨⟨e1, e2, e3, e4, rfl, e6, e7, e8, e9, e10, e11, e12, e13, e14, e15, e16, e17⟩, hR⟩ rfl) (fun _ => sim_rf (hd j hj) rfl)
theorem si_new {r life : Nat} (h : Sim s u) (hI : Inv s) : Sim (nwS s r life) (nwS u r life) := by
  have h0 := h
  obtain ⟨⟨e1, e2, e3, e4, e5, e6, e7, e8, e9, e10, e11, e12, e13, e14, e15, e16, e17⟩, hR⟩ := h
  refine ⟨⟨e1, ?_, rfl, e4, e5, e6, e7, ?_, ?_, ?_, ?_, ?_, ?_, ?_, e15, e16, e17⟩, ?_⟩
  · show zMc u + 1 = zMc s + 1
    rw [e2]
  · show va_up (zRw u) (2 * (r % 3)) (zRw u (2 * (r % 3)) ++ nps (zMc u) (npL (zTxt u))) = va_up (zRw s) (2 * (r % 3)) (zRw s (2 * (r % 3)) ++ nps (zMc s) (npL (zTxt s)))
    rw [e8, e2, e3]
  · show va_up (zSt u) (zMc u) 0 = va_up (zSt s) (zMc s) 0
    rw [e9, e2]
  · show va_up (zRc u) (zMc u) r = va_up (zRc s) (zMc s) r
    rw [e10, e2]
  · show va_up (zEn u) (zMc u) (zNow u + life) = va_up (zEn s) (zMc s) (zNow s + life)
    rw [e11, e2, e1]
  · show va_up (zLk u) (zMc u) (2 ^ npL (zTxt u) - 1) = va_up (zLk s) (zMc s) (2 ^ npL (zTxt s) - 1)
    rw [e12, e2, e3]
  · show va_up (zMs u) (zMc u) (zTxt u) = va_up (zMs s) (zMc s) (zTxt s)
    rw [e13, e2, e3]
  · show nwP (zMc u) 0 (zPw u) = nwP (zMc s) 0 (zPw s)
    rw [e14, e2]
  · have p1 : ∀ c, zPt (nwS s r life) c = if 100 + 10 * zMc s ≤ c ∧ c < 110 + 10 * zMc s then zNow s else zPt s c := fun c => rfl
    have p2 : ∀ c, zPt (nwS u r life) c = if 100 + 10 * zMc s ≤ c ∧ c < 110 + 10 * zMc s then zNow s else zPt u c := fun c => by
      show nwP (zMc u) (zNow u) (zPt u) c = _
      rw [e2, e1]
      rfl
    have q1 : ∀ c, zPf (nwS s r life) c = if 100 + 10 * zMc s ≤ c ∧ c < 110 + 10 * zMc s then 0 else zPf s c := fun c => rfl
    have q2 : ∀ c, zPf (nwS u r life) c = if 100 + 10 * zMc s ≤ c ∧ c < 110 + 10 * zMc s then 0 else zPf u c := fun c => by
      show nwP (zMc u) 0 (zPf u) c = _
      rw [e2]
      rfl
    have hl4 := hI.2.2.1
    have h6 := (npL_spec hl4).1
    have ea : ∀ l c, c ∈ zRw (nwS s r life) (2 * l) → c ∈ zRw s (2 * l) ∨ (100 + 10 * zMc s ≤ c ∧ c < 110 + 10 * zMc s) := fun l c hc => by
      rw [nwS_row] at hc
      by_cases e : 2 * l = 2 * (r % 3)
      · rw [if_pos e] at hc
        rcases List.mem_append.mp hc with g | g
        · exact Or.inl g
        · have := nps_mem.mp g; exact Or.inr ⟨by omega, by omega⟩
      · rw [if_neg e] at hc; exact Or.inl hc
    have eb : ∀ l, zRw (nwS s r life) (2 * l + 1) = zRw s (2 * l + 1) := fun l => by
      rw [nwS_row, if_neg (by omega)]
    have out : ∀ l c, l < 3 → c ∈ zRw s (2 * l) ∨ c ∈ zRw s (2 * l + 1) → mOf c ≠ zMc s := fun l c hl hc e => by
      rcases hc with g | g
      · have := (inr_eq hI (q_in hI hl g)).1; omega
      · have := (inr_eq hI (s_in hI hl g)).1; omega
    refine ⟨fun l hl c hc => ?_, fun l hl c hc => ?_, fun l hl c hc hs0 => ?_, hR.2.2.2⟩
    · rw [p1, p2]
      by_cases g : 100 + 10 * zMc s ≤ c ∧ c < 110 + 10 * zMc s
      · rw [if_pos g, if_pos g]; exact Or.inl rfl
      · rw [if_neg g, if_neg g]; exact hR.1 l hl c ((ea l c hc).resolve_right g)
    · rw [p1, p2]
      by_cases g : 100 + 10 * zMc s ≤ c ∧ c < 110 + 10 * zMc s
      · rw [if_pos g, if_pos g]; exact ⟨Nat.le_refl _, Nat.le_refl _⟩
      · rw [if_neg g, if_neg g]; rw [eb] at hc; exact hR.2.1 l hl c hc
    · rw [q1, q2]
      by_cases g : 100 + 10 * zMc s ≤ c ∧ c < 110 + 10 * zMc s
      · rw [if_pos g, if_pos g]
      · rw [if_neg g, if_neg g]
        rw [eb] at hc
        have hc2 : c ∈ zRw s (2 * l) ∨ c ∈ zRw s (2 * l + 1) := hc.elim (fun q => Or.inl ((ea l c q).resolve_right g)) Or.inr
        have hs0 : va_up (zSt s) (zMc s) 0 (mOf c) = 0 := hs0
        rw [up_n (out l c hl hc2)] at hs0
        exact hR.2.2.1 l hl c hc2 hs0
theorem sm_sub {a b : Int32} (h : Sim s u) (hI : Inv s) : SimA (spSub s a b) (spSub u a b) := by
  have hn := fun r life => si_new (r := r) (life := life) h hI
  have h0 := h
  obtain ⟨⟨e1, e2, e3, e4, e5, e6, e7, e8, e9, e10, e11, e12, e13, e14, e15, e16, e17⟩, hR⟩ := h
  unfold spSub
  rw [e2, e3]
  exact sim_ie (fun _ => sim_rf h0 rfl) (fun _ => sim_ie (fun _ => sim_rf h0 rfl) (fun _ => sim_ie (fun _ => sim_rf h0 rfl) (fun _ => sim_rf (hn _ _) rfl)))
theorem si_rm {j : Nat} (h : Sim s u) : Sim (rmS s j) (rmS u j) := by
  have h0 := h
  obtain ⟨⟨e1, e2, e3, e4, e5, e6, e7, e8, e9, e10, e11, e12, e13, e14, e15, e16, e17⟩, hR⟩ := h
  refine ⟨⟨e1, e2, e3, e4, e5, e6, e7, ?_, e9, e10, e11, e12, e13, e14, e15, e16, e17⟩, ?_⟩
  · show va_up (zRw u) (2 * j + 1) ((zRw u (2 * j + 1)).eraseIdx 0) = va_up (zRw s) (2 * j + 1) ((zRw s (2 * j + 1)).eraseIdx 0)
    rw [e8]
  · have ea : ∀ r c, c ∈ zRw (rmS s j) r → c ∈ zRw s r := fun r c hc => by
      have hc : c ∈ va_up (zRw s) (2 * j + 1) ((zRw s (2 * j + 1)).eraseIdx 0) r := hc
      by_cases e : r = 2 * j + 1
      · rw [e, up_s] at hc; rw [e]; exact List.mem_of_mem_eraseIdx hc
      · rw [up_n e] at hc; exact hc
    exact ⟨fun l hl c hc => hR.1 l hl c (ea _ c hc), fun l hl c hc => hR.2.1 l hl c (ea _ c hc), fun l hl c hc hs0 => hR.2.2.1 l hl c (hc.elim (fun q => Or.inl (ea _ c q)) (fun q => Or.inr (ea _ c q))) hs0, hR.2.2.2⟩
theorem si_cl {c : Nat} (h : Sim s u) : Sim (clS s c) (clS u c) := by
  have h0 := h
  obtain ⟨⟨e1, e2, e3, e4, e5, e6, e7, e8, e9, e10, e11, e12, e13, e14, e15, e16, e17⟩, hR⟩ := h
  refine ⟨⟨e1, e2, e3, e4, e5, e6, e7, e8, e9, e10, e11, ?_, e13, e14, e15, e16, e17⟩, hR⟩
  show va_up (zLk u) (mOf c) (clrB (zLk u (mOf c)) (pOf c)) = va_up (zLk s) (mOf c) (clrB (zLk s (mOf c)) (pOf c))
  rw [e12]
theorem pu_ce {c : Nat} (h : CE s u) : CE (puS s c) (puS u c) := by
  obtain ⟨e1, e2, e3, e4, e5, e6, e7, e8, e9, e10, e11, e12, e13, e14, e15, e16, e17⟩ := h
  refine ⟨e1, e2, e3, e4, e5, e6, e7, ?_, e9, e10, e11, e12, e13, e14, e15, e16, e17⟩
  show va_up (zRw u) (2 * (zRc u (mOf c) % 3)) (zRw u (2 * (zRc u (mOf c) % 3)) ++ [c]) = va_up (zRw s) (2 * (zRc s (mOf c) % 3)) (zRw s (2 * (zRc s (mOf c) % 3)) ++ [c])
  rw [e8, e10]
theorem fl_ce {c : Nat} (h : CE s u) : CE (flS s c) (flS u c) := h
theorem flf_ce {c : Nat} (h : CE s u) : CE (flS s c) u := h
theorem tm_ce {c : Nat} (h : CE s u) : CE (tmS s c) (tmS u c) := h
theorem puT_ce {c : Nat} (h : CE s u) : CE s (puT u c) := h
theorem wt_ce {c : Nat} (h : CE s u) : CE (wtS s c) (wtS u c) := by
  obtain ⟨e1, e2, e3, e4, e5, e6, e7, e8, e9, e10, e11, e12, e13, e14, e15, e16, e17⟩ := h
  refine ⟨e1, e2, e3, e4, e5, e6, e7, e8, e9, e10, e11, e12, e13, ?_, e15, e16, e17⟩
  show va_up (zPw u) c 1 = va_up (zPw s) c 1
  rw [e14]
theorem pu_pt {c : Nat} : zPt (puS s c) = zPt s := rfl
theorem pu_pf {c : Nat} : zPf (puS s c) = zPf s := rfl
theorem pu_now {c : Nat} : zNow (puS s c) = zNow s := rfl
theorem pu_st {c : Nat} : zSt (puS s c) = zSt s := rfl
theorem pu_kw {c : Nat} : zKw (puS s c) = zKw s := rfl
theorem tm_pt {c : Nat} : zPt (tmS s c) = va_up (zPt s) c (zNow s + 2 ^ zPf s c) := rfl
theorem tm_pf {c : Nat} : zPf (tmS s c) = zPf s := rfl
theorem wt_pt {c : Nat} : zPt (wtS s c) = zPt s := rfl
theorem wt_pf {c : Nat} : zPf (wtS s c) = zPf s := rfl
/-- a part joins its queue: what holds of its time and failures there -/
theorem sr_pu {c : Nat} {pf pt : Nat → Nat} (h : SimR s pf pt) (h1 : zPt s c = pt c ∨ (zPt s c ≤ zNow s ∧ pt c ≤ zNow s)) (h2 : zPf s c = pf c) : SimR (puS s c) pf pt := by
  have ea : ∀ l x, x ∈ zRw (puS s c) (2 * l) → x ∈ zRw s (2 * l) ∨ x = c := fun l x hx => by
    rw [puS_row] at hx
    by_cases e : 2 * l = 2 * (zRc s (mOf c) % 3)
    · rw [if_pos e] at hx
      rcases List.mem_append.mp hx with g | g
      · exact Or.inl g
      · exact Or.inr (List.mem_singleton.mp g)
    · rw [if_neg e] at hx; exact Or.inl hx
  have eb : ∀ l, zRw (puS s c) (2 * l + 1) = zRw s (2 * l + 1) := fun l => by rw [puS_row, if_neg (by omega)]
  refine ⟨fun l hl x hx => ?_, fun l hl x hx => ?_, fun l hl x hx hs0 => ?_, h.2.2.2⟩
  · rcases ea l x hx with g | g
    · exact h.1 l hl x g
    · rw [g]; exact h1
  · rw [eb] at hx; exact h.2.1 l hl x hx
  · rw [eb] at hx
    rcases hx with g | g
    · rcases ea l x g with g | g
      · exact h.2.2.1 l hl x (Or.inl g) hs0
      · rw [g]; exact h2
    · exact h.2.2.1 l hl x (Or.inr g) hs0
theorem sr_cg {s' : St} {pf pf' pt pt' : Nat → Nat} (h : SimR s pf pt) (r : zRw s' = zRw s) (t : zSt s' = zSt s) (n : zNow s' = zNow s) (k : zKw s' = zKw s) {c : Nat} (ho : ∀ l, l < 3 → c ∉ zRw s (2 * l) ∧ c ∉ zRw s (2 * l + 1)) (hp : ∀ x, x ≠ c → zPt s' x = zPt s x ∧ pt' x = pt x ∧ zPf s' x = zPf s x ∧ pf' x = pf x) : SimR s' pf' pt' := by
  refine ⟨fun l hl x hx => ?_, fun l hl x hx => ?_, fun l hl x hx hs0 => ?_, by rw [k]; exact h.2.2.2⟩
  · rw [r] at hx
    obtain ⟨q1, q2, -, -⟩ := hp x (fun e => (ho l hl).1 (by rw [← e]; exact hx))
    rw [q1, q2, n]; exact h.1 l hl x hx
  · rw [r] at hx
    obtain ⟨q1, q2, -, -⟩ := hp x (fun e => (ho l hl).2 (by rw [← e]; exact hx))
    rw [q1, q2, n]; exact h.2.1 l hl x hx
  · rw [r] at hx
    rw [t] at hs0
    obtain ⟨-, -, q3, q4⟩ := hp x (fun e => hx.elim (fun g => (ho l hl).1 (by rw [← e]; exact g)) (fun g => (ho l hl).2 (by rw [← e]; exact g)))
    rw [q3, q4]; exact h.2.2.1 l hl x hx hs0
theorem si_fl {c : Nat} (h : Sim s u) (ho : ∀ l, l < 3 → c ∉ zRw s (2 * l) ∧ c ∉ zRw s (2 * l + 1)) : Sim (flS s c) (flS u c) :=
  ⟨fl_ce h.1, sr_cg (s := s) (c := c) h.2 rfl rfl rfl rfl ho (fun x hx => ⟨rfl, rfl, by show va_up (zPf s) c _ x = _; exact up_n hx, by show va_up (zPf u) c _ x = _; exact up_n hx⟩)⟩
theorem si_flf {c : Nat} (h : Sim s u) (ho : ∀ l, l < 3 → c ∉ zRw s (2 * l) ∧ c ∉ zRw s (2 * l + 1)) : Sim (flS s c) u :=
  ⟨flf_ce h.1, sr_cg (s := s) (c := c) h.2 rfl rfl rfl rfl ho (fun x hx => ⟨rfl, rfl, by show va_up (zPf s) c _ x = _; exact up_n hx, rfl⟩)⟩
theorem si_tm {c : Nat} (h : Sim s u) (ho : ∀ l, l < 3 → c ∉ zRw s (2 * l) ∧ c ∉ zRw s (2 * l + 1)) : Sim (tmS s c) (tmS u c) :=
  ⟨tm_ce h.1, sr_cg (s := s) (c := c) h.2 rfl rfl rfl rfl ho (fun x hx => ⟨by show va_up (zPt s) c _ x = _; exact up_n hx, by show va_up (zPt u) c _ x = _; exact up_n hx, rfl, rfl⟩)⟩
theorem si_puT {c : Nat} (h : Sim s u) (ho : ∀ l, l < 3 → c ∉ zRw s (2 * l) ∧ c ∉ zRw s (2 * l + 1)) : Sim s (puT u c) :=
  ⟨puT_ce h.1, sr_cg (s := s) (c := c) h.2 rfl rfl rfl rfl ho (fun x hx => ⟨rfl, by show va_up (zPt u) c _ x = _; exact up_n hx, rfl, rfl⟩)⟩
theorem si_wt {c : Nat} (h : Sim s u) : Sim (wtS s c) (wtS u c) := ⟨wt_ce h.1, h.2⟩
theorem si_pu {c : Nat} (h : Sim s u) (h1 : zPt s c = zPt u c ∨ (zPt s c ≤ zNow s ∧ zPt u c ≤ zNow s)) (h2 : zPf s c = zPf u c) : Sim (puS s c) (puS u c) := ⟨pu_ce h.1, sr_pu h.2 h1 h2⟩
theorem tm_at (s : St) (c : Nat) : zPt (tmS s c) c = zNow s + 2 ^ zPf s c := up_s
theorem puT_at (s : St) (c : Nat) : zPt (puT s c) c = zNow s := up_s
theorem fl_row (s : St) (c r : Nat) : zRw (flS s c) r = zRw s r := rfl
theorem fl_now (s : St) (c : Nat) : zNow (flS s c) = zNow s := rfl
theorem puT_pf (s : St) (c : Nat) : zPf (puT s c) = zPf s := rfl
theorem wt_now (s : St) (c : Nat) : zNow (wtS s c) = zNow s := rfl
theorem si_stl1 {c : Nat} (h : Sim s u) (hL : Lon s c) (hpf : zPf s c = zPf u c) : Sim (puS (tmS (flS s c) c) c) (puS (tmS (flS u c) c) c) := by
  have h1 := si_fl (c := c) h hL.2.2
  have e1 := fl_pf s c
  have e2 := fl_pf u c
  have e3 := fl_now s c
  have e4 := fl_now u c
  have ho : ∀ l, l < 3 → c ∉ zRw (flS s c) (2 * l) ∧ c ∉ zRw (flS s c) (2 * l + 1) := fun l hl => by rw [fl_row, fl_row]; exact hL.2.2 l hl
  have e5 := h.1.1
  generalize flS s c = a at h1 e1 e3 ho ⊢
  generalize flS u c = b at h1 e2 e4 ⊢
  have h2 := si_tm h1 ho
  have t1 := tm_at a c
  have t2 := tm_at b c
  have p1 : zPf (tmS a c) = zPf a := tm_pf
  have p2 : zPf (tmS b c) = zPf b := tm_pf
  generalize tmS a c = a' at h2 t1 p1 ⊢
  generalize tmS b c = b' at h2 t2 p2 ⊢
  refine si_pu h2 (Or.inl ?_) ?_
  · rw [t1, t2, e3, e4, e1, e2, e5, hpf]
  · rw [p1, p2, e1, e2, hpf]
theorem si_stl2 {c : Nat} (h : Sim s u) (hL : Lon s c) (hpf : zPf s c = zPf u c) (hpt : zPt s c ≤ zNow s) : Sim (puS (wtS s c) c) (puS (wtS (puT u c) c) c) := by
  have h1 := si_puT (c := c) h hL.2.2
  have t2 := puT_at u c
  have p2 : zPf (puT u c) = zPf u := puT_pf u c
  generalize puT u c = b at h1 t2 p2 ⊢
  have h2 := si_wt (c := c) h1
  have t3 : zPt (wtS s c) = zPt s := wt_pt
  have t4 : zPt (wtS b c) = zPt b := wt_pt
  have q3 : zPf (wtS s c) = zPf s := wt_pf
  have q4 : zPf (wtS b c) = zPf b := wt_pf
  have n3 := wt_now s c
  generalize wtS s c = a' at h2 t3 q3 n3 ⊢
  generalize wtS b c = b' at h2 t4 q4 ⊢
  refine si_pu h2 (Or.inr ⟨?_, ?_⟩) ?_
  · rw [t3, n3]; exact hpt
  · rw [t4, t2, n3, h.1.1]; exact Nat.le_refl _
  · rw [q3, q4, p2, hpf]
theorem si_stl {c o : Nat} (h : Sim s u) (hL : Lon s c) (hpf : zPf s c = zPf u c) (hpt : zPt s c ≤ zNow s) (hf : zPf s c ≤ 3) (ho : o < 4) : Sim (stlS s c o) (stlM u c o) := by
  have hcl := si_cl (c := c) h
  have elk : zLk (clS u c) (mOf c) = zLk (clS s c) (mOf c) := by rw [hcl.1.2.2.2.2.2.2.2.2.2.2.2.1]
  rcases (show o = 0 ∨ o = 1 ∨ o = 2 ∨ o = 3 by omega) with rfl | rfl | rfl | rfl
  · by_cases hz : zLk (clS s c) (mOf c) = 0
    · rw [sm0f u c (by rw [elk]; exact hz), st0f s c hz]; exact si_fin hcl (by decide)
    · rw [sm0 u c (by rw [elk]; exact hz), st0 s c hz]; exact hcl
  · by_cases hz : zPf s c < 3
    · rw [sm1 u c (by rw [← hpf]; exact hz), st1 s c (by omega)]; exact si_stl1 h hL hpf
    · rw [sm1f u c (by rw [← hpf]; exact hz), st1f s c (by omega)]; exact si_fin (si_flf h hL.2.2) (by decide)
  · rw [sm2 u c, st2 s c]; exact si_stl2 h hL hpf hpt
  · rw [sm3 u c, st3 s c]; exact si_fin h (by decide)
theorem sm_ack {a o : Int32} (h : Sim s u) (hI : Inv s) (hF : Inf s) : SimA (spAck s a o) (spAckM u a o) := by
  have e8 := h.1.2.2.2.2.2.2.2.1
  have e9 := h.1.2.2.2.2.2.2.2.2.1
  unfold spAck spAckM
  rw [e8]
  refine sim_ie (fun _ => sim_rf h rfl) (fun g1 => sim_ie (fun _ => sim_rf h rfl) (fun g2 => sim_ie (fun _ => sim_rf h rfl) (fun g3 => ?_)))
  obtain ⟨j, hj, rfl⟩ := badI_not (a := a) (n := 3) (by decide) g1
  obtain ⟨k, hk, rfl⟩ := nI_of2 (x := o) (n := 3) (M := 3) rfl (fun q => g2 (Or.inl q)) (Int32.not_lt.mp (fun q => g2 (Or.inr q)))
  rw [show (nI j).toNatClampNeg = j from nI_clamp (by omega)] at g3 ⊢
  rw [show (nI k).toNatClampNeg = k from nI_clamp (by omega)]
  refine sim_rf ?_ rfl
  obtain ⟨c, ec⟩ : ∃ c, c = (zRw s (2 * j + 1)).getD 0 0 := ⟨_, rfl⟩
  have hg : (zRw s (2 * j + 1))[0]? = some c := by rw [ec, List.getD_eq_getElem?_getD, List.getElem?_eq_getElem (by omega)]; rfl
  have hcm : c ∈ zRw s (2 * j + 1) := List.mem_of_getElem? hg
  have hin := inr_eq hI (s_in hI hj hcm)
  unfold ackS ackM
  rw [e8, e9, ← ec]
  have hrm := si_rm (j := j) h
  by_cases hs0 : zSt s (mOf c) = 0
  · rw [if_pos hs0, if_pos hs0]
    have hf : zPf s c ≤ 3 := by
      have := hF _ hin.1 hs0 _ hin.2.1
      rwa [← hin.2.2.2.1] at this
    exact si_stl hrm (lon_rm hI hj hg hs0) (h.2.2.2.1 j hj c (Or.inr hcm) hs0) (h.2.2.1 j hj c hcm).1 hf (by omega)
  · rw [if_neg hs0, if_neg hs0]; exact hrm
theorem sim_0 : Sim st0S st0S := ⟨⟨rfl, rfl, rfl, rfl, rfl, rfl, rfl, rfl, rfl, rfl, rfl, rfl, rfl, rfl, rfl, rfl, rfl⟩, fun _ _ c hc => absurd hc List.not_mem_nil, fun _ _ c hc => absurd hc List.not_mem_nil, fun _ _ c hc => absurd (hc.elim id id) List.not_mem_nil, rfl, fun _ _ _ _ _ _ => rfl⟩
