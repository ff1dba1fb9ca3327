/-! ===== submit ===== -/
theorem RowAt.ad {D : Dx} {ad ad' : Nat → Nat} {F : Fn} {o a : Nat} {L : List Nat} (h : RowAt D ad F o a L) (e : ad' a = ad a) (eL : ∀ c ∈ L, ad' c = ad c) : RowAt D ad' F o a L := by
  obtain ⟨h1, h2, f, h3, h4⟩ := h
  refine ⟨by rw [e]; exact h1, h2, f, h3, fun j hj => ?_⟩
  rw [h4 j hj, List.getElem?_eq_getElem hj]
  show some (ad _) = some (ad' _)
  rw [eL _ (List.getElem_mem hj)]
/-- cells that stood before the new message -/
def old (mc x : Nat) : Prop := x < 30 + 3 * mc ∨ (100 ≤ x ∧ x < 100 + 10 * mc) ∨ 300 ≤ x
/-- the codes of the first i parts of message m -/
def nps (m i : Nat) : List Nat := (List.range i).map (fun p => 100 + 10 * m + p)
def nwP (m v : Nat) (f : Nat → Nat) (c : Nat) : Nat := if 100 + 10 * m ≤ c ∧ c < 110 + 10 * m then v else f c
def nwS (s : St) (r life : Nat) : St := (zNow s, zMc s + 1, [], zRcp s, zUp s, zWn s, zTk s, va_up (zRw s) (2 * (r % 3)) (zRw s (2 * (r % 3)) ++ nps (zMc s) (npL (zTxt s))), va_up (zSt s) (zMc s) 0, va_up (zRc s) (zMc s) r, va_up (zEn s) (zMc s) (zNow s + life), va_up (zLk s) (zMc s) (2 ^ npL (zTxt s) - 1), va_up (zMs s) (zMc s) (zTxt s), nwP (zMc s) 0 (zPf s), nwP (zMc s) (zNow s) (zPt s), nwP (zMc s) 0 (zPw s), zKw s, zSe s, zLa s)
theorem nps_mem {m i c : Nat} : c ∈ nps m i ↔ 100 + 10 * m ≤ c ∧ c < 100 + 10 * m + i := by
  unfold nps
  rw [List.mem_map]
  constructor
  · rintro ⟨p, hp, rfl⟩; have := List.mem_range.mp hp; omega
  · intro h; exact ⟨c - (100 + 10 * m), List.mem_range.mpr (by omega), by omega⟩
theorem nps_len {m i : Nat} : (nps m i).length = i := by unfold nps; rw [List.length_map, List.length_range]
theorem nps_suc {m i : Nat} : nps m (i + 1) = nps m i ++ [100 + 10 * m + i] := by unfold nps; rw [List.range_succ, List.map_append]; rfl
theorem nps_nd {m i : Nat} : (nps m i).Nodup := by
  unfold nps
  refine List.pairwise_map.mpr (List.Pairwise.imp (fun h => ?_) (List.nodup_range))
  omega
theorem CRep.sub {D : Dx} {ad ad' : Nat → Nat} {F G : Fn} {s : St} {r life j : Nat} (hC : CRep D ad F s) (hI : Inv s) (hmc : zMc s < 20) (ej : j = r % 3) (ea : ∀ x, old (zMc s) x → ad' x = ad x) (eF : ∀ x, old (zMc s) x → x ∉ [0, 1, 4, 14 + 2 * j, 20 + 2 * j] → G x = F x)
    (g0 : kMain ad' G (zNow s) (zMc s + 1) (zRcp s).length) (g1 : TextAt D ad' G 1 2 3 []) (g4 : kMsA D ad' G (zMc s + 1)) (gr : RowAt D ad' G (14 + 2 * j) (20 + 2 * j) (zRw s (2 * j) ++ nps (zMc s) (npL (zTxt s))))
    (gm : MsgAt G (30 + 3 * zMc s) (nI (zMc s)) (nI r) (nI (zNow s + life)) (ad' (11 + j)) (ad' (31 + 3 * zMc s)) (ad' (32 + 3 * zMc s)) (nI (npL (zTxt s))) (nI 0) (nI (2 ^ npL (zTxt s) - 1)))
    (gm1 : ∃ f : Nat → Int32, G (31 + 3 * zMc s) = some (aI D (zTxt s).length f) ∧ ∀ j, j < (zTxt s).length → f j = nI ((zTxt s).getD j 0))
    (gm2 : ∃ f : Nat → Int32, G (32 + 3 * zMc s) = some (aI D (npL (zTxt s) + 1) f) ∧ ∀ j, j ≤ npL (zTxt s) → f j = nI (posL (zTxt s) j))
    (gp : ∀ p, p < npL (zTxt s) → G (100 + 10 * zMc s + p) = some (oB 2 [.ref (ad' (30 + 3 * zMc s)), .int (nI p), .int 0, .int (nI (zNow s)), .int 0]))
    (gf : ∀ x, (33 + 3 * zMc s ≤ x ∧ x < 100) ∨ (110 + 10 * zMc s ≤ x ∧ x < 300) → G x = none) : CRep D ad' G (nwS s r life) := by
  unfold old at ea eF
  have hnp := (npL_spec hI.2.2.1).1
  have e' : ∀ x, (x < 30 + 3 * zMc s ∨ (100 ≤ x ∧ x < 100 + 10 * zMc s)) → x ≠ 0 → x ≠ 1 → x ≠ 4 → x ≠ 14 + 2 * j → x ≠ 20 + 2 * j → G x = F x := fun x h1 h2 h3 h4 h5 h6 => eF x (by omega) (by simp [h2, h3, h4, h5, h6])
  refine ⟨g0, g1, g4, hC.2.2.2.1.kept (e' 5 (by omega) (by omega) (by omega) (by omega) (by omega) (by omega)), ?_, ?_, fun l hl => ?_, fun k hk => ?_, fun m hm => ?_, fun m hm p hp => ?_, fun m h1 h2 => ?_⟩
  · obtain ⟨f, h1, h2⟩ := hC.2.2.2.2.1
    exact ⟨f, (e' 6 (by omega) (by omega) (by omega) (by omega) (by omega) (by omega)).trans h1, fun l hl => by rw [ea (11 + l) (by omega)]; exact h2 l hl⟩
  · have h := hC.2.2.2.2.2.1.kept (e' 7 (by omega) (by omega) (by omega) (by omega) (by omega) (by omega)) (e' 8 (by omega) (by omega) (by omega) (by omega) (by omega) (by omega)) (e' 9 (by omega) (by omega) (by omega) (by omega) (by omega) (by omega)) (e' 10 (by omega) (by omega) (by omega) (by omega) (by omega) (by omega))
    refine ⟨?_, h.2⟩
    have := h.1
    unfold RcpAt at this ⊢
    rw [ea 8 (by omega), ea 9 (by omega), ea 10 (by omega)]
    exact this
  · have h := hC.2.2.2.2.2.2.1 l hl
    unfold LinkAt at h ⊢
    rw [ea (14 + 2 * l) (by omega), ea (15 + 2 * l) (by omega), e' (11 + l) (by omega) (by omega) (by omega) (by omega) (by omega) (by omega)]
    exact h
  · show RowAt D ad' G _ _ (va_up (zRw s) (2 * (r % 3)) _ k)
    rw [← ej]
    by_cases e : k = 2 * j
    · subst e; rw [up_s]; exact gr
    · rw [up_n e]
      refine ((hC.2.2.2.2.2.2.2.1 k hk).kept (e' _ (by omega) (by omega) (by omega) (by omega) (by omega) (by omega)) (e' _ (by omega) (by omega) (by omega) (by omega) (by omega) (by omega))).ad (ea _ (by omega)) (fun c hc => ea _ ?_)
      have hl := hI.2.2.2.2.2.2.1 (k / 2) (by omega)
      have hin : InRow s (k / 2) c := by
        by_cases e2 : k = 2 * (k / 2)
        · exact (hl.2.2.2.2.2.1 c (e2 ▸ hc)).1
        · exact (hl.2.2.2.2.2.2 c ((show k = 2 * (k / 2) + 1 by omega) ▸ hc)).1
      have := inr_eq hI hin
      omega
  · have hm : m < zMc s + 1 := hm
    show MsgAt G _ _ (nI (va_up (zRc s) (zMc s) r m)) (nI (va_up (zEn s) (zMc s) _ m)) (ad' (11 + va_up (zRc s) (zMc s) r m % 3)) _ _ (nI (npL (va_up (zMs s) (zMc s) (zTxt s) m))) (nI (va_up (zSt s) (zMc s) 0 m)) (nI (va_up (zLk s) (zMc s) _ m)) ∧ (∃ f : Nat → Int32, _ = some (aI D (va_up (zMs s) (zMc s) (zTxt s) m).length f) ∧ ∀ j, j < (va_up (zMs s) (zMc s) (zTxt s) m).length → f j = nI ((va_up (zMs s) (zMc s) (zTxt s) m).getD j 0)) ∧ ∃ f : Nat → Int32, _ = some (aI D (npL (va_up (zMs s) (zMc s) (zTxt s) m) + 1) f) ∧ ∀ j, j ≤ npL (va_up (zMs s) (zMc s) (zTxt s) m) → f j = nI (posL (va_up (zMs s) (zMc s) (zTxt s) m) j)
    by_cases e : m = zMc s
    · subst e
      simp only [up_s]
      rw [← ej]
      exact ⟨gm, gm1, gm2⟩
    · simp only [up_n e]
      have h := hC.2.2.2.2.2.2.2.2.1 m (by omega)
      refine ⟨?_, h.2.1.imp fun f hf => ⟨(e' _ (by omega) (by omega) (by omega) (by omega) (by omega) (by omega)).trans hf.1, hf.2⟩, h.2.2.imp fun f hf => ⟨(e' _ (by omega) (by omega) (by omega) (by omega) (by omega) (by omega)).trans hf.1, hf.2⟩⟩
      have h1 := h.1
      unfold MsgAt at h1 ⊢
      rw [ea (11 + zRc s m % 3) (by omega), ea (31 + 3 * m) (by omega), ea (32 + 3 * m) (by omega), e' (30 + 3 * m) (by omega) (by omega) (by omega) (by omega) (by omega) (by omega)]
      exact h1
  · have hm : m < zMc s + 1 := hm
    have hp : p < npL (va_up (zMs s) (zMc s) (zTxt s) m) := hp
    show G _ = some (oB 2 [.ref (ad' (30 + 3 * m)), .int (nI p), .int (nI (nwP (zMc s) 0 (zPf s) _)), .int (nI (nwP (zMc s) (zNow s) (zPt s) _)), .int (nI (nwP (zMc s) 0 (zPw s) _))])
    by_cases e : m = zMc s
    · subst e
      rw [up_s] at hp
      unfold nwP
      rw [if_pos (by omega), if_pos (by omega), if_pos (by omega)]
      exact gp p hp
    · rw [up_n e] at hp
      have hl9 := (npL_spec (hI.2.2.2.2.2.1 m (by omega)).2.1).1
      unfold nwP
      rw [if_neg (by omega), if_neg (by omega), if_neg (by omega), ea (30 + 3 * m) (by omega)]
      exact (e' _ (by omega) (by omega) (by omega) (by omega) (by omega) (by omega)).trans (hC.2.2.2.2.2.2.2.2.2.1 m (by omega) p hp)
  · have h1 : zMc s + 1 ≤ m := h1
    exact ⟨gf _ (by omega), gf _ (by omega), gf _ (by omega), fun p hp => gf _ (by omega)⟩
