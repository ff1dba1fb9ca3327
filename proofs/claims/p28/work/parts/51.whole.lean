/-! ===== the claim out of the law's walk ===== -/
theorem wd_0 {D : Dx} {b0 : Nat} {ad : Nat → Nat} {H : Heap} : WD D b0 ad (fun _ => none) H :=
  ⟨⟨[], fun k q h => by simp at h, ⟨fun i j p q h => by simp at h, fun k q h => by simp at h⟩, fun c e h => by cases h⟩, fun c c' h => absurd rfl h⟩
set_option maxHeartbeats 4000000 in
set_option maxRecDepth 100000 in
/-- from the entry, for every script of at most 260 ints, the law comes to its end with true -/
theorem whole_start {p : Program} {e : Env} {s : State} {m : MethodId} {below : List Frame} {meth : Method} {c : Code} (l : Launch) (hflags : l.flags = flags0) {b L : Nat} {xs : Nat → Int32} (hL : L ≤ 260) (C0 : lw_At p s m meth c b L xs) : W p l e room_1 s m #[Value.ref b] below meth c s.heap [] 0 0 (lw_Z below #[Value.ref b] s) (entryFrame m ([Value.ref b] : List Value).toArray 8) := by
  obtain ⟨hx, hb, hr, hml, hown, hts, hX, hbl, hlocks, hgv⟩ := id C0
  obtain ⟨D, hEv, hD⟩ := ev_start hX hbl (by omega) hts hgv
  have hst : l.stackTraces = false := by
    show (!l.flags.contains noTraceFlag) = false
    rw [hflags]
    decide +kernel
  let X : Cxt := (p, l, e, room_1, s, m, #[Value.ref b], below, meth, c, 8, D, s.heap.size, lw_Z below #[Value.ref b] s)
  have C : Ok X cL_law 8 ⟨RL, meth.name, ""⟩ room_1 ret c.exceptionTable.toList := ⟨hx, hb, hml, hown, fun w hw => hts w (tb_law w hw), hlocks, hEv, rfl, hr, rfl, rfl, rfl, hst⟩
  have hend : ∀ (k n : Nat) (lv : Lv) (ad : Nat → Nat) (F : Fn), k ≤ 654114 → n ≤ 7138840 → V X k n 312 lv [.int 1] ad F := by
    intro k n lv ad F hk hn H locs ls hW hS hl
    exact W.widen hk hn (va_forget hS.2.2 (lw_ret hx hb hr hlocks dL_law_312))
  have hb1 : D.2.2.2.1 = b := by rw [hD]
  have K := law_begin C hend
  rw [show (xD X).2.2.2.1 = b from hb1] at K
  rw [lg_entry_eq]
  exact K s.heap [] _ wd_0 va_S.rf (lh_entry (fun q hq => by rw [List.mem_singleton.mp hq]; rfl) (Nat.le_of_ble_eq_true rfl))
