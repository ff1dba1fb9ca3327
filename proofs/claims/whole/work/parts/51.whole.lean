/-! ===== the claim out of the law's walk ===== -/
theorem wd_0 {D : Dx} {b0 : Nat} {ad : Nat → Nat} {H : Heap} : WD D b0 ad (fun _ => none) H :=
  ⟨⟨[], fun k q h => by simp at h, ⟨fun i j p q h => by simp at h, fun k q h => by simp at h⟩, fun c e h => by cases h⟩, fun c c' h => absurd rfl h⟩
set_option maxHeartbeats 4000000 in
set_option maxRecDepth 100000 in
/-- from the entry, for every script of at most 1536 ints, the law comes to its end with true -/
theorem whole_start {p : Program} {e : Env} {s : State} {m : MethodId} {below : List Frame} {meth : Method} {c : Code} (l : Launch) (hflags : l.flags = flags0) {b L : Nat} {xs : Nat → Int32} (hL : L ≤ 1536) (C0 : lw_At p s m meth c b L xs) : W p l e room_1 s m #[Value.ref b] below meth c s.heap [] 0 0 (lw_Z below #[Value.ref b] s) (entryFrame m ([Value.ref b] : List Value).toArray 7) := by
  obtain ⟨hx, hb, hr, hml, hown, hts, hX, hbl, hlocks, hgv⟩ := id C0
  obtain ⟨D, hEv⟩ := ev_start hts hgv
  have hst : l.stackTraces = false := by
    show (!l.flags.contains noTraceFlag) = false
    rw [hflags]
    decide +kernel
  let X : Cxt := (p, l, e, room_1, s, m, #[Value.ref b], below, meth, c, 7, D, s.heap.size, lw_Z below #[Value.ref b] s)
  have C : Ok X cL_law 7 ⟨RL, meth.name, ""⟩ room_1 ret c.exceptionTable.toList := ⟨hx, hb, hml, hown, fun w hw => hts w (tb_law w hw), hlocks, hEv, rfl, hr, rfl, rfl, rfl, hst⟩
  have hend : ∀ (k n : Nat) (lv : Lv) (ad : Nat → Nat) (F : Fn), k ≤ 601024 → n ≤ 7293033 → V X k n 1415 lv [.int 1] ad F := by
    intro k n lv ad F hk hn H locs ls hW hS hl
    exact W.widen hk hn (va_forget hS.2.2 (lw_ret hx hb hr hlocks dL_law_1415))
  have K := law_begin C ⟨hX, hbl, Nat.not_le.mpr hbl⟩ hL hend (fun _ => trivial)
  rw [lg_entry_eq]
  exact K s.heap [] _ wd_0 va_S.rf (lh_entry (fun q hq => by rw [List.mem_singleton.mp hq]; rfl) (Nat.le_of_ble_eq_true rfl))
