/-! ===== the surroundings at the start ===== -/
theorem st_nestF : ∀ q ∈ nestF, (Cond.fieldLinkNest q.1 q.2.1 q.2.2.1 q.2.2.2.1 q.2.2.2.2 RX6) ∈ lw_tbl := by decide +kernel
theorem st_nestM : ∀ q ∈ nestM, (Cond.methodLinkNest q.1 q.2.1 q.2.2 RX6) ∈ lw_tbl := by decide +kernel
theorem st_str : ∀ q ∈ strW, (Cond.stringRef RX6 q.1 q.2) ∈ lw_tbl := by decide +kernel
theorem st_notC : ∀ q ∈ notC, (Cond.not (.castable q.1 q.2)) ∈ flatC (Jvm.Cond.and given_1 narrow_1) := by decide +kernel
theorem st_exc : ∀ q ∈ excW, (Cond.castable q q) ∈ lw_tbl := by decide +kernel
theorem st_dec : ∀ q ∈ decW, (Cond.declares q) ∈ lw_tbl := by decide +kernel
theorem st_us : (Cond.isRef (.static Bundle.tN "UNASSIGNED_STACK" Bundle.steD)) ∈ flatC (Jvm.Cond.and given_1 narrow_1) := by decide +kernel
theorem st_ss : (Cond.isRef (.static Bundle.tN "SUPPRESSED_SENTINEL" Bundle.listD)) ∈ flatC (Jvm.Cond.and given_1 narrow_1) := by decide +kernel
theorem ev_start {s : State} {b L : Nat} {xs : Nat → Int32} (hX : va_X b L xs s s.heap) (hbl : b < s.heap.size) (hL : L < 2 ^ 31) (hts : ∀ w ∈ lw_tbl, w.before #[Value.ref b] s = true) (hgv : (Jvm.Cond.and given_1 narrow_1).before #[Value.ref b] s = true) : ∃ D : Dx, Ev D s.heap.size s ∧ D.2.2.2 = (b, L, xs) := by
  have hfl := flat_of_before _ hgv
  obtain ⟨c0, i0, hK0⟩ := u_known (C := RX0) (T := TX0) (N := 5) (n := 5) hts tb_X00 (hts (.instantiable RX0 5) (List.mem_of_getElem? (i := 96) (by decide +kernel)))
  obtain ⟨c1, i1, hK1⟩ := u_known (C := RX1) (T := TX1) (N := 9) (n := 9) hts tb_X10 (hts (.instantiable RX1 9) (List.mem_of_getElem? (i := 288) (by decide +kernel)))
  obtain ⟨c2, i2, hK2⟩ := u_known (C := RX2) (T := TX2) (N := 5) (n := 5) hts tb_X20 (hts (.instantiable RX2 5) (List.mem_of_getElem? (i := 379) (by decide +kernel)))
  obtain ⟨c3, i3, hK3⟩ := u_known (C := RX3) (T := TX3) (N := 3) (n := 3) hts tb_X30 (hts (.instantiable RX3 3) (List.mem_of_getElem? (i := 78) (by decide +kernel)))
  obtain ⟨c4, i4, hK4⟩ := u_known (C := RX4) (T := TX4) (N := 2) (n := 2) hts tb_X40 (hts (.instantiable RX4 2) (List.mem_of_getElem? (i := 102) (by decide +kernel)))
  obtain ⟨c5, i5, hK5⟩ := u_known (C := RX5) (T := TX5) (N := 6) (n := 6) hts tb_X50 (hts (.instantiable RX5 6) (List.mem_of_getElem? (i := 43) (by decide +kernel)))
  obtain ⟨c6, i6, hK6⟩ := u_known (C := RX6) (T := TX6) (N := 8) (n := 8) hts tb_X60 (hts (.instantiable RX6 8) (List.mem_of_getElem? (i := 35) (by decide +kernel)))
  obtain ⟨aint, kint, pint, q1int, q2int, q3int⟩ := Cond.arrayClass_spec (args := #[Value.ref b]) (first := s) (s := s) (o := none) (idx := []) (type := .int) (hts (.arrayClass .int) (List.mem_of_getElem? (i := 72) (by decide +kernel)))
  have hao2 : (Cond.arrayOver (.object RX2)).before #[Value.ref b] s = true := hts _ (List.mem_of_getElem? (i := 108) (by decide +kernel))
  obtain ⟨p2, a2, k2, q12, -, q22, q32, q42⟩ := Cond.arrayOver_spec (args := #[Value.ref b]) (first := s) (s := s) (o := none) (idx := []) hao2
  have hao1 : (Cond.arrayOver (.object RX1)).before #[Value.ref b] s = true := hts _ (List.mem_of_getElem? (i := 74) (by decide +kernel))
  obtain ⟨p1, a1, k1, q11, -, q21, q31, q41⟩ := Cond.arrayOver_spec (args := #[Value.ref b]) (first := s) (s := s) (o := none) (idx := []) hao1
  have hao0 : (Cond.arrayOver (.object RX0)).before #[Value.ref b] s = true := hts _ (List.mem_of_getElem? (i := 76) (by decide +kernel))
  obtain ⟨p0, a0, k0, q10, -, q20, q30, q40⟩ := Cond.arrayOver_spec (args := #[Value.ref b]) (first := s) (s := s) (o := none) (idx := []) hao0
  refine ⟨((fun k => [c0, c1, c2, c3, c4, c5, c6].getD k c6), (fun k => [i0, i1, i2, i3, i4, i5, i6].getD k i6), (fun k => [aint, aint, aint, a2, a1, a0].getD k a0), b, L, xs), ⟨⟨fun k q hq => ?_, fun k q hq => ?_⟩, fun q hq => va_Nw.of rfl (hts _ (st_nestF q hq)), fun q hq => va_Nw.of rfl (hts _ (st_nestM q hq)), fun q hq => ?_, fun q hq => va_Nc.of (hfl _ (st_notC q hq)), ⟨fun q hq => va_Nw.of rfl (hts _ (st_exc q hq)), fun q hq => va_Nw.of rfl (hts _ (st_dec q hq)), va_Nw.of rfl (hts _ (List.mem_of_getElem? (i := 329) (by decide +kernel)))⟩, ⟨va_AO.of hao2, va_AO.of hao1, va_AO.of hao0⟩,
    vx_Zqof (hts _ (List.mem_of_getElem? (i := 201) (by decide +kernel))) (hts _ (List.mem_of_getElem? (i := 24) (by decide +kernel))) (hfl _ st_us) (fun a ha => Nat.not_le.mpr ha), vx_Zqof (hts _ (List.mem_of_getElem? (i := 203) (by decide +kernel))) (hts _ (List.mem_of_getElem? (i := 24) (by decide +kernel))) (hfl _ st_ss) (fun a ha => Nat.not_le.mpr ha), Nat.le_refl _, hX, hbl, Nat.not_le.mpr hbl, hL⟩, rfl⟩
  · match k, hq with
    | 0, hq => cases hq; exact hK0
    | 1, hq => cases hq; exact hK1
    | 2, hq => cases hq; exact hK2
    | 3, hq => cases hq; exact hK3
    | 4, hq => cases hq; exact hK4
    | 5, hq => cases hq; exact hK5
    | 6, hq => cases hq; exact hK6
    | k + 7, hq => exact absurd hq (by simp [vwCl])
  · match k, hq with
    | 0, hq => cases hq; exact ⟨fun n z => ⟨(fun k h => by cases h), kint, q2int, pint, q3int⟩, q1int⟩
    | 1, hq => cases hq; exact ⟨fun n z => ⟨(fun k h => by cases h), kint, q2int, pint, q3int⟩, q1int⟩
    | 2, hq => cases hq; exact ⟨fun n z => ⟨(fun k h => by cases h), kint, q2int, pint, q3int⟩, q1int⟩
    | 3, hq => cases hq; exact ⟨fun n z => ⟨(fun k h => by cases h), k2, q22, p2, q32⟩, k2, p2, q22, q32, q12, q42⟩
    | 4, hq => cases hq; exact ⟨fun n z => ⟨(fun k h => by cases h), k1, q21, p1, q31⟩, k1, p1, q21, q31, q11, q41⟩
    | 5, hq => cases hq; exact ⟨fun n z => ⟨(fun k h => by cases h), k0, q20, p0, q30⟩, k0, p0, q20, q30, q10, q40⟩
    | k + 6, hq => exact absurd hq (by simp [tysD])
  · have h1 := hts _ (st_str q hq)
    obtain ⟨_, _, _, a, -, -, -, -, -, h2⟩ := Cond.stringRef_spec (args := #[Value.ref b]) (first := s) (s := s) (o := none) (idx := []) hK6.2.1 h1
    exact ⟨a, vk_R.of h1 h2⟩
