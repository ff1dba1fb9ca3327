/-! ===== the law: isDone, branch by branch ===== -/
abbrev rDone : Room := { frames := 12, cells := 40, slots := 2200, locals := 490 }
def LR (D : Dx) (F : Fn) (s : St) (zs : Nat → Nat) (rcn : Nat) : Prop := LZ D F (zMc s) (zRc s) zs (zMs s) ∧ LQ D F (zWn s) (zUp s) ∧ LW D F (zKw s) (zSe s) (zLa s) ∧ LG D F (zTxt s) (zMc s) (zNow s) rcn
/-- what isDone leaves behind -/
def Done (D : Dx) (ad : Nat → Nat) (F : Fn) (s : St) : Pst := fun r ad1 F1 => r = some (.int 1) ∧ ∃ (s' : St) (zs : Nat → Nat), CRep D ad1 F1 s' ∧ Kq s' ∧ zNow s' ≤ zNow s + 200 ∧ LR D F1 s' zs (zRcp s).length ∧ ((∀ k, k < zMc s' → zs k = 0 ∨ zSt s' k = zs k) ∧ (zRcp s).length ≤ (zRcp s').length) ∧ FrL [400, 401, 402, 403] ad F ad1 F1
theorem done_of {D : Dx} {ad ad1 : Nat → Nat} {F F1 : Fn} {s s' : St} {V : List Nat} (hC : CRep D ad1 F1 s') (hQ : Kq s') (hm : Mo s s') (hmc : zMc s' = zMc s) (hn : zNow s' ≤ zNow s + 200) (hR : LR D F1 s' (zSt s) (zRcp s).length) (hK : FrL V ad F ad1 F1) (hs : ∀ c ∈ V, c ∈ [400, 401, 402, 403]) : Done D ad F s (some (.int 1)) ad1 F1 :=
  ⟨rfl, s', zSt s, hC, hQ, hn, hR, ⟨fun k hk => by
    by_cases h : zSt s k = 0
    · exact Or.inl h
    · exact Or.inr (hm.2.1 k (by rw [← hmc]; exact hk) h), hm.2.2⟩, FrL.rf.trl hK hs⟩
def pZ (s : St) : Nat × (Nat → Nat) × (Nat → List Nat) := (zMc s, zRc s, zMs s)
def pL (s : St) : (Nat → Nat) × (Nat → Nat) := (zWn s, zUp s)
def pW (s : St) : (Nat → Int32) × (Nat → Int32) × (Nat → Int32) := (zKw s, zSe s, zLa s)
def pG (s : St) : List Nat × Nat := (zTxt s, zNow s)
theorem LZ.to {D : Dx} {F G : Fn} {s s' : St} {zs : Nat → Nat} (h : LZ D F (zMc s) (zRc s) zs (zMs s)) (e : pZ s' = pZ s) (hF : G 400 = F 400) : LZ D G (zMc s') (zRc s') zs (zMs s') := by
  have e1 : zMc s' = zMc s := congrArg (fun q => q.1) e
  have e2 : zRc s' = zRc s := congrArg (fun q => q.2.1) e
  have e3 : zMs s' = zMs s := congrArg (fun q => q.2.2) e
  rw [e1, e2, e3]
  exact h.imp fun z hz => ⟨hF.trans hz.1, hz.2⟩
theorem LQ.to {D : Dx} {F G : Fn} {s s' : St} (h : LQ D F (zWn s) (zUp s)) (e : pL s' = pL s) (hF : G 401 = F 401) : LQ D G (zWn s') (zUp s') := by
  have e1 : zWn s' = zWn s := congrArg (fun q => q.1) e
  have e2 : zUp s' = zUp s := congrArg (fun q => q.2) e
  rw [e1, e2]
  exact h.imp fun z hz => ⟨hF.trans hz.1, hz.2⟩
theorem LW.to {D : Dx} {F G : Fn} {s s' : St} (h : LW D F (zKw s) (zSe s) (zLa s)) (e : pW s' = pW s) (hF : G 402 = F 402) : LW D G (zKw s') (zSe s') (zLa s') := by
  have e1 : zKw s' = zKw s := congrArg (fun q => q.1) e
  have e2 : zSe s' = zSe s := congrArg (fun q => q.2.1) e
  have e3 : zLa s' = zLa s := congrArg (fun q => q.2.2) e
  rw [e1, e2, e3]
  exact h.imp fun z hz => ⟨hF.trans hz.1, hz.2⟩
theorem LG.to {D : Dx} {F G : Fn} {s s' : St} {rcn : Nat} (h : LG D F (zTxt s) (zMc s) (zNow s) rcn) (e : pG s' = pG s) (e0 : zMc s' = zMc s) (hF : G 403 = F 403) : LG D G (zTxt s') (zMc s') (zNow s') rcn := by
  have e1 : zTxt s' = zTxt s := congrArg (fun q => q.1) e
  have e2 : zNow s' = zNow s := congrArg (fun q => q.2) e
  rw [e0, e1, e2]
  exact h.imp fun z hz => ⟨hF.trans hz.1, hz.2⟩
theorem pZ_Write {s : St} {a b : Int32} : pZ (spWrite s a b).2.2 = pZ s := by
  unfold spWrite
  (repeat' split) <;> rfl
theorem pL_Write {s : St} {a b : Int32} : pL (spWrite s a b).2.2 = pL s := by
  unfold spWrite
  (repeat' split) <;> rfl
theorem pW_Write {s : St} {a b : Int32} : pW (spWrite s a b).2.2 = pW s := by
  unfold spWrite
  (repeat' split) <;> rfl
theorem pZ_SetW {s : St} {a b : Int32} : pZ (spSetW s a b).2.2 = pZ s := by
  unfold spSetW
  (repeat' split) <;> rfl
theorem pW_SetW {s : St} {a b : Int32} : pW (spSetW s a b).2.2 = pW s := by
  unfold spSetW
  (repeat' split) <;> rfl
theorem pG_SetW {s : St} {a b : Int32} : pG (spSetW s a b).2.2 = pG s := by
  unfold spSetW
  (repeat' split) <;> rfl
theorem pZ_Alert {s : St} {a : Int32} : pZ (spAlert s a).2.2 = pZ s := by
  unfold spAlert
  (repeat' split) <;> rfl
theorem pL_Alert {s : St} {a : Int32} : pL (spAlert s a).2.2 = pL s := by
  unfold spAlert
  (repeat' split) <;> rfl
theorem pW_Alert {s : St} {a : Int32} : pW (spAlert s a).2.2 = pW s := by
  unfold spAlert
  (repeat' split) <;> rfl
theorem pG_Alert {s : St} {a : Int32} : pG (spAlert s a).2.2 = pG s := by
  unfold spAlert
  (repeat' split) <;> rfl
theorem pZ_Tog {s : St} {a : Int32} : pZ (spTog s a).2.2 = pZ s := by
  unfold spTog
  (repeat' split) <;> rfl
theorem pW_Tog {s : St} {a : Int32} : pW (spTog s a).2.2 = pW s := by
  unfold spTog
  (repeat' split) <;> rfl
theorem pG_Tog {s : St} {a : Int32} : pG (spTog s a).2.2 = pG s := by
  unfold spTog
  (repeat' split) <;> rfl
theorem pZ_Key {s : St} {a b : Int32} : pZ (spKey s a b).2.2 = pZ s := by
  unfold spKey
  (repeat' split) <;> rfl
theorem pL_Key {s : St} {a b : Int32} : pL (spKey s a b).2.2 = pL s := by
  unfold spKey
  (repeat' split) <;> rfl
theorem pG_Key {s : St} {a b : Int32} : pG (spKey s a b).2.2 = pG s := by
  unfold spKey
  (repeat' split) <;> rfl
theorem pZ_Come {s : St} {a b : Int32} : pZ (spCome s a b).2.2 = pZ s := by
  unfold spCome
  (repeat' split) <;> rfl
theorem pL_Come {s : St} {a b : Int32} : pL (spCome s a b).2.2 = pL s := by
  unfold spCome
  (repeat' split) <;> rfl
theorem pG_Come {s : St} {a b : Int32} : pG (spCome s a b).2.2 = pG s := by
  unfold spCome
  (repeat' split) <;> rfl
theorem cfg_spAck {s : St} {a b : Int32} : cfg (spAck s a b).2.2 = cfg s := by
  unfold spAck
  split
  · rfl
  · split
    · rfl
    · split
      · rfl
      · exact cfg_ack _ _ _
theorem cfg_spPass {s : St} {a : Int32} : cfg (spPass s a).2.2 = cfg s := by
  unfold spPass
  split
  · rfl
  · exact cfg_pas _ _
theorem cfg_pZ {s s' : St} (h : cfg s' = cfg s) : pZ s' = pZ s := congrArg (fun q => (q.1, q.2.2.2.2.1, q.2.2.2.2.2.1)) h
theorem cfg_pL {s s' : St} (h : cfg s' = cfg s) : pL s' = pL s := congrArg (fun q => (q.2.2.2.1, q.2.2.1)) h
theorem cfg_pW {s s' : St} (h : cfg s' = cfg s) : pW s' = pW s := congrArg (fun q => (q.2.2.2.2.2.2.1, q.2.2.2.2.2.2.2.1, q.2.2.2.2.2.2.2.2)) h
theorem stl_now (t : St) (c o : Nat) : zNow (stlS t c o) = zNow t := by
  unfold stlS
  (repeat' split) <;> rfl
theorem ack_now (s : St) (l o : Nat) : zNow (ackS s l o) = zNow s := by
  unfold ackS
  split
  · exact stl_now _ _ _
  · rfl
theorem spAck_now {s : St} {a b : Int32} : zNow (spAck s a b).2.2 = zNow s := by
  unfold spAck
  split
  · rfl
  · split
    · rfl
    · split
      · rfl
      · exact ack_now _ _ _
theorem spPass_now {s : St} {n : Nat} (hn : n < 2 ^ 20) : zNow (spPass s (nI n)).2.2 ≤ zNow s + 200 := by
  unfold spPass
  split
  · exact Nat.le_add_right _ _
  · rename_i g
    show zNow (pasN s (nI n).toNatClampNeg).1 ≤ _
    rw [pas_now, show (nI n).toNatClampNeg = n from nI_clamp (by omega)]
    have h : ¬ 200 < n := fun h => g (Or.inr (nI_lt (a := 200) h (by omega)))
    omega
theorem write_now {s : St} {a b : Int32} : zNow (spWrite s a b).2.2 = zNow s := by
  unfold spWrite
  (repeat' split) <;> rfl
set_option maxHeartbeats 2000000 in
set_option maxRecDepth 100000 in
/-- a sign is written -/
theorem dn_write {X : Cxt} {ad : Nat → Nat} {F : Fn} (s : St) (o t : Nat) (C : Ok X cL_isDone 14 yL_isDone rDone (some .boolean) []) (Q : Rx X (Done (xD X) ad F s) noX) (hC : CRep (xD X) ad F s) (hQ : Kq s) (hb : zNow s ≤ 180000) (hR : LR (xD X) F s (zSt s) (zRcp s).length) (ho : o < 6000) (ht : t < 7000) : V X 0 0 40 [(0, .ref (ad 0)), (3, .ref (ad 400)), (4, .ref (ad 401)), (5, .ref (ad 402)), (6, .ref (ad 403)), (8, .int (nI o)), (9, .int (nI t))] [] ad F := by
  have hI := hQ.1.1
  obtain ⟨hZ, hL, hW, hG⟩ := hR
  have h108 : ∀ x y : Nat, x < 2 ^ 20 → y < 2 ^ 20 → V X 0 0 108 [(0, .ref (ad 0)), (3, .ref (ad 400)), (4, .ref (ad 401)), (5, .ref (ad 402)), (6, .ref (ad 403)), (8, .int (nI o)), (9, .int (nI t))] [.int (nI y), .int (nI x), .ref (ad 403), .ref (ad 0)] ad F := by
    intro x y hx hy
    refine V_invS C dL_isDone_108 (l_isWritten s x y _ hC hI hG hx hy) ms_L_118 rfl (Nat.le_of_ble_eq_true rfl) ⟨Nat.le_of_ble_eq_true rfl, Nat.le_of_ble_eq_true rfl⟩ ⟨(Nat.le_of_ble_eq_true rfl), (Nat.le_of_ble_eq_true rfl)⟩ (fun _ _ _ h => VT_no h) (fun v ad1 F1 hp => ?_)
    obtain ⟨rfl, hC, hk, hG⟩ := hp
    have hF : ∀ c, 300 ≤ c → c ∉ [403] → F1 c = F c := fun c hc hw => (hk c hc).2 hw
    refine V_ireturn C Q dL_isDone_111 rfl (Nat.le_of_ble_eq_true rfl) (Nat.le_of_ble_eq_true rfl) (done_of hC (kq_write hQ).1 (kq_write hQ).2 (congrArg (fun q => q.1) (pZ_Write (s := s))) (Nat.le_trans (Nat.le_of_eq (write_now (s := s))) (Nat.le_add_right _ _)) ⟨hZ.to pZ_Write (hF 400 (by decide) (by decide)), hL.to pL_Write (hF 401 (by decide) (by decide)), hW.to pW_Write (hF 402 (by decide) (by decide)), ?_⟩ hk (by decide))
    rw [show zMc (spWrite s (nI x) (nI y)).2.2 = zMc s from congrArg (fun q => q.1) (pZ_Write (s := s)), write_now]
    exact hG
  have h85 : ∀ x : Nat, x < 2 ^ 20 → V X 0 0 85 [(0, .ref (ad 0)), (3, .ref (ad 400)), (4, .ref (ad 401)), (5, .ref (ad 402)), (6, .ref (ad 403)), (8, .int (nI o)), (9, .int (nI t))] [.int (nI x), .ref (ad 403), .ref (ad 0)] ad F := by
    intro x hx
    refine V_iload C dL_isDone_85 rfl ?_
    refine V_iconst (v := 3) C dL_isDone_87 rfl ?_
    refine V_irem C dL_isDone_88 (by decide) ?_
    refine V_nm (pk_rem (d := 3) (by omega) (by decide) (by decide)) ?_
    by_cases hq : t % 3 = 0
    · refine V_ifne_f (tgt := 101) C dL_isDone_89 (by decide) (congrArg nI hq) ?_
      refine V_iload C dL_isDone_92 rfl ?_
      refine V_sipush (v := 203) C dL_isDone_94 (by decide) ?_
      refine V_irem C dL_isDone_97 (by decide) ?_
      refine V_nm (pk_rem (d := 203) (by omega) (by decide) (by decide)) ?_
      refine V_goto (tgt := 108) C dL_isDone_98 (by decide) ?_
      exact h108 x (t % 203) hx (by omega)
    · refine V_ifne_t (tgt := 101) C dL_isDone_89 (by decide) (nI_ne0 (Nat.pos_of_ne_zero hq) (by omega)) ?_
      refine V_iconst (v := 1) C dL_isDone_101 rfl ?_
      refine V_iload C dL_isDone_102 rfl ?_
      refine V_bipush (v := 30) C dL_isDone_104 (by decide) ?_
      refine V_irem C dL_isDone_106 (by decide) ?_
      refine V_nm (pk_rem (d := 30) (by omega) (by decide) (by decide)) ?_
      refine V_iadd C dL_isDone_107 ?_
      refine V_nm (nI_add 1 _) ?_
      exact h108 x (1 + t % 30) hx (by omega)
  refine V_aload_n C dL_isDone_40 rfl ?_
  refine V_aload C dL_isDone_41 rfl ?_
  refine V_iload C dL_isDone_43 rfl ?_
  refine V_iconst (v := 5) C dL_isDone_45 rfl ?_
  refine V_irem C dL_isDone_46 (by decide) ?_
  refine V_nm (pk_rem (d := 5) (by omega) (by decide) (by decide)) ?_
  by_cases hq : o % 5 = 0
  · refine V_ifne_f (tgt := 59) C dL_isDone_47 (by decide) (congrArg nI hq) ?_
    refine V_iload C dL_isDone_50 rfl ?_
    refine V_sipush (v := 1001) C dL_isDone_52 (by decide) ?_
    refine V_irem C dL_isDone_55 (by decide) ?_
    refine V_nm (pk_rem (d := 1001) (by omega) (by decide) (by decide)) ?_
    refine V_goto (tgt := 85) C dL_isDone_56 (by decide) ?_
    exact h85 (o % 1001) (by omega)
  · refine V_ifne_t (tgt := 59) C dL_isDone_47 (by decide) (nI_ne0 (Nat.pos_of_ne_zero hq) (by omega)) ?_
    refine V_iload C dL_isDone_59 rfl ?_
    refine V_iconst (v := 5) C dL_isDone_61 rfl ?_
    refine V_irem C dL_isDone_62 (by decide) ?_
    refine V_nm (pk_rem (d := 5) (by omega) (by decide) (by decide)) ?_
    refine V_iconst (v := 1) C dL_isDone_63 rfl ?_
    by_cases hq1 : o % 5 = 1
    · refine V_icmpne_f (tgt := 79) C dL_isDone_64 (by decide) (congrArg nI hq1) ?_
      refine V_sipush (v := 128) C dL_isDone_67 (by decide) ?_
      refine V_iload C dL_isDone_70 rfl ?_
      refine V_bipush (v := 32) C dL_isDone_72 (by decide) ?_
      refine V_irem C dL_isDone_74 (by decide) ?_
      refine V_nm (pk_rem (d := 32) (by omega) (by decide) (by decide)) ?_
      refine V_iadd C dL_isDone_75 ?_
      refine V_nm (nI_add 128 _) ?_
      refine V_goto (tgt := 85) C dL_isDone_76 (by decide) ?_
      exact h85 (128 + o % 32) (by omega)
    · refine V_icmpne_t (tgt := 79) C dL_isDone_64 (by decide) (fun e => hq1 ((nI_eq (b := 1) (by omega) (by decide)).mp e)) ?_
      refine V_iload C dL_isDone_79 rfl ?_
      refine V_sipush (v := 128) C dL_isDone_81 (by decide) ?_
      refine V_irem C dL_isDone_84 (by decide) ?_
      refine V_nm (pk_rem (d := 128) (by omega) (by decide) (by decide)) ?_
      exact h85 (o % 128) (by omega)
theorem pL_Sub {s : St} {a b : Int32} : pL (spSub s a b).2.2 = pL s := by
  unfold spSub
  (repeat' split) <;> rfl
theorem pW_Sub {s : St} {a b : Int32} : pW (spSub s a b).2.2 = pW s := by
  unfold spSub
  (repeat' split) <;> rfl
theorem sub_now {s : St} {a b : Int32} : zNow (spSub s a b).2.2 = zNow s := by
  unfold spSub
  (repeat' split) <;> rfl
set_option maxHeartbeats 2000000 in
set_option maxRecDepth 100000 in
/-- a text is submitted -/
theorem dn_submit {X : Cxt} {ad : Nat → Nat} {F : Fn} (s : St) (o t : Nat) (C : Ok X cL_isDone 14 yL_isDone rDone (some .boolean) []) (Q : Rx X (Done (xD X) ad F s) noX) (hC : CRep (xD X) ad F s) (hQ : Kq s) (hb : zNow s ≤ 180000) (hR : LR (xD X) F s (zSt s) (zRcp s).length) (ho : o < 6000) (ht : t < 7000) : V X 0 0 119 [(0, .ref (ad 0)), (3, .ref (ad 400)), (4, .ref (ad 401)), (5, .ref (ad 402)), (6, .ref (ad 403)), (8, .int (nI o)), (9, .int (nI t))] [] ad F := by
  have hI := hQ.1.1
  obtain ⟨hZ, hL, hW, hG⟩ := hR
  have h149 : ∀ x y : Nat, x < 10 → y < 2 ^ 20 → V X 0 0 149 [(0, .ref (ad 0)), (3, .ref (ad 400)), (4, .ref (ad 401)), (5, .ref (ad 402)), (6, .ref (ad 403)), (8, .int (nI o)), (9, .int (nI t))] [.int (nI y), .int (nI x), .ref (ad 403), .ref (ad 400), .ref (ad 0)] ad F := by
    intro x y hx hy
    refine V_invS C dL_isDone_149 (l_isSubmitted s x y _ hC hQ hZ hG hx hy) ms_L_122 rfl (Nat.le_of_ble_eq_true rfl) ⟨Nat.le_of_ble_eq_true rfl, Nat.le_of_ble_eq_true rfl⟩ ⟨(Nat.le_of_ble_eq_true rfl), (Nat.le_of_ble_eq_true rfl)⟩ (fun _ _ _ h => VT_no h) (fun v ad1 F1 hp => ?_)
    obtain ⟨rfl, hC, hk, hZ, hG⟩ := hp
    have hF : ∀ c, 300 ≤ c → c ∉ [400, 403] → F1 c = F c := fun c hc hw => (hk c hc).2 hw
    refine V_ireturn C Q dL_isDone_152 rfl (Nat.le_of_ble_eq_true rfl) (Nat.le_of_ble_eq_true rfl) ⟨rfl, (spSub s (nI x) (nI y)).2.2, zSt (spSub s (nI x) (nI y)).2.2, hC, (kq_sub hQ).1, (Nat.le_trans (Nat.le_of_eq (sub_now (s := s))) (Nat.le_add_right _ _)), ⟨hZ, hL.to pL_Sub (hF 401 (by decide) (by decide)), hW.to pW_Sub (hF 402 (by decide) (by decide)), ?_⟩, ⟨fun _ _ => Or.inr rfl, (kq_sub hQ).2.2.2⟩, FrL.rf.trl hk (by decide)⟩
    rw [sub_now]
    exact hG
  refine V_aload_n C dL_isDone_119 rfl ?_
  refine V_aload_n C dL_isDone_120 rfl ?_
  refine V_aload C dL_isDone_121 rfl ?_
  refine V_iload C dL_isDone_123 rfl ?_
  refine V_bipush (v := 10) C dL_isDone_125 (by decide) ?_
  refine V_irem C dL_isDone_127 (by decide) ?_
  refine V_nm (pk_rem (d := 10) (by omega) (by decide) (by decide)) ?_
  refine V_iload C dL_isDone_128 rfl ?_
  refine V_bipush (v := 20) C dL_isDone_130 (by decide) ?_
  refine V_irem C dL_isDone_132 (by decide) ?_
  refine V_nm (pk_rem (d := 20) (by omega) (by decide) (by decide)) ?_
  by_cases hq : t % 20 = 0
  · refine V_ifne_f (tgt := 142) C dL_isDone_133 (by decide) (congrArg nI hq) ?_
    refine V_sipush (v := 1001) C dL_isDone_136 (by decide) ?_
    refine V_goto (tgt := 149) C dL_isDone_139 (by decide) ?_
    exact h149 (o % 10) 1001 (by omega) (by decide)
  · refine V_ifne_t (tgt := 142) C dL_isDone_133 (by decide) (nI_ne0 (Nat.pos_of_ne_zero hq) (by omega)) ?_
    refine V_iconst (v := 1) C dL_isDone_142 rfl ?_
    refine V_iload C dL_isDone_143 rfl ?_
    refine V_bipush (v := 90) C dL_isDone_145 (by decide) ?_
    refine V_irem C dL_isDone_147 (by decide) ?_
    refine V_nm (pk_rem (d := 90) (by omega) (by decide) (by decide)) ?_
    refine V_iadd C dL_isDone_148 ?_
    refine V_nm (nI_add 1 _) ?_
    exact h149 (o % 10) (1 + t % 90) (by omega) (by omega)
set_option maxHeartbeats 2000000 in
set_option maxRecDepth 100000 in
/-- ticks pass -/
theorem dn_pass {X : Cxt} {ad : Nat → Nat} {F : Fn} (s : St) (o t : Nat) (C : Ok X cL_isDone 14 yL_isDone rDone (some .boolean) []) (Q : Rx X (Done (xD X) ad F s) noX) (hC : CRep (xD X) ad F s) (hQ : Kq s) (hb : zNow s ≤ 180000) (hR : LR (xD X) F s (zSt s) (zRcp s).length) (ho : o < 6000) (ht : t < 7000) : V X 0 0 160 [(0, .ref (ad 0)), (3, .ref (ad 400)), (4, .ref (ad 401)), (5, .ref (ad 402)), (6, .ref (ad 403)), (8, .int (nI o)), (9, .int (nI t))] [] ad F := by
  have hI := hQ.1.1
  obtain ⟨hZ, hL, hW, hG⟩ := hR
  have h189 : ∀ y : Nat, y < 2 ^ 20 → V X 0 0 189 [(0, .ref (ad 0)), (3, .ref (ad 400)), (4, .ref (ad 401)), (5, .ref (ad 402)), (6, .ref (ad 403)), (8, .int (nI o)), (9, .int (nI t))] [.int (nI y), .ref (ad 403), .ref (ad 401), .ref (ad 0)] ad F := by
    intro y hy
    refine V_invS C dL_isDone_189 (l_isPassed s y _ hC hQ (by omega) hG hy) ms_L_126 rfl (Nat.le_of_ble_eq_true rfl) ⟨Nat.le_of_ble_eq_true rfl, Nat.le_of_ble_eq_true rfl⟩ ⟨(Nat.le_of_ble_eq_true rfl), (Nat.le_of_ble_eq_true rfl)⟩ (fun _ _ _ h => VT_no h) (fun v ad1 F1 hp => ?_)
    obtain ⟨rfl, hC, hk, hG⟩ := hp
    have hF : ∀ c, 300 ≤ c → c ∉ [403] → F1 c = F c := fun c hc hw => (hk c hc).2 hw
    refine V_ireturn C Q dL_isDone_192 rfl (Nat.le_of_ble_eq_true rfl) (Nat.le_of_ble_eq_true rfl) (done_of hC (kq_pass hQ (by omega)).1 (kq_pass hQ (by omega)).2 (congrArg (fun q => q.1) (cfg_spPass (s := s))) (spPass_now hy) ⟨hZ.to (cfg_pZ cfg_spPass) (hF 400 (by decide) (by decide)), hL.to (cfg_pL cfg_spPass) (hF 401 (by decide) (by decide)), hW.to (cfg_pW cfg_spPass) (hF 402 (by decide) (by decide)), ?_⟩ hk (by decide))
    rw [show zMc (spPass s (nI y)).2.2 = zMc s from congrArg (fun q => q.1) (cfg_spPass (s := s)), show zTxt (spPass s (nI y)).2.2 = zTxt s from congrArg (fun q => q.2.1) (cfg_spPass (s := s))]
    exact hG
  refine V_aload_n C dL_isDone_160 rfl ?_
  refine V_aload C dL_isDone_161 rfl ?_
  refine V_aload C dL_isDone_163 rfl ?_
  refine V_iload C dL_isDone_165 rfl ?_
  refine V_bipush (v := 15) C dL_isDone_167 (by decide) ?_
  refine V_irem C dL_isDone_169 (by decide) ?_
  refine V_nm (pk_rem (d := 15) (by omega) (by decide) (by decide)) ?_
  by_cases hq : t % 15 = 0
  · refine V_ifne_f (tgt := 182) C dL_isDone_170 (by decide) (congrArg nI hq) ?_
    refine V_iload C dL_isDone_173 rfl ?_
    refine V_sipush (v := 203) C dL_isDone_175 (by decide) ?_
    refine V_irem C dL_isDone_178 (by decide) ?_
    refine V_nm (pk_rem (d := 203) (by omega) (by decide) (by decide)) ?_
    refine V_goto (tgt := 189) C dL_isDone_179 (by decide) ?_
    exact h189 (o % 203) (by omega)
  · refine V_ifne_t (tgt := 182) C dL_isDone_170 (by decide) (nI_ne0 (Nat.pos_of_ne_zero hq) (by omega)) ?_
    refine V_iconst (v := 1) C dL_isDone_182 rfl ?_
    refine V_iload C dL_isDone_183 rfl ?_
    refine V_bipush (v := 6) C dL_isDone_185 (by decide) ?_
    refine V_irem C dL_isDone_187 (by decide) ?_
    refine V_nm (pk_rem (d := 6) (by omega) (by decide) (by decide)) ?_
    refine V_iadd C dL_isDone_188 ?_
    refine V_nm (nI_add 1 _) ?_
    exact h189 (1 + o % 6) (by omega)
set_option maxHeartbeats 2000000 in
set_option maxRecDepth 100000 in
/-- an acknowledgement -/
theorem dn_ack {X : Cxt} {ad : Nat → Nat} {F : Fn} (s : St) (o t : Nat) (C : Ok X cL_isDone 14 yL_isDone rDone (some .boolean) []) (Q : Rx X (Done (xD X) ad F s) noX) (hC : CRep (xD X) ad F s) (hQ : Kq s) (hb : zNow s ≤ 180000) (hR : LR (xD X) F s (zSt s) (zRcp s).length) (ho : o < 6000) (ht : t < 7000) : V X 0 0 200 [(0, .ref (ad 0)), (3, .ref (ad 400)), (4, .ref (ad 401)), (5, .ref (ad 402)), (6, .ref (ad 403)), (8, .int (nI o)), (9, .int (nI t))] [] ad F := by
  have hI := hQ.1.1
  obtain ⟨hZ, hL, hW, hG⟩ := hR
  have h226 : ∀ x y : Nat, x < 4 → y < 5 → V X 0 0 226 [(0, .ref (ad 0)), (3, .ref (ad 400)), (4, .ref (ad 401)), (5, .ref (ad 402)), (6, .ref (ad 403)), (8, .int (nI o)), (9, .int (nI t))] [.int (nI y), .int (nI x), .ref (ad 403), .ref (ad 401), .ref (ad 400), .ref (ad 0)] ad F := by
    intro x y hx hy
    refine V_invS C dL_isDone_226 (l_isAcknowledged s x y _ hC hQ hZ hG hx hy) ms_L_130 rfl (Nat.le_of_ble_eq_true rfl) ⟨Nat.le_of_ble_eq_true rfl, Nat.le_of_ble_eq_true rfl⟩ ⟨(Nat.le_of_ble_eq_true rfl), (Nat.le_of_ble_eq_true rfl)⟩ (fun _ _ _ h => VT_no h) (fun v ad1 F1 hp => ?_)
    obtain ⟨rfl, hC, hk⟩ := hp
    have hF : ∀ c, 300 ≤ c → F1 c = F c := fun c hc => (hk c hc).2
    refine V_ireturn C Q dL_isDone_229 rfl (Nat.le_of_ble_eq_true rfl) (Nat.le_of_ble_eq_true rfl) (done_of (V := []) hC (kq_ack hQ).1 (kq_ack hQ).2 (congrArg (fun q => q.1) (cfg_spAck (s := s))) (Nat.le_trans (Nat.le_of_eq (spAck_now (s := s))) (Nat.le_add_right _ _)) ⟨hZ.to (cfg_pZ cfg_spAck) (hF 400 (by decide)), hL.to (cfg_pL cfg_spAck) (hF 401 (by decide)), hW.to (cfg_pW cfg_spAck) (hF 402 (by decide)), hG.to (by unfold pG; rw [spAck_now, show zTxt (spAck s (nI x) (nI y)).2.2 = zTxt s from congrArg (fun q => q.2.1) (cfg_spAck (s := s))]) (congrArg (fun q => q.1) (cfg_spAck (s := s))) (hF 403 (by decide))⟩ hk.toL (fun _ h => absurd h List.not_mem_nil))
  refine V_aload_n C dL_isDone_200 rfl ?_
  refine V_aload_n C dL_isDone_201 rfl ?_
  refine V_aload C dL_isDone_202 rfl ?_
  refine V_aload C dL_isDone_204 rfl ?_
  refine V_iload C dL_isDone_206 rfl ?_
  refine V_iconst (v := 4) C dL_isDone_208 rfl ?_
  refine V_irem C dL_isDone_209 (by decide) ?_
  refine V_nm (pk_rem (d := 4) (by omega) (by decide) (by decide)) ?_
  refine V_iload C dL_isDone_210 rfl ?_
  refine V_bipush (v := 9) C dL_isDone_212 (by decide) ?_
  refine V_irem C dL_isDone_214 (by decide) ?_
  refine V_nm (pk_rem (d := 9) (by omega) (by decide) (by decide)) ?_
  by_cases hq : t % 9 = 0
  · refine V_ifne_f (tgt := 222) C dL_isDone_215 (by decide) (congrArg nI hq) ?_
    refine V_iconst (v := 4) C dL_isDone_218 rfl ?_
    refine V_goto (tgt := 226) C dL_isDone_219 (by decide) ?_
    exact h226 (o % 4) 4 (by omega) (by decide)
  · refine V_ifne_t (tgt := 222) C dL_isDone_215 (by decide) (nI_ne0 (Nat.pos_of_ne_zero hq) (by omega)) ?_
    refine V_iload C dL_isDone_222 rfl ?_
    refine V_iconst (v := 4) C dL_isDone_224 rfl ?_
    refine V_irem C dL_isDone_225 (by decide) ?_
    refine V_nm (pk_rem (d := 4) (by omega) (by decide) (by decide)) ?_
    exact h226 (o % 4) (t % 4) (by omega) (by omega)
theorem come_now {s : St} {a b : Int32} : zNow (spCome s a b).2.2 = zNow s := by
  unfold spCome
  split <;> rfl
theorem come_kw {s : St} {a b : Int32} : zKw (spCome s a b).2.2 = zKw s := by
  unfold spCome
  split <;> rfl
set_option maxHeartbeats 2000000 in
set_option maxRecDepth 100000 in
/-- a text comes in -/
theorem dn_come {X : Cxt} {ad : Nat → Nat} {F : Fn} (s : St) (o t : Nat) (C : Ok X cL_isDone 14 yL_isDone rDone (some .boolean) []) (Q : Rx X (Done (xD X) ad F s) noX) (hC : CRep (xD X) ad F s) (hQ : Kq s) (hb : zNow s ≤ 180000) (hR : LR (xD X) F s (zSt s) (zRcp s).length) (ho : o < 6000) (ht : t < 7000) : V X 0 0 476 [(0, .ref (ad 0)), (3, .ref (ad 400)), (4, .ref (ad 401)), (5, .ref (ad 402)), (6, .ref (ad 403)), (8, .int (nI o)), (9, .int (nI t))] [] ad F := by
  have hI := hQ.1.1
  obtain ⟨hZ, hL, hW, hG⟩ := hR
  have h504 : ∀ x y : Nat, x < 10 → y < 2 ^ 20 → V X 0 0 504 [(0, .ref (ad 0)), (3, .ref (ad 400)), (4, .ref (ad 401)), (5, .ref (ad 402)), (6, .ref (ad 403)), (8, .int (nI o)), (9, .int (nI t))] [.int (nI y), .int (nI x), .ref (ad 403), .ref (ad 402), .ref (ad 0)] ad F := by
    intro x y hx hy
    refine V_invS C dL_isDone_504 (l_isCome s x y _ hC hQ hW hG hx hy) ms_L_134 rfl (Nat.le_of_ble_eq_true rfl) ⟨Nat.le_of_ble_eq_true rfl, Nat.le_of_ble_eq_true rfl⟩ ⟨(Nat.le_of_ble_eq_true rfl), (Nat.le_of_ble_eq_true rfl)⟩ (fun _ _ _ h => VT_no h) (fun v ad1 F1 hp => ?_)
    obtain ⟨rfl, hC, hk, hW⟩ := hp
    have hF : ∀ c, 300 ≤ c → c ∉ [402] → F1 c = F c := fun c hc hw => (hk c hc).2 hw
    refine V_ireturn C Q dL_isDone_507 rfl (Nat.le_of_ble_eq_true rfl) (Nat.le_of_ble_eq_true rfl) (done_of hC (kq_come hQ).1 (kq_come hQ).2 (congrArg (fun q => q.1) (pZ_Come (s := s))) (Nat.le_trans (Nat.le_of_eq (come_now (s := s))) (Nat.le_add_right _ _)) ⟨hZ.to pZ_Come (hF 400 (by decide) (by decide)), hL.to pL_Come (hF 401 (by decide) (by decide)), ?_, hG.to pG_Come (congrArg (fun q => q.1) (pZ_Come (s := s))) (hF 403 (by decide) (by decide))⟩ hk (by decide))
    rw [come_kw]
    exact hW
  refine V_aload_n C dL_isDone_476 rfl ?_
  refine V_aload C dL_isDone_477 rfl ?_
  refine V_aload C dL_isDone_479 rfl ?_
  refine V_iload C dL_isDone_481 rfl ?_
  refine V_bipush (v := 10) C dL_isDone_483 (by decide) ?_
  refine V_irem C dL_isDone_485 (by decide) ?_
  refine V_nm (pk_rem (d := 10) (by omega) (by decide) (by decide)) ?_
  refine V_iload C dL_isDone_486 rfl ?_
  refine V_bipush (v := 7) C dL_isDone_488 (by decide) ?_
  refine V_irem C dL_isDone_490 (by decide) ?_
  refine V_nm (pk_rem (d := 7) (by omega) (by decide) (by decide)) ?_
  by_cases hq : t % 7 = 0
  · refine V_ifne_f (tgt := 500) C dL_isDone_491 (by decide) (congrArg nI hq) ?_
    refine V_sipush (v := 1000) C dL_isDone_494 (by decide) ?_
    refine V_goto (tgt := 504) C dL_isDone_497 (by decide) ?_
    exact h504 (o % 10) 1000 (by omega) (by decide)
  · refine V_ifne_t (tgt := 500) C dL_isDone_491 (by decide) (nI_ne0 (Nat.pos_of_ne_zero hq) (by omega)) ?_
    refine V_iload C dL_isDone_500 rfl ?_
    refine V_iconst (v := 5) C dL_isDone_502 rfl ?_
    refine V_irem C dL_isDone_503 (by decide) ?_
    refine V_nm (pk_rem (d := 5) (by omega) (by decide) (by decide)) ?_
    exact h504 (o % 10) (t % 5) (by omega) (by omega)
