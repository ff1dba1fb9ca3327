/-! ===== the law, call by call ===== -/
theorem ok_sept {s : St} (h : Kp s) : Kp (spSept s).2.2 := by
  unfold spSept
  (repeat' split) <;> exact h
theorem ok_signs {s : St} {a : Int32} (h : Kp s) : Kp (spSigns s a).2.2 := by
  unfold spSigns
  (repeat' split) <;> exact h
theorem ok_octs {s : St} {a : Int32} (h : Kp s) : Kp (spOcts s a).2.2 := by
  unfold spOcts
  (repeat' split) <;> exact h
theorem ok_oct {s : St} {a b : Int32} (h : Kp s) : Kp (spOct s a b).2.2 := by
  unfold spOct
  (repeat' split) <;> exact h
theorem ok_state {s : St} {a : Int32} (h : Kp s) : Kp (spState s a).2.2 := by
  unfold spState
  (repeat' split) <;> exact h
theorem ok_miss {s : St} {a : Int32} (h : Kp s) : Kp (spMiss s a).2.2 := by
  unfold spMiss
  (repeat' split) <;> exact h
theorem ok_join {s : St} {a b : Int32} (h : Kp s) : Kp (spJoin s a b).2.2 := by
  unfold spJoin
  (repeat' split) <;> exact h
theorem ok_rcp {s : St} {a : Int32} (h : Kp s) : Kp (spRcp s a).2.2 := by
  unfold spRcp
  (repeat' split) <;> exact h
theorem ok_qd {s : St} {a : Int32} (h : Kp s) : Kp (spQd s a).2.2 := by
  unfold spQd
  (repeat' split) <;> exact h
theorem ok_uw {s : St} {a : Int32} (h : Kp s) : Kp (spUw s a).2.2 := by
  unfold spUw
  (repeat' split) <;> exact h
theorem ok_tok {s : St} {a : Int32} (h : Kp s) : Kp (spTok s a).2.2 := by
  unfold spTok
  (repeat' split) <;> exact h
set_option maxHeartbeats 4000000 in
set_option maxRecDepth 100000 in
theorem law_0 {X : Cxt} {nm : String} {tb : List ExceptionTableEntry} (C : Ok X cL_law 7 ⟨RL, nm, ""⟩ room_1 ret tb) {b L : Nat} {sc : Nat → Int32} (hS : Scr X b L sc) (hL : L ≤ 1536) {j : Nat} (hj : j < 512) (h3 : 3 * j + 3 ≤ L) {s u : St} {ad : Nat → Nat} {F : Fn} {th : Int32} (hs : Kp s) (hu : Kp u) (hm : Sim s u) (hn : zNow s ≤ 200 * j) (hC : CRep (xD X) ad F s) (hM : MRep (xD X) ad F u th) {f0 : Nat → Int64} (h400 : F 400 = some (aJ (xD X) 1 f0)) (nx : NX X b j) : V X (50 + 13 * j) (12000 + 900 * j) 152 [(0, .ref b), (1, .ref (ad 0)), (2, .ref (ad 300)), (3, .ref (ad 400)), (4, .int (nI (3 * j)))] [] ad F := by
  have hun : zNow u ≤ 190000 := by rw [hm.1.1]; omega
  have hsn : zNow s ≤ 190000 := by omega
  obtain ⟨a, ea⟩ : ∃ a, a = sc (3 * j + 1) := ⟨_, rfl⟩
  obtain ⟨c, ec⟩ : ∃ c, c = sc (3 * j + 2) := ⟨_, rfl⟩
  refine V_aload_n C dL_law_152 rfl ?_
  refine V_aload_n C dL_law_153 rfl ?_
  refine V_iload C dL_law_154 rfl ?_
  refine V_iconst (v := 1) C dL_law_156 rfl ?_
  refine V_iadd C dL_law_157 ?_
  refine V_nm (nI_1 (3 * j)) ?_
  refine V_sld C hS dL_law_158 rfl (by omega) (by omega) ?_
  refine V_nm ea.symm ?_
  refine V_aload_n C dL_law_159 rfl ?_
  refine V_iload C dL_law_160 rfl ?_
  refine V_iconst (v := 2) C dL_law_162 rfl ?_
  refine V_iadd C dL_law_163 ?_
  refine V_nm (nI_add (3 * j) 2) ?_
  refine V_sld C hS dL_law_164 rfl (by omega) (by omega) ?_
  refine V_nm ec.symm ?_
  refine V_aload_n C dL_law_165 rfl ?_
  refine V_invH C dL_law_166 (w_write s a c f0 hC hs.1 h400 (ok_write hs).1) mh_L_84 rfl (Nat.le_of_ble_eq_true rfl) ⟨Nat.le_of_ble_eq_true rfl, Nat.le_of_ble_eq_true rfl⟩ ⟨(by show 50 + 13 * j + 13 ≤ 601024; omega), (by show 12000 + 900 * j + 900 ≤ 7293033; omega)⟩ (fun _ _ _ h => VT_no h) (fun v ad1 F1 hp => ?_)
  obtain ⟨rfl, hC1, ⟨f1, h401, hf1⟩, hfk, ha0⟩ := hp
  have had := fun c hc => (hfk c hc).1
  have hFk : ∀ c, 300 ≤ c → c ≠ 400 → F1 c = F c := fun c hc hne => (hfk c hc).2 hne
  have hA := sm_write (a := a) (b := c) hm
  rw [show ad 0 = ad1 0 from ha0.symm, show ad 300 = ad1 300 from (had 300 (by decide)).symm, show ad 400 = ad1 400 from (had 400 (by decide)).symm]
  have hM1 := hM.keptK (fun c hc _ => had c hc) hFk
  have hMd := hM1.1
  unfold mObj at hMd
  refine V_istore C dL_law_169 (by decide) ?_
  refine V_aload_n C dL_law_171 rfl ?_
  refine V_aload_n C dL_law_172 rfl ?_
  refine V_iload C dL_law_173 rfl ?_
  refine V_iconst (v := 1) C dL_law_175 rfl ?_
  refine V_iadd C dL_law_176 ?_
  refine V_nm (nI_1 (3 * j)) ?_
  refine V_sld C hS dL_law_177 rfl (by omega) (by omega) ?_
  refine V_nm ea.symm ?_
  refine V_aload_n C dL_law_178 rfl ?_
  refine V_iload C dL_law_179 rfl ?_
  refine V_iconst (v := 2) C dL_law_181 rfl ?_
  refine V_iadd C dL_law_182 ?_
  refine V_nm (nI_add (3 * j) 2) ?_
  refine V_sld C hS dL_law_183 rfl (by omega) (by omega) ?_
  refine V_nm ec.symm ?_
  refine V_invV C dL_law_184 hMd rfl (m_write u th a c hM1 hu.1) mv_L_89 rfl (Nat.le_of_ble_eq_true rfl) ⟨Nat.le_of_ble_eq_true rfl, Nat.le_of_ble_eq_true rfl⟩ ⟨(by show 50 + 13 * j + 13 + 0 ≤ 601024; omega), (by show 12000 + 900 * j + 900 + 0 ≤ 7293033; omega)⟩ (fun _ _ _ h => VT_no h) (fun v ad1 F2 hp => ?_)
  obtain ⟨rfl, rfl, hM2, hfm⟩ := hp
  have h402 := (hfm 400 (Or.inr (Nat.le_refl _))).2.trans h401
  have hC2 := hC1.keptF (ok_write hs).1 (fun c hc => (hfm c (Or.inl hc)).2)
  have hMd2 := hM2.1
  unfold mObj at hMd2
  refine V_istore C dL_law_187 (by decide) ?_
  refine V_aload_n C dL_law_189 rfl ?_
  refine V_invV C dL_law_190 hMd2 rfl (m_thrown _ _ _ _ _ hM2.1) mv_L_90 rfl (Nat.le_of_ble_eq_true rfl) ⟨Nat.le_of_ble_eq_true rfl, Nat.le_of_ble_eq_true rfl⟩ ⟨(by show 50 + 13 * j + 13 + 0 + 0 ≤ 601024; omega), (by show 12000 + 900 * j + 900 + 0 + 0 ≤ 7293033; omega)⟩ (fun _ _ _ h => VT_no h) (fun v ad2 F3 hp => ?_)
  obtain ⟨rfl, rfl, rfl⟩ := hp
  refine V_iload C dL_law_193 rfl ?_
  refine V_icmpeq_t (tgt := 200) C dL_law_195 (by decide) (by rw [hA.1]) ?_
  refine V_iload C dL_law_200 rfl ?_
  refine V_ifne (tgt := 217) C dL_law_202 (by decide) (fun h5 => ?_) (fun h5 => ?_)
  · refine V_goto (tgt := 1408) C dL_law_217 (by decide) ?_
    refine V_wide (by show 50 + 13 * j + 13 ≤ 50 + 13 * j + 13; omega) (by show 12000 + 900 * j + 900 ≤ 12000 + 900 * j + 900; omega) ?_
    exact V_sb (nx _ _ ad1 F2 _ (ok_write hs) (ok_write hu) hA.2.2 (Nat.le_trans nw_spWrite (by omega)) hC2 hM2 ⟨f1, h402⟩) ⟨rfl, rfl, rfl, rfl, rfl, trivial⟩
  · have h0 : (spWrite s a c).1 = 0 := (nI_eq (b := 0) (by have := lt_spWrite (s := s) (a := a) (b := c); omega) (by decide)).mp h5
    refine V_aload_n C dL_law_205 rfl ?_
    refine V_iconst (v := 0) C dL_law_206 rfl ?_
    refine V_lald C dL_law_207 h402 (show (0 : Int32) = nI 0 from rfl) (by decide) (by decide) ?_
    refine V_iload C dL_law_208 rfl ?_
    refine V_i2l C dL_law_210 rfl ?_
    refine V_lcmp C dL_law_211 ?_
    refine V_nm (show _ = (0 : Int32) by rw [hf1 h0, hA.2.1]; exact lg_self _) ?_
    refine V_ifeq_t (tgt := 217) C dL_law_212 (by decide) rfl ?_
    refine V_goto (tgt := 1408) C dL_law_217 (by decide) ?_
    refine V_wide (by show 50 + 13 * j + 13 ≤ 50 + 13 * j + 13; omega) (by show 12000 + 900 * j + 900 ≤ 12000 + 900 * j + 900; omega) ?_
    exact V_sb (nx _ _ ad1 F2 _ (ok_write hs) (ok_write hu) hA.2.2 (Nat.le_trans nw_spWrite (by omega)) hC2 hM2 ⟨f1, h402⟩) ⟨rfl, rfl, rfl, rfl, rfl, trivial⟩
set_option maxHeartbeats 4000000 in
set_option maxRecDepth 100000 in
theorem law_1 {X : Cxt} {nm : String} {tb : List ExceptionTableEntry} (C : Ok X cL_law 7 ⟨RL, nm, ""⟩ room_1 ret tb) {b L : Nat} {sc : Nat → Int32} (hS : Scr X b L sc) (hL : L ≤ 1536) {j : Nat} (hj : j < 512) (h3 : 3 * j + 3 ≤ L) {s u : St} {ad : Nat → Nat} {F : Fn} {th : Int32} (hs : Kp s) (hu : Kp u) (hm : Sim s u) (hn : zNow s ≤ 200 * j) (hC : CRep (xD X) ad F s) (hM : MRep (xD X) ad F u th) {f0 : Nat → Int64} (h400 : F 400 = some (aJ (xD X) 1 f0)) (nx : NX X b j) : V X (50 + 13 * j) (12000 + 900 * j) 220 [(0, .ref b), (1, .ref (ad 0)), (2, .ref (ad 300)), (3, .ref (ad 400)), (4, .int (nI (3 * j)))] [] ad F := by
  have hun : zNow u ≤ 190000 := by rw [hm.1.1]; omega
  have hsn : zNow s ≤ 190000 := by omega
  have hCl := hC.1
  unfold kMain at hCl
  refine V_aload_n C dL_law_220 rfl ?_
  refine V_invV C dL_law_221 hCl rfl (c_erase s hC hs.1) mv_L_93 rfl (Nat.le_of_ble_eq_true rfl) ⟨Nat.le_of_ble_eq_true rfl, Nat.le_of_ble_eq_true rfl⟩ ⟨(by show 50 + 13 * j + 1 ≤ 601024; omega), (by show 12000 + 900 * j + 6 ≤ 7293033; omega)⟩ (fun _ _ _ h => VT_no h) (fun v ad1 F1 hp => ?_)
  obtain ⟨-, rfl, hC1, hfk⟩ := hp
  have ha0 := hfk.a0
  have h401 := (hfk 400 (by decide)).2.trans h400
  have had : ∀ c, 300 ≤ c → ad1 c = ad c := fun c hc => hfk.ad hc
  have hFk : ∀ c, 300 ≤ c → c ≠ 400 → F1 c = F c := fun c hc _ => (hfk c hc).2
  have hA := sm_erase hm
  rw [show ad 0 = ad1 0 from ha0.symm, show ad 300 = ad1 300 from (had 300 (by decide)).symm, show ad 400 = ad1 400 from (had 400 (by decide)).symm]
  have hM1 := hM.keptK (fun c hc _ => had c hc) hFk
  have hMd := hM1.1
  unfold mObj at hMd
  refine V_aload_n C dL_law_224 rfl ?_
  refine V_invV C dL_law_225 hMd rfl (m_erase u th hM1) mv_L_96 rfl (Nat.le_of_ble_eq_true rfl) ⟨Nat.le_of_ble_eq_true rfl, Nat.le_of_ble_eq_true rfl⟩ ⟨(by show 50 + 13 * j + 1 + 0 ≤ 601024; omega), (by show 12000 + 900 * j + 6 + 0 ≤ 7293033; omega)⟩ (fun _ _ _ h => VT_no h) (fun v ad1 F2 hp => ?_)
  obtain ⟨rfl, rfl, hM2, hfm⟩ := hp
  have h402 := (hfm 400 (Or.inr (Nat.le_refl _))).2.trans h401
  have hC2 := hC1.keptF (ok_erase hs).1 (fun c hc => (hfm c (Or.inl hc)).2)
  refine V_icmpeq_t (tgt := 1408) C dL_law_228 (by decide) hA.2.1.symm ?_
  refine V_wide (by show 50 + 13 * j + 1 ≤ 50 + 13 * j + 13; omega) (by show 12000 + 900 * j + 6 ≤ 12000 + 900 * j + 900; omega) ?_
  exact V_sb (nx _ _ ad1 F2 _ (ok_erase hs) (ok_erase hu) hA.2.2 (Nat.le_trans nw_spErase (by omega)) hC2 hM2 ⟨f0, h402⟩) ⟨rfl, rfl, rfl, rfl, rfl, trivial⟩
set_option maxHeartbeats 4000000 in
set_option maxRecDepth 100000 in
theorem law_2 {X : Cxt} {nm : String} {tb : List ExceptionTableEntry} (C : Ok X cL_law 7 ⟨RL, nm, ""⟩ room_1 ret tb) {b L : Nat} {sc : Nat → Int32} (hS : Scr X b L sc) (hL : L ≤ 1536) {j : Nat} (hj : j < 512) (h3 : 3 * j + 3 ≤ L) {s u : St} {ad : Nat → Nat} {F : Fn} {th : Int32} (hs : Kp s) (hu : Kp u) (hm : Sim s u) (hn : zNow s ≤ 200 * j) (hC : CRep (xD X) ad F s) (hM : MRep (xD X) ad F u th) {f0 : Nat → Int64} (h400 : F 400 = some (aJ (xD X) 1 f0)) (nx : NX X b j) : V X (50 + 13 * j) (12000 + 900 * j) 233 [(0, .ref b), (1, .ref (ad 0)), (2, .ref (ad 300)), (3, .ref (ad 400)), (4, .int (nI (3 * j)))] [] ad F := by
  have hun : zNow u ≤ 190000 := by rw [hm.1.1]; omega
  have hsn : zNow s ≤ 190000 := by omega
  have hCl := hC.1
  unfold kMain at hCl
  refine V_aload_n C dL_law_233 rfl ?_
  refine V_invV C dL_law_234 hCl rfl (c_isWide s hC hs.1) mv_L_97 rfl (Nat.le_of_ble_eq_true rfl) ⟨Nat.le_of_ble_eq_true rfl, Nat.le_of_ble_eq_true rfl⟩ ⟨(by show 50 + 13 * j + 1 ≤ 601024; omega), (by show 12000 + 900 * j + 6 ≤ 7293033; omega)⟩ (fun _ _ _ h => VT_no h) (fun v ad1 F1 hp => ?_)
  obtain ⟨-, rfl, hC1, hfk⟩ := hp
  have ha0 := hfk.a0
  have h401 := (hfk 400 (by decide)).2.trans h400
  have had : ∀ c, 300 ≤ c → ad1 c = ad c := fun c hc => hfk.ad hc
  have hFk : ∀ c, 300 ≤ c → c ≠ 400 → F1 c = F c := fun c hc _ => (hfk c hc).2
  have hA := sm_wide hm
  rw [show ad 0 = ad1 0 from ha0.symm, show ad 300 = ad1 300 from (had 300 (by decide)).symm, show ad 400 = ad1 400 from (had 400 (by decide)).symm]
  have hM1 := hM.keptK (fun c hc _ => had c hc) hFk
  have hMd := hM1.1
  unfold mObj at hMd
  refine V_aload_n C dL_law_237 rfl ?_
  refine V_invV C dL_law_238 hMd rfl (m_isWide u th hM1) mv_L_101 rfl (Nat.le_of_ble_eq_true rfl) ⟨Nat.le_of_ble_eq_true rfl, Nat.le_of_ble_eq_true rfl⟩ ⟨(by show 50 + 13 * j + 1 + 0 ≤ 601024; omega), (by show 12000 + 900 * j + 6 + 0 ≤ 7293033; omega)⟩ (fun _ _ _ h => VT_no h) (fun v ad1 F2 hp => ?_)
  obtain ⟨rfl, rfl, hM2, hfm⟩ := hp
  have h402 := (hfm 400 (Or.inr (Nat.le_refl _))).2.trans h401
  have hC2 := hC1.keptF hs.1 (fun c hc => (hfm c (Or.inl hc)).2)
  refine V_icmpeq_t (tgt := 1408) C dL_law_241 (by decide) hA.2.1.symm ?_
  refine V_wide (by show 50 + 13 * j + 1 ≤ 50 + 13 * j + 13; omega) (by show 12000 + 900 * j + 6 ≤ 12000 + 900 * j + 900; omega) ?_
  exact V_sb (nx _ _ ad1 F2 _ hs hu hA.2.2 (Nat.le_trans nw_spWide (by omega)) hC2 hM2 ⟨f0, h402⟩) ⟨rfl, rfl, rfl, rfl, rfl, trivial⟩
set_option maxHeartbeats 4000000 in
set_option maxRecDepth 100000 in
theorem law_3 {X : Cxt} {nm : String} {tb : List ExceptionTableEntry} (C : Ok X cL_law 7 ⟨RL, nm, ""⟩ room_1 ret tb) {b L : Nat} {sc : Nat → Int32} (hS : Scr X b L sc) (hL : L ≤ 1536) {j : Nat} (hj : j < 512) (h3 : 3 * j + 3 ≤ L) {s u : St} {ad : Nat → Nat} {F : Fn} {th : Int32} (hs : Kp s) (hu : Kp u) (hm : Sim s u) (hn : zNow s ≤ 200 * j) (hC : CRep (xD X) ad F s) (hM : MRep (xD X) ad F u th) {f0 : Nat → Int64} (h400 : F 400 = some (aJ (xD X) 1 f0)) (nx : NX X b j) : V X (50 + 13 * j) (12000 + 900 * j) 246 [(0, .ref b), (1, .ref (ad 0)), (2, .ref (ad 300)), (3, .ref (ad 400)), (4, .int (nI (3 * j)))] [] ad F := by
  have hun : zNow u ≤ 190000 := by rw [hm.1.1]; omega
  have hsn : zNow s ≤ 190000 := by omega
  refine V_aload_n C dL_law_246 rfl ?_
  refine V_aload_n C dL_law_247 rfl ?_
  refine V_invH C dL_law_248 (w_septets s f0 hC hs.1 h400 (ok_sept hs).1) mh_L_102 rfl (Nat.le_of_ble_eq_true rfl) ⟨Nat.le_of_ble_eq_true rfl, Nat.le_of_ble_eq_true rfl⟩ ⟨(by show 50 + 13 * j + 13 ≤ 601024; omega), (by show 12000 + 900 * j + 900 ≤ 7293033; omega)⟩ (fun _ _ _ h => VT_no h) (fun v ad1 F1 hp => ?_)
  obtain ⟨rfl, hC1, ⟨f1, h401, hf1⟩, hfk, ha0⟩ := hp
  have had := fun c hc => (hfk c hc).1
  have hFk : ∀ c, 300 ≤ c → c ≠ 400 → F1 c = F c := fun c hc hne => (hfk c hc).2 hne
  have hA := sm_sept hm
  rw [show ad 0 = ad1 0 from ha0.symm, show ad 300 = ad1 300 from (had 300 (by decide)).symm, show ad 400 = ad1 400 from (had 400 (by decide)).symm]
  have hM1 := hM.keptK (fun c hc _ => had c hc) hFk
  have hMd := hM1.1
  unfold mObj at hMd
  refine V_istore C dL_law_251 (by decide) ?_
  refine V_aload_n C dL_law_253 rfl ?_
  refine V_invV C dL_law_254 hMd rfl (m_septets u th hM1) mv_L_105 rfl (Nat.le_of_ble_eq_true rfl) ⟨Nat.le_of_ble_eq_true rfl, Nat.le_of_ble_eq_true rfl⟩ ⟨(by show 50 + 13 * j + 13 + 0 ≤ 601024; omega), (by show 12000 + 900 * j + 900 + 0 ≤ 7293033; omega)⟩ (fun _ _ _ h => VT_no h) (fun v ad1 F2 hp => ?_)
  obtain ⟨rfl, rfl, hM2, hfm⟩ := hp
  have h402 := (hfm 400 (Or.inr (Nat.le_refl _))).2.trans h401
  have hC2 := hC1.keptF (ok_sept hs).1 (fun c hc => (hfm c (Or.inl hc)).2)
  have hMd2 := hM2.1
  unfold mObj at hMd2
  refine V_istore C dL_law_257 (by decide) ?_
  refine V_aload_n C dL_law_259 rfl ?_
  refine V_invV C dL_law_260 hMd2 rfl (m_thrown _ _ _ _ _ hM2.1) mv_L_90 rfl (Nat.le_of_ble_eq_true rfl) ⟨Nat.le_of_ble_eq_true rfl, Nat.le_of_ble_eq_true rfl⟩ ⟨(by show 50 + 13 * j + 13 + 0 + 0 ≤ 601024; omega), (by show 12000 + 900 * j + 900 + 0 + 0 ≤ 7293033; omega)⟩ (fun _ _ _ h => VT_no h) (fun v ad2 F3 hp => ?_)
  obtain ⟨rfl, rfl, rfl⟩ := hp
  refine V_iload C dL_law_263 rfl ?_
  refine V_icmpeq_t (tgt := 270) C dL_law_265 (by decide) (by rw [hA.1]) ?_
  refine V_iload C dL_law_270 rfl ?_
  refine V_ifne (tgt := 287) C dL_law_272 (by decide) (fun h5 => ?_) (fun h5 => ?_)
  · refine V_goto (tgt := 1408) C dL_law_287 (by decide) ?_
    refine V_wide (by show 50 + 13 * j + 13 ≤ 50 + 13 * j + 13; omega) (by show 12000 + 900 * j + 900 ≤ 12000 + 900 * j + 900; omega) ?_
    exact V_sb (nx _ _ ad1 F2 _ (ok_sept hs) (ok_sept hu) hA.2.2 (Nat.le_trans nw_spSept (by omega)) hC2 hM2 ⟨f1, h402⟩) ⟨rfl, rfl, rfl, rfl, rfl, trivial⟩
  · have h0 : (spSept s).1 = 0 := (nI_eq (b := 0) (by have := lt_spSept (s := s); omega) (by decide)).mp h5
    refine V_aload_n C dL_law_275 rfl ?_
    refine V_iconst (v := 0) C dL_law_276 rfl ?_
    refine V_lald C dL_law_277 h402 (show (0 : Int32) = nI 0 from rfl) (by decide) (by decide) ?_
    refine V_iload C dL_law_278 rfl ?_
    refine V_i2l C dL_law_280 rfl ?_
    refine V_lcmp C dL_law_281 ?_
    refine V_nm (show _ = (0 : Int32) by rw [hf1 h0, hA.2.1]; exact lg_self _) ?_
    refine V_ifeq_t (tgt := 287) C dL_law_282 (by decide) rfl ?_
    refine V_goto (tgt := 1408) C dL_law_287 (by decide) ?_
    refine V_wide (by show 50 + 13 * j + 13 ≤ 50 + 13 * j + 13; omega) (by show 12000 + 900 * j + 900 ≤ 12000 + 900 * j + 900; omega) ?_
    exact V_sb (nx _ _ ad1 F2 _ (ok_sept hs) (ok_sept hu) hA.2.2 (Nat.le_trans nw_spSept (by omega)) hC2 hM2 ⟨f1, h402⟩) ⟨rfl, rfl, rfl, rfl, rfl, trivial⟩
set_option maxHeartbeats 4000000 in
set_option maxRecDepth 100000 in
theorem law_4 {X : Cxt} {nm : String} {tb : List ExceptionTableEntry} (C : Ok X cL_law 7 ⟨RL, nm, ""⟩ room_1 ret tb) {b L : Nat} {sc : Nat → Int32} (hS : Scr X b L sc) (hL : L ≤ 1536) {j : Nat} (hj : j < 512) (h3 : 3 * j + 3 ≤ L) {s u : St} {ad : Nat → Nat} {F : Fn} {th : Int32} (hs : Kp s) (hu : Kp u) (hm : Sim s u) (hn : zNow s ≤ 200 * j) (hC : CRep (xD X) ad F s) (hM : MRep (xD X) ad F u th) {f0 : Nat → Int64} (h400 : F 400 = some (aJ (xD X) 1 f0)) (nx : NX X b j) : V X (50 + 13 * j) (12000 + 900 * j) 290 [(0, .ref b), (1, .ref (ad 0)), (2, .ref (ad 300)), (3, .ref (ad 400)), (4, .int (nI (3 * j)))] [] ad F := by
  have hun : zNow u ≤ 190000 := by rw [hm.1.1]; omega
  have hsn : zNow s ≤ 190000 := by omega
  have hCl := hC.1
  unfold kMain at hCl
  refine V_aload_n C dL_law_290 rfl ?_
  refine V_invV C dL_law_291 hCl rfl (c_parts s hC hs.1) mv_L_106 rfl (Nat.le_of_ble_eq_true rfl) ⟨Nat.le_of_ble_eq_true rfl, Nat.le_of_ble_eq_true rfl⟩ ⟨(by show 50 + 13 * j + 1 ≤ 601024; omega), (by show 12000 + 900 * j + 6 ≤ 7293033; omega)⟩ (fun _ _ _ h => VT_no h) (fun v ad1 F1 hp => ?_)
  obtain ⟨-, rfl, hC1, hfk⟩ := hp
  have ha0 := hfk.a0
  have h401 := (hfk 400 (by decide)).2.trans h400
  have had : ∀ c, 300 ≤ c → ad1 c = ad c := fun c hc => hfk.ad hc
  have hFk : ∀ c, 300 ≤ c → c ≠ 400 → F1 c = F c := fun c hc _ => (hfk c hc).2
  have hA := sm_parts hm
  rw [show ad 0 = ad1 0 from ha0.symm, show ad 300 = ad1 300 from (had 300 (by decide)).symm, show ad 400 = ad1 400 from (had 400 (by decide)).symm]
  have hM1 := hM.keptK (fun c hc _ => had c hc) hFk
  have hMd := hM1.1
  unfold mObj at hMd
  refine V_aload_n C dL_law_294 rfl ?_
  refine V_invV C dL_law_295 hMd rfl (m_parts u th hM1 hu.1.2.2.1) mv_L_109 rfl (Nat.le_of_ble_eq_true rfl) ⟨Nat.le_of_ble_eq_true rfl, Nat.le_of_ble_eq_true rfl⟩ ⟨(by show 50 + 13 * j + 1 + 0 ≤ 601024; omega), (by show 12000 + 900 * j + 6 + 0 ≤ 7293033; omega)⟩ (fun _ _ _ h => VT_no h) (fun v ad1 F2 hp => ?_)
  obtain ⟨rfl, rfl, hM2, hfm⟩ := hp
  have h402 := (hfm 400 (Or.inr (Nat.le_refl _))).2.trans h401
  have hC2 := hC1.keptF hs.1 (fun c hc => (hfm c (Or.inl hc)).2)
  refine V_icmpeq_t (tgt := 1408) C dL_law_298 (by decide) hA.2.1.symm ?_
  refine V_wide (by show 50 + 13 * j + 1 ≤ 50 + 13 * j + 13; omega) (by show 12000 + 900 * j + 6 ≤ 12000 + 900 * j + 900; omega) ?_
  exact V_sb (nx _ _ ad1 F2 _ hs hu hA.2.2 (Nat.le_trans nw_spParts (by omega)) hC2 hM2 ⟨f0, h402⟩) ⟨rfl, rfl, rfl, rfl, rfl, trivial⟩
