/-! ===== the law's loop, and its beginning ===== -/
set_option maxHeartbeats 4000000 in
set_option maxRecDepth 100000 in
/-- the nine calls at the end, each refused -/
theorem law_last {X : Cxt} {nm : String} {tb : List ExceptionTableEntry} (C : Ok X cL_law 8 ⟨RL, nm, ""⟩ room_1 ret tb) (hend : ∀ (k n : Nat) (lv : Lv) (ad : Nat → Nat) (F : Fn), k ≤ 654114 → n ≤ 7138840 → V X k n 312 lv [.int 1] ad F) (s : St) (ad : Nat → Nat) (F : Fn) (hC : CRep (xD X) ad F s) (hQ : Kq s) (hb : zNow s ≤ 180000) : V X 60000 500000 188 [(0, .ref (xD X).2.2.2.1), (1, .ref (ad 0)), (2, .ref (ad 400)), (3, .ref (ad 401)), (4, .ref (ad 402)), (5, .ref (ad 403)), (6, .int 1)] [] ad F := by
  have hI := hQ.1.1
  refine V_iload C dL_law_188 rfl ?_
  refine V_ifeq_f (tgt := 311) C dL_law_190 (by decide) (by decide) ?_
  refine V_aload_n C dL_law_193 rfl ?_
  refine V_iconst (v := 0) C dL_law_194 rfl ?_
  refine V_iconst (v := (-1)) C dL_law_195 rfl ?_
  refine V_iconst (v := 1) C dL_law_196 rfl ?_
  refine V_invH C dL_law_197 (d_write s (-1) 1 hC hI) mh_L_107 rfl (Nat.le_of_ble_eq_true rfl) ⟨Nat.le_of_ble_eq_true rfl, Nat.le_of_ble_eq_true rfl⟩ ⟨(Nat.le_of_ble_eq_true rfl), (Nat.le_of_ble_eq_true rfl)⟩ (fun _ _ _ h => VT_no h) (fun v ad1 F1 hp => ?_)
  rw [show spWrite s (-1) 1 = (1, 0, s) from if_pos (Or.inl (by decide))] at hp
  obtain ⟨rfl, hC, hfk⟩ := hp
  rw [show ad 0 = ad1 0 from hfk.a0.symm]
  refine V_nm xv_b ?_
  refine V_bipush (v := (-20)) C dL_law_200 (by decide) ?_
  refine V_icmpne_f (tgt := 311) C dL_law_202 (by decide) rfl ?_
  refine V_aload_n C dL_law_205 rfl ?_
  refine V_iconst (v := 1) C dL_law_206 rfl ?_
  refine V_iconst (v := (-1)) C dL_law_207 rfl ?_
  refine V_iconst (v := 1) C dL_law_208 rfl ?_
  refine V_invH C dL_law_209 (d_submit s (-1) 1 hC hI) mh_L_107 rfl (Nat.le_of_ble_eq_true rfl) ⟨Nat.le_of_ble_eq_true rfl, Nat.le_of_ble_eq_true rfl⟩ ⟨(Nat.le_of_ble_eq_true rfl), (Nat.le_of_ble_eq_true rfl)⟩ (fun _ _ _ h => VT_no h) (fun v ad2 F2 hp => ?_)
  rw [show spSub s (-1) 1 = (1, 0, s) from if_pos (Or.inl (by decide))] at hp
  obtain ⟨rfl, hC, hfk⟩ := hp
  rw [show ad1 0 = ad2 0 from hfk.a0.symm]
  refine V_nm xv_b ?_
  refine V_bipush (v := (-20)) C dL_law_212 (by decide) ?_
  refine V_icmpne_f (tgt := 311) C dL_law_214 (by decide) rfl ?_
  refine V_aload_n C dL_law_217 rfl ?_
  refine V_iconst (v := 2) C dL_law_218 rfl ?_
  refine V_iconst (v := 0) C dL_law_219 rfl ?_
  refine V_iconst (v := 0) C dL_law_220 rfl ?_
  refine V_invH C dL_law_221 (d_pass s 0 0 hC hI (by omega)) mh_L_107 rfl (Nat.le_of_ble_eq_true rfl) ⟨Nat.le_of_ble_eq_true rfl, Nat.le_of_ble_eq_true rfl⟩ ⟨(Nat.le_of_ble_eq_true rfl), (Nat.le_of_ble_eq_true rfl)⟩ (fun _ _ _ h => VT_no h) (fun v ad3 F3 hp => ?_)
  rw [show spPass s 0 = (1, 0, s) from if_pos (Or.inl (by decide))] at hp
  obtain ⟨rfl, hC, hfk⟩ := hp
  rw [show ad2 0 = ad3 0 from hfk.a0.symm]
  refine V_nm xv_b ?_
  refine V_bipush (v := (-20)) C dL_law_224 (by decide) ?_
  refine V_icmpne_f (tgt := 311) C dL_law_226 (by decide) rfl ?_
  refine V_aload_n C dL_law_229 rfl ?_
  refine V_iconst (v := 3) C dL_law_230 rfl ?_
  refine V_iconst (v := (-1)) C dL_law_231 rfl ?_
  refine V_iconst (v := 0) C dL_law_232 rfl ?_
  refine V_invH C dL_law_233 (d_toggleLink s (-1) 0 hC hI) mh_L_107 rfl (Nat.le_of_ble_eq_true rfl) ⟨Nat.le_of_ble_eq_true rfl, Nat.le_of_ble_eq_true rfl⟩ ⟨(Nat.le_of_ble_eq_true rfl), (Nat.le_of_ble_eq_true rfl)⟩ (fun _ _ _ h => VT_no h) (fun v ad4 F4 hp => ?_)
  rw [show spTog s (-1) = (1, 0, s) from if_pos (Or.inl (by decide))] at hp
  obtain ⟨rfl, hC, hfk⟩ := hp
  rw [show ad3 0 = ad4 0 from hfk.a0.symm]
  refine V_nm xv_b ?_
  refine V_bipush (v := (-30)) C dL_law_236 (by decide) ?_
  refine V_icmpne_f (tgt := 311) C dL_law_238 (by decide) rfl ?_
  refine V_aload_n C dL_law_241 rfl ?_
  refine V_iconst (v := 4) C dL_law_242 rfl ?_
  refine V_iconst (v := 3) C dL_law_243 rfl ?_
  refine V_iconst (v := 0) C dL_law_244 rfl ?_
  refine V_invH C dL_law_245 (d_setWindow s 3 0 hC hI) mh_L_107 rfl (Nat.le_of_ble_eq_true rfl) ⟨Nat.le_of_ble_eq_true rfl, Nat.le_of_ble_eq_true rfl⟩ ⟨(Nat.le_of_ble_eq_true rfl), (Nat.le_of_ble_eq_true rfl)⟩ (fun _ _ _ h => VT_no h) (fun v ad5 F5 hp => ?_)
  rw [show spSetW s 3 0 = (1, 0, s) from if_pos (Or.inr (by decide))] at hp
  obtain ⟨rfl, hC, hfk⟩ := hp
  rw [show ad4 0 = ad5 0 from hfk.a0.symm]
  refine V_nm xv_b ?_
  refine V_bipush (v := (-30)) C dL_law_248 (by decide) ?_
  refine V_icmpne_f (tgt := 311) C dL_law_250 (by decide) rfl ?_
  refine V_aload_n C dL_law_253 rfl ?_
  refine V_iconst (v := 5) C dL_law_254 rfl ?_
  refine V_iconst (v := (-1)) C dL_law_255 rfl ?_
  refine V_bipush (v := 9) C dL_law_256 (by decide) ?_
  refine V_invH C dL_law_258 (d_acknowledge s (-1) 9 hC hI hQ.1.2) mh_L_107 rfl (Nat.le_of_ble_eq_true rfl) ⟨Nat.le_of_ble_eq_true rfl, Nat.le_of_ble_eq_true rfl⟩ ⟨(Nat.le_of_ble_eq_true rfl), (Nat.le_of_ble_eq_true rfl)⟩ (fun _ _ _ h => VT_no h) (fun v ad6 F6 hp => ?_)
  rw [show spAck s (-1) 9 = (1, 0, s) from if_pos (Or.inl (by decide))] at hp
  obtain ⟨rfl, hC, hfk⟩ := hp
  rw [show ad5 0 = ad6 0 from hfk.a0.symm]
  refine V_nm xv_b ?_
  refine V_bipush (v := (-30)) C dL_law_261 (by decide) ?_
  refine V_icmpne_f (tgt := 311) C dL_law_263 (by decide) rfl ?_
  refine V_aload_n C dL_law_266 rfl ?_
  refine V_bipush (v := 6) C dL_law_267 (by decide) ?_
  refine V_iconst (v := (-1)) C dL_law_269 rfl ?_
  refine V_iconst (v := 0) C dL_law_270 rfl ?_
  refine V_invH C dL_law_271 (d_alert s (-1) 0 hC hI) mh_L_107 rfl (Nat.le_of_ble_eq_true rfl) ⟨Nat.le_of_ble_eq_true rfl, Nat.le_of_ble_eq_true rfl⟩ ⟨(Nat.le_of_ble_eq_true rfl), (Nat.le_of_ble_eq_true rfl)⟩ (fun _ _ _ h => VT_no h) (fun v ad7 F7 hp => ?_)
  rw [show spAlert s (-1) = (1, 0, s) from if_pos (Or.inl (by decide))] at hp
  obtain ⟨rfl, hC, hfk⟩ := hp
  rw [show ad6 0 = ad7 0 from hfk.a0.symm]
  refine V_nm xv_b ?_
  refine V_bipush (v := (-20)) C dL_law_274 (by decide) ?_
  refine V_icmpne_f (tgt := 311) C dL_law_276 (by decide) rfl ?_
  refine V_aload_n C dL_law_279 rfl ?_
  refine V_bipush (v := 7) C dL_law_280 (by decide) ?_
  refine V_iconst (v := 0) C dL_law_282 rfl ?_
  refine V_iconst (v := (-1)) C dL_law_283 rfl ?_
  refine V_invH C dL_law_284 (d_come s 0 (-1) hC hI) mh_L_107 rfl (Nat.le_of_ble_eq_true rfl) ⟨Nat.le_of_ble_eq_true rfl, Nat.le_of_ble_eq_true rfl⟩ ⟨(Nat.le_of_ble_eq_true rfl), (Nat.le_of_ble_eq_true rfl)⟩ (fun _ _ _ h => VT_no h) (fun v ad8 F8 hp => ?_)
  rw [show spCome s 0 (-1) = (1, 0, s) from if_pos (Or.inr (Or.inr (Or.inl (by decide))))] at hp
  obtain ⟨rfl, hC, hfk⟩ := hp
  rw [show ad7 0 = ad8 0 from hfk.a0.symm]
  refine V_nm xv_b ?_
  refine V_bipush (v := (-20)) C dL_law_287 (by decide) ?_
  refine V_icmpne_f (tgt := 311) C dL_law_289 (by decide) rfl ?_
  refine V_aload_n C dL_law_292 rfl ?_
  refine V_bipush (v := 8) C dL_law_293 (by decide) ?_
  refine V_iconst (v := 1) C dL_law_295 rfl ?_
  refine V_sipush (v := 1000) C dL_law_296 (by decide) ?_
  refine V_invH C dL_law_299 (d_keyword s 1 1000 hC hI) mh_L_107 rfl (Nat.le_of_ble_eq_true rfl) ⟨Nat.le_of_ble_eq_true rfl, Nat.le_of_ble_eq_true rfl⟩ ⟨(Nat.le_of_ble_eq_true rfl), (Nat.le_of_ble_eq_true rfl)⟩ (fun _ _ _ h => VT_no h) (fun v ad9 F9 hp => ?_)
  rw [show spKey s 1 1000 = (1, 0, s) from if_pos (Or.inr (Or.inr (Or.inr (by decide))))] at hp
  obtain ⟨rfl, hC, hfk⟩ := hp
  rw [show ad8 0 = ad9 0 from hfk.a0.symm]
  refine V_nm xv_b ?_
  refine V_bipush (v := (-20)) C dL_law_302 (by decide) ?_
  refine V_icmpne_f (tgt := 311) C dL_law_304 (by decide) rfl ?_
  refine V_iconst (v := 1) C dL_law_307 rfl ?_
  refine V_goto (tgt := 312) C dL_law_308 (by decide) ?_
  exact hend _ _ _ _ _ (Nat.le_of_ble_eq_true rfl) (Nat.le_of_ble_eq_true rfl)
set_option maxHeartbeats 4000000 in
set_option maxRecDepth 100000 in
theorem law_loop {X : Cxt} {nm : String} {tb : List ExceptionTableEntry} (C : Ok X cL_law 8 ⟨RL, nm, ""⟩ room_1 ret tb) (hend : ∀ (k n : Nat) (lv : Lv) (ad : Nat → Nat) (F : Fn), k ≤ 654114 → n ≤ 7138840 → V X k n 312 lv [.int 1] ad F) : ∀ (d j : Nat) (s : St) (ad : Nat → Nat) (F : Fn), j + d = 60 → Kq s → zNow s ≤ 200 * j → CRep (xD X) ad F s → LR (xD X) F s (zSt s) (zRcp s).length → V X (1000 + 840 * j) (10000 + 7000 * j) 115 [(0, .ref (xD X).2.2.2.1), (1, .ref (ad 0)), (2, .ref (ad 400)), (3, .ref (ad 401)), (4, .ref (ad 402)), (5, .ref (ad 403)), (6, .int 1), (7, .int (nI j))] [] ad F := by
  intro d
  induction d with
  | zero =>
    intro j s ad F hj hQ hn hC hR
    obtain rfl : j = 60 := by omega
    refine V_iload C dL_law_115 rfl ?_
    refine V_bipush (v := 60) C dL_law_117 (by decide) ?_
    refine V_icmpge_t (tgt := 188) C dL_law_119 (by decide) (Int32.le_refl _) ?_
    refine V_wide (k' := 60000) (n' := 500000) (by omega) (by omega) ?_
    exact V_sb (law_last C hend s ad F hC hQ (by omega)) ⟨rfl, rfl, rfl, rfl, rfl, rfl, rfl, trivial⟩
  | succ d ih =>
    intro j s ad F hj hQ hn hC hR
    refine V_iload C dL_law_115 rfl ?_
    refine V_bipush (v := 60) C dL_law_117 (by decide) ?_
    refine V_icmpge_f (tgt := 188) C dL_law_119 (by decide) (nI_ge (b := 60) (by omega) (by decide)) ?_
    refine V_iload C dL_law_122 rfl ?_
    refine V_ifeq_f (tgt := 188) C dL_law_124 (by decide) (by decide) ?_
    refine V_aload_n C dL_law_127 rfl ?_
    refine V_aload_n C dL_law_128 rfl ?_
    refine V_iconst (v := 3) C dL_law_129 rfl ?_
    refine V_iload C dL_law_130 rfl ?_
    refine V_imul C dL_law_132 ?_
    refine V_nm (pk_mul 3 j) ?_
    refine V_aload_n C dL_law_133 rfl ?_
    refine V_aload_n C dL_law_134 rfl ?_
    refine V_aload C dL_law_135 rfl ?_
    refine V_aload C dL_law_137 rfl ?_
    refine V_invS C dL_law_139 (l_isDone s (3 * j) hC hQ (by omega) hR (by omega)) ms_L_153 rfl (Nat.le_of_ble_eq_true rfl) ⟨Nat.le_of_ble_eq_true rfl, Nat.le_of_ble_eq_true rfl⟩ ⟨(by show 1000 + 840 * j + 40 ≤ 654114; omega), (by show 10000 + 7000 * j + 2200 ≤ 7138840; omega)⟩ (fun _ _ _ h => VT_no h) (fun v ad1 F1 hp => ?_)
    obtain ⟨rfl, s1, zs, hC, hQ, hn1, hR, ⟨hz, hr⟩, hfk⟩ := hp
    rw [show ad 0 = ad1 0 from hfk.a0.symm, show ad 400 = ad1 400 from (hfk.ad (by decide)).symm, show ad 401 = ad1 401 from (hfk.ad (by decide)).symm, show ad 402 = ad1 402 from (hfk.ad (by decide)).symm, show ad 403 = ad1 403 from (hfk.ad (by decide)).symm]
    refine V_ifeq_f (tgt := 179) C dL_law_142 (by decide) (by decide) ?_
    refine V_aload_n C dL_law_145 rfl ?_
    refine V_aload C dL_law_146 rfl ?_
    have hR0 := hR
    obtain ⟨g, h403, g0, g1, g2, -⟩ := hR0.2.2.2
    refine V_invS C dL_law_148 (l_isText s1 g hC hQ.1.1 h403 g0 g1 g2) ms_L_141 rfl (Nat.le_of_ble_eq_true rfl) ⟨Nat.le_of_ble_eq_true rfl, Nat.le_of_ble_eq_true rfl⟩ ⟨(by show 1000 + 840 * j + 40 + 200 ≤ 654114; omega), (by show 10000 + 7000 * j + 2200 + 1200 ≤ 7138840; omega)⟩ (fun _ _ _ h => VT_no h) (fun v ad2 F2 hp => ?_)
    obtain ⟨rfl, hC, hfk⟩ := hp
    have hR := hR.k hfk
    rw [show ad1 0 = ad2 0 from hfk.a0.symm, show ad1 400 = ad2 400 from (hfk.ad (by decide)).symm, show ad1 401 = ad2 401 from (hfk.ad (by decide)).symm, show ad1 402 = ad2 402 from (hfk.ad (by decide)).symm, show ad1 403 = ad2 403 from (hfk.ad (by decide)).symm]
    refine V_ifeq_f (tgt := 179) C dL_law_151 (by decide) (by decide) ?_
    refine V_aload_n C dL_law_154 rfl ?_
    refine V_aload_n C dL_law_155 rfl ?_
    refine V_aload C dL_law_156 rfl ?_
    refine V_invS C dL_law_158 (l_areMessages s1 zs _ hC hQ hR.1 hR.2.2.2 hz hr) ms_L_145 rfl (Nat.le_of_ble_eq_true rfl) ⟨Nat.le_of_ble_eq_true rfl, Nat.le_of_ble_eq_true rfl⟩ ⟨(by show 1000 + 840 * j + 40 + 200 + 400 ≤ 654114; omega), (by show 10000 + 7000 * j + 2200 + 1200 + 2400 ≤ 7138840; omega)⟩ (fun _ _ _ h => VT_no h) (fun v ad3 F3 hp => ?_)
    obtain ⟨rfl, hC, hfk, hZ, hG⟩ := hp
    have hR : LR (xD X) F3 s1 (zSt s1) (zRcp s1).length := ⟨hZ, hR.2.1.to (s := s1) rfl ((hfk 401 (by decide)).2 (by decide)), hR.2.2.1.to (s := s1) rfl ((hfk 402 (by decide)).2 (by decide)), hG⟩
    rw [show ad2 0 = ad3 0 from hfk.a0.symm, show ad2 400 = ad3 400 from (hfk.ad (by decide)).symm, show ad2 401 = ad3 401 from (hfk.ad (by decide)).symm, show ad2 402 = ad3 402 from (hfk.ad (by decide)).symm, show ad2 403 = ad3 403 from (hfk.ad (by decide)).symm]
    refine V_ifeq_f (tgt := 179) C dL_law_161 (by decide) (by decide) ?_
    refine V_aload_n C dL_law_164 rfl ?_
    refine V_aload_n C dL_law_165 rfl ?_
    refine V_aload_n C dL_law_166 rfl ?_
    refine V_aload C dL_law_167 rfl ?_
    refine V_invS C dL_law_169 (l_areLinks s1 hC hQ hR.1 hR.2.1 hR.2.2.2) ms_L_149 rfl (Nat.le_of_ble_eq_true rfl) ⟨Nat.le_of_ble_eq_true rfl, Nat.le_of_ble_eq_true rfl⟩ ⟨(by show 1000 + 840 * j + 40 + 200 + 400 + 200 ≤ 654114; omega), (by show 10000 + 7000 * j + 2200 + 1200 + 2400 + 1200 ≤ 7138840; omega)⟩ (fun _ _ _ h => VT_no h) (fun v ad4 F4 hp => ?_)
    obtain ⟨rfl, hC, hfk⟩ := hp
    have hR := hR.k hfk
    rw [show ad3 0 = ad4 0 from hfk.a0.symm, show ad3 400 = ad4 400 from (hfk.ad (by decide)).symm, show ad3 401 = ad4 401 from (hfk.ad (by decide)).symm, show ad3 402 = ad4 402 from (hfk.ad (by decide)).symm, show ad3 403 = ad4 403 from (hfk.ad (by decide)).symm]
    refine V_ifeq_f (tgt := 179) C dL_law_172 (by decide) (by decide) ?_
    refine V_iconst (v := 1) C dL_law_175 rfl ?_
    refine V_goto (tgt := 180) C dL_law_176 (by decide) ?_
    refine V_istore C dL_law_180 (by decide) ?_
    refine V_iinc C dL_law_182 rfl (nI_1 j) (by decide) ?_
    refine V_goto (tgt := 115) C dL_law_185 (by decide) ?_
    refine V_wide (k' := 1000 + 840 * (j + 1)) (n' := 10000 + 7000 * (j + 1)) (by show 1000 + 840 * j + 40 + 200 + 400 + 200 ≤ _; omega) (by show 10000 + 7000 * j + 2200 + 1200 + 2400 + 1200 ≤ _; omega) ?_
    exact V_sb (ih (j + 1) s1 _ _ (by omega) hQ (by omega) hC hR) ⟨rfl, rfl, rfl, rfl, rfl, rfl, rfl, rfl, trivial⟩
theorem law_code : cL_law = code := rfl
set_option maxHeartbeats 4000000 in
set_option maxRecDepth 100000 in
/-- from the constructors to the loop -/
theorem law_begin {X : Cxt} {nm : String} {tb : List ExceptionTableEntry} (C : Ok X cL_law 8 ⟨RL, nm, ""⟩ room_1 ret tb) (hend : ∀ (k n : Nat) (lv : Lv) (ad : Nat → Nat) (F : Fn), k ≤ 654114 → n ≤ 7138840 → V X k n 312 lv [.int 1] ad F) : V X 0 0 0 (enL 0 [.ref (xD X).2.2.2.1]) [] (fun _ => 0) (fun _ => none) := by
  refine G_new 0 C dL_law_0 nw_L_9 rfl (Nat.le_of_ble_eq_true rfl) (Nat.le_of_ble_eq_true rfl) (fun ad1 F1 _ hCl hf1 => ?_)
  refine V_dup C dL_law_3 rfl ?_
  refine V_invI C dL_law_4 (c_Shortmessage_init hCl (fun x h1 h2 => hf1 x (by omega))) mi_L_140 rfl (Nat.le_of_ble_eq_true rfl) ⟨Nat.le_of_ble_eq_true rfl, Nat.le_of_ble_eq_true rfl⟩ ⟨Nat.le_of_ble_eq_true rfl, Nat.le_of_ble_eq_true rfl⟩ (fun _ _ _ h => VT_no h) (fun v ad2 F2 hp => ?_)
  obtain ⟨rfl, ha2, hC, hf2⟩ := hp
  rw [show ad1 0 = ad2 0 from (ha2 0 (Or.inl rfl)).symm]
  have hn2 : ∀ c, 400 ≤ c → F2 c = none := fun c hc => (hf2 c (by omega)).trans (hf1 c (by omega))
  refine V_astore_n C dL_law_7 (by decide) ?_
  refine V_bipush (v := 60) C dL_law_8 (by decide) ?_
  refine G_newi 400 C dL_law_10 ar_int (hn2 400 (by decide)) (show (60 : Int32) = nI 60 from rfl) (by decide) (Nat.le_of_ble_eq_true rfl) (Nat.le_of_ble_eq_true rfl) (fun ad3 F3 ha3 h400 hf3 => ?_)
  rw [show ad2 0 = ad3 0 from (ha3 0 (by decide)).symm]
  have hC := (hC.ada ok_st0.1 (fun c hc => ha3 c (by omega))).keptF ok_st0.1 (fun c hc => hf3 c (by omega))
  have hn3 : ∀ c, 401 ≤ c → F3 c = none := fun c hc => (hf3 c (by omega)).trans (hn2 c (by omega))
  refine V_astore_n C dL_law_12 (by decide) ?_
  refine V_bipush (v := 9) C dL_law_13 (by decide) ?_
  refine G_newi 401 C dL_law_15 ar_int (hn3 401 (by decide)) (show (9 : Int32) = nI 9 from rfl) (by decide) (Nat.le_of_ble_eq_true rfl) (Nat.le_of_ble_eq_true rfl) (fun ad4 F4 ha4 h401 hf4 => ?_)
  rw [show ad3 0 = ad4 0 from (ha4 0 (by decide)).symm, show ad3 400 = ad4 400 from (ha4 400 (by decide)).symm]
  have hC := (hC.ada ok_st0.1 (fun c hc => ha4 c (by omega))).keptF ok_st0.1 (fun c hc => hf4 c (by omega))
  have hn4 : ∀ c, 402 ≤ c → F4 c = none := fun c hc => (hf4 c (by omega)).trans (hn3 c (by omega))
  have h400 := (hf4 400 (by decide)).trans h400
  refine V_astore_n C dL_law_17 (by decide) ?_
  refine V_bipush (v := 23) C dL_law_18 (by decide) ?_
  refine G_newi 402 C dL_law_20 ar_int (hn4 402 (by decide)) (show (23 : Int32) = nI 23 from rfl) (by decide) (Nat.le_of_ble_eq_true rfl) (Nat.le_of_ble_eq_true rfl) (fun ad5 F5 ha5 h402 hf5 => ?_)
  rw [show ad4 0 = ad5 0 from (ha5 0 (by decide)).symm, show ad4 400 = ad5 400 from (ha5 400 (by decide)).symm, show ad4 401 = ad5 401 from (ha5 401 (by decide)).symm]
  have hC := (hC.ada ok_st0.1 (fun c hc => ha5 c (by omega))).keptF ok_st0.1 (fun c hc => hf5 c (by omega))
  have hn5 : ∀ c, 403 ≤ c → F5 c = none := fun c hc => (hf5 c (by omega)).trans (hn4 c (by omega))
  have h400 := (hf5 400 (by decide)).trans h400
  have h401 := (hf5 401 (by decide)).trans h401
  refine V_astore C dL_law_22 (by decide) ?_
  refine V_bipush (v := 6) C dL_law_24 (by decide) ?_
  refine G_newi 403 C dL_law_26 ar_int (hn5 403 (by decide)) (show (6 : Int32) = nI 6 from rfl) (by decide) (Nat.le_of_ble_eq_true rfl) (Nat.le_of_ble_eq_true rfl) (fun ad6 F6 ha6 h403 hf6 => ?_)
  rw [show ad5 0 = ad6 0 from (ha6 0 (by decide)).symm, show ad5 400 = ad6 400 from (ha6 400 (by decide)).symm, show ad5 401 = ad6 401 from (ha6 401 (by decide)).symm, show ad5 402 = ad6 402 from (ha6 402 (by decide)).symm]
  have hC := (hC.ada ok_st0.1 (fun c hc => ha6 c (by omega))).keptF ok_st0.1 (fun c hc => hf6 c (by omega))
  have hn6 : ∀ c, 404 ≤ c → F6 c = none := fun c hc => (hf6 c (by omega)).trans (hn5 c (by omega))
  have h400 := (hf6 400 (by decide)).trans h400
  have h401 := (hf6 401 (by decide)).trans h401
  have h402 := (hf6 402 (by decide)).trans h402
  refine V_astore C dL_law_28 (by decide) ?_
  refine V_iconst (v := 0) C dL_law_30 rfl ?_
  refine V_istore C dL_law_31 (by decide) ?_
  refine V_iload C dL_law_33 rfl ?_
  refine V_iconst (v := 3) C dL_law_35 rfl ?_
  refine V_icmpge_f (tgt := 52) C dL_law_36 (by decide) (by decide) ?_
  refine V_aload_n C dL_law_39 rfl ?_
  refine V_iconst (v := 3) C dL_law_40 rfl ?_
  refine V_iload C dL_law_41 rfl ?_
  refine V_iadd C dL_law_43 ?_
  refine V_nm (show (3 : Int32) + 0 = 3 by decide) ?_
  refine V_iconst (v := 2) C dL_law_44 rfl ?_
  refine G_iast C dL_law_45 h401 (show _ = nI 3 from rfl) (by decide) (by decide) (fun F20 h401 hfr => ?_)
  have hC := hC.keptF ok_st0.1 (fun c hc => hfr c (by omega))
  have h400 := (hfr 400 (by decide)).trans h400
  have h402 := (hfr 402 (by decide)).trans h402
  have h403 := (hfr 403 (by decide)).trans h403
  refine V_iinc C dL_law_46 rfl (show (0 : Int32) + Int32.ofInt 1 = 1 by decide) (by decide) ?_
  refine V_goto (tgt := 33) C dL_law_49 (by decide) ?_
  refine V_iload C dL_law_33 rfl ?_
  refine V_iconst (v := 3) C dL_law_35 rfl ?_
  refine V_icmpge_f (tgt := 52) C dL_law_36 (by decide) (by decide) ?_
  refine V_aload_n C dL_law_39 rfl ?_
  refine V_iconst (v := 3) C dL_law_40 rfl ?_
  refine V_iload C dL_law_41 rfl ?_
  refine V_iadd C dL_law_43 ?_
  refine V_nm (show (3 : Int32) + 1 = 4 by decide) ?_
  refine V_iconst (v := 2) C dL_law_44 rfl ?_
  refine G_iast C dL_law_45 h401 (show _ = nI 4 from rfl) (by decide) (by decide) (fun F21 h401 hfr => ?_)
  have hC := hC.keptF ok_st0.1 (fun c hc => hfr c (by omega))
  have h400 := (hfr 400 (by decide)).trans h400
  have h402 := (hfr 402 (by decide)).trans h402
  have h403 := (hfr 403 (by decide)).trans h403
  refine V_iinc C dL_law_46 rfl (show (1 : Int32) + Int32.ofInt 1 = 2 by decide) (by decide) ?_
  refine V_goto (tgt := 33) C dL_law_49 (by decide) ?_
  refine V_iload C dL_law_33 rfl ?_
  refine V_iconst (v := 3) C dL_law_35 rfl ?_
  refine V_icmpge_f (tgt := 52) C dL_law_36 (by decide) (by decide) ?_
  refine V_aload_n C dL_law_39 rfl ?_
  refine V_iconst (v := 3) C dL_law_40 rfl ?_
  refine V_iload C dL_law_41 rfl ?_
  refine V_iadd C dL_law_43 ?_
  refine V_nm (show (3 : Int32) + 2 = 5 by decide) ?_
  refine V_iconst (v := 2) C dL_law_44 rfl ?_
  refine G_iast C dL_law_45 h401 (show _ = nI 5 from rfl) (by decide) (by decide) (fun F22 h401 hfr => ?_)
  have hC := hC.keptF ok_st0.1 (fun c hc => hfr c (by omega))
  have h400 := (hfr 400 (by decide)).trans h400
  have h402 := (hfr 402 (by decide)).trans h402
  have h403 := (hfr 403 (by decide)).trans h403
  refine V_iinc C dL_law_46 rfl (show (2 : Int32) + Int32.ofInt 1 = 3 by decide) (by decide) ?_
  refine V_goto (tgt := 33) C dL_law_49 (by decide) ?_
  refine V_iload C dL_law_33 rfl ?_
  refine V_iconst (v := 3) C dL_law_35 rfl ?_
  refine V_icmpge_t (tgt := 52) C dL_law_36 (by decide) (by decide) ?_
  refine V_bipush (v := 18) C dL_law_52 (by decide) ?_
  refine V_istore C dL_law_54 (by decide) ?_
  refine V_iload C dL_law_56 rfl ?_
  refine V_bipush (v := 23) C dL_law_58 (by decide) ?_
  refine V_icmpge_f (tgt := 75) C dL_law_60 (by decide) (by decide) ?_
  refine V_aload C dL_law_63 rfl ?_
  refine V_iload C dL_law_65 rfl ?_
  refine V_iconst (v := (-1)) C dL_law_67 rfl ?_
  refine G_iast C dL_law_68 h402 (show _ = nI 18 from rfl) (by decide) (by decide) (fun F23 h402 hfr => ?_)
  have hC := hC.keptF ok_st0.1 (fun c hc => hfr c (by omega))
  have h400 := (hfr 400 (by decide)).trans h400
  have h401 := (hfr 401 (by decide)).trans h401
  have h403 := (hfr 403 (by decide)).trans h403
  refine V_iinc C dL_law_69 rfl (show (18 : Int32) + Int32.ofInt 1 = 19 by decide) (by decide) ?_
  refine V_goto (tgt := 56) C dL_law_72 (by decide) ?_
  refine V_iload C dL_law_56 rfl ?_
  refine V_bipush (v := 23) C dL_law_58 (by decide) ?_
  refine V_icmpge_f (tgt := 75) C dL_law_60 (by decide) (by decide) ?_
  refine V_aload C dL_law_63 rfl ?_
  refine V_iload C dL_law_65 rfl ?_
  refine V_iconst (v := (-1)) C dL_law_67 rfl ?_
  refine G_iast C dL_law_68 h402 (show _ = nI 19 from rfl) (by decide) (by decide) (fun F24 h402 hfr => ?_)
  have hC := hC.keptF ok_st0.1 (fun c hc => hfr c (by omega))
  have h400 := (hfr 400 (by decide)).trans h400
  have h401 := (hfr 401 (by decide)).trans h401
  have h403 := (hfr 403 (by decide)).trans h403
  refine V_iinc C dL_law_69 rfl (show (19 : Int32) + Int32.ofInt 1 = 20 by decide) (by decide) ?_
  refine V_goto (tgt := 56) C dL_law_72 (by decide) ?_
  refine V_iload C dL_law_56 rfl ?_
  refine V_bipush (v := 23) C dL_law_58 (by decide) ?_
  refine V_icmpge_f (tgt := 75) C dL_law_60 (by decide) (by decide) ?_
  refine V_aload C dL_law_63 rfl ?_
  refine V_iload C dL_law_65 rfl ?_
  refine V_iconst (v := (-1)) C dL_law_67 rfl ?_
  refine G_iast C dL_law_68 h402 (show _ = nI 20 from rfl) (by decide) (by decide) (fun F25 h402 hfr => ?_)
  have hC := hC.keptF ok_st0.1 (fun c hc => hfr c (by omega))
  have h400 := (hfr 400 (by decide)).trans h400
  have h401 := (hfr 401 (by decide)).trans h401
  have h403 := (hfr 403 (by decide)).trans h403
  refine V_iinc C dL_law_69 rfl (show (20 : Int32) + Int32.ofInt 1 = 21 by decide) (by decide) ?_
  refine V_goto (tgt := 56) C dL_law_72 (by decide) ?_
  refine V_iload C dL_law_56 rfl ?_
  refine V_bipush (v := 23) C dL_law_58 (by decide) ?_
  refine V_icmpge_f (tgt := 75) C dL_law_60 (by decide) (by decide) ?_
  refine V_aload C dL_law_63 rfl ?_
  refine V_iload C dL_law_65 rfl ?_
  refine V_iconst (v := (-1)) C dL_law_67 rfl ?_
  refine G_iast C dL_law_68 h402 (show _ = nI 21 from rfl) (by decide) (by decide) (fun F26 h402 hfr => ?_)
  have hC := hC.keptF ok_st0.1 (fun c hc => hfr c (by omega))
  have h400 := (hfr 400 (by decide)).trans h400
  have h401 := (hfr 401 (by decide)).trans h401
  have h403 := (hfr 403 (by decide)).trans h403
  refine V_iinc C dL_law_69 rfl (show (21 : Int32) + Int32.ofInt 1 = 22 by decide) (by decide) ?_
  refine V_goto (tgt := 56) C dL_law_72 (by decide) ?_
  refine V_iload C dL_law_56 rfl ?_
  refine V_bipush (v := 23) C dL_law_58 (by decide) ?_
  refine V_icmpge_f (tgt := 75) C dL_law_60 (by decide) (by decide) ?_
  refine V_aload C dL_law_63 rfl ?_
  refine V_iload C dL_law_65 rfl ?_
  refine V_iconst (v := (-1)) C dL_law_67 rfl ?_
  refine G_iast C dL_law_68 h402 (show _ = nI 22 from rfl) (by decide) (by decide) (fun F27 h402 hfr => ?_)
  have hC := hC.keptF ok_st0.1 (fun c hc => hfr c (by omega))
  have h400 := (hfr 400 (by decide)).trans h400
  have h401 := (hfr 401 (by decide)).trans h401
  have h403 := (hfr 403 (by decide)).trans h403
  refine V_iinc C dL_law_69 rfl (show (22 : Int32) + Int32.ofInt 1 = 23 by decide) (by decide) ?_
  refine V_goto (tgt := 56) C dL_law_72 (by decide) ?_
  refine V_iload C dL_law_56 rfl ?_
  refine V_bipush (v := 23) C dL_law_58 (by decide) ?_
  refine V_icmpge_t (tgt := 75) C dL_law_60 (by decide) (by decide) ?_
  have hR : LR (xD X) F27 st0S (zSt st0S) 0 := by
    refine ⟨⟨_, h400, fun k hk => absurd hk (Nat.not_lt_zero k)⟩, ⟨_, h401, fun l hl => ?_⟩, ⟨_, h402, fun p hp => ?_, fun k h0 h5 => ?_⟩, ⟨_, h403, rfl, rfl, rfl, rfl, rfl, rfl⟩⟩
    · rcases (show l = 0 ∨ l = 1 ∨ l = 2 by omega) with rfl | rfl | rfl <;> exact ⟨rfl, rfl⟩
    · refine ⟨?_, ?_⟩
      · rw [pk_un (by omega), pk_un (by omega), pk_un (by omega), pk_un (by omega), pk_un (by omega)]
      · rw [pk_un (by omega), pk_un (by omega), pk_un (by omega), pk_un (by omega), pk_un (by omega)]
    · rcases (show k = 1 ∨ k = 2 ∨ k = 3 ∨ k = 4 by omega) with rfl | rfl | rfl | rfl <;> rfl
  have hQ := kq_0
  have hz : ∀ k, k < zMc st0S → zSt st0S k = 0 ∨ zSt st0S k = zSt st0S k := fun _ _ => Or.inr rfl
  have hr : 0 ≤ (zRcp st0S).length := Nat.le_refl _
  refine V_wide (k' := 100) (n' := 2000) (Nat.le_of_ble_eq_true rfl) (Nat.le_of_ble_eq_true rfl) ?_
  refine V_aload_n C dL_law_75 rfl ?_
  refine V_aload C dL_law_76 rfl ?_
  have hR0 := hR
  obtain ⟨g, h403, g0, g1, g2, -⟩ := hR0.2.2.2
  refine V_invS C dL_law_78 (l_isText st0S g hC hQ.1.1 h403 g0 g1 g2) ms_L_141 rfl (Nat.le_of_ble_eq_true rfl) ⟨Nat.le_of_ble_eq_true rfl, Nat.le_of_ble_eq_true rfl⟩ ⟨(Nat.le_of_ble_eq_true rfl), (Nat.le_of_ble_eq_true rfl)⟩ (fun _ _ _ h => VT_no h) (fun v ad40 F40 hp => ?_)
  obtain ⟨rfl, hC, hfk⟩ := hp
  have hR := hR.k hfk
  rw [show ad6 0 = ad40 0 from hfk.a0.symm, show ad6 400 = ad40 400 from (hfk.ad (by decide)).symm, show ad6 401 = ad40 401 from (hfk.ad (by decide)).symm, show ad6 402 = ad40 402 from (hfk.ad (by decide)).symm, show ad6 403 = ad40 403 from (hfk.ad (by decide)).symm]
  refine V_ifeq_f (tgt := 109) C dL_law_81 (by decide) (by decide) ?_
  refine V_aload_n C dL_law_84 rfl ?_
  refine V_aload_n C dL_law_85 rfl ?_
  refine V_aload C dL_law_86 rfl ?_
  refine V_invS C dL_law_88 (l_areMessages st0S (zSt st0S) 0 hC hQ hR.1 hR.2.2.2 hz hr) ms_L_145 rfl (Nat.le_of_ble_eq_true rfl) ⟨Nat.le_of_ble_eq_true rfl, Nat.le_of_ble_eq_true rfl⟩ ⟨(Nat.le_of_ble_eq_true rfl), (Nat.le_of_ble_eq_true rfl)⟩ (fun _ _ _ h => VT_no h) (fun v ad41 F41 hp => ?_)
  obtain ⟨rfl, hC, hfk, hZ, hG⟩ := hp
  have hR : LR (xD X) F41 st0S (zSt st0S) (zRcp st0S).length := ⟨hZ, hR.2.1.to (s := st0S) rfl ((hfk 401 (by decide)).2 (by decide)), hR.2.2.1.to (s := st0S) rfl ((hfk 402 (by decide)).2 (by decide)), hG⟩
  rw [show ad40 0 = ad41 0 from hfk.a0.symm, show ad40 400 = ad41 400 from (hfk.ad (by decide)).symm, show ad40 401 = ad41 401 from (hfk.ad (by decide)).symm, show ad40 402 = ad41 402 from (hfk.ad (by decide)).symm, show ad40 403 = ad41 403 from (hfk.ad (by decide)).symm]
  refine V_ifeq_f (tgt := 109) C dL_law_91 (by decide) (by decide) ?_
  refine V_aload_n C dL_law_94 rfl ?_
  refine V_aload_n C dL_law_95 rfl ?_
  refine V_aload_n C dL_law_96 rfl ?_
  refine V_aload C dL_law_97 rfl ?_
  refine V_invS C dL_law_99 (l_areLinks st0S hC hQ hR.1 hR.2.1 hR.2.2.2) ms_L_149 rfl (Nat.le_of_ble_eq_true rfl) ⟨Nat.le_of_ble_eq_true rfl, Nat.le_of_ble_eq_true rfl⟩ ⟨(Nat.le_of_ble_eq_true rfl), (Nat.le_of_ble_eq_true rfl)⟩ (fun _ _ _ h => VT_no h) (fun v ad42 F42 hp => ?_)
  obtain ⟨rfl, hC, hfk⟩ := hp
  have hR := hR.k hfk
  rw [show ad41 0 = ad42 0 from hfk.a0.symm, show ad41 400 = ad42 400 from (hfk.ad (by decide)).symm, show ad41 401 = ad42 401 from (hfk.ad (by decide)).symm, show ad41 402 = ad42 402 from (hfk.ad (by decide)).symm, show ad41 403 = ad42 403 from (hfk.ad (by decide)).symm]
  refine V_ifeq_f (tgt := 109) C dL_law_102 (by decide) (by decide) ?_
  refine V_iconst (v := 1) C dL_law_105 rfl ?_
  refine V_goto (tgt := 110) C dL_law_106 (by decide) ?_
  refine V_istore C dL_law_110 (by decide) ?_
  refine V_iconst (v := 0) C dL_law_112 rfl ?_
  refine V_nm (show (0 : Int32) = nI 0 from rfl) ?_
  refine V_istore C dL_law_113 (by decide) ?_
  refine V_wide (k' := 1000 + 840 * 0) (n' := 10000 + 7000 * 0) (Nat.le_of_ble_eq_true rfl) (Nat.le_of_ble_eq_true rfl) ?_
  exact V_sb (law_loop C hend 60 0 st0S _ _ rfl hQ (Nat.le_refl _) hC hR) ⟨rfl, rfl, rfl, rfl, rfl, rfl, rfl, rfl, trivial⟩
