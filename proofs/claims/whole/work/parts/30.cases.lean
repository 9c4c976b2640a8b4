/-- what one step of the law stands on -/
def LX (p : Program) (l : Launch) (s : State) (m : MethodId) (args : Array Value) (c : Code) (G : va_G) (a b : Nat → Nat) (cI cZ cL : ClassId) (bS L : Nat) (xs : Nat → Int32) (i : Int32) : Prop :=
  p.tables.exec = Jvm.exec ∧ c.code = cL_law ∧ c.maxLocals = 7 ∧ s.vm.findClass RL = some m.cls ∧ (∀ w ∈ wsL_law, w.before args s = true) ∧ va_X bS L xs s s.heap ∧ bS < s.heap.size ∧ l.stackTraces = false ∧ LA a b s.heap.size ∧ va_K G vwCl (tyL cI cZ cL) s ∧ thr (lA s.heap.size) s ∧ vp_in i L ∧ vp_in (i + 1) L ∧ vp_in (i + 2) L ∧ vp_in (i + 3) L ∧ vp_in (i + 4) L
/-- how a step goes on: at its end -/
def LK (p : Program) (l : Launch) (e : Env) (R : Room) (s : State) (m : MethodId) (args : Array Value) (below : List Frame) (meth : Method) (c : Code) (Q : State → Prop) (G : va_G) (a b : Nat → Nat) (cI cZ cL : ClassId) (bS : Nat) (i : Int32) (ct cells slots : Nat) : Prop :=
  ∀ (x : SD) (fo : Nat → Int64) (t : Int32) (H : Heap) (locs : List Loc) (ls : Array Slot), LI (ct + 1) x → va_P G vwCl (wfD a cI cZ x) H → va_P G vwCl (wO a cL fo) H → va_P G vwCl (wM b cI cZ x.1 x.2.1 t) H → va_S (lA s.heap.size) s.heap H locs → lv_has ls 7 [(0, .ref bS), (1, .ref (a 0)), (2, .ref (b 0)), (3, .ref (a 7)), (4, .int i)] → W p l e R s m args below meth c H locs (cells + 1) (slots + 6) Q (F0 m 1000 ls [])
theorem lg_self (x : Int64) : lg_cmp x x = 0 := by
  unfold lg_cmp
  rw [if_neg (Int64.lt_irrefl), if_pos rfl]
theorem LI_01 {c : Nat} {x : SD} (h : LI c x) : ∀ k, x.2.1 4 k = 0 ∨ x.2.1 4 k = 1 := h.1.2.2.2.2.2.2.2.2.2
theorem LI_find {c : Nat} {x : SD} {v n : Int32} (h : LI c x) : firstR (fdB x.1 v n) 0 200 = lastR (fdB x.1 v n) 200 := last_first (fd_one (inv_pat h.1)) 200 0 rfl (fun k hk => absurd hk (Nat.not_lt_zero k))
set_option maxHeartbeats 4000000 in
set_option maxRecDepth 100000 in
theorem cs_0 {p_w : Program} {l : Launch} {e_w : Env} {s_w : State} {m_w : MethodId} {args_w : Array Value} {below : List Frame} {meth_w : Method} {c_w : Code} {Q : State → Prop} {G_w : va_G} {a_w b_w : Nat → Nat} {cI cZ cL : ClassId} {bS L_w : Nat} {xs : Nat → Int32} {i_w : Int32} {ct cells slots : Nat} {x : SD} {fo : Nat → Int64} {t_w : Int32} {H : Heap} {locs_w : List Loc} {ls : Array Slot} (C_w : LX p_w l s_w m_w args_w c_w G_w a_w b_w cI cZ cL bS L_w xs i_w) (K_w : LK p_w l e_w room_1 s_w m_w args_w below meth_w c_w Q G_w a_w b_w cI cZ cL bS i_w ct cells slots) (hct : ct < 512) (hcl : cells + 1 ≤ 1058 ∧ slots + 6 ≤ 10350) (hI : LI ct x) (hPD : va_P G_w vwCl (wfD a_w cI cZ x) H) (hPO : va_P G_w vwCl (wO a_w cL fo) H) (hPM : va_P G_w vwCl (wM b_w cI cZ x.1 x.2.1 t_w) H) (hS_w : va_S (lA s_w.heap.size) s_w.heap H locs_w) (hl : lv_has ls 7 [(0, .ref bS), (1, .ref (a_w 0)), (2, .ref (b_w 0)), (3, .ref (a_w 7)), (4, .int i_w)]) : W p_w l e_w room_1 s_w m_w args_w below meth_w c_w H locs_w cells slots Q (F0 m_w 132 ls []) := by
  obtain ⟨hx, hb_w, hml, hown, hts, hX, hbl, hst, hA, hK_w, ht, hv0, hv1, hv2, hv3, hv4⟩ := C_w
  have hbA : ¬ lA s_w.heap.size bS := Nat.not_le.mpr hbl
  have hcw : cells ≤ 1058 ∧ slots ≤ 10350 := ⟨by omega, by omega⟩
  refine lv_aload_n hx hb_w dL_law_132 rfl (lv_at hl 1 rfl) ?_
  refine lv_aload_n hx hb_w dL_law_133 rfl (lv_at hl 0 rfl) ?_
  refine lv_iload hx hb_w dL_law_134 (lv_at hl 4 rfl) ?_
  refine lv_iconst (v := 1) hx hb_w dL_law_136 (by decide) ?_
  refine lv_iadd hx hb_w dL_law_137 ?_
  refine va_sld hx hb_w hX hbl hbA hS_w hv1 dL_law_138 ?_
  refine lv_aload_n hx hb_w dL_law_139 rfl (lv_at hl 0 rfl) ?_
  refine lv_iload hx hb_w dL_law_140 (lv_at hl 4 rfl) ?_
  refine lv_iconst (v := 2) hx hb_w dL_law_142 (by decide) ?_
  refine lv_iadd hx hb_w dL_law_143 ?_
  refine va_sld hx hb_w hX hbl hbA hS_w hv2 dL_law_144 ?_
  refine lv_aload_n hx hb_w dL_law_145 rfl (lv_at hl 0 rfl) ?_
  refine lv_iload hx hb_w dL_law_146 (lv_at hl 4 rfl) ?_
  refine lv_iconst (v := 3) hx hb_w dL_law_148 (by decide) ?_
  refine lv_iadd hx hb_w dL_law_149 ?_
  refine va_sld hx hb_w hX hbl hbA hS_w hv3 dL_law_150 ?_
  refine lv_bz hx hb_w dL_law_151 dL_law_154 dL_law_155 dL_law_158 ?_
  refine lv_aload_n hx hb_w dL_law_159 rfl (lv_at hl 0 rfl) ?_
  refine lv_iload hx hb_w dL_law_160 (lv_at hl 4 rfl) ?_
  refine lv_iconst (v := 4) hx hb_w dL_law_162 (by decide) ?_
  refine lv_iadd hx hb_w dL_law_163 ?_
  refine va_sld hx hb_w hX hbl hbA hS_w hv4 dL_law_164 ?_
  refine law_S (As := [.ref (a_w 0), .int (xs (i_w + 1).toNatClampNeg), .int (xs (i_w + 2).toNatClampNeg), .int (bz (xs (i_w + 3).toNatClampNeg)), .int (xs (i_w + 4).toNatClampNeg)]) (rest := []) ⟨hx, hb_w, hml, hown, hts⟩ (kL_setPattern l hst G_w a_w cI cZ cL x fo hA.1 H.size (xs (i_w + 1).toNatClampNeg) (xs (i_w + 2).toNatClampNeg) (bz (xs (i_w + 3).toNatClampNeg)) (xs (i_w + 4).toNatClampNeg) ct (by omega) hI.1 (bz_01 _)) (vx_cwSW 5 hts gL_law_L_setPattern rfl rfl rfl (by decide +kernel) ⟨Nat.le_of_ble_eq_true rfl, Nat.le_of_ble_eq_true rfl⟩) hA hPD hPO hPM hK_w ht hS_w rfl hl.1 rfl (Nat.le_of_ble_eq_true rfl) dL_law_165 hcl (fun v_w u_w H locs_w hp hPD hPO hPM hS_w => ?_)
  refine lv_istore (lv' := [(5, .int v_w), (0, .ref bS), (1, .ref (a_w 0)), (2, .ref (b_w 0)), (3, .ref (a_w 7)), (4, .int i_w)]) hx hb_w dL_law_168 hl (by decide) rfl (fun ls hl => ?_)
  refine lv_aload_n hx hb_w dL_law_170 rfl (lv_at hl 3 rfl) ?_
  refine lv_aload_n hx hb_w dL_law_171 rfl (lv_at hl 1 rfl) ?_
  refine lv_iload hx hb_w dL_law_172 (lv_at hl 5 rfl) ?_
  refine lv_iconst (v := 1) hx hb_w dL_law_174 (by decide) ?_
  refine lv_iadd hx hb_w dL_law_175 ?_
  refine va_sld hx hb_w hX hbl hbA hS_w hv1 dL_law_176 ?_
  refine lv_aload_n hx hb_w dL_law_177 rfl (lv_at hl 1 rfl) ?_
  refine lv_iload hx hb_w dL_law_178 (lv_at hl 5 rfl) ?_
  refine lv_iconst (v := 2) hx hb_w dL_law_180 (by decide) ?_
  refine lv_iadd hx hb_w dL_law_181 ?_
  refine va_sld hx hb_w hX hbl hbA hS_w hv2 dL_law_182 ?_
  refine lv_aload_n hx hb_w dL_law_183 rfl (lv_at hl 1 rfl) ?_
  refine lv_iload hx hb_w dL_law_184 (lv_at hl 5 rfl) ?_
  refine lv_iconst (v := 3) hx hb_w dL_law_186 (by decide) ?_
  refine lv_iadd hx hb_w dL_law_187 ?_
  refine va_sld hx hb_w hX hbl hbA hS_w hv3 dL_law_188 ?_
  refine lv_bz hx hb_w dL_law_189 dL_law_192 dL_law_193 dL_law_196 ?_
  refine lv_aload_n hx hb_w dL_law_197 rfl (lv_at hl 1 rfl) ?_
  refine lv_iload hx hb_w dL_law_198 (lv_at hl 5 rfl) ?_
  refine lv_iconst (v := 4) hx hb_w dL_law_200 (by decide) ?_
  refine lv_iadd hx hb_w dL_law_201 ?_
  refine va_sld hx hb_w hX hbl hbA hS_w hv4 dL_law_202 ?_
  refine law_Mv (As := [.int (xs (i_w + 1).toNatClampNeg), .int (xs (i_w + 2).toNatClampNeg), .int (bz (xs (i_w + 3).toNatClampNeg)), .int (xs (i_w + 4).toNatClampNeg)]) (rest := []) ⟨hx, hb_w, hml, hown, hts⟩ (kX2_setPattern l G_w b_w cI cZ x.1 x.2.1 t_w hA.2.1 H.size (xs (i_w + 1).toNatClampNeg) (xs (i_w + 2).toNatClampNeg) (bz (xs (i_w + 3).toNatClampNeg)) (xs (i_w + 4).toNatClampNeg) ct (by omega) hI.1 (bz_01 _)) (cwV 4 hts gL_law_X2_setPattern rfl rfl rfl (by decide +kernel) ⟨Nat.le_of_ble_eq_true rfl, Nat.le_of_ble_eq_true rfl⟩) hA hPD hPO hPM hK_w hS_w rfl hl.1 rfl (Nat.le_of_ble_eq_true rfl) dL_law_203 hcl (fun u2_w H locs_w hq hPD hPO hPM hS_w => ?_)
  obtain ⟨x', hI', hD', hM'⟩ := ag_SP hct hI (bz_01 _) hp hq
  rw [hD'] at hPD
  subst hM'
  have hPM : va_P G_w vwCl (wM b_w cI cZ x'.1 x'.2.1 v_w) H := hPM
  refine lv_aload_n hx hb_w dL_law_206 rfl (lv_at hl 3 rfl) ?_
  refine rdr_V (As := []) (rest := []) ⟨hx, hb_w, hml, hown, hts⟩ (kX2_thrown l G_w b_w cI cZ x'.1 x'.2.1 v_w) (cwV 0 hts gL_law_X2_thrown rfl rfl rfl (by decide +kernel) ⟨Nat.le_of_ble_eq_true rfl, Nat.le_of_ble_eq_true rfl⟩) (va_recv hK_w hPM (ci := 2) (q0 := 0) rfl rfl) hPM (hK_w.sub (tys' := tyIZ cI cZ) [0, 1] rfl) rfl hl.1 rfl (Nat.le_of_ble_eq_true rfl) dL_law_207 hcl (fun rt hrt => ?_)
  refine top_eq hrt ?_
  refine lv_iload hx hb_w dL_law_210 (lv_at hl 0 rfl) ?_
  refine lv_icmp_eq (tgt := 217) hx hb_w dL_law_212 (by decide) (fun _ => ?_) (fun hn => absurd rfl hn)
  refine lv_goto (tgt := 1000) hx hb_w dL_law_217 (by decide) ?_
  exact K_w x' u_w.2 v_w _ _ _ hI' hPD hPO hPM hS_w (lv_sub hl [1, 2, 3, 4, 5] rfl)
set_option maxHeartbeats 4000000 in
set_option maxRecDepth 100000 in
theorem cs_1 {p_w : Program} {l : Launch} {e_w : Env} {s_w : State} {m_w : MethodId} {args_w : Array Value} {below : List Frame} {meth_w : Method} {c_w : Code} {Q : State → Prop} {G_w : va_G} {a_w b_w : Nat → Nat} {cI cZ cL : ClassId} {bS L_w : Nat} {xs : Nat → Int32} {i_w : Int32} {ct cells slots : Nat} {x : SD} {fo : Nat → Int64} {t_w : Int32} {H : Heap} {locs_w : List Loc} {ls : Array Slot} (C_w : LX p_w l s_w m_w args_w c_w G_w a_w b_w cI cZ cL bS L_w xs i_w) (K_w : LK p_w l e_w room_1 s_w m_w args_w below meth_w c_w Q G_w a_w b_w cI cZ cL bS i_w ct cells slots) (hct : ct < 512) (hcl : cells + 1 ≤ 1058 ∧ slots + 6 ≤ 10350) (hI : LI ct x) (hPD : va_P G_w vwCl (wfD a_w cI cZ x) H) (hPO : va_P G_w vwCl (wO a_w cL fo) H) (hPM : va_P G_w vwCl (wM b_w cI cZ x.1 x.2.1 t_w) H) (hS_w : va_S (lA s_w.heap.size) s_w.heap H locs_w) (hl : lv_has ls 7 [(0, .ref bS), (1, .ref (a_w 0)), (2, .ref (b_w 0)), (3, .ref (a_w 7)), (4, .int i_w)]) : W p_w l e_w room_1 s_w m_w args_w below meth_w c_w H locs_w cells slots Q (F0 m_w 220 ls []) := by
  obtain ⟨hx, hb_w, hml, hown, hts, hX, hbl, hst, hA, hK_w, ht, hv0, hv1, hv2, hv3, hv4⟩ := C_w
  have hbA : ¬ lA s_w.heap.size bS := Nat.not_le.mpr hbl
  have hcw : cells ≤ 1058 ∧ slots ≤ 10350 := ⟨by omega, by omega⟩
  refine lv_aload_n hx hb_w dL_law_220 rfl (lv_at hl 1 rfl) ?_
  refine lv_aload_n hx hb_w dL_law_221 rfl (lv_at hl 0 rfl) ?_
  refine lv_iload hx hb_w dL_law_222 (lv_at hl 4 rfl) ?_
  refine lv_iconst (v := 1) hx hb_w dL_law_224 (by decide) ?_
  refine lv_iadd hx hb_w dL_law_225 ?_
  refine va_sld hx hb_w hX hbl hbA hS_w hv1 dL_law_226 ?_
  refine lv_aload_n hx hb_w dL_law_227 rfl (lv_at hl 0 rfl) ?_
  refine lv_iload hx hb_w dL_law_228 (lv_at hl 4 rfl) ?_
  refine lv_iconst (v := 2) hx hb_w dL_law_230 (by decide) ?_
  refine lv_iadd hx hb_w dL_law_231 ?_
  refine va_sld hx hb_w hX hbl hbA hS_w hv2 dL_law_232 ?_
  refine law_S (As := [.ref (a_w 0), .int (xs (i_w + 1).toNatClampNeg), .int (xs (i_w + 2).toNatClampNeg)]) (rest := []) ⟨hx, hb_w, hml, hown, hts⟩ (kL_setClaims l hst G_w a_w cI cZ cL x fo hA.1 H.size (xs (i_w + 1).toNatClampNeg) (xs (i_w + 2).toNatClampNeg)) (vx_cwSW 3 hts gL_law_L_setClaims rfl rfl rfl (by decide +kernel) ⟨Nat.le_of_ble_eq_true rfl, Nat.le_of_ble_eq_true rfl⟩) hA hPD hPO hPM hK_w ht hS_w rfl hl.1 rfl (Nat.le_of_ble_eq_true rfl) dL_law_233 hcl (fun v_w u_w H locs_w hp hPD hPO hPM hS_w => ?_)
  refine lv_istore (lv' := [(5, .int v_w), (0, .ref bS), (1, .ref (a_w 0)), (2, .ref (b_w 0)), (3, .ref (a_w 7)), (4, .int i_w)]) hx hb_w dL_law_236 hl (by decide) rfl (fun ls hl => ?_)
  refine lv_aload_n hx hb_w dL_law_238 rfl (lv_at hl 3 rfl) ?_
  refine lv_aload_n hx hb_w dL_law_239 rfl (lv_at hl 1 rfl) ?_
  refine lv_iload hx hb_w dL_law_240 (lv_at hl 5 rfl) ?_
  refine lv_iconst (v := 1) hx hb_w dL_law_242 (by decide) ?_
  refine lv_iadd hx hb_w dL_law_243 ?_
  refine va_sld hx hb_w hX hbl hbA hS_w hv1 dL_law_244 ?_
  refine lv_aload_n hx hb_w dL_law_245 rfl (lv_at hl 1 rfl) ?_
  refine lv_iload hx hb_w dL_law_246 (lv_at hl 5 rfl) ?_
  refine lv_iconst (v := 2) hx hb_w dL_law_248 (by decide) ?_
  refine lv_iadd hx hb_w dL_law_249 ?_
  refine va_sld hx hb_w hX hbl hbA hS_w hv2 dL_law_250 ?_
  refine law_Mv (As := [.int (xs (i_w + 1).toNatClampNeg), .int (xs (i_w + 2).toNatClampNeg)]) (rest := []) ⟨hx, hb_w, hml, hown, hts⟩ (kX2_setClaims l G_w b_w cI cZ x.1 x.2.1 t_w hA.2.1 H.size (xs (i_w + 1).toNatClampNeg) (xs (i_w + 2).toNatClampNeg)) (cwV 2 hts gL_law_X2_setClaims rfl rfl rfl (by decide +kernel) ⟨Nat.le_of_ble_eq_true rfl, Nat.le_of_ble_eq_true rfl⟩) hA hPD hPO hPM hK_w hS_w rfl hl.1 rfl (Nat.le_of_ble_eq_true rfl) dL_law_251 hcl (fun u2_w H locs_w hq hPD hPO hPM hS_w => ?_)
  obtain ⟨x', hI', hD', hM'⟩ := ag_SC hI hp hq
  rw [hD'] at hPD
  subst hM'
  have hPM : va_P G_w vwCl (wM b_w cI cZ x'.1 x'.2.1 v_w) H := hPM
  refine lv_aload_n hx hb_w dL_law_254 rfl (lv_at hl 3 rfl) ?_
  refine rdr_V (As := []) (rest := []) ⟨hx, hb_w, hml, hown, hts⟩ (kX2_thrown l G_w b_w cI cZ x'.1 x'.2.1 v_w) (cwV 0 hts gL_law_X2_thrown rfl rfl rfl (by decide +kernel) ⟨Nat.le_of_ble_eq_true rfl, Nat.le_of_ble_eq_true rfl⟩) (va_recv hK_w hPM (ci := 2) (q0 := 0) rfl rfl) hPM (hK_w.sub (tys' := tyIZ cI cZ) [0, 1] rfl) rfl hl.1 rfl (Nat.le_of_ble_eq_true rfl) dL_law_255 hcl (fun rt hrt => ?_)
  refine top_eq hrt ?_
  refine lv_iload hx hb_w dL_law_258 (lv_at hl 0 rfl) ?_
  refine lv_icmp_eq (tgt := 265) hx hb_w dL_law_260 (by decide) (fun _ => ?_) (fun hn => absurd rfl hn)
  refine lv_goto (tgt := 1000) hx hb_w dL_law_265 (by decide) ?_
  exact K_w x' u_w.2 v_w _ _ _ hI' hPD hPO hPM hS_w (lv_sub hl [1, 2, 3, 4, 5] rfl)
set_option maxHeartbeats 4000000 in
set_option maxRecDepth 100000 in
theorem cs_2 {p_w : Program} {l : Launch} {e_w : Env} {s_w : State} {m_w : MethodId} {args_w : Array Value} {below : List Frame} {meth_w : Method} {c_w : Code} {Q : State → Prop} {G_w : va_G} {a_w b_w : Nat → Nat} {cI cZ cL : ClassId} {bS L_w : Nat} {xs : Nat → Int32} {i_w : Int32} {ct cells slots : Nat} {x : SD} {fo : Nat → Int64} {t_w : Int32} {H : Heap} {locs_w : List Loc} {ls : Array Slot} (C_w : LX p_w l s_w m_w args_w c_w G_w a_w b_w cI cZ cL bS L_w xs i_w) (K_w : LK p_w l e_w room_1 s_w m_w args_w below meth_w c_w Q G_w a_w b_w cI cZ cL bS i_w ct cells slots) (hct : ct < 512) (hcl : cells + 1 ≤ 1058 ∧ slots + 6 ≤ 10350) (hI : LI ct x) (hPD : va_P G_w vwCl (wfD a_w cI cZ x) H) (hPO : va_P G_w vwCl (wO a_w cL fo) H) (hPM : va_P G_w vwCl (wM b_w cI cZ x.1 x.2.1 t_w) H) (hS_w : va_S (lA s_w.heap.size) s_w.heap H locs_w) (hl : lv_has ls 7 [(0, .ref bS), (1, .ref (a_w 0)), (2, .ref (b_w 0)), (3, .ref (a_w 7)), (4, .int i_w)]) : W p_w l e_w room_1 s_w m_w args_w below meth_w c_w H locs_w cells slots Q (F0 m_w 268 ls []) := by
  obtain ⟨hx, hb_w, hml, hown, hts, hX, hbl, hst, hA, hK_w, ht, hv0, hv1, hv2, hv3, hv4⟩ := C_w
  have hbA : ¬ lA s_w.heap.size bS := Nat.not_le.mpr hbl
  have hcw : cells ≤ 1058 ∧ slots ≤ 10350 := ⟨by omega, by omega⟩
  refine lv_aload_n hx hb_w dL_law_268 rfl (lv_at hl 1 rfl) ?_
  refine lv_aload_n hx hb_w dL_law_269 rfl (lv_at hl 0 rfl) ?_
  refine lv_iload hx hb_w dL_law_270 (lv_at hl 4 rfl) ?_
  refine lv_iconst (v := 1) hx hb_w dL_law_272 (by decide) ?_
  refine lv_iadd hx hb_w dL_law_273 ?_
  refine va_sld hx hb_w hX hbl hbA hS_w hv1 dL_law_274 ?_
  refine lv_aload_n hx hb_w dL_law_275 rfl (lv_at hl 3 rfl) ?_
  refine law_S (As := [.ref (a_w 0), .int (xs (i_w + 1).toNatClampNeg), .ref (a_w 7)]) (rest := []) ⟨hx, hb_w, hml, hown, hts⟩ (kL_advance l hst G_w a_w cI cZ cL x fo hA.1 H.size (xs (i_w + 1).toNatClampNeg) ct (by omega) hI.1) (vx_cwSW 3 hts gL_law_L_advance rfl rfl rfl (by decide +kernel) ⟨Nat.le_of_ble_eq_true rfl, Nat.le_of_ble_eq_true rfl⟩) hA hPD hPO hPM hK_w ht hS_w rfl hl.1 rfl (Nat.le_of_ble_eq_true rfl) dL_law_276 hcl (fun v_w u_w H locs_w hp hPD hPO hPM hS_w => ?_)
  refine lv_istore (lv' := [(5, .int v_w), (0, .ref bS), (1, .ref (a_w 0)), (2, .ref (b_w 0)), (3, .ref (a_w 7)), (4, .int i_w)]) hx hb_w dL_law_279 hl (by decide) rfl (fun ls hl => ?_)
  refine lv_aload_n hx hb_w dL_law_281 rfl (lv_at hl 3 rfl) ?_
  refine lv_aload_n hx hb_w dL_law_282 rfl (lv_at hl 1 rfl) ?_
  refine lv_iload hx hb_w dL_law_283 (lv_at hl 5 rfl) ?_
  refine lv_iconst (v := 1) hx hb_w dL_law_285 (by decide) ?_
  refine lv_iadd hx hb_w dL_law_286 ?_
  refine va_sld hx hb_w hX hbl hbA hS_w hv1 dL_law_287 ?_
  refine law_M (As := [.int (xs (i_w + 1).toNatClampNeg)]) (rest := []) ⟨hx, hb_w, hml, hown, hts⟩ (kX2_advance l G_w b_w cI cZ x.1 x.2.1 t_w hA.2.1 H.size (xs (i_w + 1).toNatClampNeg) ct (by omega) hI.1) (cwV 1 hts gL_law_X2_advance rfl rfl rfl (by decide +kernel) ⟨Nat.le_of_ble_eq_true rfl, Nat.le_of_ble_eq_true rfl⟩) hA hPD hPO hPM hK_w hS_w rfl hl.1 rfl (Nat.le_of_ble_eq_true rfl) dL_law_288 hcl (fun r2 u2_w H locs_w hq hPD hPO hPM hS_w => ?_)
  obtain ⟨x', hI', hD', hM', hv'⟩ := ag_AD hct hI hp hq
  rw [hD'] at hPD
  subst hM'
  have hPM : va_P G_w vwCl (wM b_w cI cZ x'.1 x'.2.1 v_w) H := hPM
  refine lv_istore (lv' := [(6, .int r2), (5, .int v_w), (0, .ref bS), (1, .ref (a_w 0)), (2, .ref (b_w 0)), (3, .ref (a_w 7)), (4, .int i_w)]) hx hb_w dL_law_291 hl (by decide) rfl (fun ls hl => ?_)
  refine lv_aload_n hx hb_w dL_law_293 rfl (lv_at hl 4 rfl) ?_
  refine rdr_V (As := []) (rest := []) ⟨hx, hb_w, hml, hown, hts⟩ (kX2_thrown l G_w b_w cI cZ x'.1 x'.2.1 v_w) (cwV 0 hts gL_law_X2_thrown rfl rfl rfl (by decide +kernel) ⟨Nat.le_of_ble_eq_true rfl, Nat.le_of_ble_eq_true rfl⟩) (va_recv hK_w hPM (ci := 2) (q0 := 0) rfl rfl) hPM (hK_w.sub (tys' := tyIZ cI cZ) [0, 1] rfl) rfl hl.1 rfl (Nat.le_of_ble_eq_true rfl) dL_law_294 hcl (fun rt hrt => ?_)
  refine top_eq hrt ?_
  refine lv_iload hx hb_w dL_law_297 (lv_at hl 1 rfl) ?_
  refine lv_icmp_eq (tgt := 304) hx hb_w dL_law_299 (by decide) (fun _ => ?_) (fun hn => absurd rfl hn)
  refine lv_iload hx hb_w dL_law_304 (lv_at hl 1 rfl) ?_
  refine lv_if_ne (tgt := 321) hx hb_w dL_law_306 (by decide) (fun h0 => ?_) (fun h0 => ?_)
  · refine lv_goto (tgt := 1000) hx hb_w dL_law_321 (by decide) ?_
    exact K_w x' u_w.2 v_w _ _ _ hI' hPD hPO hPM hS_w (lv_sub hl [2, 3, 4, 5, 6] rfl)
  · refine lv_aload_n hx hb_w dL_law_309 rfl (lv_at hl 5 rfl) ?_
    refine lv_iconst (v := 0) hx hb_w dL_law_310 (by decide) ?_
    refine va_lald hx hb_w hK_w hPO (q0 := 0) (t0 := 2) rfl rfl (by unfold vp_in; decide) dL_law_311 ?_
    refine lv_iload hx hb_w dL_law_312 (lv_at hl 0 rfl) ?_
    refine lv_i2l hx hb_w dL_law_314 rfl ?_
    refine W.lcmp hx hb_w dL_law_315 ?_
    refine top_eq (z := 0) (by rw [show u_w.2 (0 : Int32).toNatClampNeg = r2.toInt64 from hv' h0]; exact lg_self _) ?_
    refine lv_if_eq (tgt := 321) hx hb_w dL_law_316 (by decide) (fun _ => ?_) (fun hn => absurd rfl hn)
    refine lv_goto (tgt := 1000) hx hb_w dL_law_321 (by decide) ?_
    exact K_w x' u_w.2 v_w _ _ _ hI' hPD hPO hPM hS_w (lv_sub hl [2, 3, 4, 5, 6] rfl)
set_option maxHeartbeats 4000000 in
set_option maxRecDepth 100000 in
theorem cs_3 {p_w : Program} {l : Launch} {e_w : Env} {s_w : State} {m_w : MethodId} {args_w : Array Value} {below : List Frame} {meth_w : Method} {c_w : Code} {Q : State → Prop} {G_w : va_G} {a_w b_w : Nat → Nat} {cI cZ cL : ClassId} {bS L_w : Nat} {xs : Nat → Int32} {i_w : Int32} {ct cells slots : Nat} {x : SD} {fo : Nat → Int64} {t_w : Int32} {H : Heap} {locs_w : List Loc} {ls : Array Slot} (C_w : LX p_w l s_w m_w args_w c_w G_w a_w b_w cI cZ cL bS L_w xs i_w) (K_w : LK p_w l e_w room_1 s_w m_w args_w below meth_w c_w Q G_w a_w b_w cI cZ cL bS i_w ct cells slots) (hct : ct < 512) (hcl : cells + 1 ≤ 1058 ∧ slots + 6 ≤ 10350) (hI : LI ct x) (hPD : va_P G_w vwCl (wfD a_w cI cZ x) H) (hPO : va_P G_w vwCl (wO a_w cL fo) H) (hPM : va_P G_w vwCl (wM b_w cI cZ x.1 x.2.1 t_w) H) (hS_w : va_S (lA s_w.heap.size) s_w.heap H locs_w) (hl : lv_has ls 7 [(0, .ref bS), (1, .ref (a_w 0)), (2, .ref (b_w 0)), (3, .ref (a_w 7)), (4, .int i_w)]) : W p_w l e_w room_1 s_w m_w args_w below meth_w c_w H locs_w cells slots Q (F0 m_w 324 ls []) := by
  obtain ⟨hx, hb_w, hml, hown, hts, hX, hbl, hst, hA, hK_w, ht, hv0, hv1, hv2, hv3, hv4⟩ := C_w
  have hbA : ¬ lA s_w.heap.size bS := Nat.not_le.mpr hbl
  have hcw : cells ≤ 1058 ∧ slots ≤ 10350 := ⟨by omega, by omega⟩
  refine lv_aload_n hx hb_w dL_law_324 rfl (lv_at hl 1 rfl) ?_
  refine lv_aload_n hx hb_w dL_law_325 rfl (lv_at hl 0 rfl) ?_
  refine lv_iload hx hb_w dL_law_326 (lv_at hl 4 rfl) ?_
  refine lv_iconst (v := 1) hx hb_w dL_law_328 (by decide) ?_
  refine lv_iadd hx hb_w dL_law_329 ?_
  refine va_sld hx hb_w hX hbl hbA hS_w hv1 dL_law_330 ?_
  refine lv_aload_n hx hb_w dL_law_331 rfl (lv_at hl 0 rfl) ?_
  refine lv_iload hx hb_w dL_law_332 (lv_at hl 4 rfl) ?_
  refine lv_iconst (v := 2) hx hb_w dL_law_334 (by decide) ?_
  refine lv_iadd hx hb_w dL_law_335 ?_
  refine va_sld hx hb_w hX hbl hbA hS_w hv2 dL_law_336 ?_
  refine lv_aload_n hx hb_w dL_law_337 rfl (lv_at hl 3 rfl) ?_
  refine law_S (As := [.ref (a_w 0), .int (xs (i_w + 1).toNatClampNeg), .int (xs (i_w + 2).toNatClampNeg), .ref (a_w 7)]) (rest := []) ⟨hx, hb_w, hml, hown, hts⟩ (kL_checkIn l hst G_w a_w cI cZ cL x fo hA.1 H.size (xs (i_w + 1).toNatClampNeg) (xs (i_w + 2).toNatClampNeg) ct hct hI.1) (vx_cwSW 4 hts gL_law_L_checkIn rfl rfl rfl (by decide +kernel) ⟨Nat.le_of_ble_eq_true rfl, Nat.le_of_ble_eq_true rfl⟩) hA hPD hPO hPM hK_w ht hS_w rfl hl.1 rfl (Nat.le_of_ble_eq_true rfl) dL_law_338 hcl (fun v_w u_w H locs_w hp hPD hPO hPM hS_w => ?_)
  refine lv_istore (lv' := [(5, .int v_w), (0, .ref bS), (1, .ref (a_w 0)), (2, .ref (b_w 0)), (3, .ref (a_w 7)), (4, .int i_w)]) hx hb_w dL_law_341 hl (by decide) rfl (fun ls hl => ?_)
  refine lv_aload_n hx hb_w dL_law_343 rfl (lv_at hl 3 rfl) ?_
  refine lv_aload_n hx hb_w dL_law_344 rfl (lv_at hl 1 rfl) ?_
  refine lv_iload hx hb_w dL_law_345 (lv_at hl 5 rfl) ?_
  refine lv_iconst (v := 1) hx hb_w dL_law_347 (by decide) ?_
  refine lv_iadd hx hb_w dL_law_348 ?_
  refine va_sld hx hb_w hX hbl hbA hS_w hv1 dL_law_349 ?_
  refine lv_aload_n hx hb_w dL_law_350 rfl (lv_at hl 1 rfl) ?_
  refine lv_iload hx hb_w dL_law_351 (lv_at hl 5 rfl) ?_
  refine lv_iconst (v := 2) hx hb_w dL_law_353 (by decide) ?_
  refine lv_iadd hx hb_w dL_law_354 ?_
  refine va_sld hx hb_w hX hbl hbA hS_w hv2 dL_law_355 ?_
  refine law_M (As := [.int (xs (i_w + 1).toNatClampNeg), .int (xs (i_w + 2).toNatClampNeg)]) (rest := []) ⟨hx, hb_w, hml, hown, hts⟩ (kX2_checkIn l G_w b_w cI cZ x.1 x.2.1 t_w hA.2.1 H.size (xs (i_w + 1).toNatClampNeg) (xs (i_w + 2).toNatClampNeg) ct hct hI.1) (cwV 2 hts gL_law_X2_checkIn rfl rfl rfl (by decide +kernel) ⟨Nat.le_of_ble_eq_true rfl, Nat.le_of_ble_eq_true rfl⟩) hA hPD hPO hPM hK_w hS_w rfl hl.1 rfl (Nat.le_of_ble_eq_true rfl) dL_law_356 hcl (fun r2 u2_w H locs_w hq hPD hPO hPM hS_w => ?_)
  obtain ⟨x', hI', hD', hM', hv'⟩ := ag_CI hct hI hp hq
  rw [hD'] at hPD
  subst hM'
  have hPM : va_P G_w vwCl (wM b_w cI cZ x'.1 x'.2.1 v_w) H := hPM
  refine lv_istore (lv' := [(6, .int r2), (5, .int v_w), (0, .ref bS), (1, .ref (a_w 0)), (2, .ref (b_w 0)), (3, .ref (a_w 7)), (4, .int i_w)]) hx hb_w dL_law_359 hl (by decide) rfl (fun ls hl => ?_)
  refine lv_aload_n hx hb_w dL_law_361 rfl (lv_at hl 4 rfl) ?_
  refine rdr_V (As := []) (rest := []) ⟨hx, hb_w, hml, hown, hts⟩ (kX2_thrown l G_w b_w cI cZ x'.1 x'.2.1 v_w) (cwV 0 hts gL_law_X2_thrown rfl rfl rfl (by decide +kernel) ⟨Nat.le_of_ble_eq_true rfl, Nat.le_of_ble_eq_true rfl⟩) (va_recv hK_w hPM (ci := 2) (q0 := 0) rfl rfl) hPM (hK_w.sub (tys' := tyIZ cI cZ) [0, 1] rfl) rfl hl.1 rfl (Nat.le_of_ble_eq_true rfl) dL_law_362 hcl (fun rt hrt => ?_)
  refine top_eq hrt ?_
  refine lv_iload hx hb_w dL_law_365 (lv_at hl 1 rfl) ?_
  refine lv_icmp_eq (tgt := 372) hx hb_w dL_law_367 (by decide) (fun _ => ?_) (fun hn => absurd rfl hn)
  refine lv_iload hx hb_w dL_law_372 (lv_at hl 1 rfl) ?_
  refine lv_if_ne (tgt := 389) hx hb_w dL_law_374 (by decide) (fun h0 => ?_) (fun h0 => ?_)
  · refine lv_goto (tgt := 1000) hx hb_w dL_law_389 (by decide) ?_
    exact K_w x' u_w.2 v_w _ _ _ hI' hPD hPO hPM hS_w (lv_sub hl [2, 3, 4, 5, 6] rfl)
  · refine lv_aload_n hx hb_w dL_law_377 rfl (lv_at hl 5 rfl) ?_
    refine lv_iconst (v := 0) hx hb_w dL_law_378 (by decide) ?_
    refine va_lald hx hb_w hK_w hPO (q0 := 0) (t0 := 2) rfl rfl (by unfold vp_in; decide) dL_law_379 ?_
    refine lv_iload hx hb_w dL_law_380 (lv_at hl 0 rfl) ?_
    refine lv_i2l hx hb_w dL_law_382 rfl ?_
    refine W.lcmp hx hb_w dL_law_383 ?_
    refine top_eq (z := 0) (by rw [show u_w.2 (0 : Int32).toNatClampNeg = r2.toInt64 from hv' h0]; exact lg_self _) ?_
    refine lv_if_eq (tgt := 389) hx hb_w dL_law_384 (by decide) (fun _ => ?_) (fun hn => absurd rfl hn)
    refine lv_goto (tgt := 1000) hx hb_w dL_law_389 (by decide) ?_
    exact K_w x' u_w.2 v_w _ _ _ hI' hPD hPO hPM hS_w (lv_sub hl [2, 3, 4, 5, 6] rfl)
set_option maxHeartbeats 4000000 in
set_option maxRecDepth 100000 in
theorem cs_4 {p_w : Program} {l : Launch} {e_w : Env} {s_w : State} {m_w : MethodId} {args_w : Array Value} {below : List Frame} {meth_w : Method} {c_w : Code} {Q : State → Prop} {G_w : va_G} {a_w b_w : Nat → Nat} {cI cZ cL : ClassId} {bS L_w : Nat} {xs : Nat → Int32} {i_w : Int32} {ct cells slots : Nat} {x : SD} {fo : Nat → Int64} {t_w : Int32} {H : Heap} {locs_w : List Loc} {ls : Array Slot} (C_w : LX p_w l s_w m_w args_w c_w G_w a_w b_w cI cZ cL bS L_w xs i_w) (K_w : LK p_w l e_w room_1 s_w m_w args_w below meth_w c_w Q G_w a_w b_w cI cZ cL bS i_w ct cells slots) (hct : ct < 512) (hcl : cells + 1 ≤ 1058 ∧ slots + 6 ≤ 10350) (hI : LI ct x) (hPD : va_P G_w vwCl (wfD a_w cI cZ x) H) (hPO : va_P G_w vwCl (wO a_w cL fo) H) (hPM : va_P G_w vwCl (wM b_w cI cZ x.1 x.2.1 t_w) H) (hS_w : va_S (lA s_w.heap.size) s_w.heap H locs_w) (hl : lv_has ls 7 [(0, .ref bS), (1, .ref (a_w 0)), (2, .ref (b_w 0)), (3, .ref (a_w 7)), (4, .int i_w)]) : W p_w l e_w room_1 s_w m_w args_w below meth_w c_w H locs_w cells slots Q (F0 m_w 392 ls []) := by
  obtain ⟨hx, hb_w, hml, hown, hts, hX, hbl, hst, hA, hK_w, ht, hv0, hv1, hv2, hv3, hv4⟩ := C_w
  have hbA : ¬ lA s_w.heap.size bS := Nat.not_le.mpr hbl
  have hcw : cells ≤ 1058 ∧ slots ≤ 10350 := ⟨by omega, by omega⟩
  refine lv_aload_n hx hb_w dL_law_392 rfl (lv_at hl 1 rfl) ?_
  refine lv_aload_n hx hb_w dL_law_393 rfl (lv_at hl 0 rfl) ?_
  refine lv_iload hx hb_w dL_law_394 (lv_at hl 4 rfl) ?_
  refine lv_iconst (v := 1) hx hb_w dL_law_396 (by decide) ?_
  refine lv_iadd hx hb_w dL_law_397 ?_
  refine va_sld hx hb_w hX hbl hbA hS_w hv1 dL_law_398 ?_
  refine law_S (As := [.ref (a_w 0), .int (xs (i_w + 1).toNatClampNeg)]) (rest := []) ⟨hx, hb_w, hml, hown, hts⟩ (kL_skip l hst G_w a_w cI cZ cL x fo hA.1 H.size (xs (i_w + 1).toNatClampNeg)) (vx_cwSW 2 hts gL_law_L_skip rfl rfl rfl (by decide +kernel) ⟨Nat.le_of_ble_eq_true rfl, Nat.le_of_ble_eq_true rfl⟩) hA hPD hPO hPM hK_w ht hS_w rfl hl.1 rfl (Nat.le_of_ble_eq_true rfl) dL_law_399 hcl (fun v_w u_w H locs_w hp hPD hPO hPM hS_w => ?_)
  refine lv_istore (lv' := [(5, .int v_w), (0, .ref bS), (1, .ref (a_w 0)), (2, .ref (b_w 0)), (3, .ref (a_w 7)), (4, .int i_w)]) hx hb_w dL_law_402 hl (by decide) rfl (fun ls hl => ?_)
  refine lv_aload_n hx hb_w dL_law_404 rfl (lv_at hl 3 rfl) ?_
  refine lv_aload_n hx hb_w dL_law_405 rfl (lv_at hl 1 rfl) ?_
  refine lv_iload hx hb_w dL_law_406 (lv_at hl 5 rfl) ?_
  refine lv_iconst (v := 1) hx hb_w dL_law_408 (by decide) ?_
  refine lv_iadd hx hb_w dL_law_409 ?_
  refine va_sld hx hb_w hX hbl hbA hS_w hv1 dL_law_410 ?_
  refine law_Mv (As := [.int (xs (i_w + 1).toNatClampNeg)]) (rest := []) ⟨hx, hb_w, hml, hown, hts⟩ (kX2_skip l G_w b_w cI cZ x.1 x.2.1 t_w hA.2.1 H.size (xs (i_w + 1).toNatClampNeg) (inv_NN hI.1)) (cwV 1 hts gL_law_X2_skip rfl rfl rfl (by decide +kernel) ⟨Nat.le_of_ble_eq_true rfl, Nat.le_of_ble_eq_true rfl⟩) hA hPD hPO hPM hK_w hS_w rfl hl.1 rfl (Nat.le_of_ble_eq_true rfl) dL_law_411 hcl (fun u2_w H locs_w hq hPD hPO hPM hS_w => ?_)
  obtain ⟨x', hI', hD', hM'⟩ := ag_SK hI hp hq
  rw [hD'] at hPD
  subst hM'
  have hPM : va_P G_w vwCl (wM b_w cI cZ x'.1 x'.2.1 v_w) H := hPM
  refine lv_aload_n hx hb_w dL_law_414 rfl (lv_at hl 3 rfl) ?_
  refine rdr_V (As := []) (rest := []) ⟨hx, hb_w, hml, hown, hts⟩ (kX2_thrown l G_w b_w cI cZ x'.1 x'.2.1 v_w) (cwV 0 hts gL_law_X2_thrown rfl rfl rfl (by decide +kernel) ⟨Nat.le_of_ble_eq_true rfl, Nat.le_of_ble_eq_true rfl⟩) (va_recv hK_w hPM (ci := 2) (q0 := 0) rfl rfl) hPM (hK_w.sub (tys' := tyIZ cI cZ) [0, 1] rfl) rfl hl.1 rfl (Nat.le_of_ble_eq_true rfl) dL_law_415 hcl (fun rt hrt => ?_)
  refine top_eq hrt ?_
  refine lv_iload hx hb_w dL_law_418 (lv_at hl 0 rfl) ?_
  refine lv_icmp_eq (tgt := 425) hx hb_w dL_law_420 (by decide) (fun _ => ?_) (fun hn => absurd rfl hn)
  refine lv_goto (tgt := 1000) hx hb_w dL_law_425 (by decide) ?_
  exact K_w x' u_w.2 v_w _ _ _ hI' hPD hPO hPM hS_w (lv_sub hl [1, 2, 3, 4, 5] rfl)
set_option maxHeartbeats 4000000 in
set_option maxRecDepth 100000 in
theorem cs_5 {p_w : Program} {l : Launch} {e_w : Env} {s_w : State} {m_w : MethodId} {args_w : Array Value} {below : List Frame} {meth_w : Method} {c_w : Code} {Q : State → Prop} {G_w : va_G} {a_w b_w : Nat → Nat} {cI cZ cL : ClassId} {bS L_w : Nat} {xs : Nat → Int32} {i_w : Int32} {ct cells slots : Nat} {x : SD} {fo : Nat → Int64} {t_w : Int32} {H : Heap} {locs_w : List Loc} {ls : Array Slot} (C_w : LX p_w l s_w m_w args_w c_w G_w a_w b_w cI cZ cL bS L_w xs i_w) (K_w : LK p_w l e_w room_1 s_w m_w args_w below meth_w c_w Q G_w a_w b_w cI cZ cL bS i_w ct cells slots) (hct : ct < 512) (hcl : cells + 1 ≤ 1058 ∧ slots + 6 ≤ 10350) (hI : LI ct x) (hPD : va_P G_w vwCl (wfD a_w cI cZ x) H) (hPO : va_P G_w vwCl (wO a_w cL fo) H) (hPM : va_P G_w vwCl (wM b_w cI cZ x.1 x.2.1 t_w) H) (hS_w : va_S (lA s_w.heap.size) s_w.heap H locs_w) (hl : lv_has ls 7 [(0, .ref bS), (1, .ref (a_w 0)), (2, .ref (b_w 0)), (3, .ref (a_w 7)), (4, .int i_w)]) : W p_w l e_w room_1 s_w m_w args_w below meth_w c_w H locs_w cells slots Q (F0 m_w 428 ls []) := by
  obtain ⟨hx, hb_w, hml, hown, hts, hX, hbl, hst, hA, hK_w, ht, hv0, hv1, hv2, hv3, hv4⟩ := C_w
  have hbA : ¬ lA s_w.heap.size bS := Nat.not_le.mpr hbl
  have hcw : cells ≤ 1058 ∧ slots ≤ 10350 := ⟨by omega, by omega⟩
  refine lv_aload_n hx hb_w dL_law_428 rfl (lv_at hl 1 rfl) ?_
  refine law_D (As := []) (rest := []) ⟨hx, hb_w, hml, hown, hts⟩ (kX1_round l G_w a_w cI cZ x.1 x.2.1 x.2.2.1 x.2.2.2 (hA.1.le (by decide)) H.size hI.2.1) (cwV 0 hts gL_law_X1_round rfl rfl rfl (by decide +kernel) ⟨Nat.le_of_ble_eq_true rfl, Nat.le_of_ble_eq_true rfl⟩) hA hPD hPO hPM hK_w hS_w rfl hl.1 rfl (Nat.le_of_ble_eq_true rfl) dL_law_429 hcw (fun r1_w u_w H locs_w h1 hPD hPO hPM hS_w => ?_)
  obtain ⟨h1, hu⟩ := h1
  subst hu
  have hPD : va_P G_w vwCl (wfD a_w cI cZ (x.1, rdF x.1 x.2.1 200, rdc x.1 x.2.1 x.2.2.1 200, x.2.2.2)) H := hPD
  refine lv_aload_n hx hb_w dL_law_432 rfl (lv_at hl 2 rfl) ?_
  refine law_M (x := (x.1, rdF x.1 x.2.1 200, rdc x.1 x.2.1 x.2.2.1 200, x.2.2.2)) (As := []) (rest := [.int r1_w]) ⟨hx, hb_w, hml, hown, hts⟩ (kX2_round l G_w b_w cI cZ x.1 x.2.1 t_w hA.2.1 H.size (inv_NN hI.1)) (cwV 0 hts gL_law_X2_round rfl rfl rfl (by decide +kernel) ⟨Nat.le_of_ble_eq_true rfl, Nat.le_of_ble_eq_true rfl⟩) hA hPD hPO hPM hK_w hS_w rfl hl.1 rfl (Nat.le_of_ble_eq_true rfl) dL_law_433 hcw (fun r2 u2_w H locs_w hq hPD hPO hPM hS_w => ?_)
  obtain ⟨hq1, hq2⟩ := hq
  subst hq2
  have hPM : va_P G_w vwCl (wM b_w cI cZ x.1 (rdF x.1 x.2.1 200) 0) H := hPM
  refine lv_icmp_eq (tgt := 1000) hx hb_w dL_law_436 (by decide) (fun _ => ?_) (fun hn => absurd (by rw [h1, hq1]) hn)
  refine W.widen (k := cells + 1) (n := slots + 6) (by omega) (by omega) ?_
  exact K_w (x.1, rdF x.1 x.2.1 200, rdc x.1 x.2.1 x.2.2.1 200, x.2.2.2) fo 0 _ _ _ (LI_mono (LI_rd (g := x.1) (f := x.2.1) (cd := x.2.2.1) (tc := x.2.2.2) hI) (by omega)) hPD hPO hPM hS_w (lv_sub hl [0, 1, 2, 3, 4] rfl)
set_option maxHeartbeats 4000000 in
set_option maxRecDepth 100000 in
theorem cs_6 {p_w : Program} {l : Launch} {e_w : Env} {s_w : State} {m_w : MethodId} {args_w : Array Value} {below : List Frame} {meth_w : Method} {c_w : Code} {Q : State → Prop} {G_w : va_G} {a_w b_w : Nat → Nat} {cI cZ cL : ClassId} {bS L_w : Nat} {xs : Nat → Int32} {i_w : Int32} {ct cells slots : Nat} {x : SD} {fo : Nat → Int64} {t_w : Int32} {H : Heap} {locs_w : List Loc} {ls : Array Slot} (C_w : LX p_w l s_w m_w args_w c_w G_w a_w b_w cI cZ cL bS L_w xs i_w) (K_w : LK p_w l e_w room_1 s_w m_w args_w below meth_w c_w Q G_w a_w b_w cI cZ cL bS i_w ct cells slots) (hct : ct < 512) (hcl : cells + 1 ≤ 1058 ∧ slots + 6 ≤ 10350) (hI : LI ct x) (hPD : va_P G_w vwCl (wfD a_w cI cZ x) H) (hPO : va_P G_w vwCl (wO a_w cL fo) H) (hPM : va_P G_w vwCl (wM b_w cI cZ x.1 x.2.1 t_w) H) (hS_w : va_S (lA s_w.heap.size) s_w.heap H locs_w) (hl : lv_has ls 7 [(0, .ref bS), (1, .ref (a_w 0)), (2, .ref (b_w 0)), (3, .ref (a_w 7)), (4, .int i_w)]) : W p_w l e_w room_1 s_w m_w args_w below meth_w c_w H locs_w cells slots Q (F0 m_w 441 ls []) := by
  obtain ⟨hx, hb_w, hml, hown, hts, hX, hbl, hst, hA, hK_w, ht, hv0, hv1, hv2, hv3, hv4⟩ := C_w
  have hbA : ¬ lA s_w.heap.size bS := Nat.not_le.mpr hbl
  have hcw : cells ≤ 1058 ∧ slots ≤ 10350 := ⟨by omega, by omega⟩
  refine lv_aload_n hx hb_w dL_law_441 rfl (lv_at hl 1 rfl) ?_
  refine rdr_V (As := []) (rest := []) ⟨hx, hb_w, hml, hown, hts⟩ (kX1_day l G_w a_w cI cZ x.1 x.2.1 x.2.2.1 x.2.2.2 ) (cwV 0 hts gL_law_X1_day rfl rfl rfl (by decide +kernel) ⟨Nat.le_of_ble_eq_true rfl, Nat.le_of_ble_eq_true rfl⟩) (va_recv hK_w hPD (ci := 1) (q0 := 0) rfl rfl) hPD (hK_w.sub (tys' := tyIZ cI cZ) [0, 1] rfl) rfl hl.1 rfl (Nat.le_of_ble_eq_true rfl) dL_law_442 hcw (fun r1_w h1 => ?_)
  refine lv_aload_n hx hb_w dL_law_445 rfl (lv_at hl 2 rfl) ?_
  refine law_M (As := []) (rest := [.int r1_w]) ⟨hx, hb_w, hml, hown, hts⟩ (kX2_day l G_w b_w cI cZ x.1 x.2.1 t_w hA.2.1 H.size ) (cwV 0 hts gL_law_X2_day rfl rfl rfl (by decide +kernel) ⟨Nat.le_of_ble_eq_true rfl, Nat.le_of_ble_eq_true rfl⟩) hA hPD hPO hPM hK_w hS_w rfl hl.1 rfl (Nat.le_of_ble_eq_true rfl) dL_law_446 hcw (fun r2 u2_w H locs_w hq hPD hPO hPM hS_w => ?_)
  obtain ⟨hq1, hq2⟩ := hq
  subst hq2
  have hPM : va_P G_w vwCl (wM b_w cI cZ x.1 x.2.1 0) H := hPM
  refine lv_icmp_eq (tgt := 1000) hx hb_w dL_law_449 (by decide) (fun _ => ?_) (fun hn => absurd (by rw [h1, hq1]) hn)
  refine W.widen (k := cells + 1) (n := slots + 6) (by omega) (by omega) ?_
  exact K_w x fo 0 _ _ _ (LI_mono hI (by omega)) hPD hPO hPM hS_w (lv_sub hl [0, 1, 2, 3, 4] rfl)
set_option maxHeartbeats 4000000 in
set_option maxRecDepth 100000 in
theorem cs_7 {p_w : Program} {l : Launch} {e_w : Env} {s_w : State} {m_w : MethodId} {args_w : Array Value} {below : List Frame} {meth_w : Method} {c_w : Code} {Q : State → Prop} {G_w : va_G} {a_w b_w : Nat → Nat} {cI cZ cL : ClassId} {bS L_w : Nat} {xs : Nat → Int32} {i_w : Int32} {ct cells slots : Nat} {x : SD} {fo : Nat → Int64} {t_w : Int32} {H : Heap} {locs_w : List Loc} {ls : Array Slot} (C_w : LX p_w l s_w m_w args_w c_w G_w a_w b_w cI cZ cL bS L_w xs i_w) (K_w : LK p_w l e_w room_1 s_w m_w args_w below meth_w c_w Q G_w a_w b_w cI cZ cL bS i_w ct cells slots) (hct : ct < 512) (hcl : cells + 1 ≤ 1058 ∧ slots + 6 ≤ 10350) (hI : LI ct x) (hPD : va_P G_w vwCl (wfD a_w cI cZ x) H) (hPO : va_P G_w vwCl (wO a_w cL fo) H) (hPM : va_P G_w vwCl (wM b_w cI cZ x.1 x.2.1 t_w) H) (hS_w : va_S (lA s_w.heap.size) s_w.heap H locs_w) (hl : lv_has ls 7 [(0, .ref bS), (1, .ref (a_w 0)), (2, .ref (b_w 0)), (3, .ref (a_w 7)), (4, .int i_w)]) : W p_w l e_w room_1 s_w m_w args_w below meth_w c_w H locs_w cells slots Q (F0 m_w 454 ls []) := by
  obtain ⟨hx, hb_w, hml, hown, hts, hX, hbl, hst, hA, hK_w, ht, hv0, hv1, hv2, hv3, hv4⟩ := C_w
  have hbA : ¬ lA s_w.heap.size bS := Nat.not_le.mpr hbl
  have hcw : cells ≤ 1058 ∧ slots ≤ 10350 := ⟨by omega, by omega⟩
  refine lv_aload_n hx hb_w dL_law_454 rfl (lv_at hl 1 rfl) ?_
  refine rdr_V (As := []) (rest := []) ⟨hx, hb_w, hml, hown, hts⟩ (kX1_foretold l G_w a_w cI cZ x.1 x.2.1 x.2.2.1 x.2.2.2 ) (cwV 0 hts gL_law_X1_foretold rfl rfl rfl (by decide +kernel) ⟨Nat.le_of_ble_eq_true rfl, Nat.le_of_ble_eq_true rfl⟩) (va_recv hK_w hPD (ci := 1) (q0 := 0) rfl rfl) hPD (hK_w.sub (tys' := tyIZ cI cZ) [0, 1] rfl) rfl hl.1 rfl (Nat.le_of_ble_eq_true rfl) dL_law_455 hcw (fun r1_w h1 => ?_)
  refine lv_aload_n hx hb_w dL_law_458 rfl (lv_at hl 2 rfl) ?_
  refine law_M (As := []) (rest := [.int r1_w]) ⟨hx, hb_w, hml, hown, hts⟩ (kX2_foretold l G_w b_w cI cZ x.1 x.2.1 t_w hA.2.1 H.size ) (cwV 0 hts gL_law_X2_foretold rfl rfl rfl (by decide +kernel) ⟨Nat.le_of_ble_eq_true rfl, Nat.le_of_ble_eq_true rfl⟩) hA hPD hPO hPM hK_w hS_w rfl hl.1 rfl (Nat.le_of_ble_eq_true rfl) dL_law_459 hcw (fun r2 u2_w H locs_w hq hPD hPO hPM hS_w => ?_)
  obtain ⟨hq1, hq2⟩ := hq
  subst hq2
  have hPM : va_P G_w vwCl (wM b_w cI cZ x.1 x.2.1 0) H := hPM
  refine lv_icmp_eq (tgt := 1000) hx hb_w dL_law_462 (by decide) (fun _ => ?_) (fun hn => absurd (by rw [h1, hq1]) hn)
  refine W.widen (k := cells + 1) (n := slots + 6) (by omega) (by omega) ?_
  exact K_w x fo 0 _ _ _ (LI_mono hI (by omega)) hPD hPO hPM hS_w (lv_sub hl [0, 1, 2, 3, 4] rfl)
set_option maxHeartbeats 4000000 in
set_option maxRecDepth 100000 in
theorem cs_8 {p_w : Program} {l : Launch} {e_w : Env} {s_w : State} {m_w : MethodId} {args_w : Array Value} {below : List Frame} {meth_w : Method} {c_w : Code} {Q : State → Prop} {G_w : va_G} {a_w b_w : Nat → Nat} {cI cZ cL : ClassId} {bS L_w : Nat} {xs : Nat → Int32} {i_w : Int32} {ct cells slots : Nat} {x : SD} {fo : Nat → Int64} {t_w : Int32} {H : Heap} {locs_w : List Loc} {ls : Array Slot} (C_w : LX p_w l s_w m_w args_w c_w G_w a_w b_w cI cZ cL bS L_w xs i_w) (K_w : LK p_w l e_w room_1 s_w m_w args_w below meth_w c_w Q G_w a_w b_w cI cZ cL bS i_w ct cells slots) (hct : ct < 512) (hcl : cells + 1 ≤ 1058 ∧ slots + 6 ≤ 10350) (hI : LI ct x) (hPD : va_P G_w vwCl (wfD a_w cI cZ x) H) (hPO : va_P G_w vwCl (wO a_w cL fo) H) (hPM : va_P G_w vwCl (wM b_w cI cZ x.1 x.2.1 t_w) H) (hS_w : va_S (lA s_w.heap.size) s_w.heap H locs_w) (hl : lv_has ls 7 [(0, .ref bS), (1, .ref (a_w 0)), (2, .ref (b_w 0)), (3, .ref (a_w 7)), (4, .int i_w)]) : W p_w l e_w room_1 s_w m_w args_w below meth_w c_w H locs_w cells slots Q (F0 m_w 467 ls []) := by
  obtain ⟨hx, hb_w, hml, hown, hts, hX, hbl, hst, hA, hK_w, ht, hv0, hv1, hv2, hv3, hv4⟩ := C_w
  have hbA : ¬ lA s_w.heap.size bS := Nat.not_le.mpr hbl
  have hcw : cells ≤ 1058 ∧ slots ≤ 10350 := ⟨by omega, by omega⟩
  refine lv_aload_n hx hb_w dL_law_467 rfl (lv_at hl 1 rfl) ?_
  refine rdr_V (As := []) (rest := []) ⟨hx, hb_w, hml, hown, hts⟩ (kX1_shift l G_w a_w cI cZ x.1 x.2.1 x.2.2.1 x.2.2.2 ) (cwV 0 hts gL_law_X1_shift rfl rfl rfl (by decide +kernel) ⟨Nat.le_of_ble_eq_true rfl, Nat.le_of_ble_eq_true rfl⟩) (va_recv hK_w hPD (ci := 1) (q0 := 0) rfl rfl) hPD (hK_w.sub (tys' := tyIZ cI cZ) [0, 1] rfl) rfl hl.1 rfl (Nat.le_of_ble_eq_true rfl) dL_law_468 hcw (fun r1_w h1 => ?_)
  refine lv_aload_n hx hb_w dL_law_471 rfl (lv_at hl 2 rfl) ?_
  refine law_M (As := []) (rest := [.int r1_w]) ⟨hx, hb_w, hml, hown, hts⟩ (kX2_shift l G_w b_w cI cZ x.1 x.2.1 t_w hA.2.1 H.size ) (cwV 0 hts gL_law_X2_shift rfl rfl rfl (by decide +kernel) ⟨Nat.le_of_ble_eq_true rfl, Nat.le_of_ble_eq_true rfl⟩) hA hPD hPO hPM hK_w hS_w rfl hl.1 rfl (Nat.le_of_ble_eq_true rfl) dL_law_472 hcw (fun r2 u2_w H locs_w hq hPD hPO hPM hS_w => ?_)
  obtain ⟨hq1, hq2⟩ := hq
  subst hq2
  have hPM : va_P G_w vwCl (wM b_w cI cZ x.1 x.2.1 0) H := hPM
  refine lv_icmp_eq (tgt := 1000) hx hb_w dL_law_475 (by decide) (fun _ => ?_) (fun hn => absurd (by rw [h1, hq1]) hn)
  refine W.widen (k := cells + 1) (n := slots + 6) (by omega) (by omega) ?_
  exact K_w x fo 0 _ _ _ (LI_mono hI (by omega)) hPD hPO hPM hS_w (lv_sub hl [0, 1, 2, 3, 4] rfl)
set_option maxHeartbeats 4000000 in
set_option maxRecDepth 100000 in
theorem cs_9 {p_w : Program} {l : Launch} {e_w : Env} {s_w : State} {m_w : MethodId} {args_w : Array Value} {below : List Frame} {meth_w : Method} {c_w : Code} {Q : State → Prop} {G_w : va_G} {a_w b_w : Nat → Nat} {cI cZ cL : ClassId} {bS L_w : Nat} {xs : Nat → Int32} {i_w : Int32} {ct cells slots : Nat} {x : SD} {fo : Nat → Int64} {t_w : Int32} {H : Heap} {locs_w : List Loc} {ls : Array Slot} (C_w : LX p_w l s_w m_w args_w c_w G_w a_w b_w cI cZ cL bS L_w xs i_w) (K_w : LK p_w l e_w room_1 s_w m_w args_w below meth_w c_w Q G_w a_w b_w cI cZ cL bS i_w ct cells slots) (hct : ct < 512) (hcl : cells + 1 ≤ 1058 ∧ slots + 6 ≤ 10350) (hI : LI ct x) (hPD : va_P G_w vwCl (wfD a_w cI cZ x) H) (hPO : va_P G_w vwCl (wO a_w cL fo) H) (hPM : va_P G_w vwCl (wM b_w cI cZ x.1 x.2.1 t_w) H) (hS_w : va_S (lA s_w.heap.size) s_w.heap H locs_w) (hl : lv_has ls 7 [(0, .ref bS), (1, .ref (a_w 0)), (2, .ref (b_w 0)), (3, .ref (a_w 7)), (4, .int i_w)]) : W p_w l e_w room_1 s_w m_w args_w below meth_w c_w H locs_w cells slots Q (F0 m_w 480 ls []) := by
  obtain ⟨hx, hb_w, hml, hown, hts, hX, hbl, hst, hA, hK_w, ht, hv0, hv1, hv2, hv3, hv4⟩ := C_w
  have hbA : ¬ lA s_w.heap.size bS := Nat.not_le.mpr hbl
  have hcw : cells ≤ 1058 ∧ slots ≤ 10350 := ⟨by omega, by omega⟩
  refine lv_aload_n hx hb_w dL_law_480 rfl (lv_at hl 1 rfl) ?_
  refine lv_aload_n hx hb_w dL_law_481 rfl (lv_at hl 0 rfl) ?_
  refine lv_iload hx hb_w dL_law_482 (lv_at hl 4 rfl) ?_
  refine lv_iconst (v := 1) hx hb_w dL_law_484 (by decide) ?_
  refine lv_iadd hx hb_w dL_law_485 ?_
  refine va_sld hx hb_w hX hbl hbA hS_w hv1 dL_law_486 ?_
  refine lv_aload_n hx hb_w dL_law_487 rfl (lv_at hl 3 rfl) ?_
  refine law_S (As := [.ref (a_w 0), .int (xs (i_w + 1).toNatClampNeg), .ref (a_w 7)]) (rest := []) ⟨hx, hb_w, hml, hown, hts⟩ (kL_dayOf l hst G_w a_w cI cZ cL x fo hA.1 H.size (xs (i_w + 1).toNatClampNeg)) (vx_cwSW 3 hts gL_law_L_dayOf rfl rfl rfl (by decide +kernel) ⟨Nat.le_of_ble_eq_true rfl, Nat.le_of_ble_eq_true rfl⟩) hA hPD hPO hPM hK_w ht hS_w rfl hl.1 rfl (Nat.le_of_ble_eq_true rfl) dL_law_488 hcl (fun v_w u_w H locs_w hp hPD hPO hPM hS_w => ?_)
  refine lv_istore (lv' := [(5, .int v_w), (0, .ref bS), (1, .ref (a_w 0)), (2, .ref (b_w 0)), (3, .ref (a_w 7)), (4, .int i_w)]) hx hb_w dL_law_491 hl (by decide) rfl (fun ls hl => ?_)
  refine lv_aload_n hx hb_w dL_law_493 rfl (lv_at hl 3 rfl) ?_
  refine lv_aload_n hx hb_w dL_law_494 rfl (lv_at hl 1 rfl) ?_
  refine lv_iload hx hb_w dL_law_495 (lv_at hl 5 rfl) ?_
  refine lv_iconst (v := 1) hx hb_w dL_law_497 (by decide) ?_
  refine lv_iadd hx hb_w dL_law_498 ?_
  refine va_sld hx hb_w hX hbl hbA hS_w hv1 dL_law_499 ?_
  refine law_M (As := [.int (xs (i_w + 1).toNatClampNeg)]) (rest := []) ⟨hx, hb_w, hml, hown, hts⟩ (kX2_dayOf l G_w b_w cI cZ x.1 x.2.1 t_w hA.2.1 H.size (xs (i_w + 1).toNatClampNeg) (inv_NN hI.1)) (cwV 1 hts gL_law_X2_dayOf rfl rfl rfl (by decide +kernel) ⟨Nat.le_of_ble_eq_true rfl, Nat.le_of_ble_eq_true rfl⟩) hA hPD hPO hPM hK_w hS_w rfl hl.1 rfl (Nat.le_of_ble_eq_true rfl) dL_law_500 hcl (fun r2 u2_w H locs_w hq hPD hPO hPM hS_w => ?_)
  obtain ⟨x', hI', hD', hM', hv'⟩ := ag_AK hI hp hq
  rw [hD'] at hPD
  subst hM'
  have hPM : va_P G_w vwCl (wM b_w cI cZ x'.1 x'.2.1 v_w) H := hPM
  refine lv_istore (lv' := [(6, .int r2), (5, .int v_w), (0, .ref bS), (1, .ref (a_w 0)), (2, .ref (b_w 0)), (3, .ref (a_w 7)), (4, .int i_w)]) hx hb_w dL_law_503 hl (by decide) rfl (fun ls hl => ?_)
  refine lv_aload_n hx hb_w dL_law_505 rfl (lv_at hl 4 rfl) ?_
  refine rdr_V (As := []) (rest := []) ⟨hx, hb_w, hml, hown, hts⟩ (kX2_thrown l G_w b_w cI cZ x'.1 x'.2.1 v_w) (cwV 0 hts gL_law_X2_thrown rfl rfl rfl (by decide +kernel) ⟨Nat.le_of_ble_eq_true rfl, Nat.le_of_ble_eq_true rfl⟩) (va_recv hK_w hPM (ci := 2) (q0 := 0) rfl rfl) hPM (hK_w.sub (tys' := tyIZ cI cZ) [0, 1] rfl) rfl hl.1 rfl (Nat.le_of_ble_eq_true rfl) dL_law_506 hcl (fun rt hrt => ?_)
  refine top_eq hrt ?_
  refine lv_iload hx hb_w dL_law_509 (lv_at hl 1 rfl) ?_
  refine lv_icmp_eq (tgt := 516) hx hb_w dL_law_511 (by decide) (fun _ => ?_) (fun hn => absurd rfl hn)
  refine lv_iload hx hb_w dL_law_516 (lv_at hl 1 rfl) ?_
  refine lv_if_ne (tgt := 533) hx hb_w dL_law_518 (by decide) (fun h0 => ?_) (fun h0 => ?_)
  · refine lv_goto (tgt := 1000) hx hb_w dL_law_533 (by decide) ?_
    exact K_w x' u_w.2 v_w _ _ _ hI' hPD hPO hPM hS_w (lv_sub hl [2, 3, 4, 5, 6] rfl)
  · refine lv_aload_n hx hb_w dL_law_521 rfl (lv_at hl 5 rfl) ?_
    refine lv_iconst (v := 0) hx hb_w dL_law_522 (by decide) ?_
    refine va_lald hx hb_w hK_w hPO (q0 := 0) (t0 := 2) rfl rfl (by unfold vp_in; decide) dL_law_523 ?_
    refine lv_iload hx hb_w dL_law_524 (lv_at hl 0 rfl) ?_
    refine lv_i2l hx hb_w dL_law_526 rfl ?_
    refine W.lcmp hx hb_w dL_law_527 ?_
    refine top_eq (z := 0) (by rw [show u_w.2 (0 : Int32).toNatClampNeg = r2.toInt64 from hv' h0]; exact lg_self _) ?_
    refine lv_if_eq (tgt := 533) hx hb_w dL_law_528 (by decide) (fun _ => ?_) (fun hn => absurd rfl hn)
    refine lv_goto (tgt := 1000) hx hb_w dL_law_533 (by decide) ?_
    exact K_w x' u_w.2 v_w _ _ _ hI' hPD hPO hPM hS_w (lv_sub hl [2, 3, 4, 5, 6] rfl)
set_option maxHeartbeats 4000000 in
set_option maxRecDepth 100000 in
theorem cs_10 {p_w : Program} {l : Launch} {e_w : Env} {s_w : State} {m_w : MethodId} {args_w : Array Value} {below : List Frame} {meth_w : Method} {c_w : Code} {Q : State → Prop} {G_w : va_G} {a_w b_w : Nat → Nat} {cI cZ cL : ClassId} {bS L_w : Nat} {xs : Nat → Int32} {i_w : Int32} {ct cells slots : Nat} {x : SD} {fo : Nat → Int64} {t_w : Int32} {H : Heap} {locs_w : List Loc} {ls : Array Slot} (C_w : LX p_w l s_w m_w args_w c_w G_w a_w b_w cI cZ cL bS L_w xs i_w) (K_w : LK p_w l e_w room_1 s_w m_w args_w below meth_w c_w Q G_w a_w b_w cI cZ cL bS i_w ct cells slots) (hct : ct < 512) (hcl : cells + 1 ≤ 1058 ∧ slots + 6 ≤ 10350) (hI : LI ct x) (hPD : va_P G_w vwCl (wfD a_w cI cZ x) H) (hPO : va_P G_w vwCl (wO a_w cL fo) H) (hPM : va_P G_w vwCl (wM b_w cI cZ x.1 x.2.1 t_w) H) (hS_w : va_S (lA s_w.heap.size) s_w.heap H locs_w) (hl : lv_has ls 7 [(0, .ref bS), (1, .ref (a_w 0)), (2, .ref (b_w 0)), (3, .ref (a_w 7)), (4, .int i_w)]) : W p_w l e_w room_1 s_w m_w args_w below meth_w c_w H locs_w cells slots Q (F0 m_w 536 ls []) := by
  obtain ⟨hx, hb_w, hml, hown, hts, hX, hbl, hst, hA, hK_w, ht, hv0, hv1, hv2, hv3, hv4⟩ := C_w
  have hbA : ¬ lA s_w.heap.size bS := Nat.not_le.mpr hbl
  have hcw : cells ≤ 1058 ∧ slots ≤ 10350 := ⟨by omega, by omega⟩
  refine lv_aload_n hx hb_w dL_law_536 rfl (lv_at hl 1 rfl) ?_
  refine lv_aload_n hx hb_w dL_law_537 rfl (lv_at hl 0 rfl) ?_
  refine lv_iload hx hb_w dL_law_538 (lv_at hl 4 rfl) ?_
  refine lv_iconst (v := 1) hx hb_w dL_law_540 (by decide) ?_
  refine lv_iadd hx hb_w dL_law_541 ?_
  refine va_sld hx hb_w hX hbl hbA hS_w hv1 dL_law_542 ?_
  refine lv_aload_n hx hb_w dL_law_543 rfl (lv_at hl 3 rfl) ?_
  refine law_S (As := [.ref (a_w 0), .int (xs (i_w + 1).toNatClampNeg), .ref (a_w 7)]) (rest := []) ⟨hx, hb_w, hml, hown, hts⟩ (kL_stateOf l hst G_w a_w cI cZ cL x fo hA.1 H.size (xs (i_w + 1).toNatClampNeg)) (vx_cwSW 3 hts gL_law_L_stateOf rfl rfl rfl (by decide +kernel) ⟨Nat.le_of_ble_eq_true rfl, Nat.le_of_ble_eq_true rfl⟩) hA hPD hPO hPM hK_w ht hS_w rfl hl.1 rfl (Nat.le_of_ble_eq_true rfl) dL_law_544 hcl (fun v_w u_w H locs_w hp hPD hPO hPM hS_w => ?_)
  refine lv_istore (lv' := [(5, .int v_w), (0, .ref bS), (1, .ref (a_w 0)), (2, .ref (b_w 0)), (3, .ref (a_w 7)), (4, .int i_w)]) hx hb_w dL_law_547 hl (by decide) rfl (fun ls hl => ?_)
  refine lv_aload_n hx hb_w dL_law_549 rfl (lv_at hl 3 rfl) ?_
  refine lv_aload_n hx hb_w dL_law_550 rfl (lv_at hl 1 rfl) ?_
  refine lv_iload hx hb_w dL_law_551 (lv_at hl 5 rfl) ?_
  refine lv_iconst (v := 1) hx hb_w dL_law_553 (by decide) ?_
  refine lv_iadd hx hb_w dL_law_554 ?_
  refine va_sld hx hb_w hX hbl hbA hS_w hv1 dL_law_555 ?_
  refine law_M (As := [.int (xs (i_w + 1).toNatClampNeg)]) (rest := []) ⟨hx, hb_w, hml, hown, hts⟩ (kX2_stateOf l G_w b_w cI cZ x.1 x.2.1 t_w hA.2.1 H.size (xs (i_w + 1).toNatClampNeg) (inv_NN hI.1)) (cwV 1 hts gL_law_X2_stateOf rfl rfl rfl (by decide +kernel) ⟨Nat.le_of_ble_eq_true rfl, Nat.le_of_ble_eq_true rfl⟩) hA hPD hPO hPM hK_w hS_w rfl hl.1 rfl (Nat.le_of_ble_eq_true rfl) dL_law_556 hcl (fun r2 u2_w H locs_w hq hPD hPO hPM hS_w => ?_)
  obtain ⟨x', hI', hD', hM', hv'⟩ := ag_AK hI hp hq
  rw [hD'] at hPD
  subst hM'
  have hPM : va_P G_w vwCl (wM b_w cI cZ x'.1 x'.2.1 v_w) H := hPM
  refine lv_istore (lv' := [(6, .int r2), (5, .int v_w), (0, .ref bS), (1, .ref (a_w 0)), (2, .ref (b_w 0)), (3, .ref (a_w 7)), (4, .int i_w)]) hx hb_w dL_law_559 hl (by decide) rfl (fun ls hl => ?_)
  refine lv_aload_n hx hb_w dL_law_561 rfl (lv_at hl 4 rfl) ?_
  refine rdr_V (As := []) (rest := []) ⟨hx, hb_w, hml, hown, hts⟩ (kX2_thrown l G_w b_w cI cZ x'.1 x'.2.1 v_w) (cwV 0 hts gL_law_X2_thrown rfl rfl rfl (by decide +kernel) ⟨Nat.le_of_ble_eq_true rfl, Nat.le_of_ble_eq_true rfl⟩) (va_recv hK_w hPM (ci := 2) (q0 := 0) rfl rfl) hPM (hK_w.sub (tys' := tyIZ cI cZ) [0, 1] rfl) rfl hl.1 rfl (Nat.le_of_ble_eq_true rfl) dL_law_562 hcl (fun rt hrt => ?_)
  refine top_eq hrt ?_
  refine lv_iload hx hb_w dL_law_565 (lv_at hl 1 rfl) ?_
  refine lv_icmp_eq (tgt := 572) hx hb_w dL_law_567 (by decide) (fun _ => ?_) (fun hn => absurd rfl hn)
  refine lv_iload hx hb_w dL_law_572 (lv_at hl 1 rfl) ?_
  refine lv_if_ne (tgt := 589) hx hb_w dL_law_574 (by decide) (fun h0 => ?_) (fun h0 => ?_)
  · refine lv_goto (tgt := 1000) hx hb_w dL_law_589 (by decide) ?_
    exact K_w x' u_w.2 v_w _ _ _ hI' hPD hPO hPM hS_w (lv_sub hl [2, 3, 4, 5, 6] rfl)
  · refine lv_aload_n hx hb_w dL_law_577 rfl (lv_at hl 5 rfl) ?_
    refine lv_iconst (v := 0) hx hb_w dL_law_578 (by decide) ?_
    refine va_lald hx hb_w hK_w hPO (q0 := 0) (t0 := 2) rfl rfl (by unfold vp_in; decide) dL_law_579 ?_
    refine lv_iload hx hb_w dL_law_580 (lv_at hl 0 rfl) ?_
    refine lv_i2l hx hb_w dL_law_582 rfl ?_
    refine W.lcmp hx hb_w dL_law_583 ?_
    refine top_eq (z := 0) (by rw [show u_w.2 (0 : Int32).toNatClampNeg = r2.toInt64 from hv' h0]; exact lg_self _) ?_
    refine lv_if_eq (tgt := 589) hx hb_w dL_law_584 (by decide) (fun _ => ?_) (fun hn => absurd rfl hn)
    refine lv_goto (tgt := 1000) hx hb_w dL_law_589 (by decide) ?_
    exact K_w x' u_w.2 v_w _ _ _ hI' hPD hPO hPM hS_w (lv_sub hl [2, 3, 4, 5, 6] rfl)
set_option maxHeartbeats 4000000 in
set_option maxRecDepth 100000 in
theorem cs_11 {p_w : Program} {l : Launch} {e_w : Env} {s_w : State} {m_w : MethodId} {args_w : Array Value} {below : List Frame} {meth_w : Method} {c_w : Code} {Q : State → Prop} {G_w : va_G} {a_w b_w : Nat → Nat} {cI cZ cL : ClassId} {bS L_w : Nat} {xs : Nat → Int32} {i_w : Int32} {ct cells slots : Nat} {x : SD} {fo : Nat → Int64} {t_w : Int32} {H : Heap} {locs_w : List Loc} {ls : Array Slot} (C_w : LX p_w l s_w m_w args_w c_w G_w a_w b_w cI cZ cL bS L_w xs i_w) (K_w : LK p_w l e_w room_1 s_w m_w args_w below meth_w c_w Q G_w a_w b_w cI cZ cL bS i_w ct cells slots) (hct : ct < 512) (hcl : cells + 1 ≤ 1058 ∧ slots + 6 ≤ 10350) (hI : LI ct x) (hPD : va_P G_w vwCl (wfD a_w cI cZ x) H) (hPO : va_P G_w vwCl (wO a_w cL fo) H) (hPM : va_P G_w vwCl (wM b_w cI cZ x.1 x.2.1 t_w) H) (hS_w : va_S (lA s_w.heap.size) s_w.heap H locs_w) (hl : lv_has ls 7 [(0, .ref bS), (1, .ref (a_w 0)), (2, .ref (b_w 0)), (3, .ref (a_w 7)), (4, .int i_w)]) : W p_w l e_w room_1 s_w m_w args_w below meth_w c_w H locs_w cells slots Q (F0 m_w 592 ls []) := by
  obtain ⟨hx, hb_w, hml, hown, hts, hX, hbl, hst, hA, hK_w, ht, hv0, hv1, hv2, hv3, hv4⟩ := C_w
  have hbA : ¬ lA s_w.heap.size bS := Nat.not_le.mpr hbl
  have hcw : cells ≤ 1058 ∧ slots ≤ 10350 := ⟨by omega, by omega⟩
  refine lv_aload_n hx hb_w dL_law_592 rfl (lv_at hl 1 rfl) ?_
  refine lv_aload_n hx hb_w dL_law_593 rfl (lv_at hl 0 rfl) ?_
  refine lv_iload hx hb_w dL_law_594 (lv_at hl 4 rfl) ?_
  refine lv_iconst (v := 1) hx hb_w dL_law_596 (by decide) ?_
  refine lv_iadd hx hb_w dL_law_597 ?_
  refine va_sld hx hb_w hX hbl hbA hS_w hv1 dL_law_598 ?_
  refine lv_aload_n hx hb_w dL_law_599 rfl (lv_at hl 3 rfl) ?_
  refine law_S (As := [.ref (a_w 0), .int (xs (i_w + 1).toNatClampNeg), .ref (a_w 7)]) (rest := []) ⟨hx, hb_w, hml, hown, hts⟩ (kL_claimsOf l hst G_w a_w cI cZ cL x fo hA.1 H.size (xs (i_w + 1).toNatClampNeg)) (vx_cwSW 3 hts gL_law_L_claimsOf rfl rfl rfl (by decide +kernel) ⟨Nat.le_of_ble_eq_true rfl, Nat.le_of_ble_eq_true rfl⟩) hA hPD hPO hPM hK_w ht hS_w rfl hl.1 rfl (Nat.le_of_ble_eq_true rfl) dL_law_600 hcl (fun v_w u_w H locs_w hp hPD hPO hPM hS_w => ?_)
  refine lv_istore (lv' := [(5, .int v_w), (0, .ref bS), (1, .ref (a_w 0)), (2, .ref (b_w 0)), (3, .ref (a_w 7)), (4, .int i_w)]) hx hb_w dL_law_603 hl (by decide) rfl (fun ls hl => ?_)
  refine lv_aload_n hx hb_w dL_law_605 rfl (lv_at hl 3 rfl) ?_
  refine lv_aload_n hx hb_w dL_law_606 rfl (lv_at hl 1 rfl) ?_
  refine lv_iload hx hb_w dL_law_607 (lv_at hl 5 rfl) ?_
  refine lv_iconst (v := 1) hx hb_w dL_law_609 (by decide) ?_
  refine lv_iadd hx hb_w dL_law_610 ?_
  refine va_sld hx hb_w hX hbl hbA hS_w hv1 dL_law_611 ?_
  refine law_M (As := [.int (xs (i_w + 1).toNatClampNeg)]) (rest := []) ⟨hx, hb_w, hml, hown, hts⟩ (kX2_claimsOf l G_w b_w cI cZ x.1 x.2.1 t_w hA.2.1 H.size (xs (i_w + 1).toNatClampNeg) (inv_NN hI.1)) (cwV 1 hts gL_law_X2_claimsOf rfl rfl rfl (by decide +kernel) ⟨Nat.le_of_ble_eq_true rfl, Nat.le_of_ble_eq_true rfl⟩) hA hPD hPO hPM hK_w hS_w rfl hl.1 rfl (Nat.le_of_ble_eq_true rfl) dL_law_612 hcl (fun r2 u2_w H locs_w hq hPD hPO hPM hS_w => ?_)
  obtain ⟨x', hI', hD', hM', hv'⟩ := ag_AK hI hp hq
  rw [hD'] at hPD
  subst hM'
  have hPM : va_P G_w vwCl (wM b_w cI cZ x'.1 x'.2.1 v_w) H := hPM
  refine lv_istore (lv' := [(6, .int r2), (5, .int v_w), (0, .ref bS), (1, .ref (a_w 0)), (2, .ref (b_w 0)), (3, .ref (a_w 7)), (4, .int i_w)]) hx hb_w dL_law_615 hl (by decide) rfl (fun ls hl => ?_)
  refine lv_aload_n hx hb_w dL_law_617 rfl (lv_at hl 4 rfl) ?_
  refine rdr_V (As := []) (rest := []) ⟨hx, hb_w, hml, hown, hts⟩ (kX2_thrown l G_w b_w cI cZ x'.1 x'.2.1 v_w) (cwV 0 hts gL_law_X2_thrown rfl rfl rfl (by decide +kernel) ⟨Nat.le_of_ble_eq_true rfl, Nat.le_of_ble_eq_true rfl⟩) (va_recv hK_w hPM (ci := 2) (q0 := 0) rfl rfl) hPM (hK_w.sub (tys' := tyIZ cI cZ) [0, 1] rfl) rfl hl.1 rfl (Nat.le_of_ble_eq_true rfl) dL_law_618 hcl (fun rt hrt => ?_)
  refine top_eq hrt ?_
  refine lv_iload hx hb_w dL_law_621 (lv_at hl 1 rfl) ?_
  refine lv_icmp_eq (tgt := 628) hx hb_w dL_law_623 (by decide) (fun _ => ?_) (fun hn => absurd rfl hn)
  refine lv_iload hx hb_w dL_law_628 (lv_at hl 1 rfl) ?_
  refine lv_if_ne (tgt := 645) hx hb_w dL_law_630 (by decide) (fun h0 => ?_) (fun h0 => ?_)
  · refine lv_goto (tgt := 1000) hx hb_w dL_law_645 (by decide) ?_
    exact K_w x' u_w.2 v_w _ _ _ hI' hPD hPO hPM hS_w (lv_sub hl [2, 3, 4, 5, 6] rfl)
  · refine lv_aload_n hx hb_w dL_law_633 rfl (lv_at hl 5 rfl) ?_
    refine lv_iconst (v := 0) hx hb_w dL_law_634 (by decide) ?_
    refine va_lald hx hb_w hK_w hPO (q0 := 0) (t0 := 2) rfl rfl (by unfold vp_in; decide) dL_law_635 ?_
    refine lv_iload hx hb_w dL_law_636 (lv_at hl 0 rfl) ?_
    refine lv_i2l hx hb_w dL_law_638 rfl ?_
    refine W.lcmp hx hb_w dL_law_639 ?_
    refine top_eq (z := 0) (by rw [show u_w.2 (0 : Int32).toNatClampNeg = r2.toInt64 from hv' h0]; exact lg_self _) ?_
    refine lv_if_eq (tgt := 645) hx hb_w dL_law_640 (by decide) (fun _ => ?_) (fun hn => absurd rfl hn)
    refine lv_goto (tgt := 1000) hx hb_w dL_law_645 (by decide) ?_
    exact K_w x' u_w.2 v_w _ _ _ hI' hPD hPO hPM hS_w (lv_sub hl [2, 3, 4, 5, 6] rfl)
set_option maxHeartbeats 4000000 in
set_option maxRecDepth 100000 in
theorem cs_12 {p_w : Program} {l : Launch} {e_w : Env} {s_w : State} {m_w : MethodId} {args_w : Array Value} {below : List Frame} {meth_w : Method} {c_w : Code} {Q : State → Prop} {G_w : va_G} {a_w b_w : Nat → Nat} {cI cZ cL : ClassId} {bS L_w : Nat} {xs : Nat → Int32} {i_w : Int32} {ct cells slots : Nat} {x : SD} {fo : Nat → Int64} {t_w : Int32} {H : Heap} {locs_w : List Loc} {ls : Array Slot} (C_w : LX p_w l s_w m_w args_w c_w G_w a_w b_w cI cZ cL bS L_w xs i_w) (K_w : LK p_w l e_w room_1 s_w m_w args_w below meth_w c_w Q G_w a_w b_w cI cZ cL bS i_w ct cells slots) (hct : ct < 512) (hcl : cells + 1 ≤ 1058 ∧ slots + 6 ≤ 10350) (hI : LI ct x) (hPD : va_P G_w vwCl (wfD a_w cI cZ x) H) (hPO : va_P G_w vwCl (wO a_w cL fo) H) (hPM : va_P G_w vwCl (wM b_w cI cZ x.1 x.2.1 t_w) H) (hS_w : va_S (lA s_w.heap.size) s_w.heap H locs_w) (hl : lv_has ls 7 [(0, .ref bS), (1, .ref (a_w 0)), (2, .ref (b_w 0)), (3, .ref (a_w 7)), (4, .int i_w)]) : W p_w l e_w room_1 s_w m_w args_w below meth_w c_w H locs_w cells slots Q (F0 m_w 648 ls []) := by
  obtain ⟨hx, hb_w, hml, hown, hts, hX, hbl, hst, hA, hK_w, ht, hv0, hv1, hv2, hv3, hv4⟩ := C_w
  have hbA : ¬ lA s_w.heap.size bS := Nat.not_le.mpr hbl
  have hcw : cells ≤ 1058 ∧ slots ≤ 10350 := ⟨by omega, by omega⟩
  refine lv_aload_n hx hb_w dL_law_648 rfl (lv_at hl 1 rfl) ?_
  refine lv_aload_n hx hb_w dL_law_649 rfl (lv_at hl 0 rfl) ?_
  refine lv_iload hx hb_w dL_law_650 (lv_at hl 4 rfl) ?_
  refine lv_iconst (v := 1) hx hb_w dL_law_652 (by decide) ?_
  refine lv_iadd hx hb_w dL_law_653 ?_
  refine va_sld hx hb_w hX hbl hbA hS_w hv1 dL_law_654 ?_
  refine lv_aload_n hx hb_w dL_law_655 rfl (lv_at hl 3 rfl) ?_
  refine law_S (As := [.ref (a_w 0), .int (xs (i_w + 1).toNatClampNeg), .ref (a_w 7)]) (rest := []) ⟨hx, hb_w, hml, hown, hts⟩ (kL_labelOf l hst G_w a_w cI cZ cL x fo hA.1 H.size (xs (i_w + 1).toNatClampNeg)) (vx_cwSW 3 hts gL_law_L_labelOf rfl rfl rfl (by decide +kernel) ⟨Nat.le_of_ble_eq_true rfl, Nat.le_of_ble_eq_true rfl⟩) hA hPD hPO hPM hK_w ht hS_w rfl hl.1 rfl (Nat.le_of_ble_eq_true rfl) dL_law_656 hcl (fun v_w u_w H locs_w hp hPD hPO hPM hS_w => ?_)
  refine lv_istore (lv' := [(5, .int v_w), (0, .ref bS), (1, .ref (a_w 0)), (2, .ref (b_w 0)), (3, .ref (a_w 7)), (4, .int i_w)]) hx hb_w dL_law_659 hl (by decide) rfl (fun ls hl => ?_)
  refine lv_aload_n hx hb_w dL_law_661 rfl (lv_at hl 3 rfl) ?_
  refine lv_aload_n hx hb_w dL_law_662 rfl (lv_at hl 1 rfl) ?_
  refine lv_iload hx hb_w dL_law_663 (lv_at hl 5 rfl) ?_
  refine lv_iconst (v := 1) hx hb_w dL_law_665 (by decide) ?_
  refine lv_iadd hx hb_w dL_law_666 ?_
  refine va_sld hx hb_w hX hbl hbA hS_w hv1 dL_law_667 ?_
  refine law_M (As := [.int (xs (i_w + 1).toNatClampNeg)]) (rest := []) ⟨hx, hb_w, hml, hown, hts⟩ (kX2_labelOf l G_w b_w cI cZ x.1 x.2.1 t_w hA.2.1 H.size (xs (i_w + 1).toNatClampNeg) (inv_pat hI.1)) (cwV 1 hts gL_law_X2_labelOf rfl rfl rfl (by decide +kernel) ⟨Nat.le_of_ble_eq_true rfl, Nat.le_of_ble_eq_true rfl⟩) hA hPD hPO hPM hK_w hS_w rfl hl.1 rfl (Nat.le_of_ble_eq_true rfl) dL_law_668 hcl (fun r2 u2_w H locs_w hq hPD hPO hPM hS_w => ?_)
  obtain ⟨x', hI', hD', hM', hv'⟩ := ag_LB hI hp hq
  rw [hD'] at hPD
  subst hM'
  have hPM : va_P G_w vwCl (wM b_w cI cZ x'.1 x'.2.1 v_w) H := hPM
  refine lv_istore (lv' := [(6, .int r2), (5, .int v_w), (0, .ref bS), (1, .ref (a_w 0)), (2, .ref (b_w 0)), (3, .ref (a_w 7)), (4, .int i_w)]) hx hb_w dL_law_671 hl (by decide) rfl (fun ls hl => ?_)
  refine lv_aload_n hx hb_w dL_law_673 rfl (lv_at hl 4 rfl) ?_
  refine rdr_V (As := []) (rest := []) ⟨hx, hb_w, hml, hown, hts⟩ (kX2_thrown l G_w b_w cI cZ x'.1 x'.2.1 v_w) (cwV 0 hts gL_law_X2_thrown rfl rfl rfl (by decide +kernel) ⟨Nat.le_of_ble_eq_true rfl, Nat.le_of_ble_eq_true rfl⟩) (va_recv hK_w hPM (ci := 2) (q0 := 0) rfl rfl) hPM (hK_w.sub (tys' := tyIZ cI cZ) [0, 1] rfl) rfl hl.1 rfl (Nat.le_of_ble_eq_true rfl) dL_law_674 hcl (fun rt hrt => ?_)
  refine top_eq hrt ?_
  refine lv_iload hx hb_w dL_law_677 (lv_at hl 1 rfl) ?_
  refine lv_icmp_eq (tgt := 684) hx hb_w dL_law_679 (by decide) (fun _ => ?_) (fun hn => absurd rfl hn)
  refine lv_iload hx hb_w dL_law_684 (lv_at hl 1 rfl) ?_
  refine lv_if_ne (tgt := 701) hx hb_w dL_law_686 (by decide) (fun h0 => ?_) (fun h0 => ?_)
  · refine lv_goto (tgt := 1000) hx hb_w dL_law_701 (by decide) ?_
    exact K_w x' u_w.2 v_w _ _ _ hI' hPD hPO hPM hS_w (lv_sub hl [2, 3, 4, 5, 6] rfl)
  · refine lv_aload_n hx hb_w dL_law_689 rfl (lv_at hl 5 rfl) ?_
    refine lv_iconst (v := 0) hx hb_w dL_law_690 (by decide) ?_
    refine va_lald hx hb_w hK_w hPO (q0 := 0) (t0 := 2) rfl rfl (by unfold vp_in; decide) dL_law_691 ?_
    refine lv_iload hx hb_w dL_law_692 (lv_at hl 0 rfl) ?_
    refine lv_i2l hx hb_w dL_law_694 rfl ?_
    refine W.lcmp hx hb_w dL_law_695 ?_
    refine top_eq (z := 0) (by rw [show u_w.2 (0 : Int32).toNatClampNeg = r2.toInt64 from hv' h0]; exact lg_self _) ?_
    refine lv_if_eq (tgt := 701) hx hb_w dL_law_696 (by decide) (fun _ => ?_) (fun hn => absurd rfl hn)
    refine lv_goto (tgt := 1000) hx hb_w dL_law_701 (by decide) ?_
    exact K_w x' u_w.2 v_w _ _ _ hI' hPD hPO hPM hS_w (lv_sub hl [2, 3, 4, 5, 6] rfl)
set_option maxHeartbeats 4000000 in
set_option maxRecDepth 100000 in
theorem cs_13 {p_w : Program} {l : Launch} {e_w : Env} {s_w : State} {m_w : MethodId} {args_w : Array Value} {below : List Frame} {meth_w : Method} {c_w : Code} {Q : State → Prop} {G_w : va_G} {a_w b_w : Nat → Nat} {cI cZ cL : ClassId} {bS L_w : Nat} {xs : Nat → Int32} {i_w : Int32} {ct cells slots : Nat} {x : SD} {fo : Nat → Int64} {t_w : Int32} {H : Heap} {locs_w : List Loc} {ls : Array Slot} (C_w : LX p_w l s_w m_w args_w c_w G_w a_w b_w cI cZ cL bS L_w xs i_w) (K_w : LK p_w l e_w room_1 s_w m_w args_w below meth_w c_w Q G_w a_w b_w cI cZ cL bS i_w ct cells slots) (hct : ct < 512) (hcl : cells + 1 ≤ 1058 ∧ slots + 6 ≤ 10350) (hI : LI ct x) (hPD : va_P G_w vwCl (wfD a_w cI cZ x) H) (hPO : va_P G_w vwCl (wO a_w cL fo) H) (hPM : va_P G_w vwCl (wM b_w cI cZ x.1 x.2.1 t_w) H) (hS_w : va_S (lA s_w.heap.size) s_w.heap H locs_w) (hl : lv_has ls 7 [(0, .ref bS), (1, .ref (a_w 0)), (2, .ref (b_w 0)), (3, .ref (a_w 7)), (4, .int i_w)]) : W p_w l e_w room_1 s_w m_w args_w below meth_w c_w H locs_w cells slots Q (F0 m_w 704 ls []) := by
  obtain ⟨hx, hb_w, hml, hown, hts, hX, hbl, hst, hA, hK_w, ht, hv0, hv1, hv2, hv3, hv4⟩ := C_w
  have hbA : ¬ lA s_w.heap.size bS := Nat.not_le.mpr hbl
  have hcw : cells ≤ 1058 ∧ slots ≤ 10350 := ⟨by omega, by omega⟩
  refine lv_aload_n hx hb_w dL_law_704 rfl (lv_at hl 1 rfl) ?_
  refine lv_aload_n hx hb_w dL_law_705 rfl (lv_at hl 0 rfl) ?_
  refine lv_iload hx hb_w dL_law_706 (lv_at hl 4 rfl) ?_
  refine lv_iconst (v := 1) hx hb_w dL_law_708 (by decide) ?_
  refine lv_iadd hx hb_w dL_law_709 ?_
  refine va_sld hx hb_w hX hbl hbA hS_w hv1 dL_law_710 ?_
  refine lv_aload_n hx hb_w dL_law_711 rfl (lv_at hl 0 rfl) ?_
  refine lv_iload hx hb_w dL_law_712 (lv_at hl 4 rfl) ?_
  refine lv_iconst (v := 2) hx hb_w dL_law_714 (by decide) ?_
  refine lv_iadd hx hb_w dL_law_715 ?_
  refine va_sld hx hb_w hX hbl hbA hS_w hv2 dL_law_716 ?_
  refine rdr_V (As := [.int (xs (i_w + 1).toNatClampNeg), .int (xs (i_w + 2).toNatClampNeg)]) (rest := []) ⟨hx, hb_w, hml, hown, hts⟩ (kX1_find l G_w a_w cI cZ x.1 x.2.1 x.2.2.1 x.2.2.2 (xs (i_w + 1).toNatClampNeg) (xs (i_w + 2).toNatClampNeg)) (cwV 2 hts gL_law_X1_find rfl rfl rfl (by decide +kernel) ⟨Nat.le_of_ble_eq_true rfl, Nat.le_of_ble_eq_true rfl⟩) (va_recv hK_w hPD (ci := 1) (q0 := 0) rfl rfl) hPD (hK_w.sub (tys' := tyIZ cI cZ) [0, 1] rfl) rfl hl.1 rfl (Nat.le_of_ble_eq_true rfl) dL_law_717 hcw (fun r1_w h1 => ?_)
  refine lv_aload_n hx hb_w dL_law_720 rfl (lv_at hl 2 rfl) ?_
  refine lv_aload_n hx hb_w dL_law_721 rfl (lv_at hl 0 rfl) ?_
  refine lv_iload hx hb_w dL_law_722 (lv_at hl 4 rfl) ?_
  refine lv_iconst (v := 1) hx hb_w dL_law_724 (by decide) ?_
  refine lv_iadd hx hb_w dL_law_725 ?_
  refine va_sld hx hb_w hX hbl hbA hS_w hv1 dL_law_726 ?_
  refine lv_aload_n hx hb_w dL_law_727 rfl (lv_at hl 0 rfl) ?_
  refine lv_iload hx hb_w dL_law_728 (lv_at hl 4 rfl) ?_
  refine lv_iconst (v := 2) hx hb_w dL_law_730 (by decide) ?_
  refine lv_iadd hx hb_w dL_law_731 ?_
  refine va_sld hx hb_w hX hbl hbA hS_w hv2 dL_law_732 ?_
  refine law_M (As := [.int (xs (i_w + 1).toNatClampNeg), .int (xs (i_w + 2).toNatClampNeg)]) (rest := [.int r1_w]) ⟨hx, hb_w, hml, hown, hts⟩ (kX2_find l G_w b_w cI cZ x.1 x.2.1 t_w hA.2.1 H.size (xs (i_w + 1).toNatClampNeg) (xs (i_w + 2).toNatClampNeg) (inv_pat hI.1)) (cwV 2 hts gL_law_X2_find rfl rfl rfl (by decide +kernel) ⟨Nat.le_of_ble_eq_true rfl, Nat.le_of_ble_eq_true rfl⟩) hA hPD hPO hPM hK_w hS_w rfl hl.1 rfl (Nat.le_of_ble_eq_true rfl) dL_law_733 hcw (fun r2 u2_w H locs_w hq hPD hPO hPM hS_w => ?_)
  obtain ⟨hq1, hq2⟩ := hq
  subst hq2
  have hPM : va_P G_w vwCl (wM b_w cI cZ x.1 x.2.1 0) H := hPM
  refine lv_icmp_eq (tgt := 1000) hx hb_w dL_law_736 (by decide) (fun _ => ?_) (fun hn => absurd (by rw [h1, hq1]; exact LI_find hI) hn)
  refine W.widen (k := cells + 1) (n := slots + 6) (by omega) (by omega) ?_
  exact K_w x fo 0 _ _ _ (LI_mono hI (by omega)) hPD hPO hPM hS_w (lv_sub hl [0, 1, 2, 3, 4] rfl)
set_option maxHeartbeats 4000000 in
set_option maxRecDepth 100000 in
theorem cs_14 {p_w : Program} {l : Launch} {e_w : Env} {s_w : State} {m_w : MethodId} {args_w : Array Value} {below : List Frame} {meth_w : Method} {c_w : Code} {Q : State → Prop} {G_w : va_G} {a_w b_w : Nat → Nat} {cI cZ cL : ClassId} {bS L_w : Nat} {xs : Nat → Int32} {i_w : Int32} {ct cells slots : Nat} {x : SD} {fo : Nat → Int64} {t_w : Int32} {H : Heap} {locs_w : List Loc} {ls : Array Slot} (C_w : LX p_w l s_w m_w args_w c_w G_w a_w b_w cI cZ cL bS L_w xs i_w) (K_w : LK p_w l e_w room_1 s_w m_w args_w below meth_w c_w Q G_w a_w b_w cI cZ cL bS i_w ct cells slots) (hct : ct < 512) (hcl : cells + 1 ≤ 1058 ∧ slots + 6 ≤ 10350) (hI : LI ct x) (hPD : va_P G_w vwCl (wfD a_w cI cZ x) H) (hPO : va_P G_w vwCl (wO a_w cL fo) H) (hPM : va_P G_w vwCl (wM b_w cI cZ x.1 x.2.1 t_w) H) (hS_w : va_S (lA s_w.heap.size) s_w.heap H locs_w) (hl : lv_has ls 7 [(0, .ref bS), (1, .ref (a_w 0)), (2, .ref (b_w 0)), (3, .ref (a_w 7)), (4, .int i_w)]) : W p_w l e_w room_1 s_w m_w args_w below meth_w c_w H locs_w cells slots Q (F0 m_w 741 ls []) := by
  obtain ⟨hx, hb_w, hml, hown, hts, hX, hbl, hst, hA, hK_w, ht, hv0, hv1, hv2, hv3, hv4⟩ := C_w
  have hbA : ¬ lA s_w.heap.size bS := Nat.not_le.mpr hbl
  have hcw : cells ≤ 1058 ∧ slots ≤ 10350 := ⟨by omega, by omega⟩
  refine lv_aload_n hx hb_w dL_law_741 rfl (lv_at hl 1 rfl) ?_
  refine rdr_V (As := []) (rest := []) ⟨hx, hb_w, hml, hown, hts⟩ (kX1_late l G_w a_w cI cZ x.1 x.2.1 x.2.2.1 x.2.2.2 ) (cwV 0 hts gL_law_X1_late rfl rfl rfl (by decide +kernel) ⟨Nat.le_of_ble_eq_true rfl, Nat.le_of_ble_eq_true rfl⟩) (va_recv hK_w hPD (ci := 1) (q0 := 0) rfl rfl) hPD (hK_w.sub (tys' := tyIZ cI cZ) [0, 1] rfl) rfl hl.1 rfl (Nat.le_of_ble_eq_true rfl) dL_law_742 hcw (fun r1_w h1 => ?_)
  refine lv_aload_n hx hb_w dL_law_745 rfl (lv_at hl 2 rfl) ?_
  refine law_M (As := []) (rest := [.int r1_w]) ⟨hx, hb_w, hml, hown, hts⟩ (kX2_late l G_w b_w cI cZ x.1 x.2.1 t_w hA.2.1 H.size (inv_NN hI.1)) (cwV 0 hts gL_law_X2_late rfl rfl rfl (by decide +kernel) ⟨Nat.le_of_ble_eq_true rfl, Nat.le_of_ble_eq_true rfl⟩) hA hPD hPO hPM hK_w hS_w rfl hl.1 rfl (Nat.le_of_ble_eq_true rfl) dL_law_746 hcw (fun r2 u2_w H locs_w hq hPD hPO hPM hS_w => ?_)
  obtain ⟨hq1, hq2⟩ := hq
  subst hq2
  have hPM : va_P G_w vwCl (wM b_w cI cZ x.1 x.2.1 0) H := hPM
  refine lv_icmp_eq (tgt := 1000) hx hb_w dL_law_749 (by decide) (fun _ => ?_) (fun hn => absurd (by rw [h1, hq1]) hn)
  refine W.widen (k := cells + 1) (n := slots + 6) (by omega) (by omega) ?_
  exact K_w x fo 0 _ _ _ (LI_mono hI (by omega)) hPD hPO hPM hS_w (lv_sub hl [0, 1, 2, 3, 4] rfl)
set_option maxHeartbeats 4000000 in
set_option maxRecDepth 100000 in
theorem cs_15 {p_w : Program} {l : Launch} {e_w : Env} {s_w : State} {m_w : MethodId} {args_w : Array Value} {below : List Frame} {meth_w : Method} {c_w : Code} {Q : State → Prop} {G_w : va_G} {a_w b_w : Nat → Nat} {cI cZ cL : ClassId} {bS L_w : Nat} {xs : Nat → Int32} {i_w : Int32} {ct cells slots : Nat} {x : SD} {fo : Nat → Int64} {t_w : Int32} {H : Heap} {locs_w : List Loc} {ls : Array Slot} (C_w : LX p_w l s_w m_w args_w c_w G_w a_w b_w cI cZ cL bS L_w xs i_w) (K_w : LK p_w l e_w room_1 s_w m_w args_w below meth_w c_w Q G_w a_w b_w cI cZ cL bS i_w ct cells slots) (hct : ct < 512) (hcl : cells + 1 ≤ 1058 ∧ slots + 6 ≤ 10350) (hI : LI ct x) (hPD : va_P G_w vwCl (wfD a_w cI cZ x) H) (hPO : va_P G_w vwCl (wO a_w cL fo) H) (hPM : va_P G_w vwCl (wM b_w cI cZ x.1 x.2.1 t_w) H) (hS_w : va_S (lA s_w.heap.size) s_w.heap H locs_w) (hl : lv_has ls 7 [(0, .ref bS), (1, .ref (a_w 0)), (2, .ref (b_w 0)), (3, .ref (a_w 7)), (4, .int i_w)]) : W p_w l e_w room_1 s_w m_w args_w below meth_w c_w H locs_w cells slots Q (F0 m_w 754 ls []) := by
  obtain ⟨hx, hb_w, hml, hown, hts, hX, hbl, hst, hA, hK_w, ht, hv0, hv1, hv2, hv3, hv4⟩ := C_w
  have hbA : ¬ lA s_w.heap.size bS := Nat.not_le.mpr hbl
  have hcw : cells ≤ 1058 ∧ slots ≤ 10350 := ⟨by omega, by omega⟩
  refine lv_aload_n hx hb_w dL_law_754 rfl (lv_at hl 1 rfl) ?_
  refine rdr_V (As := []) (rest := []) ⟨hx, hb_w, hml, hown, hts⟩ (kX1_ranges l G_w a_w cI cZ x.1 x.2.1 x.2.2.1 x.2.2.2 ) (cwV 0 hts gL_law_X1_ranges rfl rfl rfl (by decide +kernel) ⟨Nat.le_of_ble_eq_true rfl, Nat.le_of_ble_eq_true rfl⟩) (va_recv hK_w hPD (ci := 1) (q0 := 0) rfl rfl) hPD (hK_w.sub (tys' := tyIZ cI cZ) [0, 1] rfl) rfl hl.1 rfl (Nat.le_of_ble_eq_true rfl) dL_law_755 hcw (fun r1_w h1 => ?_)
  refine lv_aload_n hx hb_w dL_law_758 rfl (lv_at hl 2 rfl) ?_
  refine law_M (As := []) (rest := [.int r1_w]) ⟨hx, hb_w, hml, hown, hts⟩ (kX2_ranges l G_w b_w cI cZ x.1 x.2.1 t_w hA.2.1 H.size (inv_NN hI.1)) (cwV 0 hts gL_law_X2_ranges rfl rfl rfl (by decide +kernel) ⟨Nat.le_of_ble_eq_true rfl, Nat.le_of_ble_eq_true rfl⟩) hA hPD hPO hPM hK_w hS_w rfl hl.1 rfl (Nat.le_of_ble_eq_true rfl) dL_law_759 hcw (fun r2 u2_w H locs_w hq hPD hPO hPM hS_w => ?_)
  obtain ⟨hq1, hq2⟩ := hq
  subst hq2
  have hPM : va_P G_w vwCl (wM b_w cI cZ x.1 x.2.1 0) H := hPM
  refine lv_icmp_eq (tgt := 1000) hx hb_w dL_law_762 (by decide) (fun _ => ?_) (fun hn => absurd (by rw [h1, hq1]) hn)
  refine W.widen (k := cells + 1) (n := slots + 6) (by omega) (by omega) ?_
  exact K_w x fo 0 _ _ _ (LI_mono hI (by omega)) hPD hPO hPM hS_w (lv_sub hl [0, 1, 2, 3, 4] rfl)
set_option maxHeartbeats 4000000 in
set_option maxRecDepth 100000 in
theorem cs_16 {p_w : Program} {l : Launch} {e_w : Env} {s_w : State} {m_w : MethodId} {args_w : Array Value} {below : List Frame} {meth_w : Method} {c_w : Code} {Q : State → Prop} {G_w : va_G} {a_w b_w : Nat → Nat} {cI cZ cL : ClassId} {bS L_w : Nat} {xs : Nat → Int32} {i_w : Int32} {ct cells slots : Nat} {x : SD} {fo : Nat → Int64} {t_w : Int32} {H : Heap} {locs_w : List Loc} {ls : Array Slot} (C_w : LX p_w l s_w m_w args_w c_w G_w a_w b_w cI cZ cL bS L_w xs i_w) (K_w : LK p_w l e_w room_1 s_w m_w args_w below meth_w c_w Q G_w a_w b_w cI cZ cL bS i_w ct cells slots) (hct : ct < 512) (hcl : cells + 1 ≤ 1058 ∧ slots + 6 ≤ 10350) (hI : LI ct x) (hPD : va_P G_w vwCl (wfD a_w cI cZ x) H) (hPO : va_P G_w vwCl (wO a_w cL fo) H) (hPM : va_P G_w vwCl (wM b_w cI cZ x.1 x.2.1 t_w) H) (hS_w : va_S (lA s_w.heap.size) s_w.heap H locs_w) (hl : lv_has ls 7 [(0, .ref bS), (1, .ref (a_w 0)), (2, .ref (b_w 0)), (3, .ref (a_w 7)), (4, .int i_w)]) : W p_w l e_w room_1 s_w m_w args_w below meth_w c_w H locs_w cells slots Q (F0 m_w 767 ls []) := by
  obtain ⟨hx, hb_w, hml, hown, hts, hX, hbl, hst, hA, hK_w, ht, hv0, hv1, hv2, hv3, hv4⟩ := C_w
  have hbA : ¬ lA s_w.heap.size bS := Nat.not_le.mpr hbl
  have hcw : cells ≤ 1058 ∧ slots ≤ 10350 := ⟨by omega, by omega⟩
  refine lv_aload_n hx hb_w dL_law_767 rfl (lv_at hl 1 rfl) ?_
  refine lv_aload_n hx hb_w dL_law_768 rfl (lv_at hl 0 rfl) ?_
  refine lv_iload hx hb_w dL_law_769 (lv_at hl 4 rfl) ?_
  refine lv_iconst (v := 1) hx hb_w dL_law_771 (by decide) ?_
  refine lv_iadd hx hb_w dL_law_772 ?_
  refine va_sld hx hb_w hX hbl hbA hS_w hv1 dL_law_773 ?_
  refine lv_aload_n hx hb_w dL_law_774 rfl (lv_at hl 3 rfl) ?_
  refine law_S (As := [.ref (a_w 0), .int (xs (i_w + 1).toNatClampNeg), .ref (a_w 7)]) (rest := []) ⟨hx, hb_w, hml, hown, hts⟩ (kL_rangeAt l hst G_w a_w cI cZ cL x fo hA.1 H.size (xs (i_w + 1).toNatClampNeg)) (vx_cwSW 3 hts gL_law_L_rangeAt rfl rfl rfl (by decide +kernel) ⟨Nat.le_of_ble_eq_true rfl, Nat.le_of_ble_eq_true rfl⟩) hA hPD hPO hPM hK_w ht hS_w rfl hl.1 rfl (Nat.le_of_ble_eq_true rfl) dL_law_775 hcl (fun v_w u_w H locs_w hp hPD hPO hPM hS_w => ?_)
  refine lv_istore (lv' := [(5, .int v_w), (0, .ref bS), (1, .ref (a_w 0)), (2, .ref (b_w 0)), (3, .ref (a_w 7)), (4, .int i_w)]) hx hb_w dL_law_778 hl (by decide) rfl (fun ls hl => ?_)
  refine lv_aload_n hx hb_w dL_law_780 rfl (lv_at hl 3 rfl) ?_
  refine lv_aload_n hx hb_w dL_law_781 rfl (lv_at hl 1 rfl) ?_
  refine lv_iload hx hb_w dL_law_782 (lv_at hl 5 rfl) ?_
  refine lv_iconst (v := 1) hx hb_w dL_law_784 (by decide) ?_
  refine lv_iadd hx hb_w dL_law_785 ?_
  refine va_sld hx hb_w hX hbl hbA hS_w hv1 dL_law_786 ?_
  refine law_M (As := [.int (xs (i_w + 1).toNatClampNeg)]) (rest := []) ⟨hx, hb_w, hml, hown, hts⟩ (kX2_rangeAt l G_w b_w cI cZ x.1 x.2.1 t_w hA.2.1 H.size (xs (i_w + 1).toNatClampNeg) (inv_NN hI.1)) (cwV 1 hts gL_law_X2_rangeAt rfl rfl rfl (by decide +kernel) ⟨Nat.le_of_ble_eq_true rfl, Nat.le_of_ble_eq_true rfl⟩) hA hPD hPO hPM hK_w hS_w rfl hl.1 rfl (Nat.le_of_ble_eq_true rfl) dL_law_787 hcl (fun r2 u2_w H locs_w hq hPD hPO hPM hS_w => ?_)
  obtain ⟨x', hI', hD', hM', hv'⟩ := ag_RA hI hp hq
  rw [hD'] at hPD
  subst hM'
  have hPM : va_P G_w vwCl (wM b_w cI cZ x'.1 x'.2.1 v_w) H := hPM
  refine lv_istore (lv' := [(6, .int r2), (5, .int v_w), (0, .ref bS), (1, .ref (a_w 0)), (2, .ref (b_w 0)), (3, .ref (a_w 7)), (4, .int i_w)]) hx hb_w dL_law_790 hl (by decide) rfl (fun ls hl => ?_)
  refine lv_aload_n hx hb_w dL_law_792 rfl (lv_at hl 4 rfl) ?_
  refine rdr_V (As := []) (rest := []) ⟨hx, hb_w, hml, hown, hts⟩ (kX2_thrown l G_w b_w cI cZ x'.1 x'.2.1 v_w) (cwV 0 hts gL_law_X2_thrown rfl rfl rfl (by decide +kernel) ⟨Nat.le_of_ble_eq_true rfl, Nat.le_of_ble_eq_true rfl⟩) (va_recv hK_w hPM (ci := 2) (q0 := 0) rfl rfl) hPM (hK_w.sub (tys' := tyIZ cI cZ) [0, 1] rfl) rfl hl.1 rfl (Nat.le_of_ble_eq_true rfl) dL_law_793 hcl (fun rt hrt => ?_)
  refine top_eq hrt ?_
  refine lv_iload hx hb_w dL_law_796 (lv_at hl 1 rfl) ?_
  refine lv_icmp_eq (tgt := 803) hx hb_w dL_law_798 (by decide) (fun _ => ?_) (fun hn => absurd rfl hn)
  refine lv_iload hx hb_w dL_law_803 (lv_at hl 1 rfl) ?_
  refine lv_if_ne (tgt := 820) hx hb_w dL_law_805 (by decide) (fun h0 => ?_) (fun h0 => ?_)
  · refine lv_goto (tgt := 1000) hx hb_w dL_law_820 (by decide) ?_
    exact K_w x' u_w.2 v_w _ _ _ hI' hPD hPO hPM hS_w (lv_sub hl [2, 3, 4, 5, 6] rfl)
  · refine lv_aload_n hx hb_w dL_law_808 rfl (lv_at hl 5 rfl) ?_
    refine lv_iconst (v := 0) hx hb_w dL_law_809 (by decide) ?_
    refine va_lald hx hb_w hK_w hPO (q0 := 0) (t0 := 2) rfl rfl (by unfold vp_in; decide) dL_law_810 ?_
    refine lv_iload hx hb_w dL_law_811 (lv_at hl 0 rfl) ?_
    refine lv_i2l hx hb_w dL_law_813 rfl ?_
    refine W.lcmp hx hb_w dL_law_814 ?_
    refine top_eq (z := 0) (by rw [show u_w.2 (0 : Int32).toNatClampNeg = r2.toInt64 from hv' h0]; exact lg_self _) ?_
    refine lv_if_eq (tgt := 820) hx hb_w dL_law_815 (by decide) (fun _ => ?_) (fun hn => absurd rfl hn)
    refine lv_goto (tgt := 1000) hx hb_w dL_law_820 (by decide) ?_
    exact K_w x' u_w.2 v_w _ _ _ hI' hPD hPO hPM hS_w (lv_sub hl [2, 3, 4, 5, 6] rfl)
set_option maxHeartbeats 4000000 in
set_option maxRecDepth 100000 in
theorem cs_17 {p_w : Program} {l : Launch} {e_w : Env} {s_w : State} {m_w : MethodId} {args_w : Array Value} {below : List Frame} {meth_w : Method} {c_w : Code} {Q : State → Prop} {G_w : va_G} {a_w b_w : Nat → Nat} {cI cZ cL : ClassId} {bS L_w : Nat} {xs : Nat → Int32} {i_w : Int32} {ct cells slots : Nat} {x : SD} {fo : Nat → Int64} {t_w : Int32} {H : Heap} {locs_w : List Loc} {ls : Array Slot} (C_w : LX p_w l s_w m_w args_w c_w G_w a_w b_w cI cZ cL bS L_w xs i_w) (K_w : LK p_w l e_w room_1 s_w m_w args_w below meth_w c_w Q G_w a_w b_w cI cZ cL bS i_w ct cells slots) (hct : ct < 512) (hcl : cells + 1 ≤ 1058 ∧ slots + 6 ≤ 10350) (hI : LI ct x) (hPD : va_P G_w vwCl (wfD a_w cI cZ x) H) (hPO : va_P G_w vwCl (wO a_w cL fo) H) (hPM : va_P G_w vwCl (wM b_w cI cZ x.1 x.2.1 t_w) H) (hS_w : va_S (lA s_w.heap.size) s_w.heap H locs_w) (hl : lv_has ls 7 [(0, .ref bS), (1, .ref (a_w 0)), (2, .ref (b_w 0)), (3, .ref (a_w 7)), (4, .int i_w)]) : W p_w l e_w room_1 s_w m_w args_w below meth_w c_w H locs_w cells slots Q (F0 m_w 823 ls []) := by
  obtain ⟨hx, hb_w, hml, hown, hts, hX, hbl, hst, hA, hK_w, ht, hv0, hv1, hv2, hv3, hv4⟩ := C_w
  have hbA : ¬ lA s_w.heap.size bS := Nat.not_le.mpr hbl
  have hcw : cells ≤ 1058 ∧ slots ≤ 10350 := ⟨by omega, by omega⟩
  refine lv_aload_n hx hb_w dL_law_823 rfl (lv_at hl 1 rfl) ?_
  refine lv_aload_n hx hb_w dL_law_824 rfl (lv_at hl 0 rfl) ?_
  refine lv_iload hx hb_w dL_law_825 (lv_at hl 4 rfl) ?_
  refine lv_iconst (v := 1) hx hb_w dL_law_827 (by decide) ?_
  refine lv_iadd hx hb_w dL_law_828 ?_
  refine va_sld hx hb_w hX hbl hbA hS_w hv1 dL_law_829 ?_
  refine rdr_V (As := [.int (xs (i_w + 1).toNatClampNeg)]) (rest := []) ⟨hx, hb_w, hml, hown, hts⟩ (kX1_isHeld l G_w a_w cI cZ x.1 x.2.1 x.2.2.1 x.2.2.2 (xs (i_w + 1).toNatClampNeg)) (cwV 1 hts gL_law_X1_isHeld rfl rfl rfl (by decide +kernel) ⟨Nat.le_of_ble_eq_true rfl, Nat.le_of_ble_eq_true rfl⟩) (va_recv hK_w hPD (ci := 1) (q0 := 0) rfl rfl) hPD (hK_w.sub (tys' := tyIZ cI cZ) [0, 1] rfl) rfl hl.1 rfl (Nat.le_of_ble_eq_true rfl) dL_law_830 hcw (fun r1_w h1 => ?_)
  refine lv_aload_n hx hb_w dL_law_833 rfl (lv_at hl 2 rfl) ?_
  refine lv_aload_n hx hb_w dL_law_834 rfl (lv_at hl 0 rfl) ?_
  refine lv_iload hx hb_w dL_law_835 (lv_at hl 4 rfl) ?_
  refine lv_iconst (v := 1) hx hb_w dL_law_837 (by decide) ?_
  refine lv_iadd hx hb_w dL_law_838 ?_
  refine va_sld hx hb_w hX hbl hbA hS_w hv1 dL_law_839 ?_
  refine law_M (As := [.int (xs (i_w + 1).toNatClampNeg)]) (rest := [.int r1_w]) ⟨hx, hb_w, hml, hown, hts⟩ (kX2_isHeld l G_w b_w cI cZ x.1 x.2.1 t_w hA.2.1 H.size (xs (i_w + 1).toNatClampNeg) (inv_NN hI.1)) (cwV 1 hts gL_law_X2_isHeld rfl rfl rfl (by decide +kernel) ⟨Nat.le_of_ble_eq_true rfl, Nat.le_of_ble_eq_true rfl⟩) hA hPD hPO hPM hK_w hS_w rfl hl.1 rfl (Nat.le_of_ble_eq_true rfl) dL_law_840 hcw (fun r2 u2_w H locs_w hq hPD hPO hPM hS_w => ?_)
  obtain ⟨hq1, hq2⟩ := hq
  subst hq2
  have hPM : va_P G_w vwCl (wM b_w cI cZ x.1 x.2.1 0) H := hPM
  refine lv_icmp_eq (tgt := 1000) hx hb_w dL_law_843 (by decide) (fun _ => ?_) (fun hn => absurd (by rw [h1, hq1, held_eq]) hn)
  refine W.widen (k := cells + 1) (n := slots + 6) (by omega) (by omega) ?_
  exact K_w x fo 0 _ _ _ (LI_mono hI (by omega)) hPD hPO hPM hS_w (lv_sub hl [0, 1, 2, 3, 4] rfl)
set_option maxHeartbeats 4000000 in
set_option maxRecDepth 100000 in
theorem cs_18 {p_w : Program} {l : Launch} {e_w : Env} {s_w : State} {m_w : MethodId} {args_w : Array Value} {below : List Frame} {meth_w : Method} {c_w : Code} {Q : State → Prop} {G_w : va_G} {a_w b_w : Nat → Nat} {cI cZ cL : ClassId} {bS L_w : Nat} {xs : Nat → Int32} {i_w : Int32} {ct cells slots : Nat} {x : SD} {fo : Nat → Int64} {t_w : Int32} {H : Heap} {locs_w : List Loc} {ls : Array Slot} (C_w : LX p_w l s_w m_w args_w c_w G_w a_w b_w cI cZ cL bS L_w xs i_w) (K_w : LK p_w l e_w room_1 s_w m_w args_w below meth_w c_w Q G_w a_w b_w cI cZ cL bS i_w ct cells slots) (hct : ct < 512) (hcl : cells + 1 ≤ 1058 ∧ slots + 6 ≤ 10350) (hI : LI ct x) (hPD : va_P G_w vwCl (wfD a_w cI cZ x) H) (hPO : va_P G_w vwCl (wO a_w cL fo) H) (hPM : va_P G_w vwCl (wM b_w cI cZ x.1 x.2.1 t_w) H) (hS_w : va_S (lA s_w.heap.size) s_w.heap H locs_w) (hl : lv_has ls 7 [(0, .ref bS), (1, .ref (a_w 0)), (2, .ref (b_w 0)), (3, .ref (a_w 7)), (4, .int i_w)]) : W p_w l e_w room_1 s_w m_w args_w below meth_w c_w H locs_w cells slots Q (F0 m_w 848 ls []) := by
  obtain ⟨hx, hb_w, hml, hown, hts, hX, hbl, hst, hA, hK_w, ht, hv0, hv1, hv2, hv3, hv4⟩ := C_w
  have hbA : ¬ lA s_w.heap.size bS := Nat.not_le.mpr hbl
  have hcw : cells ≤ 1058 ∧ slots ≤ 10350 := ⟨by omega, by omega⟩
  refine lv_aload_n hx hb_w dL_law_848 rfl (lv_at hl 1 rfl) ?_
  refine lv_aload_n hx hb_w dL_law_849 rfl (lv_at hl 0 rfl) ?_
  refine lv_iload hx hb_w dL_law_850 (lv_at hl 4 rfl) ?_
  refine lv_iconst (v := 1) hx hb_w dL_law_852 (by decide) ?_
  refine lv_iadd hx hb_w dL_law_853 ?_
  refine va_sld hx hb_w hX hbl hbA hS_w hv1 dL_law_854 ?_
  refine lv_aload_n hx hb_w dL_law_855 rfl (lv_at hl 0 rfl) ?_
  refine lv_iload hx hb_w dL_law_856 (lv_at hl 4 rfl) ?_
  refine lv_iconst (v := 2) hx hb_w dL_law_858 (by decide) ?_
  refine lv_iadd hx hb_w dL_law_859 ?_
  refine va_sld hx hb_w hX hbl hbA hS_w hv2 dL_law_860 ?_
  refine lv_aload_n hx hb_w dL_law_861 rfl (lv_at hl 3 rfl) ?_
  refine law_S (As := [.ref (a_w 0), .int (xs (i_w + 1).toNatClampNeg), .int (xs (i_w + 2).toNatClampNeg), .ref (a_w 7)]) (rest := []) ⟨hx, hb_w, hml, hown, hts⟩ (kL_give l hst G_w a_w cI cZ cL x fo hA.1 H.size (xs (i_w + 1).toNatClampNeg) (xs (i_w + 2).toNatClampNeg) (LI_01 hI) hI.2.2) (vx_cwSW 4 hts gL_law_L_give rfl rfl rfl (by decide +kernel) ⟨Nat.le_of_ble_eq_true rfl, Nat.le_of_ble_eq_true rfl⟩) hA hPD hPO hPM hK_w ht hS_w rfl hl.1 rfl (Nat.le_of_ble_eq_true rfl) dL_law_862 hcl (fun v_w u_w H locs_w hp hPD hPO hPM hS_w => ?_)
  refine lv_istore (lv' := [(5, .int v_w), (0, .ref bS), (1, .ref (a_w 0)), (2, .ref (b_w 0)), (3, .ref (a_w 7)), (4, .int i_w)]) hx hb_w dL_law_865 hl (by decide) rfl (fun ls hl => ?_)
  refine lv_aload_n hx hb_w dL_law_867 rfl (lv_at hl 3 rfl) ?_
  refine lv_aload_n hx hb_w dL_law_868 rfl (lv_at hl 1 rfl) ?_
  refine lv_iload hx hb_w dL_law_869 (lv_at hl 5 rfl) ?_
  refine lv_iconst (v := 1) hx hb_w dL_law_871 (by decide) ?_
  refine lv_iadd hx hb_w dL_law_872 ?_
  refine va_sld hx hb_w hX hbl hbA hS_w hv1 dL_law_873 ?_
  refine lv_aload_n hx hb_w dL_law_874 rfl (lv_at hl 1 rfl) ?_
  refine lv_iload hx hb_w dL_law_875 (lv_at hl 5 rfl) ?_
  refine lv_iconst (v := 2) hx hb_w dL_law_877 (by decide) ?_
  refine lv_iadd hx hb_w dL_law_878 ?_
  refine va_sld hx hb_w hX hbl hbA hS_w hv2 dL_law_879 ?_
  refine law_M (As := [.int (xs (i_w + 1).toNatClampNeg), .int (xs (i_w + 2).toNatClampNeg)]) (rest := []) ⟨hx, hb_w, hml, hown, hts⟩ (kX2_give l G_w b_w cI cZ x.1 x.2.1 t_w hA.2.1 H.size (xs (i_w + 1).toNatClampNeg) (xs (i_w + 2).toNatClampNeg) (LI_01 hI)) (cwV 2 hts gL_law_X2_give rfl rfl rfl (by decide +kernel) ⟨Nat.le_of_ble_eq_true rfl, Nat.le_of_ble_eq_true rfl⟩) hA hPD hPO hPM hK_w hS_w rfl hl.1 rfl (Nat.le_of_ble_eq_true rfl) dL_law_880 hcl (fun r2 u2_w H locs_w hq hPD hPO hPM hS_w => ?_)
  obtain ⟨x', hI', hD', hM', hv'⟩ := ag_GV hI hp hq
  rw [hD'] at hPD
  subst hM'
  have hPM : va_P G_w vwCl (wM b_w cI cZ x'.1 x'.2.1 v_w) H := hPM
  refine lv_istore (lv' := [(6, .int r2), (5, .int v_w), (0, .ref bS), (1, .ref (a_w 0)), (2, .ref (b_w 0)), (3, .ref (a_w 7)), (4, .int i_w)]) hx hb_w dL_law_883 hl (by decide) rfl (fun ls hl => ?_)
  refine lv_aload_n hx hb_w dL_law_885 rfl (lv_at hl 4 rfl) ?_
  refine rdr_V (As := []) (rest := []) ⟨hx, hb_w, hml, hown, hts⟩ (kX2_thrown l G_w b_w cI cZ x'.1 x'.2.1 v_w) (cwV 0 hts gL_law_X2_thrown rfl rfl rfl (by decide +kernel) ⟨Nat.le_of_ble_eq_true rfl, Nat.le_of_ble_eq_true rfl⟩) (va_recv hK_w hPM (ci := 2) (q0 := 0) rfl rfl) hPM (hK_w.sub (tys' := tyIZ cI cZ) [0, 1] rfl) rfl hl.1 rfl (Nat.le_of_ble_eq_true rfl) dL_law_886 hcl (fun rt hrt => ?_)
  refine top_eq hrt ?_
  refine lv_iload hx hb_w dL_law_889 (lv_at hl 1 rfl) ?_
  refine lv_icmp_eq (tgt := 896) hx hb_w dL_law_891 (by decide) (fun _ => ?_) (fun hn => absurd rfl hn)
  refine lv_iload hx hb_w dL_law_896 (lv_at hl 1 rfl) ?_
  refine lv_if_ne (tgt := 913) hx hb_w dL_law_898 (by decide) (fun h0 => ?_) (fun h0 => ?_)
  · refine lv_goto (tgt := 1000) hx hb_w dL_law_913 (by decide) ?_
    exact K_w x' u_w.2 v_w _ _ _ hI' hPD hPO hPM hS_w (lv_sub hl [2, 3, 4, 5, 6] rfl)
  · refine lv_aload_n hx hb_w dL_law_901 rfl (lv_at hl 5 rfl) ?_
    refine lv_iconst (v := 0) hx hb_w dL_law_902 (by decide) ?_
    refine va_lald hx hb_w hK_w hPO (q0 := 0) (t0 := 2) rfl rfl (by unfold vp_in; decide) dL_law_903 ?_
    refine lv_iload hx hb_w dL_law_904 (lv_at hl 0 rfl) ?_
    refine lv_i2l hx hb_w dL_law_906 rfl ?_
    refine W.lcmp hx hb_w dL_law_907 ?_
    refine top_eq (z := 0) (by rw [show u_w.2 (0 : Int32).toNatClampNeg = r2.toInt64 from hv' h0]; exact lg_self _) ?_
    refine lv_if_eq (tgt := 913) hx hb_w dL_law_908 (by decide) (fun _ => ?_) (fun hn => absurd rfl hn)
    refine lv_goto (tgt := 1000) hx hb_w dL_law_913 (by decide) ?_
    exact K_w x' u_w.2 v_w _ _ _ hI' hPD hPO hPM hS_w (lv_sub hl [2, 3, 4, 5, 6] rfl)
set_option maxHeartbeats 4000000 in
set_option maxRecDepth 100000 in
theorem cs_19 {p_w : Program} {l : Launch} {e_w : Env} {s_w : State} {m_w : MethodId} {args_w : Array Value} {below : List Frame} {meth_w : Method} {c_w : Code} {Q : State → Prop} {G_w : va_G} {a_w b_w : Nat → Nat} {cI cZ cL : ClassId} {bS L_w : Nat} {xs : Nat → Int32} {i_w : Int32} {ct cells slots : Nat} {x : SD} {fo : Nat → Int64} {t_w : Int32} {H : Heap} {locs_w : List Loc} {ls : Array Slot} (C_w : LX p_w l s_w m_w args_w c_w G_w a_w b_w cI cZ cL bS L_w xs i_w) (K_w : LK p_w l e_w room_1 s_w m_w args_w below meth_w c_w Q G_w a_w b_w cI cZ cL bS i_w ct cells slots) (hct : ct < 512) (hcl : cells + 1 ≤ 1058 ∧ slots + 6 ≤ 10350) (hI : LI ct x) (hPD : va_P G_w vwCl (wfD a_w cI cZ x) H) (hPO : va_P G_w vwCl (wO a_w cL fo) H) (hPM : va_P G_w vwCl (wM b_w cI cZ x.1 x.2.1 t_w) H) (hS_w : va_S (lA s_w.heap.size) s_w.heap H locs_w) (hl : lv_has ls 7 [(0, .ref bS), (1, .ref (a_w 0)), (2, .ref (b_w 0)), (3, .ref (a_w 7)), (4, .int i_w)]) : W p_w l e_w room_1 s_w m_w args_w below meth_w c_w H locs_w cells slots Q (F0 m_w 916 ls []) := by
  obtain ⟨hx, hb_w, hml, hown, hts, hX, hbl, hst, hA, hK_w, ht, hv0, hv1, hv2, hv3, hv4⟩ := C_w
  have hbA : ¬ lA s_w.heap.size bS := Nat.not_le.mpr hbl
  have hcw : cells ≤ 1058 ∧ slots ≤ 10350 := ⟨by omega, by omega⟩
  refine lv_aload_n hx hb_w dL_law_916 rfl (lv_at hl 1 rfl) ?_
  refine lv_aload_n hx hb_w dL_law_917 rfl (lv_at hl 0 rfl) ?_
  refine lv_iload hx hb_w dL_law_918 (lv_at hl 4 rfl) ?_
  refine lv_iconst (v := 1) hx hb_w dL_law_920 (by decide) ?_
  refine lv_iadd hx hb_w dL_law_921 ?_
  refine va_sld hx hb_w hX hbl hbA hS_w hv1 dL_law_922 ?_
  refine lv_bz hx hb_w dL_law_923 dL_law_926 dL_law_927 dL_law_930 ?_
  refine lv_aload_n hx hb_w dL_law_931 rfl (lv_at hl 0 rfl) ?_
  refine lv_iload hx hb_w dL_law_932 (lv_at hl 4 rfl) ?_
  refine lv_iconst (v := 2) hx hb_w dL_law_934 (by decide) ?_
  refine lv_iadd hx hb_w dL_law_935 ?_
  refine va_sld hx hb_w hX hbl hbA hS_w hv2 dL_law_936 ?_
  refine lv_aload_n hx hb_w dL_law_937 rfl (lv_at hl 3 rfl) ?_
  refine law_S (As := [.ref (a_w 0), .int (bz (xs (i_w + 1).toNatClampNeg)), .int (xs (i_w + 2).toNatClampNeg), .ref (a_w 7)]) (rest := []) ⟨hx, hb_w, hml, hown, hts⟩ (kL_only l hst G_w a_w cI cZ cL x fo hA.1 H.size (bz (xs (i_w + 1).toNatClampNeg)) (xs (i_w + 2).toNatClampNeg) (bz_01 _) (LI_01 hI)) (vx_cwSW 4 hts gL_law_L_only rfl rfl rfl (by decide +kernel) ⟨Nat.le_of_ble_eq_true rfl, Nat.le_of_ble_eq_true rfl⟩) hA hPD hPO hPM hK_w ht hS_w rfl hl.1 rfl (Nat.le_of_ble_eq_true rfl) dL_law_938 hcl (fun v_w u_w H locs_w hp hPD hPO hPM hS_w => ?_)
  refine lv_istore (lv' := [(5, .int v_w), (0, .ref bS), (1, .ref (a_w 0)), (2, .ref (b_w 0)), (3, .ref (a_w 7)), (4, .int i_w)]) hx hb_w dL_law_941 hl (by decide) rfl (fun ls hl => ?_)
  refine lv_aload_n hx hb_w dL_law_943 rfl (lv_at hl 3 rfl) ?_
  refine lv_aload_n hx hb_w dL_law_944 rfl (lv_at hl 1 rfl) ?_
  refine lv_iload hx hb_w dL_law_945 (lv_at hl 5 rfl) ?_
  refine lv_iconst (v := 1) hx hb_w dL_law_947 (by decide) ?_
  refine lv_iadd hx hb_w dL_law_948 ?_
  refine va_sld hx hb_w hX hbl hbA hS_w hv1 dL_law_949 ?_
  refine lv_bz hx hb_w dL_law_950 dL_law_953 dL_law_954 dL_law_957 ?_
  refine lv_aload_n hx hb_w dL_law_958 rfl (lv_at hl 1 rfl) ?_
  refine lv_iload hx hb_w dL_law_959 (lv_at hl 5 rfl) ?_
  refine lv_iconst (v := 2) hx hb_w dL_law_961 (by decide) ?_
  refine lv_iadd hx hb_w dL_law_962 ?_
  refine va_sld hx hb_w hX hbl hbA hS_w hv2 dL_law_963 ?_
  refine law_M (As := [.int (bz (xs (i_w + 1).toNatClampNeg)), .int (xs (i_w + 2).toNatClampNeg)]) (rest := []) ⟨hx, hb_w, hml, hown, hts⟩ (kX2_only l G_w b_w cI cZ x.1 x.2.1 t_w hA.2.1 H.size (bz (xs (i_w + 1).toNatClampNeg)) (xs (i_w + 2).toNatClampNeg) (inv_NN hI.1)) (cwV 2 hts gL_law_X2_only rfl rfl rfl (by decide +kernel) ⟨Nat.le_of_ble_eq_true rfl, Nat.le_of_ble_eq_true rfl⟩) hA hPD hPO hPM hK_w hS_w rfl hl.1 rfl (Nat.le_of_ble_eq_true rfl) dL_law_964 hcl (fun r2 u2_w H locs_w hq hPD hPO hPM hS_w => ?_)
  obtain ⟨x', hI', hD', hM', hv'⟩ := ag_ON hI hp hq
  rw [hD'] at hPD
  subst hM'
  have hPM : va_P G_w vwCl (wM b_w cI cZ x'.1 x'.2.1 v_w) H := hPM
  refine lv_istore (lv' := [(6, .int r2), (5, .int v_w), (0, .ref bS), (1, .ref (a_w 0)), (2, .ref (b_w 0)), (3, .ref (a_w 7)), (4, .int i_w)]) hx hb_w dL_law_967 hl (by decide) rfl (fun ls hl => ?_)
  refine lv_aload_n hx hb_w dL_law_969 rfl (lv_at hl 4 rfl) ?_
  refine rdr_V (As := []) (rest := []) ⟨hx, hb_w, hml, hown, hts⟩ (kX2_thrown l G_w b_w cI cZ x'.1 x'.2.1 v_w) (cwV 0 hts gL_law_X2_thrown rfl rfl rfl (by decide +kernel) ⟨Nat.le_of_ble_eq_true rfl, Nat.le_of_ble_eq_true rfl⟩) (va_recv hK_w hPM (ci := 2) (q0 := 0) rfl rfl) hPM (hK_w.sub (tys' := tyIZ cI cZ) [0, 1] rfl) rfl hl.1 rfl (Nat.le_of_ble_eq_true rfl) dL_law_970 hcl (fun rt hrt => ?_)
  refine top_eq hrt ?_
  refine lv_iload hx hb_w dL_law_973 (lv_at hl 1 rfl) ?_
  refine lv_icmp_eq (tgt := 980) hx hb_w dL_law_975 (by decide) (fun _ => ?_) (fun hn => absurd rfl hn)
  refine lv_iload hx hb_w dL_law_980 (lv_at hl 1 rfl) ?_
  refine lv_if_ne (tgt := 997) hx hb_w dL_law_982 (by decide) (fun h0 => ?_) (fun h0 => ?_)
  · refine lv_goto (tgt := 1000) hx hb_w dL_law_997 (by decide) ?_
    exact K_w x' u_w.2 v_w _ _ _ hI' hPD hPO hPM hS_w (lv_sub hl [2, 3, 4, 5, 6] rfl)
  · refine lv_aload_n hx hb_w dL_law_985 rfl (lv_at hl 5 rfl) ?_
    refine lv_iconst (v := 0) hx hb_w dL_law_986 (by decide) ?_
    refine va_lald hx hb_w hK_w hPO (q0 := 0) (t0 := 2) rfl rfl (by unfold vp_in; decide) dL_law_987 ?_
    refine lv_iload hx hb_w dL_law_988 (lv_at hl 0 rfl) ?_
    refine lv_i2l hx hb_w dL_law_990 rfl ?_
    refine W.lcmp hx hb_w dL_law_991 ?_
    refine top_eq (z := 0) (by rw [show u_w.2 (0 : Int32).toNatClampNeg = r2.toInt64 from hv' h0]; exact lg_self _) ?_
    refine lv_if_eq (tgt := 997) hx hb_w dL_law_992 (by decide) (fun _ => ?_) (fun hn => absurd rfl hn)
    refine lv_goto (tgt := 1000) hx hb_w dL_law_997 (by decide) ?_
    exact K_w x' u_w.2 v_w _ _ _ hI' hPD hPO hPM hS_w (lv_sub hl [2, 3, 4, 5, 6] rfl)
