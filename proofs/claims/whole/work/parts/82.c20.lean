set_option maxRecDepth 100000 in
set_option maxHeartbeats 40000000 in
theorem l_law (E : mE) (d : Nat) (hd : 30 ≤ d) (hL : E.2.2.2.2 ≤ 3072) : ∀ (k i : Nat) (w : mw), E.2.2.2.2 < i + 6 + 6 * k → i ≤ E.2.2.2.2 → INV w → Wp E d m_L_law 18 [lr 62, lr 0, lr 33, li (nI i)] [] w (mPi (fun r _ => r = 1)) := by
  intro k
  have eL : (nI E.2.2.2.2 - 6).toInt = (E.2.2.2.2 : Int) - 6 := by
    have e6 : Int32.toInt 6 = 6 := rfl
    have e7 := ti (show E.2.2.2.2 < 2147483648 by omega)
    rw [i_sub (by omega) (by omega), e7, e6]
  induction k with
  | zero =>
    intro i w hk hi hI
    have e8 := ti (show i < 2147483648 by omega)
    refine Wp_iload_n d_L_law_18 rfl ?_
    refine Wp_aload_n d_L_law_19 rfl ?_
    refine Wp_xlen rfl d_L_law_20 ?_
    refine Wp_eqi (x2 := nI E.2.2.2.2) rfl ?_
    refine Wp_bipush (x := 6) d_L_law_21 (by decide) ?_
    refine Wp_isub d_L_law_23 ?_
    refine Wp_icmp_gt d_L_law_24 (fun h24 => ?_) (fun q => absurd (i_nlt q) (by omega))
    refine Wp_iconst (x := 1) d_L_law_1131 (by decide) ?_
    refine Wp_reti (ty := .boolean) d_L_law_1132 rfl rfl ?_
    exact rfl
  | succ k ih =>
    intro i w hk hi hI
    have e8 := ti (show i < 2147483648 by omega)
    have hb31 := and31 (E.2.2.2.1 i)
    obtain ⟨S, hC, hM, hV⟩ := hI
    refine Wp_iload_n d_L_law_18 rfl ?_
    refine Wp_aload_n d_L_law_19 rfl ?_
    refine Wp_xlen rfl d_L_law_20 ?_
    refine Wp_eqi (x2 := nI E.2.2.2.2) rfl ?_
    refine Wp_bipush (x := 6) d_L_law_21 (by decide) ?_
    refine Wp_isub d_L_law_23 ?_
    refine Wp_icmp_gt d_L_law_24 (fun h24 => ?_) (fun h24 => ?_)
    ·
      have g24 : ((nI E.2.2.2.2) - 6).toInt < (nI i).toInt := i_lt h24
      refine Wp_iconst (x := 1) d_L_law_1131 (by decide) ?_
      refine Wp_reti (ty := .boolean) d_L_law_1132 rfl rfl ?_
      exact rfl
    ·
      have g24 : (nI i).toInt ≤ ((nI E.2.2.2.2) - 6).toInt := i_nlt h24
      refine Wp_aload_n d_L_law_27 rfl ?_
      refine Wp_iload_n d_L_law_28 rfl ?_
      refine Wp_xaldN (j := i) rfl d_L_law_29 rfl (by omega) ?_
      refine Wp_bipush (x := 31) d_L_law_30 (by decide) ?_
      refine Wp_iand d_L_law_32 ?_
      by_cases t0 : ((E.2.2.2.1 i) &&& 31).toInt = 0
      ·
        refine Wp_tabIn (off := 143) (tgt := 176) d_L_law_33 (by omega) (by omega) (by rw [t0]; rfl) (by decide) ?_
        refine Wp_aload_n d_L_law_176 rfl ?_
        refine Wp_aload_n d_L_law_177 rfl ?_
        refine Wp_iload_n d_L_law_178 rfl ?_
        refine Wp_iconst (x := 1) d_L_law_179 (by decide) ?_
        refine Wp_iadd d_L_law_180 ?_
        refine Wp_eqi (x2 := nI (i + 1)) (nI_add i 1) ?_
        refine Wp_xaldN (j := (i + 1)) rfl d_L_law_181 rfl (by omega) ?_
        refine Wp_ivv_i (o := 0) (As := [vi (E.2.2.2.1 (i + 1))]) d_L_law_182 ln_L_13 mk_F_type rfl rfl rfl rfl rfl (by omega) (t_F_type E (d - 1) (by omega) w S hC hV (E.2.2.2.1 (i + 1))) (fun r182 w182 c182 => ?_)
        obtain ⟨e1, hC1, f1⟩ := c182
        have hM1 := MM_c hM f1
        rw [e1]
        refine Wp_aload_n d_L_law_185 rfl ?_
        refine Wp_aload_n d_L_law_186 rfl ?_
        refine Wp_iload_n d_L_law_187 rfl ?_
        refine Wp_iconst (x := 1) d_L_law_188 (by decide) ?_
        refine Wp_iadd d_L_law_189 ?_
        refine Wp_eqi (x2 := nI (i + 1)) (nI_add i 1) ?_
        refine Wp_xaldN (j := (i + 1)) rfl d_L_law_190 rfl (by omega) ?_
        refine Wp_ivv_i (o := 33) (As := [vi (E.2.2.2.1 (i + 1))]) d_L_law_191 ln_L_17 mk_M_type rfl rfl rfl rfl rfl (by omega) (t_M_type E (d - 1) (by omega) w182 S hM1 hV (E.2.2.2.1 (i + 1))) (fun r191 w191 c191 => ?_)
        obtain ⟨e2, hM2, f2⟩ := c191
        rw [e2]
        refine Wp_icmp_eq d_L_law_194 (fun h194 => ?_) (fun q => absurd rfl q)
        refine Wp_iinc (z := nI (i + 6)) (ls2 := [lr 62, lr 0, lr 33, li (nI (i + 6))]) d_L_law_1125 rfl (nI_add i 6) rfl rfl rfl ?_
        refine Wp_goto d_L_law_1128 ?_
        exact ih (i + 6) w191 (by omega) (by omega) ⟨(oType S (E.2.2.2.1 (i + 1))).2, CC_m hC1 f2, hM2, V_type hV _⟩
      by_cases t1 : ((E.2.2.2.1 i) &&& 31).toInt = 1
      ·
        refine Wp_tabIn (off := 166) (tgt := 199) d_L_law_33 (by omega) (by omega) (by rw [t1]; rfl) (by decide) ?_
        refine Wp_aload_n d_L_law_199 rfl ?_
        refine Wp_ivv_i (o := 0) (As := []) d_L_law_200 ln_L_18 mk_F_wipe rfl rfl rfl rfl rfl (by omega) (t_F_wipe E (d - 1) (by omega) w S hC hV) (fun r200 w200 c200 => ?_)
        obtain ⟨e1, hC1, f1⟩ := c200
        have hM1 := MM_c hM f1
        rw [e1]
        refine Wp_aload_n d_L_law_203 rfl ?_
        refine Wp_ivv_i (o := 33) (As := []) d_L_law_204 ln_L_22 mk_M_wipe rfl rfl rfl rfl rfl (by omega) (t_M_wipe2 E (d - 1) w200 S hM1 hV) (fun r204 w204 c204 => ?_)
        obtain ⟨e2, hM2, f2⟩ := c204
        rw [e2]
        refine Wp_icmp_eq d_L_law_207 (fun h207 => ?_) (fun q => absurd rfl q)
        refine Wp_iinc (z := nI (i + 6)) (ls2 := [lr 62, lr 0, lr 33, li (nI (i + 6))]) d_L_law_1125 rfl (nI_add i 6) rfl rfl rfl ?_
        refine Wp_goto d_L_law_1128 ?_
        exact ih (i + 6) w204 (by omega) (by omega) ⟨(oWipe S).2, CC_m hC1 f2, hM2, VM_wi hV⟩
      by_cases t2 : ((E.2.2.2.1 i) &&& 31).toInt = 2
      ·
        refine Wp_tabIn (off := 179) (tgt := 212) d_L_law_33 (by omega) (by omega) (by rw [t2]; rfl) (by decide) ?_
        refine Wp_aload_n d_L_law_212 rfl ?_
        refine Wp_ivv_d (o := 0) (As := []) d_L_law_213 ln_L_23 mk_F_fault rfl rfl rfl rfl rfl (by omega) (t_F_fault E (d - 1) (by omega) w S hC) ?_
        refine Wp_aload_n d_L_law_216 rfl ?_
        refine Wp_ivv_i (o := 33) (As := []) d_L_law_217 ln_L_26 mk_M_fault rfl rfl rfl rfl rfl (by omega) (t_M_fault E (d - 1) (by omega) w S hM hV) (fun r217 w217 c217 => ?_)
        obtain ⟨e2, hP2, f2⟩ := c217
        rw [e2]
        refine Wp_icmp_eq d_L_law_220 (fun h220 => ?_) (fun q => absurd rfl q)
        refine Wp_iinc (z := nI (i + 6)) (ls2 := [lr 62, lr 0, lr 33, li (nI (i + 6))]) d_L_law_1125 rfl (nI_add i 6) rfl rfl rfl ?_
        refine Wp_goto d_L_law_1128 ?_
        exact ih (i + 6) w217 (by omega) (by omega) ⟨S, CC_m hC (frF_m f2), hP2.1, hV⟩
      by_cases t3 : ((E.2.2.2.1 i) &&& 31).toInt = 3
      ·
        refine Wp_tabIn (off := 192) (tgt := 225) d_L_law_33 (by omega) (by omega) (by rw [t3]; rfl) (by decide) ?_
        refine Wp_aload_n d_L_law_225 rfl ?_
        refine Wp_aload_n d_L_law_226 rfl ?_
        refine Wp_iload_n d_L_law_227 rfl ?_
        refine Wp_iconst (x := 1) d_L_law_228 (by decide) ?_
        refine Wp_iadd d_L_law_229 ?_
        refine Wp_eqi (x2 := nI (i + 1)) (nI_add i 1) ?_
        refine Wp_xaldN (j := (i + 1)) rfl d_L_law_230 rfl (by omega) ?_
        refine Wp_aload_n d_L_law_231 rfl ?_
        refine Wp_iload_n d_L_law_232 rfl ?_
        refine Wp_iconst (x := 2) d_L_law_233 (by decide) ?_
        refine Wp_iadd d_L_law_234 ?_
        refine Wp_eqi (x2 := nI (i + 2)) (nI_add i 2) ?_
        refine Wp_xaldN (j := (i + 2)) rfl d_L_law_235 rfl (by omega) ?_
        refine Wp_ivv_d (o := 0) (As := [vi (E.2.2.2.1 (i + 1)), vi (E.2.2.2.1 (i + 2))]) d_L_law_236 ln_L_27 mk_F_person rfl rfl rfl rfl rfl (by omega) (t_F_person E (d - 1) (by omega) w S (CC_PR hC) hV (E.2.2.2.1 (i + 1)) (E.2.2.2.1 (i + 2))) ?_
        refine Wp_aload_n d_L_law_239 rfl ?_
        refine Wp_aload_n d_L_law_240 rfl ?_
        refine Wp_iload_n d_L_law_241 rfl ?_
        refine Wp_iconst (x := 1) d_L_law_242 (by decide) ?_
        refine Wp_iadd d_L_law_243 ?_
        refine Wp_eqi (x2 := nI (i + 1)) (nI_add i 1) ?_
        refine Wp_xaldN (j := (i + 1)) rfl d_L_law_244 rfl (by omega) ?_
        refine Wp_aload_n d_L_law_245 rfl ?_
        refine Wp_iload_n d_L_law_246 rfl ?_
        refine Wp_iconst (x := 2) d_L_law_247 (by decide) ?_
        refine Wp_iadd d_L_law_248 ?_
        refine Wp_eqi (x2 := nI (i + 2)) (nI_add i 2) ?_
        refine Wp_xaldN (j := (i + 2)) rfl d_L_law_249 rfl (by omega) ?_
        refine Wp_ivv_i (o := 33) (As := [vi (E.2.2.2.1 (i + 1)), vi (E.2.2.2.1 (i + 2))]) d_L_law_250 ln_L_31 mk_M_person rfl rfl rfl rfl rfl (by omega) (t_M_person E (d - 1) (by omega) w S hM hV (E.2.2.2.1 (i + 1)) (E.2.2.2.1 (i + 2))) (fun r250 w250 c250 => ?_)
        obtain ⟨e2, hP2, f2⟩ := c250
        rw [e2]
        refine Wp_icmp_eq d_L_law_253 (fun h253 => ?_) (fun q => absurd rfl q)
        refine Wp_iinc (z := nI (i + 6)) (ls2 := [lr 62, lr 0, lr 33, li (nI (i + 6))]) d_L_law_1125 rfl (nI_add i 6) rfl rfl rfl ?_
        refine Wp_goto d_L_law_1128 ?_
        exact ih (i + 6) w250 (by omega) (by omega) ⟨S, CC_m hC (frF_m f2), hP2.1, hV⟩
      by_cases t4 : ((E.2.2.2.1 i) &&& 31).toInt = 4
      ·
        refine Wp_tabIn (off := 225) (tgt := 258) d_L_law_33 (by omega) (by omega) (by rw [t4]; rfl) (by decide) ?_
        refine Wp_aload_n d_L_law_258 rfl ?_
        refine Wp_aload_n d_L_law_259 rfl ?_
        refine Wp_iload_n d_L_law_260 rfl ?_
        refine Wp_iconst (x := 1) d_L_law_261 (by decide) ?_
        refine Wp_iadd d_L_law_262 ?_
        refine Wp_eqi (x2 := nI (i + 1)) (nI_add i 1) ?_
        refine Wp_xaldN (j := (i + 1)) rfl d_L_law_263 rfl (by omega) ?_
        refine Wp_aload_n d_L_law_264 rfl ?_
        refine Wp_iload_n d_L_law_265 rfl ?_
        refine Wp_iconst (x := 2) d_L_law_266 (by decide) ?_
        refine Wp_iadd d_L_law_267 ?_
        refine Wp_eqi (x2 := nI (i + 2)) (nI_add i 2) ?_
        refine Wp_xaldN (j := (i + 2)) rfl d_L_law_268 rfl (by omega) ?_
        refine Wp_aload_n d_L_law_269 rfl ?_
        refine Wp_iload_n d_L_law_270 rfl ?_
        refine Wp_iconst (x := 3) d_L_law_271 (by decide) ?_
        refine Wp_iadd d_L_law_272 ?_
        refine Wp_eqi (x2 := nI (i + 3)) (nI_add i 3) ?_
        refine Wp_xaldN (j := (i + 3)) rfl d_L_law_273 rfl (by omega) ?_
        refine Wp_ivv_i (o := 0) (As := [vi (E.2.2.2.1 (i + 1)), vi (E.2.2.2.1 (i + 2)), vi (E.2.2.2.1 (i + 3))]) d_L_law_274 ln_L_32 mk_F_put rfl rfl rfl rfl rfl (by omega) (t_F_put E (d - 1) (by omega) w S hC hV (E.2.2.2.1 (i + 1)) (E.2.2.2.1 (i + 2)) (E.2.2.2.1 (i + 3))) (fun r274 w274 c274 => ?_)
        obtain ⟨e1, hC1, f1⟩ := c274
        have hM1 := MM_c hM f1
        rw [e1]
        refine Wp_aload_n d_L_law_277 rfl ?_
        refine Wp_aload_n d_L_law_278 rfl ?_
        refine Wp_iload_n d_L_law_279 rfl ?_
        refine Wp_iconst (x := 1) d_L_law_280 (by decide) ?_
        refine Wp_iadd d_L_law_281 ?_
        refine Wp_eqi (x2 := nI (i + 1)) (nI_add i 1) ?_
        refine Wp_xaldN (j := (i + 1)) rfl d_L_law_282 rfl (by omega) ?_
        refine Wp_aload_n d_L_law_283 rfl ?_
        refine Wp_iload_n d_L_law_284 rfl ?_
        refine Wp_iconst (x := 2) d_L_law_285 (by decide) ?_
        refine Wp_iadd d_L_law_286 ?_
        refine Wp_eqi (x2 := nI (i + 2)) (nI_add i 2) ?_
        refine Wp_xaldN (j := (i + 2)) rfl d_L_law_287 rfl (by omega) ?_
        refine Wp_aload_n d_L_law_288 rfl ?_
        refine Wp_iload_n d_L_law_289 rfl ?_
        refine Wp_iconst (x := 3) d_L_law_290 (by decide) ?_
        refine Wp_iadd d_L_law_291 ?_
        refine Wp_eqi (x2 := nI (i + 3)) (nI_add i 3) ?_
        refine Wp_xaldN (j := (i + 3)) rfl d_L_law_292 rfl (by omega) ?_
        refine Wp_ivv_i (o := 33) (As := [vi (E.2.2.2.1 (i + 1)), vi (E.2.2.2.1 (i + 2)), vi (E.2.2.2.1 (i + 3))]) d_L_law_293 ln_L_36 mk_M_put rfl rfl rfl rfl rfl (by omega) (t_M_put E (d - 1) (by omega) w274 S hM1 (E.2.2.2.1 (i + 1)) (E.2.2.2.1 (i + 2)) (E.2.2.2.1 (i + 3))) (fun r293 w293 c293 => ?_)
        obtain ⟨e2, hM2, f2⟩ := c293
        rw [e2]
        refine Wp_icmp_eq d_L_law_296 (fun h296 => ?_) (fun q => absurd rfl q)
        refine Wp_iinc (z := nI (i + 6)) (ls2 := [lr 62, lr 0, lr 33, li (nI (i + 6))]) d_L_law_1125 rfl (nI_add i 6) rfl rfl rfl ?_
        refine Wp_goto d_L_law_1128 ?_
        exact ih (i + 6) w293 (by omega) (by omega) ⟨(oPut S (E.2.2.2.1 (i + 1)) (E.2.2.2.1 (i + 2)) (E.2.2.2.1 (i + 3))).2, CC_m hC1 f2, hM2, V_put hV _ _ _⟩
      by_cases t5 : ((E.2.2.2.1 i) &&& 31).toInt = 5
      ·
        refine Wp_tabIn (off := 268) (tgt := 301) d_L_law_33 (by omega) (by omega) (by rw [t5]; rfl) (by decide) ?_
        refine Wp_aload_n d_L_law_301 rfl ?_
        refine Wp_aload_n d_L_law_302 rfl ?_
        refine Wp_iload_n d_L_law_303 rfl ?_
        refine Wp_iconst (x := 1) d_L_law_304 (by decide) ?_
        refine Wp_iadd d_L_law_305 ?_
        refine Wp_eqi (x2 := nI (i + 1)) (nI_add i 1) ?_
        refine Wp_xaldN (j := (i + 1)) rfl d_L_law_306 rfl (by omega) ?_
        refine Wp_aload_n d_L_law_307 rfl ?_
        refine Wp_iload_n d_L_law_308 rfl ?_
        refine Wp_iconst (x := 2) d_L_law_309 (by decide) ?_
        refine Wp_iadd d_L_law_310 ?_
        refine Wp_eqi (x2 := nI (i + 2)) (nI_add i 2) ?_
        refine Wp_xaldN (j := (i + 2)) rfl d_L_law_311 rfl (by omega) ?_
        refine Wp_ivv_i (o := 0) (As := [vi (E.2.2.2.1 (i + 1)), vi (E.2.2.2.1 (i + 2))]) d_L_law_312 ln_L_37 mk_F_lie rfl rfl rfl rfl rfl (by omega) (t_F_lie E (d - 1) (by omega) w S hC hV (E.2.2.2.1 (i + 1)) (E.2.2.2.1 (i + 2))) (fun r312 w312 c312 => ?_)
        obtain ⟨e1, hC1, f1⟩ := c312
        have hM1 := MM_c hM f1
        rw [e1]
        refine Wp_aload_n d_L_law_315 rfl ?_
        refine Wp_aload_n d_L_law_316 rfl ?_
        refine Wp_iload_n d_L_law_317 rfl ?_
        refine Wp_iconst (x := 1) d_L_law_318 (by decide) ?_
        refine Wp_iadd d_L_law_319 ?_
        refine Wp_eqi (x2 := nI (i + 1)) (nI_add i 1) ?_
        refine Wp_xaldN (j := (i + 1)) rfl d_L_law_320 rfl (by omega) ?_
        refine Wp_aload_n d_L_law_321 rfl ?_
        refine Wp_iload_n d_L_law_322 rfl ?_
        refine Wp_iconst (x := 2) d_L_law_323 (by decide) ?_
        refine Wp_iadd d_L_law_324 ?_
        refine Wp_eqi (x2 := nI (i + 2)) (nI_add i 2) ?_
        refine Wp_xaldN (j := (i + 2)) rfl d_L_law_325 rfl (by omega) ?_
        refine Wp_ivv_i (o := 33) (As := [vi (E.2.2.2.1 (i + 1)), vi (E.2.2.2.1 (i + 2))]) d_L_law_326 ln_L_40 mk_M_lie rfl rfl rfl rfl rfl (by omega) (t_M_lie E (d - 1) (by omega) w312 S hM1 hV (E.2.2.2.1 (i + 1)) (E.2.2.2.1 (i + 2))) (fun r326 w326 c326 => ?_)
        obtain ⟨e2, hM2, f2⟩ := c326
        rw [e2]
        refine Wp_icmp_eq d_L_law_329 (fun h329 => ?_) (fun q => absurd rfl q)
        refine Wp_iinc (z := nI (i + 6)) (ls2 := [lr 62, lr 0, lr 33, li (nI (i + 6))]) d_L_law_1125 rfl (nI_add i 6) rfl rfl rfl ?_
        refine Wp_goto d_L_law_1128 ?_
        exact ih (i + 6) w326 (by omega) (by omega) ⟨(oLie S (E.2.2.2.1 (i + 1)) (E.2.2.2.1 (i + 2))).2, CC_m hC1 f2, hM2, V_lie hV _ _⟩
      by_cases t6 : ((E.2.2.2.1 i) &&& 31).toInt = 6
      ·
        refine Wp_tabIn (off := 301) (tgt := 334) d_L_law_33 (by omega) (by omega) (by rw [t6]; rfl) (by decide) ?_
        refine Wp_aload_n d_L_law_334 rfl ?_
        refine Wp_aload_n d_L_law_335 rfl ?_
        refine Wp_iload_n d_L_law_336 rfl ?_
        refine Wp_iconst (x := 1) d_L_law_337 (by decide) ?_
        refine Wp_iadd d_L_law_338 ?_
        refine Wp_eqi (x2 := nI (i + 1)) (nI_add i 1) ?_
        refine Wp_xaldN (j := (i + 1)) rfl d_L_law_339 rfl (by omega) ?_
        refine Wp_ivv_i (o := 0) (As := [vi (E.2.2.2.1 (i + 1))]) d_L_law_340 ln_L_41 mk_F_read rfl rfl rfl rfl rfl (by omega) (t_F_read E (d - 1) (by omega) w S hC hV (E.2.2.2.1 (i + 1))) (fun r340 w340 c340 => ?_)
        obtain ⟨e1, hC1, f1⟩ := c340
        have hM1 := MM_c hM f1
        rw [e1]
        refine Wp_aload_n d_L_law_343 rfl ?_
        refine Wp_aload_n d_L_law_344 rfl ?_
        refine Wp_iload_n d_L_law_345 rfl ?_
        refine Wp_iconst (x := 1) d_L_law_346 (by decide) ?_
        refine Wp_iadd d_L_law_347 ?_
        refine Wp_eqi (x2 := nI (i + 1)) (nI_add i 1) ?_
        refine Wp_xaldN (j := (i + 1)) rfl d_L_law_348 rfl (by omega) ?_
        refine Wp_ivv_i (o := 33) (As := [vi (E.2.2.2.1 (i + 1))]) d_L_law_349 ln_L_44 mk_M_read rfl rfl rfl rfl rfl (by omega) (t_M_read E (d - 1) (by omega) w340 S hM1 hV (E.2.2.2.1 (i + 1))) (fun r349 w349 c349 => ?_)
        obtain ⟨e2, hM2, f2⟩ := c349
        rw [e2]
        refine Wp_icmp_eq d_L_law_352 (fun h352 => ?_) (fun q => absurd rfl q)
        refine Wp_iinc (z := nI (i + 6)) (ls2 := [lr 62, lr 0, lr 33, li (nI (i + 6))]) d_L_law_1125 rfl (nI_add i 6) rfl rfl rfl ?_
        refine Wp_goto d_L_law_1128 ?_
        exact ih (i + 6) w349 (by omega) (by omega) ⟨(oRead S (E.2.2.2.1 (i + 1))).2, CC_m hC1 f2, hM2, V_read hV _⟩
      by_cases t7 : ((E.2.2.2.1 i) &&& 31).toInt = 7
      ·
        refine Wp_tabIn (off := 324) (tgt := 357) d_L_law_33 (by omega) (by omega) (by rw [t7]; rfl) (by decide) ?_
        refine Wp_aload_n d_L_law_357 rfl ?_
        refine Wp_aload_n d_L_law_358 rfl ?_
        refine Wp_iload_n d_L_law_359 rfl ?_
        refine Wp_iconst (x := 1) d_L_law_360 (by decide) ?_
        refine Wp_iadd d_L_law_361 ?_
        refine Wp_eqi (x2 := nI (i + 1)) (nI_add i 1) ?_
        refine Wp_xaldN (j := (i + 1)) rfl d_L_law_362 rfl (by omega) ?_
        refine Wp_aload_n d_L_law_363 rfl ?_
        refine Wp_iload_n d_L_law_364 rfl ?_
        refine Wp_iconst (x := 2) d_L_law_365 (by decide) ?_
        refine Wp_iadd d_L_law_366 ?_
        refine Wp_eqi (x2 := nI (i + 2)) (nI_add i 2) ?_
        refine Wp_xaldN (j := (i + 2)) rfl d_L_law_367 rfl (by omega) ?_
        refine Wp_ivv_i (o := 0) (As := [vi (E.2.2.2.1 (i + 1)), vi (E.2.2.2.1 (i + 2))]) d_L_law_368 ln_L_45 mk_F_set rfl rfl rfl rfl rfl (by omega) (t_F_set E (d - 1) (by omega) w S hC hV (E.2.2.2.1 (i + 1)) (E.2.2.2.1 (i + 2))) (fun r368 w368 c368 => ?_)
        obtain ⟨e1, hC1, f1⟩ := c368
        have hM1 := MM_c hM f1
        rw [e1]
        refine Wp_aload_n d_L_law_371 rfl ?_
        refine Wp_aload_n d_L_law_372 rfl ?_
        refine Wp_iload_n d_L_law_373 rfl ?_
        refine Wp_iconst (x := 1) d_L_law_374 (by decide) ?_
        refine Wp_iadd d_L_law_375 ?_
        refine Wp_eqi (x2 := nI (i + 1)) (nI_add i 1) ?_
        refine Wp_xaldN (j := (i + 1)) rfl d_L_law_376 rfl (by omega) ?_
        refine Wp_aload_n d_L_law_377 rfl ?_
        refine Wp_iload_n d_L_law_378 rfl ?_
        refine Wp_iconst (x := 2) d_L_law_379 (by decide) ?_
        refine Wp_iadd d_L_law_380 ?_
        refine Wp_eqi (x2 := nI (i + 2)) (nI_add i 2) ?_
        refine Wp_xaldN (j := (i + 2)) rfl d_L_law_381 rfl (by omega) ?_
        refine Wp_ivv_i (o := 33) (As := [vi (E.2.2.2.1 (i + 1)), vi (E.2.2.2.1 (i + 2))]) d_L_law_382 ln_L_48 mk_M_set rfl rfl rfl rfl rfl (by omega) (t_M_set E (d - 1) (by omega) w368 S hM1 hV (E.2.2.2.1 (i + 1)) (E.2.2.2.1 (i + 2))) (fun r382 w382 c382 => ?_)
        obtain ⟨e2, hM2, f2⟩ := c382
        rw [e2]
        refine Wp_icmp_eq d_L_law_385 (fun h385 => ?_) (fun q => absurd rfl q)
        refine Wp_iinc (z := nI (i + 6)) (ls2 := [lr 62, lr 0, lr 33, li (nI (i + 6))]) d_L_law_1125 rfl (nI_add i 6) rfl rfl rfl ?_
        refine Wp_goto d_L_law_1128 ?_
        exact ih (i + 6) w382 (by omega) (by omega) ⟨(oSet S (E.2.2.2.1 (i + 1)) (E.2.2.2.1 (i + 2))).2, CC_m hC1 f2, hM2, V_set hV _ _⟩
      by_cases t8 : ((E.2.2.2.1 i) &&& 31).toInt = 8
      ·
        refine Wp_tabIn (off := 357) (tgt := 390) d_L_law_33 (by omega) (by omega) (by rw [t8]; rfl) (by decide) ?_
        refine Wp_aload_n d_L_law_390 rfl ?_
        refine Wp_aload_n d_L_law_391 rfl ?_
        refine Wp_iload_n d_L_law_392 rfl ?_
        refine Wp_iconst (x := 1) d_L_law_393 (by decide) ?_
        refine Wp_iadd d_L_law_394 ?_
        refine Wp_eqi (x2 := nI (i + 1)) (nI_add i 1) ?_
        refine Wp_xaldN (j := (i + 1)) rfl d_L_law_395 rfl (by omega) ?_
        refine Wp_aload_n d_L_law_396 rfl ?_
        refine Wp_iload_n d_L_law_397 rfl ?_
        refine Wp_iconst (x := 2) d_L_law_398 (by decide) ?_
        refine Wp_iadd d_L_law_399 ?_
        refine Wp_eqi (x2 := nI (i + 2)) (nI_add i 2) ?_
        refine Wp_xaldN (j := (i + 2)) rfl d_L_law_400 rfl (by omega) ?_
        refine Wp_aload_n d_L_law_401 rfl ?_
        refine Wp_iload_n d_L_law_402 rfl ?_
        refine Wp_iconst (x := 3) d_L_law_403 (by decide) ?_
        refine Wp_iadd d_L_law_404 ?_
        refine Wp_eqi (x2 := nI (i + 3)) (nI_add i 3) ?_
        refine Wp_xaldN (j := (i + 3)) rfl d_L_law_405 rfl (by omega) ?_
        refine Wp_aload_n d_L_law_406 rfl ?_
        refine Wp_iload_n d_L_law_407 rfl ?_
        refine Wp_iconst (x := 4) d_L_law_408 (by decide) ?_
        refine Wp_iadd d_L_law_409 ?_
        refine Wp_eqi (x2 := nI (i + 4)) (nI_add i 4) ?_
        refine Wp_xaldN (j := (i + 4)) rfl d_L_law_410 rfl (by omega) ?_
        refine Wp_ivv_i (o := 0) (As := [vi (E.2.2.2.1 (i + 1)), vi (E.2.2.2.1 (i + 2)), vi (E.2.2.2.1 (i + 3)), vi (E.2.2.2.1 (i + 4))]) d_L_law_411 ln_L_49 mk_F_pair rfl rfl rfl rfl rfl (by omega) (t_F_pair E (d - 1) (by omega) w S hC hV (E.2.2.2.1 (i + 1)) (E.2.2.2.1 (i + 2)) (E.2.2.2.1 (i + 3)) (E.2.2.2.1 (i + 4))) (fun r411 w411 c411 => ?_)
        obtain ⟨e1, hC1, f1⟩ := c411
        have hM1 := MM_c hM f1
        rw [e1]
        refine Wp_aload_n d_L_law_414 rfl ?_
        refine Wp_aload_n d_L_law_415 rfl ?_
        refine Wp_iload_n d_L_law_416 rfl ?_
        refine Wp_iconst (x := 1) d_L_law_417 (by decide) ?_
        refine Wp_iadd d_L_law_418 ?_
        refine Wp_eqi (x2 := nI (i + 1)) (nI_add i 1) ?_
        refine Wp_xaldN (j := (i + 1)) rfl d_L_law_419 rfl (by omega) ?_
        refine Wp_aload_n d_L_law_420 rfl ?_
        refine Wp_iload_n d_L_law_421 rfl ?_
        refine Wp_iconst (x := 2) d_L_law_422 (by decide) ?_
        refine Wp_iadd d_L_law_423 ?_
        refine Wp_eqi (x2 := nI (i + 2)) (nI_add i 2) ?_
        refine Wp_xaldN (j := (i + 2)) rfl d_L_law_424 rfl (by omega) ?_
        refine Wp_aload_n d_L_law_425 rfl ?_
        refine Wp_iload_n d_L_law_426 rfl ?_
        refine Wp_iconst (x := 3) d_L_law_427 (by decide) ?_
        refine Wp_iadd d_L_law_428 ?_
        refine Wp_eqi (x2 := nI (i + 3)) (nI_add i 3) ?_
        refine Wp_xaldN (j := (i + 3)) rfl d_L_law_429 rfl (by omega) ?_
        refine Wp_aload_n d_L_law_430 rfl ?_
        refine Wp_iload_n d_L_law_431 rfl ?_
        refine Wp_iconst (x := 4) d_L_law_432 (by decide) ?_
        refine Wp_iadd d_L_law_433 ?_
        refine Wp_eqi (x2 := nI (i + 4)) (nI_add i 4) ?_
        refine Wp_xaldN (j := (i + 4)) rfl d_L_law_434 rfl (by omega) ?_
        refine Wp_ivv_i (o := 33) (As := [vi (E.2.2.2.1 (i + 1)), vi (E.2.2.2.1 (i + 2)), vi (E.2.2.2.1 (i + 3)), vi (E.2.2.2.1 (i + 4))]) d_L_law_435 ln_L_53 mk_M_pair rfl rfl rfl rfl rfl (by omega) (t_M_pair E (d - 1) (by omega) w411 S hM1 hV (E.2.2.2.1 (i + 1)) (E.2.2.2.1 (i + 2)) (E.2.2.2.1 (i + 3)) (E.2.2.2.1 (i + 4))) (fun r435 w435 c435 => ?_)
        obtain ⟨e2, hM2, f2⟩ := c435
        rw [e2]
        refine Wp_icmp_eq d_L_law_438 (fun h438 => ?_) (fun q => absurd rfl q)
        refine Wp_iinc (z := nI (i + 6)) (ls2 := [lr 62, lr 0, lr 33, li (nI (i + 6))]) d_L_law_1125 rfl (nI_add i 6) rfl rfl rfl ?_
        refine Wp_goto d_L_law_1128 ?_
        exact ih (i + 6) w435 (by omega) (by omega) ⟨(oPair S (E.2.2.2.1 (i + 1)) (E.2.2.2.1 (i + 2)) (E.2.2.2.1 (i + 3)) (E.2.2.2.1 (i + 4))).2, CC_m hC1 f2, hM2, V_pair hV _ _ _ _⟩
      by_cases t9 : ((E.2.2.2.1 i) &&& 31).toInt = 9
      ·
        refine Wp_tabIn (off := 410) (tgt := 443) d_L_law_33 (by omega) (by omega) (by rw [t9]; rfl) (by decide) ?_
        refine Wp_aload_n d_L_law_443 rfl ?_
        refine Wp_aload_n d_L_law_444 rfl ?_
        refine Wp_iload_n d_L_law_445 rfl ?_
        refine Wp_iconst (x := 1) d_L_law_446 (by decide) ?_
        refine Wp_iadd d_L_law_447 ?_
        refine Wp_eqi (x2 := nI (i + 1)) (nI_add i 1) ?_
        refine Wp_xaldN (j := (i + 1)) rfl d_L_law_448 rfl (by omega) ?_
        refine Wp_aload_n d_L_law_449 rfl ?_
        refine Wp_iload_n d_L_law_450 rfl ?_
        refine Wp_iconst (x := 2) d_L_law_451 (by decide) ?_
        refine Wp_iadd d_L_law_452 ?_
        refine Wp_eqi (x2 := nI (i + 2)) (nI_add i 2) ?_
        refine Wp_xaldN (j := (i + 2)) rfl d_L_law_453 rfl (by omega) ?_
        refine Wp_ivv_i (o := 0) (As := [vi (E.2.2.2.1 (i + 1)), vi (E.2.2.2.1 (i + 2))]) d_L_law_454 ln_L_54 mk_F_boat rfl rfl rfl rfl rfl (by omega) (t_F_boat E (d - 1) (by omega) w S hC hV (E.2.2.2.1 (i + 1)) (E.2.2.2.1 (i + 2))) (fun r454 w454 c454 => ?_)
        obtain ⟨e1, hC1, f1⟩ := c454
        have hM1 := MM_c hM f1
        rw [e1]
        refine Wp_aload_n d_L_law_457 rfl ?_
        refine Wp_aload_n d_L_law_458 rfl ?_
        refine Wp_iload_n d_L_law_459 rfl ?_
        refine Wp_iconst (x := 1) d_L_law_460 (by decide) ?_
        refine Wp_iadd d_L_law_461 ?_
        refine Wp_eqi (x2 := nI (i + 1)) (nI_add i 1) ?_
        refine Wp_xaldN (j := (i + 1)) rfl d_L_law_462 rfl (by omega) ?_
        refine Wp_aload_n d_L_law_463 rfl ?_
        refine Wp_iload_n d_L_law_464 rfl ?_
        refine Wp_iconst (x := 2) d_L_law_465 (by decide) ?_
        refine Wp_iadd d_L_law_466 ?_
        refine Wp_eqi (x2 := nI (i + 2)) (nI_add i 2) ?_
        refine Wp_xaldN (j := (i + 2)) rfl d_L_law_467 rfl (by omega) ?_
        refine Wp_ivv_i (o := 33) (As := [vi (E.2.2.2.1 (i + 1)), vi (E.2.2.2.1 (i + 2))]) d_L_law_468 ln_L_57 mk_M_boat rfl rfl rfl rfl rfl (by omega) (t_M_boat E (d - 1) (by omega) w454 S hM1 hV (E.2.2.2.1 (i + 1)) (E.2.2.2.1 (i + 2))) (fun r468 w468 c468 => ?_)
        obtain ⟨e2, hP2, f2⟩ := c468
        rw [e2]
        refine Wp_icmp_eq d_L_law_471 (fun h471 => ?_) (fun q => absurd rfl q)
        refine Wp_iinc (z := nI (i + 6)) (ls2 := [lr 62, lr 0, lr 33, li (nI (i + 6))]) d_L_law_1125 rfl (nI_add i 6) rfl rfl rfl ?_
        refine Wp_goto d_L_law_1128 ?_
        exact ih (i + 6) w468 (by omega) (by omega) ⟨S, CC_m hC1 (frF_m f2), hP2.1, hV⟩
      by_cases t10 : ((E.2.2.2.1 i) &&& 31).toInt = 10
      ·
        refine Wp_tabIn (off := 443) (tgt := 476) d_L_law_33 (by omega) (by omega) (by rw [t10]; rfl) (by decide) ?_
        refine Wp_aload_n d_L_law_476 rfl ?_
        refine Wp_aload_n d_L_law_477 rfl ?_
        refine Wp_iload_n d_L_law_478 rfl ?_
        refine Wp_iconst (x := 1) d_L_law_479 (by decide) ?_
        refine Wp_iadd d_L_law_480 ?_
        refine Wp_eqi (x2 := nI (i + 1)) (nI_add i 1) ?_
        refine Wp_xaldN (j := (i + 1)) rfl d_L_law_481 rfl (by omega) ?_
        refine Wp_aload_n d_L_law_482 rfl ?_
        refine Wp_iload_n d_L_law_483 rfl ?_
        refine Wp_iconst (x := 2) d_L_law_484 (by decide) ?_
        refine Wp_iadd d_L_law_485 ?_
        refine Wp_eqi (x2 := nI (i + 2)) (nI_add i 2) ?_
        refine Wp_xaldN (j := (i + 2)) rfl d_L_law_486 rfl (by omega) ?_
        refine Wp_ivv_i (o := 0) (As := [vi (E.2.2.2.1 (i + 1)), vi (E.2.2.2.1 (i + 2))]) d_L_law_487 ln_L_58 mk_F_day rfl rfl rfl rfl rfl (by omega) (t_F_day E (d - 1) (by omega) w S hC hV (E.2.2.2.1 (i + 1)) (E.2.2.2.1 (i + 2))) (fun r487 w487 c487 => ?_)
        obtain ⟨e1, hC1, f1⟩ := c487
        have hM1 := MM_c hM f1
        rw [e1]
        refine Wp_aload_n d_L_law_490 rfl ?_
        refine Wp_aload_n d_L_law_491 rfl ?_
        refine Wp_iload_n d_L_law_492 rfl ?_
        refine Wp_iconst (x := 1) d_L_law_493 (by decide) ?_
        refine Wp_iadd d_L_law_494 ?_
        refine Wp_eqi (x2 := nI (i + 1)) (nI_add i 1) ?_
        refine Wp_xaldN (j := (i + 1)) rfl d_L_law_495 rfl (by omega) ?_
        refine Wp_aload_n d_L_law_496 rfl ?_
        refine Wp_iload_n d_L_law_497 rfl ?_
        refine Wp_iconst (x := 2) d_L_law_498 (by decide) ?_
        refine Wp_iadd d_L_law_499 ?_
        refine Wp_eqi (x2 := nI (i + 2)) (nI_add i 2) ?_
        refine Wp_xaldN (j := (i + 2)) rfl d_L_law_500 rfl (by omega) ?_
        refine Wp_ivv_i (o := 33) (As := [vi (E.2.2.2.1 (i + 1)), vi (E.2.2.2.1 (i + 2))]) d_L_law_501 ln_L_61 mk_M_day rfl rfl rfl rfl rfl (by omega) (t_M_day E (d - 1) (by omega) w487 S hM1 hV (E.2.2.2.1 (i + 1)) (E.2.2.2.1 (i + 2))) (fun r501 w501 c501 => ?_)
        obtain ⟨e2, hP2, f2⟩ := c501
        rw [e2]
        refine Wp_icmp_eq d_L_law_504 (fun h504 => ?_) (fun q => absurd rfl q)
        refine Wp_iinc (z := nI (i + 6)) (ls2 := [lr 62, lr 0, lr 33, li (nI (i + 6))]) d_L_law_1125 rfl (nI_add i 6) rfl rfl rfl ?_
        refine Wp_goto d_L_law_1128 ?_
        exact ih (i + 6) w501 (by omega) (by omega) ⟨S, CC_m hC1 (f2), hP2.1, hV⟩
      by_cases t11 : ((E.2.2.2.1 i) &&& 31).toInt = 11
      ·
        refine Wp_tabIn (off := 476) (tgt := 509) d_L_law_33 (by omega) (by omega) (by rw [t11]; rfl) (by decide) ?_
        refine Wp_aload_n d_L_law_509 rfl ?_
        refine Wp_aload_n d_L_law_510 rfl ?_
        refine Wp_iload_n d_L_law_511 rfl ?_
        refine Wp_iconst (x := 1) d_L_law_512 (by decide) ?_
        refine Wp_iadd d_L_law_513 ?_
        refine Wp_eqi (x2 := nI (i + 1)) (nI_add i 1) ?_
        refine Wp_xaldN (j := (i + 1)) rfl d_L_law_514 rfl (by omega) ?_
        refine Wp_ivv_i (o := 0) (As := [vi (E.2.2.2.1 (i + 1))]) d_L_law_515 ln_L_62 mk_F_with rfl rfl rfl rfl rfl (by omega) (t_F_with E (d - 1) (by omega) w S hC hV (E.2.2.2.1 (i + 1))) (fun r515 w515 c515 => ?_)
        obtain ⟨e1, hC1, f1⟩ := c515
        have hM1 := MM_c hM f1
        rw [e1]
        refine Wp_aload_n d_L_law_518 rfl ?_
        refine Wp_aload_n d_L_law_519 rfl ?_
        refine Wp_iload_n d_L_law_520 rfl ?_
        refine Wp_iconst (x := 1) d_L_law_521 (by decide) ?_
        refine Wp_iadd d_L_law_522 ?_
        refine Wp_eqi (x2 := nI (i + 1)) (nI_add i 1) ?_
        refine Wp_xaldN (j := (i + 1)) rfl d_L_law_523 rfl (by omega) ?_
        refine Wp_ivv_i (o := 33) (As := [vi (E.2.2.2.1 (i + 1))]) d_L_law_524 ln_L_65 mk_M_with rfl rfl rfl rfl rfl (by omega) (t_M_with E (d - 1) (by omega) w515 S hM1 hV (E.2.2.2.1 (i + 1))) (fun r524 w524 c524 => ?_)
        obtain ⟨e2, hP2, f2⟩ := c524
        rw [e2]
        refine Wp_icmp_eq d_L_law_527 (fun h527 => ?_) (fun q => absurd rfl q)
        refine Wp_iinc (z := nI (i + 6)) (ls2 := [lr 62, lr 0, lr 33, li (nI (i + 6))]) d_L_law_1125 rfl (nI_add i 6) rfl rfl rfl ?_
        refine Wp_goto d_L_law_1128 ?_
        exact ih (i + 6) w524 (by omega) (by omega) ⟨S, CC_m hC1 (f2), hP2.1, hV⟩
      by_cases t12 : ((E.2.2.2.1 i) &&& 31).toInt = 12
      ·
        refine Wp_tabIn (off := 499) (tgt := 532) d_L_law_33 (by omega) (by omega) (by rw [t12]; rfl) (by decide) ?_
        refine Wp_aload_n d_L_law_532 rfl ?_
        refine Wp_ivv_i (o := 0) (As := []) d_L_law_533 ln_L_66 mk_F_odd rfl rfl rfl rfl rfl (by omega) (t_F_odd E (d - 1) (by omega) w S hC hV) (fun r533 w533 c533 => ?_)
        obtain ⟨e1, hC1, f1⟩ := c533
        have hM1 := MM_c hM f1
        rw [e1]
        refine Wp_aload_n d_L_law_536 rfl ?_
        refine Wp_ivv_i (o := 33) (As := []) d_L_law_537 ln_L_69 mk_M_odd rfl rfl rfl rfl rfl (by omega) (t_M_odd E (d - 1) (by omega) w533 S hM1 hV) (fun r537 w537 c537 => ?_)
        obtain ⟨e2, hP2, f2⟩ := c537
        rw [e2]
        refine Wp_icmp_eq d_L_law_540 (fun h540 => ?_) (fun q => absurd rfl q)
        refine Wp_iinc (z := nI (i + 6)) (ls2 := [lr 62, lr 0, lr 33, li (nI (i + 6))]) d_L_law_1125 rfl (nI_add i 6) rfl rfl rfl ?_
        refine Wp_goto d_L_law_1128 ?_
        exact ih (i + 6) w537 (by omega) (by omega) ⟨S, CC_m hC1 (f2), hP2.1, hV⟩
      by_cases t13 : ((E.2.2.2.1 i) &&& 31).toInt = 13
      ·
        refine Wp_tabIn (off := 512) (tgt := 545) d_L_law_33 (by omega) (by omega) (by rw [t13]; rfl) (by decide) ?_
        refine Wp_aload_n d_L_law_545 rfl ?_
        refine Wp_aload_n d_L_law_546 rfl ?_
        refine Wp_iload_n d_L_law_547 rfl ?_
        refine Wp_iconst (x := 1) d_L_law_548 (by decide) ?_
        refine Wp_iadd d_L_law_549 ?_
        refine Wp_eqi (x2 := nI (i + 1)) (nI_add i 1) ?_
        refine Wp_xaldN (j := (i + 1)) rfl d_L_law_550 rfl (by omega) ?_
        refine Wp_ivv_i (o := 0) (As := [vi (E.2.2.2.1 (i + 1))]) d_L_law_551 ln_L_70 mk_F_judged rfl rfl rfl rfl rfl (by omega) (t_F_judged E (d - 1) (by omega) w S hC hV (E.2.2.2.1 (i + 1))) (fun r551 w551 c551 => ?_)
        obtain ⟨e1, hC1, f1⟩ := c551
        have hM1 := MM_c hM f1
        rw [e1]
        refine Wp_aload_n d_L_law_554 rfl ?_
        refine Wp_aload_n d_L_law_555 rfl ?_
        refine Wp_iload_n d_L_law_556 rfl ?_
        refine Wp_iconst (x := 1) d_L_law_557 (by decide) ?_
        refine Wp_iadd d_L_law_558 ?_
        refine Wp_eqi (x2 := nI (i + 1)) (nI_add i 1) ?_
        refine Wp_xaldN (j := (i + 1)) rfl d_L_law_559 rfl (by omega) ?_
        refine Wp_ivv_i (o := 33) (As := [vi (E.2.2.2.1 (i + 1))]) d_L_law_560 ln_L_73 mk_M_judged rfl rfl rfl rfl rfl (by omega) (t_M_judged E (d - 1) (by omega) w551 S hM1 hV (E.2.2.2.1 (i + 1))) (fun r560 w560 c560 => ?_)
        obtain ⟨e2, hM2, f2⟩ := c560
        rw [e2]
        refine Wp_icmp_eq d_L_law_563 (fun h563 => ?_) (fun q => absurd rfl q)
        refine Wp_iinc (z := nI (i + 6)) (ls2 := [lr 62, lr 0, lr 33, li (nI (i + 6))]) d_L_law_1125 rfl (nI_add i 6) rfl rfl rfl ?_
        refine Wp_goto d_L_law_1128 ?_
        exact ih (i + 6) w560 (by omega) (by omega) ⟨(oJudged S (E.2.2.2.1 (i + 1))).2, CC_m hC1 f2, hM2, V_judged hV _⟩
      by_cases t14 : ((E.2.2.2.1 i) &&& 31).toInt = 14
      ·
        refine Wp_tabIn (off := 535) (tgt := 568) d_L_law_33 (by omega) (by omega) (by rw [t14]; rfl) (by decide) ?_
        refine Wp_aload_n d_L_law_568 rfl ?_
        refine Wp_aload_n d_L_law_569 rfl ?_
        refine Wp_iload_n d_L_law_570 rfl ?_
        refine Wp_iconst (x := 1) d_L_law_571 (by decide) ?_
        refine Wp_iadd d_L_law_572 ?_
        refine Wp_eqi (x2 := nI (i + 1)) (nI_add i 1) ?_
        refine Wp_xaldN (j := (i + 1)) rfl d_L_law_573 rfl (by omega) ?_
        refine Wp_ivv_i (o := 0) (As := [vi (E.2.2.2.1 (i + 1))]) d_L_law_574 ln_L_74 mk_F_costs rfl rfl rfl rfl rfl (by omega) (t_F_costs E (d - 1) (by omega) w S hC hV (E.2.2.2.1 (i + 1))) (fun r574 w574 c574 => ?_)
        obtain ⟨e1, hC1, f1⟩ := c574
        have hM1 := MM_c hM f1
        rw [e1]
        refine Wp_aload_n d_L_law_577 rfl ?_
        refine Wp_aload_n d_L_law_578 rfl ?_
        refine Wp_iload_n d_L_law_579 rfl ?_
        refine Wp_iconst (x := 1) d_L_law_580 (by decide) ?_
        refine Wp_iadd d_L_law_581 ?_
        refine Wp_eqi (x2 := nI (i + 1)) (nI_add i 1) ?_
        refine Wp_xaldN (j := (i + 1)) rfl d_L_law_582 rfl (by omega) ?_
        refine Wp_ivv_i (o := 33) (As := [vi (E.2.2.2.1 (i + 1))]) d_L_law_583 ln_L_77 mk_M_costs rfl rfl rfl rfl rfl (by omega) (t_M_costs E (d - 1) (by omega) w574 S hM1 hV (E.2.2.2.1 (i + 1))) (fun r583 w583 c583 => ?_)
        obtain ⟨e2, hM2, f2⟩ := c583
        rw [e2]
        refine Wp_icmp_eq d_L_law_586 (fun h586 => ?_) (fun q => absurd rfl q)
        refine Wp_iinc (z := nI (i + 6)) (ls2 := [lr 62, lr 0, lr 33, li (nI (i + 6))]) d_L_law_1125 rfl (nI_add i 6) rfl rfl rfl ?_
        refine Wp_goto d_L_law_1128 ?_
        exact ih (i + 6) w583 (by omega) (by omega) ⟨(oCosts S (E.2.2.2.1 (i + 1))).2, CC_m hC1 f2, hM2, V_costs hV _⟩
      by_cases t15 : ((E.2.2.2.1 i) &&& 31).toInt = 15
      ·
        refine Wp_tabIn (off := 558) (tgt := 591) d_L_law_33 (by omega) (by omega) (by rw [t15]; rfl) (by decide) ?_
        refine Wp_aload_n d_L_law_591 rfl ?_
        refine Wp_aload_n d_L_law_592 rfl ?_
        refine Wp_iload_n d_L_law_593 rfl ?_
        refine Wp_iconst (x := 1) d_L_law_594 (by decide) ?_
        refine Wp_iadd d_L_law_595 ?_
        refine Wp_eqi (x2 := nI (i + 1)) (nI_add i 1) ?_
        refine Wp_xaldN (j := (i + 1)) rfl d_L_law_596 rfl (by omega) ?_
        refine Wp_aload_n d_L_law_597 rfl ?_
        refine Wp_iload_n d_L_law_598 rfl ?_
        refine Wp_iconst (x := 2) d_L_law_599 (by decide) ?_
        refine Wp_iadd d_L_law_600 ?_
        refine Wp_eqi (x2 := nI (i + 2)) (nI_add i 2) ?_
        refine Wp_xaldN (j := (i + 2)) rfl d_L_law_601 rfl (by omega) ?_
        refine Wp_ivv_l (o := 0) (As := [vi (E.2.2.2.1 (i + 1)), vi (E.2.2.2.1 (i + 2))]) d_L_law_602 ln_L_78 mk_F_pays rfl rfl rfl rfl rfl (by omega) (t_F_pays E (d - 1) (by omega) w S hC hV (E.2.2.2.1 (i + 1)) (E.2.2.2.1 (i + 2))) (fun r602 w602 c602 => ?_)
        obtain ⟨e1, hC1, f1⟩ := c602
        have hM1 := MM_c hM f1
        rw [e1]
        refine Wp_aload_n d_L_law_605 rfl ?_
        refine Wp_aload_n d_L_law_606 rfl ?_
        refine Wp_iload_n d_L_law_607 rfl ?_
        refine Wp_iconst (x := 1) d_L_law_608 (by decide) ?_
        refine Wp_iadd d_L_law_609 ?_
        refine Wp_eqi (x2 := nI (i + 1)) (nI_add i 1) ?_
        refine Wp_xaldN (j := (i + 1)) rfl d_L_law_610 rfl (by omega) ?_
        refine Wp_aload_n d_L_law_611 rfl ?_
        refine Wp_iload_n d_L_law_612 rfl ?_
        refine Wp_iconst (x := 2) d_L_law_613 (by decide) ?_
        refine Wp_iadd d_L_law_614 ?_
        refine Wp_eqi (x2 := nI (i + 2)) (nI_add i 2) ?_
        refine Wp_xaldN (j := (i + 2)) rfl d_L_law_615 rfl (by omega) ?_
        refine Wp_ivv_l (o := 33) (As := [vi (E.2.2.2.1 (i + 1)), vi (E.2.2.2.1 (i + 2))]) d_L_law_616 ln_L_82 mk_M_pays rfl rfl rfl rfl rfl (by omega) (t_M_pays E (d - 1) (by omega) w602 S hM1 hV (E.2.2.2.1 (i + 1)) (E.2.2.2.1 (i + 2))) (fun r616 w616 c616 => ?_)
        obtain ⟨e2, hP2, f2⟩ := c616
        rw [e2]
        refine Wp_lcmp d_L_law_619 ?_
        refine Wp_if_eq d_L_law_620 (fun h620 => ?_) (fun q => absurd (lcs _) q)
        refine Wp_iinc (z := nI (i + 6)) (ls2 := [lr 62, lr 0, lr 33, li (nI (i + 6))]) d_L_law_1125 rfl (nI_add i 6) rfl rfl rfl ?_
        refine Wp_goto d_L_law_1128 ?_
        exact ih (i + 6) w616 (by omega) (by omega) ⟨S, CC_m hC1 (f2), hP2.1, hV⟩
      by_cases t16 : ((E.2.2.2.1 i) &&& 31).toInt = 16
      ·
        refine Wp_tabIn (off := 592) (tgt := 625) d_L_law_33 (by omega) (by omega) (by rw [t16]; rfl) (by decide) ?_
        refine Wp_aload_n d_L_law_625 rfl ?_
        refine Wp_aload_n d_L_law_626 rfl ?_
        refine Wp_iload_n d_L_law_627 rfl ?_
        refine Wp_iconst (x := 1) d_L_law_628 (by decide) ?_
        refine Wp_iadd d_L_law_629 ?_
        refine Wp_eqi (x2 := nI (i + 1)) (nI_add i 1) ?_
        refine Wp_xaldN (j := (i + 1)) rfl d_L_law_630 rfl (by omega) ?_
        refine Wp_aload_n d_L_law_631 rfl ?_
        refine Wp_iload_n d_L_law_632 rfl ?_
        refine Wp_iconst (x := 2) d_L_law_633 (by decide) ?_
        refine Wp_iadd d_L_law_634 ?_
        refine Wp_eqi (x2 := nI (i + 2)) (nI_add i 2) ?_
        refine Wp_xaldN (j := (i + 2)) rfl d_L_law_635 rfl (by omega) ?_
        refine Wp_ivv_l (o := 0) (As := [vi (E.2.2.2.1 (i + 1)), vi (E.2.2.2.1 (i + 2))]) d_L_law_636 ln_L_83 mk_F_share rfl rfl rfl rfl rfl (by omega) (t_F_share E (d - 1) (by omega) w S hC hV (E.2.2.2.1 (i + 1)) (E.2.2.2.1 (i + 2))) (fun r636 w636 c636 => ?_)
        obtain ⟨e1, hC1, f1⟩ := c636
        have hM1 := MM_c hM f1
        rw [e1]
        refine Wp_aload_n d_L_law_639 rfl ?_
        refine Wp_aload_n d_L_law_640 rfl ?_
        refine Wp_iload_n d_L_law_641 rfl ?_
        refine Wp_iconst (x := 1) d_L_law_642 (by decide) ?_
        refine Wp_iadd d_L_law_643 ?_
        refine Wp_eqi (x2 := nI (i + 1)) (nI_add i 1) ?_
        refine Wp_xaldN (j := (i + 1)) rfl d_L_law_644 rfl (by omega) ?_
        refine Wp_aload_n d_L_law_645 rfl ?_
        refine Wp_iload_n d_L_law_646 rfl ?_
        refine Wp_iconst (x := 2) d_L_law_647 (by decide) ?_
        refine Wp_iadd d_L_law_648 ?_
        refine Wp_eqi (x2 := nI (i + 2)) (nI_add i 2) ?_
        refine Wp_xaldN (j := (i + 2)) rfl d_L_law_649 rfl (by omega) ?_
        refine Wp_ivv_l (o := 33) (As := [vi (E.2.2.2.1 (i + 1)), vi (E.2.2.2.1 (i + 2))]) d_L_law_650 ln_L_86 mk_M_share rfl rfl rfl rfl rfl (by omega) (t_M_share E (d - 1) (by omega) w636 S hM1 hV (E.2.2.2.1 (i + 1)) (E.2.2.2.1 (i + 2))) (fun r650 w650 c650 => ?_)
        obtain ⟨e2, hP2, f2⟩ := c650
        rw [e2]
        refine Wp_lcmp d_L_law_653 ?_
        refine Wp_if_eq d_L_law_654 (fun h654 => ?_) (fun q => absurd (lcs _) q)
        refine Wp_iinc (z := nI (i + 6)) (ls2 := [lr 62, lr 0, lr 33, li (nI (i + 6))]) d_L_law_1125 rfl (nI_add i 6) rfl rfl rfl ?_
        refine Wp_goto d_L_law_1128 ?_
        exact ih (i + 6) w650 (by omega) (by omega) ⟨S, CC_m hC1 (f2), hP2.1, hV⟩
      by_cases t17 : ((E.2.2.2.1 i) &&& 31).toInt = 17
      ·
        refine Wp_tabIn (off := 626) (tgt := 659) d_L_law_33 (by omega) (by omega) (by rw [t17]; rfl) (by decide) ?_
        refine Wp_aload_n d_L_law_659 rfl ?_
        refine Wp_aload_n d_L_law_660 rfl ?_
        refine Wp_iload_n d_L_law_661 rfl ?_
        refine Wp_iconst (x := 1) d_L_law_662 (by decide) ?_
        refine Wp_iadd d_L_law_663 ?_
        refine Wp_eqi (x2 := nI (i + 1)) (nI_add i 1) ?_
        refine Wp_xaldN (j := (i + 1)) rfl d_L_law_664 rfl (by omega) ?_
        refine Wp_ivv_i (o := 0) (As := [vi (E.2.2.2.1 (i + 1))]) d_L_law_665 ln_L_87 mk_F_rather rfl rfl rfl rfl rfl (by omega) (t_F_rather E (d - 1) (by omega) w S hC hV (E.2.2.2.1 (i + 1))) (fun r665 w665 c665 => ?_)
        obtain ⟨e1, hC1, f1⟩ := c665
        have hM1 := MM_c hM f1
        rw [e1]
        refine Wp_aload_n d_L_law_668 rfl ?_
        refine Wp_aload_n d_L_law_669 rfl ?_
        refine Wp_iload_n d_L_law_670 rfl ?_
        refine Wp_iconst (x := 1) d_L_law_671 (by decide) ?_
        refine Wp_iadd d_L_law_672 ?_
        refine Wp_eqi (x2 := nI (i + 1)) (nI_add i 1) ?_
        refine Wp_xaldN (j := (i + 1)) rfl d_L_law_673 rfl (by omega) ?_
        refine Wp_ivv_i (o := 33) (As := [vi (E.2.2.2.1 (i + 1))]) d_L_law_674 ln_L_90 mk_M_rather rfl rfl rfl rfl rfl (by omega) (t_M_rather E (d - 1) (by omega) w665 S hM1 hV (E.2.2.2.1 (i + 1))) (fun r674 w674 c674 => ?_)
        obtain ⟨e2, hM2, f2⟩ := c674
        rw [e2]
        refine Wp_icmp_eq d_L_law_677 (fun h677 => ?_) (fun q => absurd rfl q)
        refine Wp_iinc (z := nI (i + 6)) (ls2 := [lr 62, lr 0, lr 33, li (nI (i + 6))]) d_L_law_1125 rfl (nI_add i 6) rfl rfl rfl ?_
        refine Wp_goto d_L_law_1128 ?_
        exact ih (i + 6) w674 (by omega) (by omega) ⟨(oRather S (E.2.2.2.1 (i + 1))).2, CC_m hC1 f2, hM2, V_rather hV _⟩
      by_cases t18 : ((E.2.2.2.1 i) &&& 31).toInt = 18
      ·
        refine Wp_tabIn (off := 649) (tgt := 682) d_L_law_33 (by omega) (by omega) (by rw [t18]; rfl) (by decide) ?_
        refine Wp_aload_n d_L_law_682 rfl ?_
        refine Wp_aload_n d_L_law_683 rfl ?_
        refine Wp_iload_n d_L_law_684 rfl ?_
        refine Wp_iconst (x := 1) d_L_law_685 (by decide) ?_
        refine Wp_iadd d_L_law_686 ?_
        refine Wp_eqi (x2 := nI (i + 1)) (nI_add i 1) ?_
        refine Wp_xaldN (j := (i + 1)) rfl d_L_law_687 rfl (by omega) ?_
        refine Wp_aload_n d_L_law_688 rfl ?_
        refine Wp_iload_n d_L_law_689 rfl ?_
        refine Wp_iconst (x := 2) d_L_law_690 (by decide) ?_
        refine Wp_iadd d_L_law_691 ?_
        refine Wp_eqi (x2 := nI (i + 2)) (nI_add i 2) ?_
        refine Wp_xaldN (j := (i + 2)) rfl d_L_law_692 rfl (by omega) ?_
        refine Wp_ivv_i (o := 0) (As := [vi (E.2.2.2.1 (i + 1)), vi (E.2.2.2.1 (i + 2))]) d_L_law_693 ln_L_91 mk_F_lies rfl rfl rfl rfl rfl (by omega) (t_F_lies E (d - 1) (by omega) w S hC hV (E.2.2.2.1 (i + 1)) (E.2.2.2.1 (i + 2))) (fun r693 w693 c693 => ?_)
        obtain ⟨e1, hC1, f1⟩ := c693
        have hM1 := MM_c hM f1
        rw [e1]
        refine Wp_aload_n d_L_law_696 rfl ?_
        refine Wp_aload_n d_L_law_697 rfl ?_
        refine Wp_iload_n d_L_law_698 rfl ?_
        refine Wp_iconst (x := 1) d_L_law_699 (by decide) ?_
        refine Wp_iadd d_L_law_700 ?_
        refine Wp_eqi (x2 := nI (i + 1)) (nI_add i 1) ?_
        refine Wp_xaldN (j := (i + 1)) rfl d_L_law_701 rfl (by omega) ?_
        refine Wp_aload_n d_L_law_702 rfl ?_
        refine Wp_iload_n d_L_law_703 rfl ?_
        refine Wp_iconst (x := 2) d_L_law_704 (by decide) ?_
        refine Wp_iadd d_L_law_705 ?_
        refine Wp_eqi (x2 := nI (i + 2)) (nI_add i 2) ?_
        refine Wp_xaldN (j := (i + 2)) rfl d_L_law_706 rfl (by omega) ?_
        refine Wp_ivv_i (o := 33) (As := [vi (E.2.2.2.1 (i + 1)), vi (E.2.2.2.1 (i + 2))]) d_L_law_707 ln_L_94 mk_M_lies rfl rfl rfl rfl rfl (by omega) (t_M_lies E (d - 1) (by omega) w693 S hM1 hV (E.2.2.2.1 (i + 1)) (E.2.2.2.1 (i + 2))) (fun r707 w707 c707 => ?_)
        obtain ⟨e2, hP2, f2⟩ := c707
        rw [e2]
        refine Wp_icmp_eq d_L_law_710 (fun h710 => ?_) (fun q => absurd rfl q)
        refine Wp_iinc (z := nI (i + 6)) (ls2 := [lr 62, lr 0, lr 33, li (nI (i + 6))]) d_L_law_1125 rfl (nI_add i 6) rfl rfl rfl ?_
        refine Wp_goto d_L_law_1128 ?_
        exact ih (i + 6) w707 (by omega) (by omega) ⟨S, CC_m hC1 (f2), hP2.1, hV⟩
      by_cases t19 : ((E.2.2.2.1 i) &&& 31).toInt = 19
      ·
        refine Wp_tabIn (off := 682) (tgt := 715) d_L_law_33 (by omega) (by omega) (by rw [t19]; rfl) (by decide) ?_
        refine Wp_aload_n d_L_law_715 rfl ?_
        refine Wp_ivv_i (o := 0) (As := []) d_L_law_716 ln_L_95 mk_F_back rfl rfl rfl rfl rfl (by omega) (t_F_back E (d - 1) (by omega) w S hC hV) (fun r716 w716 c716 => ?_)
        obtain ⟨e1, hC1, f1⟩ := c716
        have hM1 := MM_c hM f1
        rw [e1]
        refine Wp_aload_n d_L_law_719 rfl ?_
        refine Wp_ivv_i (o := 33) (As := []) d_L_law_720 ln_L_98 mk_M_back rfl rfl rfl rfl rfl (by omega) (t_M_back E (d - 1) (by omega) w716 S hM1 hV) (fun r720 w720 c720 => ?_)
        obtain ⟨e2, hP2, f2⟩ := c720
        rw [e2]
        refine Wp_icmp_eq d_L_law_723 (fun h723 => ?_) (fun q => absurd rfl q)
        refine Wp_iinc (z := nI (i + 6)) (ls2 := [lr 62, lr 0, lr 33, li (nI (i + 6))]) d_L_law_1125 rfl (nI_add i 6) rfl rfl rfl ?_
        refine Wp_goto d_L_law_1128 ?_
        exact ih (i + 6) w720 (by omega) (by omega) ⟨S, CC_m hC1 (f2), hP2.1, hV⟩
      by_cases t20 : ((E.2.2.2.1 i) &&& 31).toInt = 20
      ·
        refine Wp_tabIn (off := 695) (tgt := 728) d_L_law_33 (by omega) (by omega) (by rw [t20]; rfl) (by decide) ?_
        refine Wp_aload_n d_L_law_728 rfl ?_
        refine Wp_aload_n d_L_law_729 rfl ?_
        refine Wp_iload_n d_L_law_730 rfl ?_
        refine Wp_iconst (x := 1) d_L_law_731 (by decide) ?_
        refine Wp_iadd d_L_law_732 ?_
        refine Wp_eqi (x2 := nI (i + 1)) (nI_add i 1) ?_
        refine Wp_xaldN (j := (i + 1)) rfl d_L_law_733 rfl (by omega) ?_
        refine Wp_aload_n d_L_law_734 rfl ?_
        refine Wp_iload_n d_L_law_735 rfl ?_
        refine Wp_iconst (x := 2) d_L_law_736 (by decide) ?_
        refine Wp_iadd d_L_law_737 ?_
        refine Wp_eqi (x2 := nI (i + 2)) (nI_add i 2) ?_
        refine Wp_xaldN (j := (i + 2)) rfl d_L_law_738 rfl (by omega) ?_
        refine Wp_aload_n d_L_law_739 rfl ?_
        refine Wp_iload_n d_L_law_740 rfl ?_
        refine Wp_iconst (x := 3) d_L_law_741 (by decide) ?_
        refine Wp_iadd d_L_law_742 ?_
        refine Wp_eqi (x2 := nI (i + 3)) (nI_add i 3) ?_
        refine Wp_xaldN (j := (i + 3)) rfl d_L_law_743 rfl (by omega) ?_
        refine Wp_ivv_i (o := 0) (As := [vi (E.2.2.2.1 (i + 1)), vi (E.2.2.2.1 (i + 2)), vi (E.2.2.2.1 (i + 3))]) d_L_law_744 ln_L_99 mk_F_seen rfl rfl rfl rfl rfl (by omega) (t_F_seen E (d - 1) (by omega) w S hC hV (E.2.2.2.1 (i + 1)) (E.2.2.2.1 (i + 2)) (E.2.2.2.1 (i + 3))) (fun r744 w744 c744 => ?_)
        obtain ⟨e1, hC1, f1⟩ := c744
        have hM1 := MM_c hM f1
        rw [e1]
        refine Wp_aload_n d_L_law_747 rfl ?_
        refine Wp_aload_n d_L_law_748 rfl ?_
        refine Wp_iload_n d_L_law_749 rfl ?_
        refine Wp_iconst (x := 1) d_L_law_750 (by decide) ?_
        refine Wp_iadd d_L_law_751 ?_
        refine Wp_eqi (x2 := nI (i + 1)) (nI_add i 1) ?_
        refine Wp_xaldN (j := (i + 1)) rfl d_L_law_752 rfl (by omega) ?_
        refine Wp_aload_n d_L_law_753 rfl ?_
        refine Wp_iload_n d_L_law_754 rfl ?_
        refine Wp_iconst (x := 2) d_L_law_755 (by decide) ?_
        refine Wp_iadd d_L_law_756 ?_
        refine Wp_eqi (x2 := nI (i + 2)) (nI_add i 2) ?_
        refine Wp_xaldN (j := (i + 2)) rfl d_L_law_757 rfl (by omega) ?_
        refine Wp_aload_n d_L_law_758 rfl ?_
        refine Wp_iload_n d_L_law_759 rfl ?_
        refine Wp_iconst (x := 3) d_L_law_760 (by decide) ?_
        refine Wp_iadd d_L_law_761 ?_
        refine Wp_eqi (x2 := nI (i + 3)) (nI_add i 3) ?_
        refine Wp_xaldN (j := (i + 3)) rfl d_L_law_762 rfl (by omega) ?_
        refine Wp_ivv_i (o := 33) (As := [vi (E.2.2.2.1 (i + 1)), vi (E.2.2.2.1 (i + 2)), vi (E.2.2.2.1 (i + 3))]) d_L_law_763 ln_L_102 mk_M_seen rfl rfl rfl rfl rfl (by omega) (t_M_seen E (d - 1) (by omega) w744 S hM1 hV (E.2.2.2.1 (i + 1)) (E.2.2.2.1 (i + 2)) (E.2.2.2.1 (i + 3))) (fun r763 w763 c763 => ?_)
        obtain ⟨e2, hM2, f2⟩ := c763
        rw [e2]
        refine Wp_icmp_eq d_L_law_766 (fun h766 => ?_) (fun q => absurd rfl q)
        refine Wp_iinc (z := nI (i + 6)) (ls2 := [lr 62, lr 0, lr 33, li (nI (i + 6))]) d_L_law_1125 rfl (nI_add i 6) rfl rfl rfl ?_
        refine Wp_goto d_L_law_1128 ?_
        exact ih (i + 6) w763 (by omega) (by omega) ⟨(oSeen S (E.2.2.2.1 (i + 1)) (E.2.2.2.1 (i + 2)) (E.2.2.2.1 (i + 3))).2, CC_m hC1 f2, hM2, V_seen hV _ _ _⟩
      by_cases t21 : ((E.2.2.2.1 i) &&& 31).toInt = 21
      ·
        refine Wp_tabIn (off := 738) (tgt := 771) d_L_law_33 (by omega) (by omega) (by rw [t21]; rfl) (by decide) ?_
        refine Wp_aload_n d_L_law_771 rfl ?_
        refine Wp_ivv_i (o := 0) (As := []) d_L_law_772 ln_L_103 mk_F_forget rfl rfl rfl rfl rfl (by omega) (t_F_forget E (d - 1) (by omega) w S hC hV) (fun r772 w772 c772 => ?_)
        obtain ⟨e1, hC1, f1⟩ := c772
        have hM1 := MM_c hM f1
        rw [e1]
        refine Wp_aload_n d_L_law_775 rfl ?_
        refine Wp_ivv_i (o := 33) (As := []) d_L_law_776 ln_L_106 mk_M_forget rfl rfl rfl rfl rfl (by omega) (t_M_forget2 E (d - 1) w772 S hM1 hV) (fun r776 w776 c776 => ?_)
        obtain ⟨e2, hM2, f2⟩ := c776
        rw [e2]
        refine Wp_icmp_eq d_L_law_779 (fun h779 => ?_) (fun q => absurd rfl q)
        refine Wp_iinc (z := nI (i + 6)) (ls2 := [lr 62, lr 0, lr 33, li (nI (i + 6))]) d_L_law_1125 rfl (nI_add i 6) rfl rfl rfl ?_
        refine Wp_goto d_L_law_1128 ?_
        exact ih (i + 6) w776 (by omega) (by omega) ⟨(oForget S).2, CC_m hC1 f2, hM2, V_forget hV⟩
      by_cases t22 : ((E.2.2.2.1 i) &&& 31).toInt = 22
      ·
        refine Wp_tabIn (off := 751) (tgt := 784) d_L_law_33 (by omega) (by omega) (by rw [t22]; rfl) (by decide) ?_
        refine Wp_aload_n d_L_law_784 rfl ?_
        refine Wp_aload_n d_L_law_785 rfl ?_
        refine Wp_iload_n d_L_law_786 rfl ?_
        refine Wp_iconst (x := 1) d_L_law_787 (by decide) ?_
        refine Wp_iadd d_L_law_788 ?_
        refine Wp_eqi (x2 := nI (i + 1)) (nI_add i 1) ?_
        refine Wp_xaldN (j := (i + 1)) rfl d_L_law_789 rfl (by omega) ?_
        refine Wp_aload_n d_L_law_790 rfl ?_
        refine Wp_iload_n d_L_law_791 rfl ?_
        refine Wp_iconst (x := 2) d_L_law_792 (by decide) ?_
        refine Wp_iadd d_L_law_793 ?_
        refine Wp_eqi (x2 := nI (i + 2)) (nI_add i 2) ?_
        refine Wp_xaldN (j := (i + 2)) rfl d_L_law_794 rfl (by omega) ?_
        refine Wp_ivv_d (o := 0) (As := [vi (E.2.2.2.1 (i + 1)), vi (E.2.2.2.1 (i + 2))]) d_L_law_795 ln_L_107 mk_F_ages rfl rfl rfl rfl rfl (by omega) (t_F_ages E (d - 1) (by omega) w S hC hV (E.2.2.2.1 (i + 1)) (E.2.2.2.1 (i + 2))) ?_
        refine Wp_aload_n d_L_law_798 rfl ?_
        refine Wp_aload_n d_L_law_799 rfl ?_
        refine Wp_iload_n d_L_law_800 rfl ?_
        refine Wp_iconst (x := 1) d_L_law_801 (by decide) ?_
        refine Wp_iadd d_L_law_802 ?_
        refine Wp_eqi (x2 := nI (i + 1)) (nI_add i 1) ?_
        refine Wp_xaldN (j := (i + 1)) rfl d_L_law_803 rfl (by omega) ?_
        refine Wp_aload_n d_L_law_804 rfl ?_
        refine Wp_iload_n d_L_law_805 rfl ?_
        refine Wp_iconst (x := 2) d_L_law_806 (by decide) ?_
        refine Wp_iadd d_L_law_807 ?_
        refine Wp_eqi (x2 := nI (i + 2)) (nI_add i 2) ?_
        refine Wp_xaldN (j := (i + 2)) rfl d_L_law_808 rfl (by omega) ?_
        refine Wp_ivv_i (o := 33) (As := [vi (E.2.2.2.1 (i + 1)), vi (E.2.2.2.1 (i + 2))]) d_L_law_809 ln_L_110 mk_M_ages rfl rfl rfl rfl rfl (by omega) (t_M_ages E (d - 1) (by omega) w S hM hV (E.2.2.2.1 (i + 1)) (E.2.2.2.1 (i + 2))) (fun r809 w809 c809 => ?_)
        obtain ⟨e2, hP2, f2⟩ := c809
        rw [e2]
        refine Wp_icmp_eq d_L_law_812 (fun h812 => ?_) (fun q => absurd rfl q)
        refine Wp_iinc (z := nI (i + 6)) (ls2 := [lr 62, lr 0, lr 33, li (nI (i + 6))]) d_L_law_1125 rfl (nI_add i 6) rfl rfl rfl ?_
        refine Wp_goto d_L_law_1128 ?_
        exact ih (i + 6) w809 (by omega) (by omega) ⟨S, CC_m hC (frF_m f2), hP2.1, hV⟩
      by_cases t23 : ((E.2.2.2.1 i) &&& 31).toInt = 23
      ·
        refine Wp_tabIn (off := 784) (tgt := 817) d_L_law_33 (by omega) (by omega) (by rw [t23]; rfl) (by decide) ?_
        refine Wp_aload_n d_L_law_817 rfl ?_
        refine Wp_aload_n d_L_law_818 rfl ?_
        refine Wp_iload_n d_L_law_819 rfl ?_
        refine Wp_iconst (x := 1) d_L_law_820 (by decide) ?_
        refine Wp_iadd d_L_law_821 ?_
        refine Wp_eqi (x2 := nI (i + 1)) (nI_add i 1) ?_
        refine Wp_xaldN (j := (i + 1)) rfl d_L_law_822 rfl (by omega) ?_
        refine Wp_ivv_i (o := 0) (As := [vi (E.2.2.2.1 (i + 1))]) d_L_law_823 ln_L_111 mk_F_lot rfl rfl rfl rfl rfl (by omega) (t_F_lot E (d - 1) (by omega) w S hC hV (E.2.2.2.1 (i + 1))) (fun r823 w823 c823 => ?_)
        obtain ⟨e1, hC1, f1⟩ := c823
        have hM1 := MM_c hM f1
        rw [e1]
        refine Wp_aload_n d_L_law_826 rfl ?_
        refine Wp_aload_n d_L_law_827 rfl ?_
        refine Wp_iload_n d_L_law_828 rfl ?_
        refine Wp_iconst (x := 1) d_L_law_829 (by decide) ?_
        refine Wp_iadd d_L_law_830 ?_
        refine Wp_eqi (x2 := nI (i + 1)) (nI_add i 1) ?_
        refine Wp_xaldN (j := (i + 1)) rfl d_L_law_831 rfl (by omega) ?_
        refine Wp_ivv_i (o := 33) (As := [vi (E.2.2.2.1 (i + 1))]) d_L_law_832 ln_L_114 mk_M_lot rfl rfl rfl rfl rfl (by omega) (t_M_lot E (d - 1) (by omega) w823 S hM1 hV (E.2.2.2.1 (i + 1))) (fun r832 w832 c832 => ?_)
        obtain ⟨e2, hP2, f2⟩ := c832
        rw [e2]
        refine Wp_icmp_eq d_L_law_835 (fun h835 => ?_) (fun q => absurd rfl q)
        refine Wp_iinc (z := nI (i + 6)) (ls2 := [lr 62, lr 0, lr 33, li (nI (i + 6))]) d_L_law_1125 rfl (nI_add i 6) rfl rfl rfl ?_
        refine Wp_goto d_L_law_1128 ?_
        exact ih (i + 6) w832 (by omega) (by omega) ⟨S, CC_m hC1 (f2), hP2.1, hV⟩
      by_cases t24 : ((E.2.2.2.1 i) &&& 31).toInt = 24
      ·
        refine Wp_tabIn (off := 807) (tgt := 840) d_L_law_33 (by omega) (by omega) (by rw [t24]; rfl) (by decide) ?_
        refine Wp_aload_n d_L_law_840 rfl ?_
        refine Wp_aload_n d_L_law_841 rfl ?_
        refine Wp_iload_n d_L_law_842 rfl ?_
        refine Wp_iconst (x := 1) d_L_law_843 (by decide) ?_
        refine Wp_iadd d_L_law_844 ?_
        refine Wp_eqi (x2 := nI (i + 1)) (nI_add i 1) ?_
        refine Wp_xaldN (j := (i + 1)) rfl d_L_law_845 rfl (by omega) ?_
        refine Wp_aload_n d_L_law_846 rfl ?_
        refine Wp_iload_n d_L_law_847 rfl ?_
        refine Wp_iconst (x := 2) d_L_law_848 (by decide) ?_
        refine Wp_iadd d_L_law_849 ?_
        refine Wp_eqi (x2 := nI (i + 2)) (nI_add i 2) ?_
        refine Wp_xaldN (j := (i + 2)) rfl d_L_law_850 rfl (by omega) ?_
        refine Wp_aload_n d_L_law_851 rfl ?_
        refine Wp_iload_n d_L_law_852 rfl ?_
        refine Wp_iconst (x := 3) d_L_law_853 (by decide) ?_
        refine Wp_iadd d_L_law_854 ?_
        refine Wp_eqi (x2 := nI (i + 3)) (nI_add i 3) ?_
        refine Wp_xaldN (j := (i + 3)) rfl d_L_law_855 rfl (by omega) ?_
        refine Wp_ivv_i (o := 0) (As := [vi (E.2.2.2.1 (i + 1)), vi (E.2.2.2.1 (i + 2)), vi (E.2.2.2.1 (i + 3))]) d_L_law_856 ln_L_115 mk_F_sheet rfl rfl rfl rfl rfl (by omega) (t_F_sheet E (d - 1) (by omega) w S hC hV (E.2.2.2.1 (i + 1)) (E.2.2.2.1 (i + 2)) (E.2.2.2.1 (i + 3))) (fun r856 w856 c856 => ?_)
        obtain ⟨e1, hC1, f1⟩ := c856
        have hM1 := MM_c hM f1
        rw [e1]
        refine Wp_aload_n d_L_law_859 rfl ?_
        refine Wp_aload_n d_L_law_860 rfl ?_
        refine Wp_iload_n d_L_law_861 rfl ?_
        refine Wp_iconst (x := 1) d_L_law_862 (by decide) ?_
        refine Wp_iadd d_L_law_863 ?_
        refine Wp_eqi (x2 := nI (i + 1)) (nI_add i 1) ?_
        refine Wp_xaldN (j := (i + 1)) rfl d_L_law_864 rfl (by omega) ?_
        refine Wp_aload_n d_L_law_865 rfl ?_
        refine Wp_iload_n d_L_law_866 rfl ?_
        refine Wp_iconst (x := 2) d_L_law_867 (by decide) ?_
        refine Wp_iadd d_L_law_868 ?_
        refine Wp_eqi (x2 := nI (i + 2)) (nI_add i 2) ?_
        refine Wp_xaldN (j := (i + 2)) rfl d_L_law_869 rfl (by omega) ?_
        refine Wp_aload_n d_L_law_870 rfl ?_
        refine Wp_iload_n d_L_law_871 rfl ?_
        refine Wp_iconst (x := 3) d_L_law_872 (by decide) ?_
        refine Wp_iadd d_L_law_873 ?_
        refine Wp_eqi (x2 := nI (i + 3)) (nI_add i 3) ?_
        refine Wp_xaldN (j := (i + 3)) rfl d_L_law_874 rfl (by omega) ?_
        refine Wp_ivv_i (o := 33) (As := [vi (E.2.2.2.1 (i + 1)), vi (E.2.2.2.1 (i + 2)), vi (E.2.2.2.1 (i + 3))]) d_L_law_875 ln_L_118 mk_M_sheet rfl rfl rfl rfl rfl (by omega) (t_M_sheet E (d - 1) (by omega) w856 S hM1 hV (E.2.2.2.1 (i + 1)) (E.2.2.2.1 (i + 2)) (E.2.2.2.1 (i + 3))) (fun r875 w875 c875 => ?_)
        obtain ⟨e2, hM2, f2⟩ := c875
        rw [e2]
        refine Wp_icmp_eq d_L_law_878 (fun h878 => ?_) (fun q => absurd rfl q)
        refine Wp_iinc (z := nI (i + 6)) (ls2 := [lr 62, lr 0, lr 33, li (nI (i + 6))]) d_L_law_1125 rfl (nI_add i 6) rfl rfl rfl ?_
        refine Wp_goto d_L_law_1128 ?_
        exact ih (i + 6) w875 (by omega) (by omega) ⟨(oSheet S (E.2.2.2.1 (i + 1)) (E.2.2.2.1 (i + 2)) (E.2.2.2.1 (i + 3))).2, CC_m hC1 f2, hM2, V_sheet hV _ _ _⟩
      by_cases t25 : ((E.2.2.2.1 i) &&& 31).toInt = 25
      ·
        refine Wp_tabIn (off := 850) (tgt := 883) d_L_law_33 (by omega) (by omega) (by rw [t25]; rfl) (by decide) ?_
        refine Wp_aload_n d_L_law_883 rfl ?_
        refine Wp_aload_n d_L_law_884 rfl ?_
        refine Wp_iload_n d_L_law_885 rfl ?_
        refine Wp_iconst (x := 1) d_L_law_886 (by decide) ?_
        refine Wp_iadd d_L_law_887 ?_
        refine Wp_eqi (x2 := nI (i + 1)) (nI_add i 1) ?_
        refine Wp_xaldN (j := (i + 1)) rfl d_L_law_888 rfl (by omega) ?_
        refine Wp_ivv_i (o := 0) (As := [vi (E.2.2.2.1 (i + 1))]) d_L_law_889 ln_L_119 mk_F_lose rfl rfl rfl rfl rfl (by omega) (t_F_lose E (d - 1) (by omega) w S hC hV (E.2.2.2.1 (i + 1))) (fun r889 w889 c889 => ?_)
        obtain ⟨e1, hC1, f1⟩ := c889
        have hM1 := MM_c hM f1
        rw [e1]
        refine Wp_aload_n d_L_law_892 rfl ?_
        refine Wp_aload_n d_L_law_893 rfl ?_
        refine Wp_iload_n d_L_law_894 rfl ?_
        refine Wp_iconst (x := 1) d_L_law_895 (by decide) ?_
        refine Wp_iadd d_L_law_896 ?_
        refine Wp_eqi (x2 := nI (i + 1)) (nI_add i 1) ?_
        refine Wp_xaldN (j := (i + 1)) rfl d_L_law_897 rfl (by omega) ?_
        refine Wp_ivv_i (o := 33) (As := [vi (E.2.2.2.1 (i + 1))]) d_L_law_898 ln_L_122 mk_M_lose rfl rfl rfl rfl rfl (by omega) (t_M_lose E (d - 1) (by omega) w889 S hM1 hV (E.2.2.2.1 (i + 1))) (fun r898 w898 c898 => ?_)
        obtain ⟨e2, hM2, f2⟩ := c898
        rw [e2]
        refine Wp_icmp_eq d_L_law_901 (fun h901 => ?_) (fun q => absurd rfl q)
        refine Wp_iinc (z := nI (i + 6)) (ls2 := [lr 62, lr 0, lr 33, li (nI (i + 6))]) d_L_law_1125 rfl (nI_add i 6) rfl rfl rfl ?_
        refine Wp_goto d_L_law_1128 ?_
        exact ih (i + 6) w898 (by omega) (by omega) ⟨(oLose S (E.2.2.2.1 (i + 1))).2, CC_m hC1 f2, hM2, V_lose hV _⟩
      by_cases t26 : ((E.2.2.2.1 i) &&& 31).toInt = 26
      ·
        refine Wp_tabIn (off := 873) (tgt := 906) d_L_law_33 (by omega) (by omega) (by rw [t26]; rfl) (by decide) ?_
        refine Wp_aload_n d_L_law_906 rfl ?_
        refine Wp_aload_n d_L_law_907 rfl ?_
        refine Wp_iload_n d_L_law_908 rfl ?_
        refine Wp_iconst (x := 1) d_L_law_909 (by decide) ?_
        refine Wp_iadd d_L_law_910 ?_
        refine Wp_eqi (x2 := nI (i + 1)) (nI_add i 1) ?_
        refine Wp_xaldN (j := (i + 1)) rfl d_L_law_911 rfl (by omega) ?_
        refine Wp_aload_n d_L_law_912 rfl ?_
        refine Wp_iload_n d_L_law_913 rfl ?_
        refine Wp_iconst (x := 2) d_L_law_914 (by decide) ?_
        refine Wp_iadd d_L_law_915 ?_
        refine Wp_eqi (x2 := nI (i + 2)) (nI_add i 2) ?_
        refine Wp_xaldN (j := (i + 2)) rfl d_L_law_916 rfl (by omega) ?_
        refine Wp_aload_n d_L_law_917 rfl ?_
        refine Wp_iload_n d_L_law_918 rfl ?_
        refine Wp_iconst (x := 3) d_L_law_919 (by decide) ?_
        refine Wp_iadd d_L_law_920 ?_
        refine Wp_eqi (x2 := nI (i + 3)) (nI_add i 3) ?_
        refine Wp_xaldN (j := (i + 3)) rfl d_L_law_921 rfl (by omega) ?_
        refine Wp_aload_n d_L_law_922 rfl ?_
        refine Wp_iload_n d_L_law_923 rfl ?_
        refine Wp_iconst (x := 4) d_L_law_924 (by decide) ?_
        refine Wp_iadd d_L_law_925 ?_
        refine Wp_eqi (x2 := nI (i + 4)) (nI_add i 4) ?_
        refine Wp_xaldN (j := (i + 4)) rfl d_L_law_926 rfl (by omega) ?_
        refine Wp_ivv_i (o := 0) (As := [vi (E.2.2.2.1 (i + 1)), vi (E.2.2.2.1 (i + 2)), vi (E.2.2.2.1 (i + 3)), vi (E.2.2.2.1 (i + 4))]) d_L_law_927 ln_L_123 mk_F_lay rfl rfl rfl rfl rfl (by omega) (t_F_lay E (d - 1) (by omega) w S hC hV (E.2.2.2.1 (i + 1)) (E.2.2.2.1 (i + 2)) (E.2.2.2.1 (i + 3)) (E.2.2.2.1 (i + 4))) (fun r927 w927 c927 => ?_)
        obtain ⟨e1, hC1, f1⟩ := c927
        have hM1 := MM_c hM f1
        rw [e1]
        refine Wp_aload_n d_L_law_930 rfl ?_
        refine Wp_aload_n d_L_law_931 rfl ?_
        refine Wp_iload_n d_L_law_932 rfl ?_
        refine Wp_iconst (x := 1) d_L_law_933 (by decide) ?_
        refine Wp_iadd d_L_law_934 ?_
        refine Wp_eqi (x2 := nI (i + 1)) (nI_add i 1) ?_
        refine Wp_xaldN (j := (i + 1)) rfl d_L_law_935 rfl (by omega) ?_
        refine Wp_aload_n d_L_law_936 rfl ?_
        refine Wp_iload_n d_L_law_937 rfl ?_
        refine Wp_iconst (x := 2) d_L_law_938 (by decide) ?_
        refine Wp_iadd d_L_law_939 ?_
        refine Wp_eqi (x2 := nI (i + 2)) (nI_add i 2) ?_
        refine Wp_xaldN (j := (i + 2)) rfl d_L_law_940 rfl (by omega) ?_
        refine Wp_aload_n d_L_law_941 rfl ?_
        refine Wp_iload_n d_L_law_942 rfl ?_
        refine Wp_iconst (x := 3) d_L_law_943 (by decide) ?_
        refine Wp_iadd d_L_law_944 ?_
        refine Wp_eqi (x2 := nI (i + 3)) (nI_add i 3) ?_
        refine Wp_xaldN (j := (i + 3)) rfl d_L_law_945 rfl (by omega) ?_
        refine Wp_aload_n d_L_law_946 rfl ?_
        refine Wp_iload_n d_L_law_947 rfl ?_
        refine Wp_iconst (x := 4) d_L_law_948 (by decide) ?_
        refine Wp_iadd d_L_law_949 ?_
        refine Wp_eqi (x2 := nI (i + 4)) (nI_add i 4) ?_
        refine Wp_xaldN (j := (i + 4)) rfl d_L_law_950 rfl (by omega) ?_
        refine Wp_ivv_i (o := 33) (As := [vi (E.2.2.2.1 (i + 1)), vi (E.2.2.2.1 (i + 2)), vi (E.2.2.2.1 (i + 3)), vi (E.2.2.2.1 (i + 4))]) d_L_law_951 ln_L_126 mk_M_lay rfl rfl rfl rfl rfl (by omega) (t_M_lay E (d - 1) (by omega) w927 S hM1 hV (E.2.2.2.1 (i + 1)) (E.2.2.2.1 (i + 2)) (E.2.2.2.1 (i + 3)) (E.2.2.2.1 (i + 4))) (fun r951 w951 c951 => ?_)
        obtain ⟨e2, hM2, f2⟩ := c951
        rw [e2]
        refine Wp_icmp_eq d_L_law_954 (fun h954 => ?_) (fun q => absurd rfl q)
        refine Wp_iinc (z := nI (i + 6)) (ls2 := [lr 62, lr 0, lr 33, li (nI (i + 6))]) d_L_law_1125 rfl (nI_add i 6) rfl rfl rfl ?_
        refine Wp_goto d_L_law_1128 ?_
        exact ih (i + 6) w951 (by omega) (by omega) ⟨(oLay S (E.2.2.2.1 (i + 1)) (E.2.2.2.1 (i + 2)) (E.2.2.2.1 (i + 3)) (E.2.2.2.1 (i + 4))).2, CC_m hC1 f2, hM2, V_lay hV _ _ _ _⟩
      by_cases t27 : ((E.2.2.2.1 i) &&& 31).toInt = 27
      ·
        refine Wp_tabIn (off := 926) (tgt := 959) d_L_law_33 (by omega) (by omega) (by rw [t27]; rfl) (by decide) ?_
        refine Wp_aload_n d_L_law_959 rfl ?_
        refine Wp_aload_n d_L_law_960 rfl ?_
        refine Wp_iload_n d_L_law_961 rfl ?_
        refine Wp_iconst (x := 1) d_L_law_962 (by decide) ?_
        refine Wp_iadd d_L_law_963 ?_
        refine Wp_eqi (x2 := nI (i + 1)) (nI_add i 1) ?_
        refine Wp_xaldN (j := (i + 1)) rfl d_L_law_964 rfl (by omega) ?_
        refine Wp_aload_n d_L_law_965 rfl ?_
        refine Wp_iload_n d_L_law_966 rfl ?_
        refine Wp_iconst (x := 2) d_L_law_967 (by decide) ?_
        refine Wp_iadd d_L_law_968 ?_
        refine Wp_eqi (x2 := nI (i + 2)) (nI_add i 2) ?_
        refine Wp_xaldN (j := (i + 2)) rfl d_L_law_969 rfl (by omega) ?_
        refine Wp_aload_n d_L_law_970 rfl ?_
        refine Wp_iload_n d_L_law_971 rfl ?_
        refine Wp_iconst (x := 3) d_L_law_972 (by decide) ?_
        refine Wp_iadd d_L_law_973 ?_
        refine Wp_eqi (x2 := nI (i + 3)) (nI_add i 3) ?_
        refine Wp_xaldN (j := (i + 3)) rfl d_L_law_974 rfl (by omega) ?_
        refine Wp_ivv_i (o := 0) (As := [vi (E.2.2.2.1 (i + 1)), vi (E.2.2.2.1 (i + 2)), vi (E.2.2.2.1 (i + 3))]) d_L_law_975 ln_L_127 mk_F_get rfl rfl rfl rfl rfl (by omega) (t_F_get E (d - 1) (by omega) w S hC hV (E.2.2.2.1 (i + 1)) (E.2.2.2.1 (i + 2)) (E.2.2.2.1 (i + 3))) (fun r975 w975 c975 => ?_)
        obtain ⟨e1, hC1, f1⟩ := c975
        have hM1 := MM_c hM f1
        rw [e1]
        refine Wp_aload_n d_L_law_978 rfl ?_
        refine Wp_aload_n d_L_law_979 rfl ?_
        refine Wp_iload_n d_L_law_980 rfl ?_
        refine Wp_iconst (x := 1) d_L_law_981 (by decide) ?_
        refine Wp_iadd d_L_law_982 ?_
        refine Wp_eqi (x2 := nI (i + 1)) (nI_add i 1) ?_
        refine Wp_xaldN (j := (i + 1)) rfl d_L_law_983 rfl (by omega) ?_
        refine Wp_aload_n d_L_law_984 rfl ?_
        refine Wp_iload_n d_L_law_985 rfl ?_
        refine Wp_iconst (x := 2) d_L_law_986 (by decide) ?_
        refine Wp_iadd d_L_law_987 ?_
        refine Wp_eqi (x2 := nI (i + 2)) (nI_add i 2) ?_
        refine Wp_xaldN (j := (i + 2)) rfl d_L_law_988 rfl (by omega) ?_
        refine Wp_aload_n d_L_law_989 rfl ?_
        refine Wp_iload_n d_L_law_990 rfl ?_
        refine Wp_iconst (x := 3) d_L_law_991 (by decide) ?_
        refine Wp_iadd d_L_law_992 ?_
        refine Wp_eqi (x2 := nI (i + 3)) (nI_add i 3) ?_
        refine Wp_xaldN (j := (i + 3)) rfl d_L_law_993 rfl (by omega) ?_
        refine Wp_ivv_i (o := 33) (As := [vi (E.2.2.2.1 (i + 1)), vi (E.2.2.2.1 (i + 2)), vi (E.2.2.2.1 (i + 3))]) d_L_law_994 ln_L_130 mk_M_get rfl rfl rfl rfl rfl (by omega) (t_M_get E (d - 1) (by omega) w975 S hM1 hV (E.2.2.2.1 (i + 1)) (E.2.2.2.1 (i + 2)) (E.2.2.2.1 (i + 3))) (fun r994 w994 c994 => ?_)
        obtain ⟨e2, hM2, f2⟩ := c994
        rw [e2]
        refine Wp_icmp_eq d_L_law_997 (fun h997 => ?_) (fun q => absurd rfl q)
        refine Wp_iinc (z := nI (i + 6)) (ls2 := [lr 62, lr 0, lr 33, li (nI (i + 6))]) d_L_law_1125 rfl (nI_add i 6) rfl rfl rfl ?_
        refine Wp_goto d_L_law_1128 ?_
        exact ih (i + 6) w994 (by omega) (by omega) ⟨(oGet S (E.2.2.2.1 (i + 1)) (E.2.2.2.1 (i + 2)) (E.2.2.2.1 (i + 3))).2, CC_m hC1 f2, hM2, V_get hV _ _ _⟩
      by_cases t28 : ((E.2.2.2.1 i) &&& 31).toInt = 28
      ·
        refine Wp_tabIn (off := 969) (tgt := 1002) d_L_law_33 (by omega) (by omega) (by rw [t28]; rfl) (by decide) ?_
        refine Wp_aload_n d_L_law_1002 rfl ?_
        refine Wp_aload_n d_L_law_1003 rfl ?_
        refine Wp_iload_n d_L_law_1004 rfl ?_
        refine Wp_iconst (x := 1) d_L_law_1005 (by decide) ?_
        refine Wp_iadd d_L_law_1006 ?_
        refine Wp_eqi (x2 := nI (i + 1)) (nI_add i 1) ?_
        refine Wp_xaldN (j := (i + 1)) rfl d_L_law_1007 rfl (by omega) ?_
        refine Wp_aload_n d_L_law_1008 rfl ?_
        refine Wp_iload_n d_L_law_1009 rfl ?_
        refine Wp_iconst (x := 2) d_L_law_1010 (by decide) ?_
        refine Wp_iadd d_L_law_1011 ?_
        refine Wp_eqi (x2 := nI (i + 2)) (nI_add i 2) ?_
        refine Wp_xaldN (j := (i + 2)) rfl d_L_law_1012 rfl (by omega) ?_
        refine Wp_aload_n d_L_law_1013 rfl ?_
        refine Wp_iload_n d_L_law_1014 rfl ?_
        refine Wp_iconst (x := 3) d_L_law_1015 (by decide) ?_
        refine Wp_iadd d_L_law_1016 ?_
        refine Wp_eqi (x2 := nI (i + 3)) (nI_add i 3) ?_
        refine Wp_xaldN (j := (i + 3)) rfl d_L_law_1017 rfl (by omega) ?_
        refine Wp_aload_n d_L_law_1018 rfl ?_
        refine Wp_iload_n d_L_law_1019 rfl ?_
        refine Wp_iconst (x := 4) d_L_law_1020 (by decide) ?_
        refine Wp_iadd d_L_law_1021 ?_
        refine Wp_eqi (x2 := nI (i + 4)) (nI_add i 4) ?_
        refine Wp_xaldN (j := (i + 4)) rfl d_L_law_1022 rfl (by omega) ?_
        refine Wp_aload_n d_L_law_1023 rfl ?_
        refine Wp_iload_n d_L_law_1024 rfl ?_
        refine Wp_iconst (x := 5) d_L_law_1025 (by decide) ?_
        refine Wp_iadd d_L_law_1026 ?_
        refine Wp_eqi (x2 := nI (i + 5)) (nI_add i 5) ?_
        refine Wp_xaldN (j := (i + 5)) rfl d_L_law_1027 rfl (by omega) ?_
        refine Wp_ivv_i (o := 0) (As := [vi (E.2.2.2.1 (i + 1)), vi (E.2.2.2.1 (i + 2)), vi (E.2.2.2.1 (i + 3)), vi (E.2.2.2.1 (i + 4)), vi (E.2.2.2.1 (i + 5))]) d_L_law_1028 ln_L_131 mk_F_copy rfl rfl rfl rfl rfl (by omega) (t_F_copy E (d - 1) (by omega) w S hC hV (E.2.2.2.1 (i + 1)) (E.2.2.2.1 (i + 2)) (E.2.2.2.1 (i + 3)) (E.2.2.2.1 (i + 4)) (E.2.2.2.1 (i + 5))) (fun r1028 w1028 c1028 => ?_)
        obtain ⟨e1, hC1, f1⟩ := c1028
        have hM1 := MM_c hM f1
        rw [e1]
        refine Wp_aload_n d_L_law_1031 rfl ?_
        refine Wp_aload_n d_L_law_1032 rfl ?_
        refine Wp_iload_n d_L_law_1033 rfl ?_
        refine Wp_iconst (x := 1) d_L_law_1034 (by decide) ?_
        refine Wp_iadd d_L_law_1035 ?_
        refine Wp_eqi (x2 := nI (i + 1)) (nI_add i 1) ?_
        refine Wp_xaldN (j := (i + 1)) rfl d_L_law_1036 rfl (by omega) ?_
        refine Wp_aload_n d_L_law_1037 rfl ?_
        refine Wp_iload_n d_L_law_1038 rfl ?_
        refine Wp_iconst (x := 2) d_L_law_1039 (by decide) ?_
        refine Wp_iadd d_L_law_1040 ?_
        refine Wp_eqi (x2 := nI (i + 2)) (nI_add i 2) ?_
        refine Wp_xaldN (j := (i + 2)) rfl d_L_law_1041 rfl (by omega) ?_
        refine Wp_aload_n d_L_law_1042 rfl ?_
        refine Wp_iload_n d_L_law_1043 rfl ?_
        refine Wp_iconst (x := 3) d_L_law_1044 (by decide) ?_
        refine Wp_iadd d_L_law_1045 ?_
        refine Wp_eqi (x2 := nI (i + 3)) (nI_add i 3) ?_
        refine Wp_xaldN (j := (i + 3)) rfl d_L_law_1046 rfl (by omega) ?_
        refine Wp_aload_n d_L_law_1047 rfl ?_
        refine Wp_iload_n d_L_law_1048 rfl ?_
        refine Wp_iconst (x := 4) d_L_law_1049 (by decide) ?_
        refine Wp_iadd d_L_law_1050 ?_
        refine Wp_eqi (x2 := nI (i + 4)) (nI_add i 4) ?_
        refine Wp_xaldN (j := (i + 4)) rfl d_L_law_1051 rfl (by omega) ?_
        refine Wp_aload_n d_L_law_1052 rfl ?_
        refine Wp_iload_n d_L_law_1053 rfl ?_
        refine Wp_iconst (x := 5) d_L_law_1054 (by decide) ?_
        refine Wp_iadd d_L_law_1055 ?_
        refine Wp_eqi (x2 := nI (i + 5)) (nI_add i 5) ?_
        refine Wp_xaldN (j := (i + 5)) rfl d_L_law_1056 rfl (by omega) ?_
        refine Wp_ivv_i (o := 33) (As := [vi (E.2.2.2.1 (i + 1)), vi (E.2.2.2.1 (i + 2)), vi (E.2.2.2.1 (i + 3)), vi (E.2.2.2.1 (i + 4)), vi (E.2.2.2.1 (i + 5))]) d_L_law_1057 ln_L_135 mk_M_copy rfl rfl rfl rfl rfl (by omega) (t_M_copy E (d - 1) (by omega) w1028 S hM1 hV (E.2.2.2.1 (i + 1)) (E.2.2.2.1 (i + 2)) (E.2.2.2.1 (i + 3)) (E.2.2.2.1 (i + 4)) (E.2.2.2.1 (i + 5))) (fun r1057 w1057 c1057 => ?_)
        obtain ⟨e2, hM2, f2⟩ := c1057
        rw [e2]
        refine Wp_icmp_eq d_L_law_1060 (fun h1060 => ?_) (fun q => absurd rfl q)
        refine Wp_iinc (z := nI (i + 6)) (ls2 := [lr 62, lr 0, lr 33, li (nI (i + 6))]) d_L_law_1125 rfl (nI_add i 6) rfl rfl rfl ?_
        refine Wp_goto d_L_law_1128 ?_
        exact ih (i + 6) w1057 (by omega) (by omega) ⟨(oCopy S (E.2.2.2.1 (i + 1)) (E.2.2.2.1 (i + 2)) (E.2.2.2.1 (i + 3)) (E.2.2.2.1 (i + 4)) (E.2.2.2.1 (i + 5))).2, CC_m hC1 f2, hM2, V_copy hV _ _ _ _ _⟩
      by_cases t29 : ((E.2.2.2.1 i) &&& 31).toInt = 29
      ·
        refine Wp_tabIn (off := 1032) (tgt := 1065) d_L_law_33 (by omega) (by omega) (by rw [t29]; rfl) (by decide) ?_
        refine Wp_aload_n d_L_law_1065 rfl ?_
        refine Wp_aload_n d_L_law_1066 rfl ?_
        refine Wp_iload_n d_L_law_1067 rfl ?_
        refine Wp_iconst (x := 1) d_L_law_1068 (by decide) ?_
        refine Wp_iadd d_L_law_1069 ?_
        refine Wp_eqi (x2 := nI (i + 1)) (nI_add i 1) ?_
        refine Wp_xaldN (j := (i + 1)) rfl d_L_law_1070 rfl (by omega) ?_
        refine Wp_ivv_i (o := 0) (As := [vi (E.2.2.2.1 (i + 1))]) d_L_law_1071 ln_L_136 mk_F_write rfl rfl rfl rfl rfl (by omega) (t_F_write E (d - 1) (by omega) w S hC hV (E.2.2.2.1 (i + 1))) (fun r1071 w1071 c1071 => ?_)
        obtain ⟨e1, hC1, f1⟩ := c1071
        have hM1 := MM_c hM f1
        rw [e1]
        refine Wp_aload_n d_L_law_1074 rfl ?_
        refine Wp_aload_n d_L_law_1075 rfl ?_
        refine Wp_iload_n d_L_law_1076 rfl ?_
        refine Wp_iconst (x := 1) d_L_law_1077 (by decide) ?_
        refine Wp_iadd d_L_law_1078 ?_
        refine Wp_eqi (x2 := nI (i + 1)) (nI_add i 1) ?_
        refine Wp_xaldN (j := (i + 1)) rfl d_L_law_1079 rfl (by omega) ?_
        refine Wp_ivv_i (o := 33) (As := [vi (E.2.2.2.1 (i + 1))]) d_L_law_1080 ln_L_139 mk_M_write rfl rfl rfl rfl rfl (by omega) (t_M_write E (d - 1) (by omega) w1071 S hM1 hV (E.2.2.2.1 (i + 1))) (fun r1080 w1080 c1080 => ?_)
        obtain ⟨e2, hM2, f2⟩ := c1080
        rw [e2]
        refine Wp_icmp_eq d_L_law_1083 (fun h1083 => ?_) (fun q => absurd rfl q)
        refine Wp_iinc (z := nI (i + 6)) (ls2 := [lr 62, lr 0, lr 33, li (nI (i + 6))]) d_L_law_1125 rfl (nI_add i 6) rfl rfl rfl ?_
        refine Wp_goto d_L_law_1128 ?_
        exact ih (i + 6) w1080 (by omega) (by omega) ⟨(oWrite S (E.2.2.2.1 (i + 1))).2, CC_m hC1 f2, hM2, V_write hV _⟩
      by_cases t30 : ((E.2.2.2.1 i) &&& 31).toInt = 30
      ·
        refine Wp_tabIn (off := 1055) (tgt := 1088) d_L_law_33 (by omega) (by omega) (by rw [t30]; rfl) (by decide) ?_
        refine Wp_aload_n d_L_law_1088 rfl ?_
        refine Wp_aload_n d_L_law_1089 rfl ?_
        refine Wp_iload_n d_L_law_1090 rfl ?_
        refine Wp_iconst (x := 1) d_L_law_1091 (by decide) ?_
        refine Wp_iadd d_L_law_1092 ?_
        refine Wp_eqi (x2 := nI (i + 1)) (nI_add i 1) ?_
        refine Wp_xaldN (j := (i + 1)) rfl d_L_law_1093 rfl (by omega) ?_
        refine Wp_ivv_d (o := 0) (As := [vi (E.2.2.2.1 (i + 1))]) d_L_law_1094 ln_L_140 mk_F_count rfl rfl rfl rfl rfl (by omega) (t_F_count E (d - 1) (by omega) w S hC hV (E.2.2.2.1 (i + 1))) ?_
        refine Wp_aload_n d_L_law_1097 rfl ?_
        refine Wp_aload_n d_L_law_1098 rfl ?_
        refine Wp_iload_n d_L_law_1099 rfl ?_
        refine Wp_iconst (x := 1) d_L_law_1100 (by decide) ?_
        refine Wp_iadd d_L_law_1101 ?_
        refine Wp_eqi (x2 := nI (i + 1)) (nI_add i 1) ?_
        refine Wp_xaldN (j := (i + 1)) rfl d_L_law_1102 rfl (by omega) ?_
        refine Wp_ivv_i (o := 33) (As := [vi (E.2.2.2.1 (i + 1))]) d_L_law_1103 ln_L_143 mk_M_count rfl rfl rfl rfl rfl (by omega) (t_M_count E (d - 1) (by omega) w S hM hV (E.2.2.2.1 (i + 1))) (fun r1103 w1103 c1103 => ?_)
        obtain ⟨e2, hP2, f2⟩ := c1103
        rw [e2]
        refine Wp_icmp_eq d_L_law_1106 (fun h1106 => ?_) (fun q => absurd rfl q)
        refine Wp_iinc (z := nI (i + 6)) (ls2 := [lr 62, lr 0, lr 33, li (nI (i + 6))]) d_L_law_1125 rfl (nI_add i 6) rfl rfl rfl ?_
        refine Wp_goto d_L_law_1128 ?_
        exact ih (i + 6) w1103 (by omega) (by omega) ⟨S, CC_m hC (frF_m f2), hP2.1, hV⟩
      by_cases t31 : ((E.2.2.2.1 i) &&& 31).toInt = 31
      ·
        refine Wp_tabIn (off := 1078) (tgt := 1111) d_L_law_33 (by omega) (by omega) (by rw [t31]; rfl) (by decide) ?_
        refine Wp_aload_n d_L_law_1111 rfl ?_
        refine Wp_ivv_l (o := 0) (As := []) d_L_law_1112 ln_L_144 mk_F_digest rfl rfl rfl rfl rfl (by omega) (t_F_digest E (d - 1) (by omega) w S hC hV) (fun r1112 w1112 c1112 => ?_)
        obtain ⟨e1, hC1, f1⟩ := c1112
        have hM1 := MM_c hM f1
        rw [e1]
        refine Wp_aload_n d_L_law_1115 rfl ?_
        refine Wp_ivv_l (o := 33) (As := []) d_L_law_1116 ln_L_148 mk_M_digest rfl rfl rfl rfl rfl (by omega) (t_M_digest E (d - 1) (by omega) w1112 S hM1 hV) (fun r1116 w1116 c1116 => ?_)
        obtain ⟨e2, hP2, f2⟩ := c1116
        rw [e2]
        refine Wp_lcmp d_L_law_1119 ?_
        refine Wp_if_eq d_L_law_1120 (fun h1120 => ?_) (fun q => absurd (lcs _) q)
        refine Wp_iinc (z := nI (i + 6)) (ls2 := [lr 62, lr 0, lr 33, li (nI (i + 6))]) d_L_law_1125 rfl (nI_add i 6) rfl rfl rfl ?_
        refine Wp_goto d_L_law_1128 ?_
        exact ih (i + 6) w1116 (by omega) (by omega) ⟨S, CC_m hC1 (f2), hP2.1, hV⟩
      refine Wp_tabOut (tgt := 1125) d_L_law_33 (by omega) (by decide) ?_
      refine Wp_iinc (z := nI (i + 6)) (ls2 := [lr 62, lr 0, lr 33, li (nI (i + 6))]) d_L_law_1125 rfl (nI_add i 6) rfl rfl rfl ?_
      refine Wp_goto d_L_law_1128 ?_
      exact ih (i + 6) w (by omega) (by omega) ⟨S, hC, hM, hV⟩
