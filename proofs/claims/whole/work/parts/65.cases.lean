theorem icmp_self (x : Int) : icmp x x = 0 := by simp [icmp]
set_option maxRecDepth 20000 in
theorem xl_seam {P : Pst} {b Ls i kc ks : Nat} {xs : Nat → Int32} {L L1 : Nat → Nat} {A A1 A3 : Mem} {E : Nat} (hi : 5 * i + 5 ≤ Ls) (hLs : Ls ≤ 2560) (hkc : kc + 100 ≤ 601024) (hks : ks + 2000 ≤ 7293034) (h0 : L 0 = 2) (h18 : L 18 = 2) (h20 : L 20 = 2) (hM : LM L1) (h18b : L1 18 = 2) (hE3 : E ≤ 3) (hH : Ct mL_seam [gr 0, gi (sx xs (5 * i + 1)), gi (sx xs (5 * i + 2)), gi (sx xs (5 * i + 3))] L A (pr (some (gi (E : Int))) L1 A1)) (hR : Ct mX4_seam [gr 20, gi (sx xs (5 * i + 1)), gi (sx xs (5 * i + 2)), gi (sx xs (5 * i + 3))] L1 A1 (pr none L1 A3)) (hT : A3 20 0 = E) (kk : GX (SX b Ls xs) mL_law P (kc + 100) (ks + 2000) 1865 [(0, gx b), (1, gr 0), (2, gr 20), (3, gr 18), (4, gi ((5 * i : Nat) : Int))] [] L1 A3) : GX (SX b Ls xs) mL_law P kc ks 156 [(0, gx b), (1, gr 0), (2, gr 20), (3, gr 18), (4, gi ((5 * i : Nat) : Int))] [] L A := by
  refine x_aload_n 1 dL_law_156 rfl rfl ?_
  refine x_arg (i := i) (k := 1) (j4 := 4) rfl rfl (by omega) hLs dL_law_157 dL_law_158 dL_law_160 dL_law_161 dL_law_162 ?_
  refine x_arg (i := i) (k := 2) (j4 := 4) rfl rfl (by omega) hLs dL_law_163 dL_law_164 dL_law_166 dL_law_167 dL_law_168 ?_
  refine x_arg (i := i) (k := 3) (j4 := 4) rfl rfl (by omega) hLs dL_law_169 dL_law_170 dL_law_172 dL_law_173 dL_law_174 ?_
  refine x_cSH (My := mL_seam) (gs := [_, _, _, _]) (st := []) hH mfL_seam wst_L_seam wm_L_99 dL_law_175 (Nat.le_of_ble_eq_true rfl) rfl (fun _ => (Nat.le_of_ble_eq_true rfl)) (kfit hkc (Nat.le_of_ble_eq_true rfl)) (kfit hks (Nat.le_of_ble_eq_true rfl)) rfl ⟨(by simp only [List.forall_mem_cons]; exact ⟨trivial, okv_r (n2 h0) (by decide), okv_r (n2 h20) (by decide), okv_r (n2 h18) (by decide), okv_i _, fun _ h => absurd h List.not_mem_nil⟩), fun _ h => absurd h List.not_mem_nil⟩ rfl ?_
  refine x_st2 (ls2 := (5, _) :: [(0, gx b), (1, gr 0), (2, gr 20), (3, gr 18), (4, gi ((5 * i : Nat) : Int))]) dL_law_178 (by decide) (c1_cx (c1_cr (c1_cr (c1_cr (c1_ci c1_0))))) rfl ?_
  refine x_sub [1, 2, 3, 4, 5, 0] (ls2 := [(0, gx b), (1, gr 0), (2, gr 20), (3, gr 18), (4, gi ((5 * i : Nat) : Int)), (5, _)]) rfl ?_
  refine x_aload_n 2 dL_law_180 rfl rfl ?_
  refine x_arg (i := i) (k := 1) (j4 := 4) rfl rfl (by omega) hLs dL_law_181 dL_law_182 dL_law_184 dL_law_185 dL_law_186 ?_
  refine x_arg (i := i) (k := 2) (j4 := 4) rfl rfl (by omega) hLs dL_law_187 dL_law_188 dL_law_190 dL_law_191 dL_law_192 ?_
  refine x_arg (i := i) (k := 3) (j4 := 4) rfl rfl (by omega) hLs dL_law_193 dL_law_194 dL_law_196 dL_law_197 dL_law_198 ?_
  refine x_cV_v (My := mX4_seam) (gs := [_, _, _]) (st := []) hR mfX4_seam cf_5 wi_X4_seam wsl_X4_seam wm_L_104 dL_law_199 (Nat.le_of_ble_eq_true rfl) rfl (by decide) (n2 (hM 20 rfl)) rfl (fun _ => (Nat.le_of_ble_eq_true rfl)) (kfit2 hkc (Nat.le_of_ble_eq_true rfl)) (kfit2 hks (Nat.le_of_ble_eq_true rfl)) rfl rfl ?_
  refine x_aload_n 2 dL_law_202 rfl rfl ?_
  refine x_cV_i (My := mX4_thrown) (gs := []) (st := []) (c_X4_thrown hM) mfX4_thrown cf_5 wi_X4_thrown wsl_X4_thrown wm_L_105 dL_law_203 (Nat.le_of_ble_eq_true rfl) rfl (by decide) (n2 (hM 20 rfl)) rfl (fun _ => (Nat.le_of_ble_eq_true rfl)) (kfit3 hkc (Nat.le_of_ble_eq_true rfl)) (kfit3 hks (Nat.le_of_ble_eq_true rfl)) rfl rfl ?_
  refine x_top (y := (E : Int)) hT ?_
  refine x_iload 5 dL_law_206 rfl ?_
  refine x_icmp_eq (tgt := 213) (by omega) (by omega) dL_law_208 (by decide) (fun _ => ?_) (fun h => absurd rfl h)
  refine x_goto (tgt := 1865) dL_law_213 (by decide) ?_
  refine x_sub [0, 1, 2, 3, 4] (ls2 := [(0, gx b), (1, gr 0), (2, gr 20), (3, gr 18), (4, gi ((5 * i : Nat) : Int))]) rfl ?_
  exact x_wide (by show kc + 1 + 0 + 0 ≤ kc + 100; omega) (by show ks + 6 + 0 + 0 ≤ ks + 2000; omega) kk
set_option maxRecDepth 20000 in
theorem xl_pass {P : Pst} {b Ls i kc ks : Nat} {xs : Nat → Int32} {L L1 : Nat → Nat} {A A1 A3 : Mem} {E : Nat} {W : Int} (hi : 5 * i + 5 ≤ Ls) (hLs : Ls ≤ 2560) (hkc : kc + 100 ≤ 601024) (hks : ks + 2000 ≤ 7293034) (h0 : L 0 = 2) (h18 : L 18 = 2) (h20 : L 20 = 2) (hM : LM L1) (h18b : L1 18 = 2) (hE3 : E ≤ 3) (hH : Ct mL_pass [gr 0, gi (sx xs (5 * i + 1)), gr 18] L A (pr (some (gi (E : Int))) L1 A1)) (hR : Ct mX4_pass [gr 20, gi (sx xs (5 * i + 1))] L1 A1 (pr (some (gi W)) L1 A3)) (hT : A3 20 0 = E) (hv : E = 0 → A3 18 0 = nrm W) (kk : GX (SX b Ls xs) mL_law P (kc + 100) (ks + 2000) 1865 [(0, gx b), (1, gr 0), (2, gr 20), (3, gr 18), (4, gi ((5 * i : Nat) : Int))] [] L1 A3) : GX (SX b Ls xs) mL_law P kc ks 216 [(0, gx b), (1, gr 0), (2, gr 20), (3, gr 18), (4, gi ((5 * i : Nat) : Int))] [] L A := by
  refine x_aload_n 1 dL_law_216 rfl rfl ?_
  refine x_arg (i := i) (k := 1) (j4 := 4) rfl rfl (by omega) hLs dL_law_217 dL_law_218 dL_law_220 dL_law_221 dL_law_222 ?_
  refine x_aload_n 3 dL_law_223 rfl rfl ?_
  refine x_cSH (My := mL_pass) (gs := [_, _, _]) (st := []) hH mfL_pass wst_L_pass wm_L_109 dL_law_224 (Nat.le_of_ble_eq_true rfl) rfl (fun _ => (Nat.le_of_ble_eq_true rfl)) (kfit hkc (Nat.le_of_ble_eq_true rfl)) (kfit hks (Nat.le_of_ble_eq_true rfl)) rfl ⟨(by simp only [List.forall_mem_cons]; exact ⟨trivial, okv_r (n2 h0) (by decide), okv_r (n2 h20) (by decide), okv_r (n2 h18) (by decide), okv_i _, fun _ h => absurd h List.not_mem_nil⟩), fun _ h => absurd h List.not_mem_nil⟩ rfl ?_
  refine x_st2 (ls2 := (5, _) :: [(0, gx b), (1, gr 0), (2, gr 20), (3, gr 18), (4, gi ((5 * i : Nat) : Int))]) dL_law_227 (by decide) (c1_cx (c1_cr (c1_cr (c1_cr (c1_ci c1_0))))) rfl ?_
  refine x_sub [1, 2, 3, 4, 5, 0] (ls2 := [(0, gx b), (1, gr 0), (2, gr 20), (3, gr 18), (4, gi ((5 * i : Nat) : Int)), (5, _)]) rfl ?_
  refine x_aload_n 2 dL_law_229 rfl rfl ?_
  refine x_arg (i := i) (k := 1) (j4 := 4) rfl rfl (by omega) hLs dL_law_230 dL_law_231 dL_law_233 dL_law_234 dL_law_235 ?_
  refine x_cV_i (My := mX4_pass) (gs := [_]) (st := []) hR mfX4_pass cf_5 wi_X4_pass wsl_X4_pass wm_L_112 dL_law_236 (Nat.le_of_ble_eq_true rfl) rfl (by decide) (n2 (hM 20 rfl)) rfl (fun _ => (Nat.le_of_ble_eq_true rfl)) (kfit2 hkc (Nat.le_of_ble_eq_true rfl)) (kfit2 hks (Nat.le_of_ble_eq_true rfl)) rfl rfl ?_
  refine x_st2 (ls2 := [(6, _), (0, gx b), (1, gr 0), (2, gr 20), (3, gr 18), (4, gi ((5 * i : Nat) : Int)), (5, _)]) dL_law_239 (by decide) (c1_cx (c1_cr (c1_cr (c1_cr (c1_ci (c1_ci c1_0)))))) rfl ?_
  refine x_aload_n 3 dL_law_241 rfl rfl ?_
  refine x_cV_i (My := mX4_thrown) (gs := []) (st := []) (c_X4_thrown hM) mfX4_thrown cf_5 wi_X4_thrown wsl_X4_thrown wm_L_105 dL_law_242 (Nat.le_of_ble_eq_true rfl) rfl (by decide) (n2 (hM 20 rfl)) rfl (fun _ => (Nat.le_of_ble_eq_true rfl)) (kfit3 hkc (Nat.le_of_ble_eq_true rfl)) (kfit3 hks (Nat.le_of_ble_eq_true rfl)) rfl rfl ?_
  refine x_top (y := (E : Int)) hT ?_
  refine x_iload 6 dL_law_245 rfl ?_
  refine x_icmp_eq (tgt := 252) (by omega) (by omega) dL_law_247 (by decide) (fun _ => ?_) (fun h => absurd rfl h)
  refine x_iload 6 dL_law_252 rfl ?_
  refine x_if_ne (tgt := 269) (by omega) dL_law_254 (by decide) (fun _ => ?_) (fun hE0 => ?_)
  · refine x_goto (tgt := 1865) dL_law_269 (by decide) ?_
    refine x_sub [1, 2, 3, 4, 5] (ls2 := [(0, gx b), (1, gr 0), (2, gr 20), (3, gr 18), (4, gi ((5 * i : Nat) : Int))]) rfl ?_
    exact x_wide (by show kc + 1 + 0 + 0 ≤ kc + 100; omega) (by show ks + 6 + 0 + 0 ≤ ks + 2000; omega) kk
  · refine x_aload_n 4 dL_law_257 rfl rfl ?_
    refine x_iconst dL_law_258 ?_
    refine x_lald (N := 1) (n := 18) 0 rfl (by decide) rfl (by decide) dL_law_259 (n2 h18b) (fun hr18 => ?_)
    refine x_iload 0 dL_law_260 rfl ?_
    rw [gi_nrm W]
    refine x_i2l (nrm_rg W) dL_law_262 ?_
    refine x_lcmp hr18 (nrm_rg W) dL_law_263 ?_
    refine x_top (y := 0) (by rw [hv (by omega), icmp_self]) ?_
    refine x_if_eq (tgt := 269) (by omega) dL_law_264 (by decide) (fun _ => ?_) (fun h => absurd rfl h)
    refine x_goto (tgt := 1865) dL_law_269 (by decide) ?_
    refine x_sub [1, 2, 3, 4, 5] (ls2 := [(0, gx b), (1, gr 0), (2, gr 20), (3, gr 18), (4, gi ((5 * i : Nat) : Int))]) rfl ?_
    exact x_wide (by show kc + 1 + 0 + 0 ≤ kc + 100; omega) (by show ks + 6 + 0 + 0 ≤ ks + 2000; omega) kk
set_option maxRecDepth 20000 in
theorem xl_peg {P : Pst} {b Ls i kc ks : Nat} {xs : Nat → Int32} {L L1 : Nat → Nat} {A A1 A3 : Mem} {E : Nat} {W : Int} (hi : 5 * i + 5 ≤ Ls) (hLs : Ls ≤ 2560) (hkc : kc + 100 ≤ 601024) (hks : ks + 2000 ≤ 7293034) (h0 : L 0 = 2) (h18 : L 18 = 2) (h20 : L 20 = 2) (hM : LM L1) (h18b : L1 18 = 2) (hE3 : E ≤ 3) (hH : Ct mL_peg [gr 0, gi (sx xs (5 * i + 1)), gi (sx xs (5 * i + 2)), gi (sx xs (5 * i + 3)), gi (sx xs (5 * i + 4)), gr 18] L A (pr (some (gi (E : Int))) L1 A1)) (hR : Ct mX4_peg [gr 20, gi (sx xs (5 * i + 1)), gi (sx xs (5 * i + 2)), gi (sx xs (5 * i + 3)), gi (sx xs (5 * i + 4))] L1 A1 (pr (some (gi W)) L1 A3)) (hT : A3 20 0 = E) (hv : E = 0 → A3 18 0 = nrm W) (kk : GX (SX b Ls xs) mL_law P (kc + 100) (ks + 2000) 1865 [(0, gx b), (1, gr 0), (2, gr 20), (3, gr 18), (4, gi ((5 * i : Nat) : Int))] [] L1 A3) : GX (SX b Ls xs) mL_law P kc ks 272 [(0, gx b), (1, gr 0), (2, gr 20), (3, gr 18), (4, gi ((5 * i : Nat) : Int))] [] L A := by
  refine x_aload_n 1 dL_law_272 rfl rfl ?_
  refine x_arg (i := i) (k := 1) (j4 := 4) rfl rfl (by omega) hLs dL_law_273 dL_law_274 dL_law_276 dL_law_277 dL_law_278 ?_
  refine x_arg (i := i) (k := 2) (j4 := 4) rfl rfl (by omega) hLs dL_law_279 dL_law_280 dL_law_282 dL_law_283 dL_law_284 ?_
  refine x_arg (i := i) (k := 3) (j4 := 4) rfl rfl (by omega) hLs dL_law_285 dL_law_286 dL_law_288 dL_law_289 dL_law_290 ?_
  refine x_arg (i := i) (k := 4) (j4 := 4) rfl rfl (by omega) hLs dL_law_291 dL_law_292 dL_law_294 dL_law_295 dL_law_296 ?_
  refine x_aload_n 3 dL_law_297 rfl rfl ?_
  refine x_cSH (My := mL_peg) (gs := [_, _, _, _, _, _]) (st := []) hH mfL_peg wst_L_peg wm_L_113 dL_law_298 (Nat.le_of_ble_eq_true rfl) rfl (fun _ => (Nat.le_of_ble_eq_true rfl)) (kfit hkc (Nat.le_of_ble_eq_true rfl)) (kfit hks (Nat.le_of_ble_eq_true rfl)) rfl ⟨(by simp only [List.forall_mem_cons]; exact ⟨trivial, okv_r (n2 h0) (by decide), okv_r (n2 h20) (by decide), okv_r (n2 h18) (by decide), okv_i _, fun _ h => absurd h List.not_mem_nil⟩), fun _ h => absurd h List.not_mem_nil⟩ rfl ?_
  refine x_st2 (ls2 := (5, _) :: [(0, gx b), (1, gr 0), (2, gr 20), (3, gr 18), (4, gi ((5 * i : Nat) : Int))]) dL_law_301 (by decide) (c1_cx (c1_cr (c1_cr (c1_cr (c1_ci c1_0))))) rfl ?_
  refine x_sub [1, 2, 3, 4, 5, 0] (ls2 := [(0, gx b), (1, gr 0), (2, gr 20), (3, gr 18), (4, gi ((5 * i : Nat) : Int)), (5, _)]) rfl ?_
  refine x_aload_n 2 dL_law_303 rfl rfl ?_
  refine x_arg (i := i) (k := 1) (j4 := 4) rfl rfl (by omega) hLs dL_law_304 dL_law_305 dL_law_307 dL_law_308 dL_law_309 ?_
  refine x_arg (i := i) (k := 2) (j4 := 4) rfl rfl (by omega) hLs dL_law_310 dL_law_311 dL_law_313 dL_law_314 dL_law_315 ?_
  refine x_arg (i := i) (k := 3) (j4 := 4) rfl rfl (by omega) hLs dL_law_316 dL_law_317 dL_law_319 dL_law_320 dL_law_321 ?_
  refine x_arg (i := i) (k := 4) (j4 := 4) rfl rfl (by omega) hLs dL_law_322 dL_law_323 dL_law_325 dL_law_326 dL_law_327 ?_
  refine x_cV_i (My := mX4_peg) (gs := [_, _, _, _]) (st := []) hR mfX4_peg cf_5 wi_X4_peg wsl_X4_peg wm_L_116 dL_law_328 (Nat.le_of_ble_eq_true rfl) rfl (by decide) (n2 (hM 20 rfl)) rfl (fun _ => (Nat.le_of_ble_eq_true rfl)) (kfit2 hkc (Nat.le_of_ble_eq_true rfl)) (kfit2 hks (Nat.le_of_ble_eq_true rfl)) rfl rfl ?_
  refine x_st2 (ls2 := [(6, _), (0, gx b), (1, gr 0), (2, gr 20), (3, gr 18), (4, gi ((5 * i : Nat) : Int)), (5, _)]) dL_law_331 (by decide) (c1_cx (c1_cr (c1_cr (c1_cr (c1_ci (c1_ci c1_0)))))) rfl ?_
  refine x_aload_n 3 dL_law_333 rfl rfl ?_
  refine x_cV_i (My := mX4_thrown) (gs := []) (st := []) (c_X4_thrown hM) mfX4_thrown cf_5 wi_X4_thrown wsl_X4_thrown wm_L_105 dL_law_334 (Nat.le_of_ble_eq_true rfl) rfl (by decide) (n2 (hM 20 rfl)) rfl (fun _ => (Nat.le_of_ble_eq_true rfl)) (kfit3 hkc (Nat.le_of_ble_eq_true rfl)) (kfit3 hks (Nat.le_of_ble_eq_true rfl)) rfl rfl ?_
  refine x_top (y := (E : Int)) hT ?_
  refine x_iload 6 dL_law_337 rfl ?_
  refine x_icmp_eq (tgt := 344) (by omega) (by omega) dL_law_339 (by decide) (fun _ => ?_) (fun h => absurd rfl h)
  refine x_iload 6 dL_law_344 rfl ?_
  refine x_if_ne (tgt := 361) (by omega) dL_law_346 (by decide) (fun _ => ?_) (fun hE0 => ?_)
  · refine x_goto (tgt := 1865) dL_law_361 (by decide) ?_
    refine x_sub [1, 2, 3, 4, 5] (ls2 := [(0, gx b), (1, gr 0), (2, gr 20), (3, gr 18), (4, gi ((5 * i : Nat) : Int))]) rfl ?_
    exact x_wide (by show kc + 4 + 0 + 0 ≤ kc + 100; omega) (by show ks + 300 + 0 + 0 ≤ ks + 2000; omega) kk
  · refine x_aload_n 4 dL_law_349 rfl rfl ?_
    refine x_iconst dL_law_350 ?_
    refine x_lald (N := 1) (n := 18) 0 rfl (by decide) rfl (by decide) dL_law_351 (n2 h18b) (fun hr18 => ?_)
    refine x_iload 0 dL_law_352 rfl ?_
    rw [gi_nrm W]
    refine x_i2l (nrm_rg W) dL_law_354 ?_
    refine x_lcmp hr18 (nrm_rg W) dL_law_355 ?_
    refine x_top (y := 0) (by rw [hv (by omega), icmp_self]) ?_
    refine x_if_eq (tgt := 361) (by omega) dL_law_356 (by decide) (fun _ => ?_) (fun h => absurd rfl h)
    refine x_goto (tgt := 1865) dL_law_361 (by decide) ?_
    refine x_sub [1, 2, 3, 4, 5] (ls2 := [(0, gx b), (1, gr 0), (2, gr 20), (3, gr 18), (4, gi ((5 * i : Nat) : Int))]) rfl ?_
    exact x_wide (by show kc + 4 + 0 + 0 ≤ kc + 100; omega) (by show ks + 300 + 0 + 0 ≤ ks + 2000; omega) kk
set_option maxRecDepth 20000 in
theorem xl_witness {P : Pst} {b Ls i kc ks : Nat} {xs : Nat → Int32} {L L1 : Nat → Nat} {A A1 A3 : Mem} {E : Nat} {W : Int} (hi : 5 * i + 5 ≤ Ls) (hLs : Ls ≤ 2560) (hkc : kc + 100 ≤ 601024) (hks : ks + 2000 ≤ 7293034) (h0 : L 0 = 2) (h18 : L 18 = 2) (h20 : L 20 = 2) (hM : LM L1) (h18b : L1 18 = 2) (hE3 : E ≤ 3) (hH : Ct mL_witness [gr 0, gi (sx xs (5 * i + 1)), gi (sx xs (5 * i + 2)), gi (sx xs (5 * i + 3)), gr 18] L A (pr (some (gi (E : Int))) L1 A1)) (hR : Ct mX4_witness [gr 20, gi (sx xs (5 * i + 1)), gi (sx xs (5 * i + 2)), gi (sx xs (5 * i + 3))] L1 A1 (pr (some (gi W)) L1 A3)) (hT : A3 20 0 = E) (hv : E = 0 → A3 18 0 = nrm W) (kk : GX (SX b Ls xs) mL_law P (kc + 100) (ks + 2000) 1865 [(0, gx b), (1, gr 0), (2, gr 20), (3, gr 18), (4, gi ((5 * i : Nat) : Int))] [] L1 A3) : GX (SX b Ls xs) mL_law P kc ks 364 [(0, gx b), (1, gr 0), (2, gr 20), (3, gr 18), (4, gi ((5 * i : Nat) : Int))] [] L A := by
  refine x_aload_n 1 dL_law_364 rfl rfl ?_
  refine x_arg (i := i) (k := 1) (j4 := 4) rfl rfl (by omega) hLs dL_law_365 dL_law_366 dL_law_368 dL_law_369 dL_law_370 ?_
  refine x_arg (i := i) (k := 2) (j4 := 4) rfl rfl (by omega) hLs dL_law_371 dL_law_372 dL_law_374 dL_law_375 dL_law_376 ?_
  refine x_arg (i := i) (k := 3) (j4 := 4) rfl rfl (by omega) hLs dL_law_377 dL_law_378 dL_law_380 dL_law_381 dL_law_382 ?_
  refine x_aload_n 3 dL_law_383 rfl rfl ?_
  refine x_cSH (My := mL_witness) (gs := [_, _, _, _, _]) (st := []) hH mfL_witness wst_L_witness wm_L_117 dL_law_384 (Nat.le_of_ble_eq_true rfl) rfl (fun _ => (Nat.le_of_ble_eq_true rfl)) (kfit hkc (Nat.le_of_ble_eq_true rfl)) (kfit hks (Nat.le_of_ble_eq_true rfl)) rfl ⟨(by simp only [List.forall_mem_cons]; exact ⟨trivial, okv_r (n2 h0) (by decide), okv_r (n2 h20) (by decide), okv_r (n2 h18) (by decide), okv_i _, fun _ h => absurd h List.not_mem_nil⟩), fun _ h => absurd h List.not_mem_nil⟩ rfl ?_
  refine x_st2 (ls2 := (5, _) :: [(0, gx b), (1, gr 0), (2, gr 20), (3, gr 18), (4, gi ((5 * i : Nat) : Int))]) dL_law_387 (by decide) (c1_cx (c1_cr (c1_cr (c1_cr (c1_ci c1_0))))) rfl ?_
  refine x_sub [1, 2, 3, 4, 5, 0] (ls2 := [(0, gx b), (1, gr 0), (2, gr 20), (3, gr 18), (4, gi ((5 * i : Nat) : Int)), (5, _)]) rfl ?_
  refine x_aload_n 2 dL_law_389 rfl rfl ?_
  refine x_arg (i := i) (k := 1) (j4 := 4) rfl rfl (by omega) hLs dL_law_390 dL_law_391 dL_law_393 dL_law_394 dL_law_395 ?_
  refine x_arg (i := i) (k := 2) (j4 := 4) rfl rfl (by omega) hLs dL_law_396 dL_law_397 dL_law_399 dL_law_400 dL_law_401 ?_
  refine x_arg (i := i) (k := 3) (j4 := 4) rfl rfl (by omega) hLs dL_law_402 dL_law_403 dL_law_405 dL_law_406 dL_law_407 ?_
  refine x_cV_i (My := mX4_witness) (gs := [_, _, _]) (st := []) hR mfX4_witness cf_5 wi_X4_witness wsl_X4_witness wm_L_120 dL_law_408 (Nat.le_of_ble_eq_true rfl) rfl (by decide) (n2 (hM 20 rfl)) rfl (fun _ => (Nat.le_of_ble_eq_true rfl)) (kfit2 hkc (Nat.le_of_ble_eq_true rfl)) (kfit2 hks (Nat.le_of_ble_eq_true rfl)) rfl rfl ?_
  refine x_st2 (ls2 := [(6, _), (0, gx b), (1, gr 0), (2, gr 20), (3, gr 18), (4, gi ((5 * i : Nat) : Int)), (5, _)]) dL_law_411 (by decide) (c1_cx (c1_cr (c1_cr (c1_cr (c1_ci (c1_ci c1_0)))))) rfl ?_
  refine x_aload_n 3 dL_law_413 rfl rfl ?_
  refine x_cV_i (My := mX4_thrown) (gs := []) (st := []) (c_X4_thrown hM) mfX4_thrown cf_5 wi_X4_thrown wsl_X4_thrown wm_L_105 dL_law_414 (Nat.le_of_ble_eq_true rfl) rfl (by decide) (n2 (hM 20 rfl)) rfl (fun _ => (Nat.le_of_ble_eq_true rfl)) (kfit3 hkc (Nat.le_of_ble_eq_true rfl)) (kfit3 hks (Nat.le_of_ble_eq_true rfl)) rfl rfl ?_
  refine x_top (y := (E : Int)) hT ?_
  refine x_iload 6 dL_law_417 rfl ?_
  refine x_icmp_eq (tgt := 424) (by omega) (by omega) dL_law_419 (by decide) (fun _ => ?_) (fun h => absurd rfl h)
  refine x_iload 6 dL_law_424 rfl ?_
  refine x_if_ne (tgt := 441) (by omega) dL_law_426 (by decide) (fun _ => ?_) (fun hE0 => ?_)
  · refine x_goto (tgt := 1865) dL_law_441 (by decide) ?_
    refine x_sub [1, 2, 3, 4, 5] (ls2 := [(0, gx b), (1, gr 0), (2, gr 20), (3, gr 18), (4, gi ((5 * i : Nat) : Int))]) rfl ?_
    exact x_wide (by show kc + 1 + 0 + 0 ≤ kc + 100; omega) (by show ks + 6 + 0 + 0 ≤ ks + 2000; omega) kk
  · refine x_aload_n 4 dL_law_429 rfl rfl ?_
    refine x_iconst dL_law_430 ?_
    refine x_lald (N := 1) (n := 18) 0 rfl (by decide) rfl (by decide) dL_law_431 (n2 h18b) (fun hr18 => ?_)
    refine x_iload 0 dL_law_432 rfl ?_
    rw [gi_nrm W]
    refine x_i2l (nrm_rg W) dL_law_434 ?_
    refine x_lcmp hr18 (nrm_rg W) dL_law_435 ?_
    refine x_top (y := 0) (by rw [hv (by omega), icmp_self]) ?_
    refine x_if_eq (tgt := 441) (by omega) dL_law_436 (by decide) (fun _ => ?_) (fun h => absurd rfl h)
    refine x_goto (tgt := 1865) dL_law_441 (by decide) ?_
    refine x_sub [1, 2, 3, 4, 5] (ls2 := [(0, gx b), (1, gr 0), (2, gr 20), (3, gr 18), (4, gi ((5 * i : Nat) : Int))]) rfl ?_
    exact x_wide (by show kc + 1 + 0 + 0 ≤ kc + 100; omega) (by show ks + 6 + 0 + 0 ≤ ks + 2000; omega) kk
set_option maxRecDepth 20000 in
theorem xl_partner {P : Pst} {b Ls i kc ks : Nat} {xs : Nat → Int32} {L L1 : Nat → Nat} {A A1 A3 : Mem} {E : Nat} {W : Int} (hi : 5 * i + 5 ≤ Ls) (hLs : Ls ≤ 2560) (hkc : kc + 100 ≤ 601024) (hks : ks + 2000 ≤ 7293034) (h0 : L 0 = 2) (h18 : L 18 = 2) (h20 : L 20 = 2) (hM : LM L1) (h18b : L1 18 = 2) (hE3 : E ≤ 3) (hH : Ct mL_partner [gr 0, gi (sx xs (5 * i + 1)), gi (sx xs (5 * i + 2)), gi (sx xs (5 * i + 3)), gr 18] L A (pr (some (gi (E : Int))) L1 A1)) (hR : Ct mX4_partner [gr 20, gi (sx xs (5 * i + 1)), gi (sx xs (5 * i + 2)), gi (sx xs (5 * i + 3))] L1 A1 (pr (some (gi W)) L1 A3)) (hT : A3 20 0 = E) (hv : E = 0 → A3 18 0 = nrm W) (kk : GX (SX b Ls xs) mL_law P (kc + 100) (ks + 2000) 1865 [(0, gx b), (1, gr 0), (2, gr 20), (3, gr 18), (4, gi ((5 * i : Nat) : Int))] [] L1 A3) : GX (SX b Ls xs) mL_law P kc ks 444 [(0, gx b), (1, gr 0), (2, gr 20), (3, gr 18), (4, gi ((5 * i : Nat) : Int))] [] L A := by
  refine x_aload_n 1 dL_law_444 rfl rfl ?_
  refine x_arg (i := i) (k := 1) (j4 := 4) rfl rfl (by omega) hLs dL_law_445 dL_law_446 dL_law_448 dL_law_449 dL_law_450 ?_
  refine x_arg (i := i) (k := 2) (j4 := 4) rfl rfl (by omega) hLs dL_law_451 dL_law_452 dL_law_454 dL_law_455 dL_law_456 ?_
  refine x_arg (i := i) (k := 3) (j4 := 4) rfl rfl (by omega) hLs dL_law_457 dL_law_458 dL_law_460 dL_law_461 dL_law_462 ?_
  refine x_aload_n 3 dL_law_463 rfl rfl ?_
  refine x_cSH (My := mL_partner) (gs := [_, _, _, _, _]) (st := []) hH mfL_partner wst_L_partner wm_L_121 dL_law_464 (Nat.le_of_ble_eq_true rfl) rfl (fun _ => (Nat.le_of_ble_eq_true rfl)) (kfit hkc (Nat.le_of_ble_eq_true rfl)) (kfit hks (Nat.le_of_ble_eq_true rfl)) rfl ⟨(by simp only [List.forall_mem_cons]; exact ⟨trivial, okv_r (n2 h0) (by decide), okv_r (n2 h20) (by decide), okv_r (n2 h18) (by decide), okv_i _, fun _ h => absurd h List.not_mem_nil⟩), fun _ h => absurd h List.not_mem_nil⟩ rfl ?_
  refine x_st2 (ls2 := (5, _) :: [(0, gx b), (1, gr 0), (2, gr 20), (3, gr 18), (4, gi ((5 * i : Nat) : Int))]) dL_law_467 (by decide) (c1_cx (c1_cr (c1_cr (c1_cr (c1_ci c1_0))))) rfl ?_
  refine x_sub [1, 2, 3, 4, 5, 0] (ls2 := [(0, gx b), (1, gr 0), (2, gr 20), (3, gr 18), (4, gi ((5 * i : Nat) : Int)), (5, _)]) rfl ?_
  refine x_aload_n 2 dL_law_469 rfl rfl ?_
  refine x_arg (i := i) (k := 1) (j4 := 4) rfl rfl (by omega) hLs dL_law_470 dL_law_471 dL_law_473 dL_law_474 dL_law_475 ?_
  refine x_arg (i := i) (k := 2) (j4 := 4) rfl rfl (by omega) hLs dL_law_476 dL_law_477 dL_law_479 dL_law_480 dL_law_481 ?_
  refine x_arg (i := i) (k := 3) (j4 := 4) rfl rfl (by omega) hLs dL_law_482 dL_law_483 dL_law_485 dL_law_486 dL_law_487 ?_
  refine x_cV_i (My := mX4_partner) (gs := [_, _, _]) (st := []) hR mfX4_partner cf_5 wi_X4_partner wsl_X4_partner wm_L_123 dL_law_488 (Nat.le_of_ble_eq_true rfl) rfl (by decide) (n2 (hM 20 rfl)) rfl (fun _ => (Nat.le_of_ble_eq_true rfl)) (kfit2 hkc (Nat.le_of_ble_eq_true rfl)) (kfit2 hks (Nat.le_of_ble_eq_true rfl)) rfl rfl ?_
  refine x_st2 (ls2 := [(6, _), (0, gx b), (1, gr 0), (2, gr 20), (3, gr 18), (4, gi ((5 * i : Nat) : Int)), (5, _)]) dL_law_491 (by decide) (c1_cx (c1_cr (c1_cr (c1_cr (c1_ci (c1_ci c1_0)))))) rfl ?_
  refine x_aload_n 3 dL_law_493 rfl rfl ?_
  refine x_cV_i (My := mX4_thrown) (gs := []) (st := []) (c_X4_thrown hM) mfX4_thrown cf_5 wi_X4_thrown wsl_X4_thrown wm_L_105 dL_law_494 (Nat.le_of_ble_eq_true rfl) rfl (by decide) (n2 (hM 20 rfl)) rfl (fun _ => (Nat.le_of_ble_eq_true rfl)) (kfit3 hkc (Nat.le_of_ble_eq_true rfl)) (kfit3 hks (Nat.le_of_ble_eq_true rfl)) rfl rfl ?_
  refine x_top (y := (E : Int)) hT ?_
  refine x_iload 6 dL_law_497 rfl ?_
  refine x_icmp_eq (tgt := 504) (by omega) (by omega) dL_law_499 (by decide) (fun _ => ?_) (fun h => absurd rfl h)
  refine x_iload 6 dL_law_504 rfl ?_
  refine x_if_ne (tgt := 521) (by omega) dL_law_506 (by decide) (fun _ => ?_) (fun hE0 => ?_)
  · refine x_goto (tgt := 1865) dL_law_521 (by decide) ?_
    refine x_sub [1, 2, 3, 4, 5] (ls2 := [(0, gx b), (1, gr 0), (2, gr 20), (3, gr 18), (4, gi ((5 * i : Nat) : Int))]) rfl ?_
    exact x_wide (by show kc + 1 + 0 + 0 ≤ kc + 100; omega) (by show ks + 6 + 0 + 0 ≤ ks + 2000; omega) kk
  · refine x_aload_n 4 dL_law_509 rfl rfl ?_
    refine x_iconst dL_law_510 ?_
    refine x_lald (N := 1) (n := 18) 0 rfl (by decide) rfl (by decide) dL_law_511 (n2 h18b) (fun hr18 => ?_)
    refine x_iload 0 dL_law_512 rfl ?_
    rw [gi_nrm W]
    refine x_i2l (nrm_rg W) dL_law_514 ?_
    refine x_lcmp hr18 (nrm_rg W) dL_law_515 ?_
    refine x_top (y := 0) (by rw [hv (by omega), icmp_self]) ?_
    refine x_if_eq (tgt := 521) (by omega) dL_law_516 (by decide) (fun _ => ?_) (fun h => absurd rfl h)
    refine x_goto (tgt := 1865) dL_law_521 (by decide) ?_
    refine x_sub [1, 2, 3, 4, 5] (ls2 := [(0, gx b), (1, gr 0), (2, gr 20), (3, gr 18), (4, gi ((5 * i : Nat) : Int))]) rfl ?_
    exact x_wide (by show kc + 1 + 0 + 0 ≤ kc + 100; omega) (by show ks + 6 + 0 + 0 ≤ ks + 2000; omega) kk
set_option maxRecDepth 20000 in
theorem xl_dig {P : Pst} {b Ls i kc ks : Nat} {xs : Nat → Int32} {L L1 : Nat → Nat} {A A1 A3 : Mem} {E : Nat} {W : Int} (hi : 5 * i + 5 ≤ Ls) (hLs : Ls ≤ 2560) (hkc : kc + 100 ≤ 601024) (hks : ks + 2000 ≤ 7293034) (h0 : L 0 = 2) (h18 : L 18 = 2) (h20 : L 20 = 2) (hM : LM L1) (h18b : L1 18 = 2) (hE3 : E ≤ 3) (hH : Ct mL_dig [gr 0, gi (sx xs (5 * i + 1)), gi (sx xs (5 * i + 2)), gi (sx xs (5 * i + 3)), gr 18] L A (pr (some (gi (E : Int))) L1 A1)) (hR : Ct mX4_dig [gr 20, gi (sx xs (5 * i + 1)), gi (sx xs (5 * i + 2)), gi (sx xs (5 * i + 3))] L1 A1 (pr (some (gi W)) L1 A3)) (hT : A3 20 0 = E) (hv : E = 0 → A3 18 0 = nrm W) (kk : GX (SX b Ls xs) mL_law P (kc + 100) (ks + 2000) 1865 [(0, gx b), (1, gr 0), (2, gr 20), (3, gr 18), (4, gi ((5 * i : Nat) : Int))] [] L1 A3) : GX (SX b Ls xs) mL_law P kc ks 524 [(0, gx b), (1, gr 0), (2, gr 20), (3, gr 18), (4, gi ((5 * i : Nat) : Int))] [] L A := by
  refine x_aload_n 1 dL_law_524 rfl rfl ?_
  refine x_arg (i := i) (k := 1) (j4 := 4) rfl rfl (by omega) hLs dL_law_525 dL_law_526 dL_law_528 dL_law_529 dL_law_530 ?_
  refine x_arg (i := i) (k := 2) (j4 := 4) rfl rfl (by omega) hLs dL_law_531 dL_law_532 dL_law_534 dL_law_535 dL_law_536 ?_
  refine x_arg (i := i) (k := 3) (j4 := 4) rfl rfl (by omega) hLs dL_law_537 dL_law_538 dL_law_540 dL_law_541 dL_law_542 ?_
  refine x_aload_n 3 dL_law_543 rfl rfl ?_
  refine x_cSH (My := mL_dig) (gs := [_, _, _, _, _]) (st := []) hH mfL_dig wst_L_dig wm_L_124 dL_law_544 (Nat.le_of_ble_eq_true rfl) rfl (fun _ => (Nat.le_of_ble_eq_true rfl)) (kfit hkc (Nat.le_of_ble_eq_true rfl)) (kfit hks (Nat.le_of_ble_eq_true rfl)) rfl ⟨(by simp only [List.forall_mem_cons]; exact ⟨trivial, okv_r (n2 h0) (by decide), okv_r (n2 h20) (by decide), okv_r (n2 h18) (by decide), okv_i _, fun _ h => absurd h List.not_mem_nil⟩), fun _ h => absurd h List.not_mem_nil⟩ rfl ?_
  refine x_st2 (ls2 := (5, _) :: [(0, gx b), (1, gr 0), (2, gr 20), (3, gr 18), (4, gi ((5 * i : Nat) : Int))]) dL_law_547 (by decide) (c1_cx (c1_cr (c1_cr (c1_cr (c1_ci c1_0))))) rfl ?_
  refine x_sub [1, 2, 3, 4, 5, 0] (ls2 := [(0, gx b), (1, gr 0), (2, gr 20), (3, gr 18), (4, gi ((5 * i : Nat) : Int)), (5, _)]) rfl ?_
  refine x_aload_n 2 dL_law_549 rfl rfl ?_
  refine x_arg (i := i) (k := 1) (j4 := 4) rfl rfl (by omega) hLs dL_law_550 dL_law_551 dL_law_553 dL_law_554 dL_law_555 ?_
  refine x_arg (i := i) (k := 2) (j4 := 4) rfl rfl (by omega) hLs dL_law_556 dL_law_557 dL_law_559 dL_law_560 dL_law_561 ?_
  refine x_arg (i := i) (k := 3) (j4 := 4) rfl rfl (by omega) hLs dL_law_562 dL_law_563 dL_law_565 dL_law_566 dL_law_567 ?_
  refine x_cV_i (My := mX4_dig) (gs := [_, _, _]) (st := []) hR mfX4_dig cf_5 wi_X4_dig wsl_X4_dig wm_L_126 dL_law_568 (Nat.le_of_ble_eq_true rfl) rfl (by decide) (n2 (hM 20 rfl)) rfl (fun _ => (Nat.le_of_ble_eq_true rfl)) (kfit2 hkc (Nat.le_of_ble_eq_true rfl)) (kfit2 hks (Nat.le_of_ble_eq_true rfl)) rfl rfl ?_
  refine x_st2 (ls2 := [(6, _), (0, gx b), (1, gr 0), (2, gr 20), (3, gr 18), (4, gi ((5 * i : Nat) : Int)), (5, _)]) dL_law_571 (by decide) (c1_cx (c1_cr (c1_cr (c1_cr (c1_ci (c1_ci c1_0)))))) rfl ?_
  refine x_aload_n 3 dL_law_573 rfl rfl ?_
  refine x_cV_i (My := mX4_thrown) (gs := []) (st := []) (c_X4_thrown hM) mfX4_thrown cf_5 wi_X4_thrown wsl_X4_thrown wm_L_105 dL_law_574 (Nat.le_of_ble_eq_true rfl) rfl (by decide) (n2 (hM 20 rfl)) rfl (fun _ => (Nat.le_of_ble_eq_true rfl)) (kfit3 hkc (Nat.le_of_ble_eq_true rfl)) (kfit3 hks (Nat.le_of_ble_eq_true rfl)) rfl rfl ?_
  refine x_top (y := (E : Int)) hT ?_
  refine x_iload 6 dL_law_577 rfl ?_
  refine x_icmp_eq (tgt := 584) (by omega) (by omega) dL_law_579 (by decide) (fun _ => ?_) (fun h => absurd rfl h)
  refine x_iload 6 dL_law_584 rfl ?_
  refine x_if_ne (tgt := 601) (by omega) dL_law_586 (by decide) (fun _ => ?_) (fun hE0 => ?_)
  · refine x_goto (tgt := 1865) dL_law_601 (by decide) ?_
    refine x_sub [1, 2, 3, 4, 5] (ls2 := [(0, gx b), (1, gr 0), (2, gr 20), (3, gr 18), (4, gi ((5 * i : Nat) : Int))]) rfl ?_
    exact x_wide (by show kc + 4 + 0 + 0 ≤ kc + 100; omega) (by show ks + 300 + 0 + 0 ≤ ks + 2000; omega) kk
  · refine x_aload_n 4 dL_law_589 rfl rfl ?_
    refine x_iconst dL_law_590 ?_
    refine x_lald (N := 1) (n := 18) 0 rfl (by decide) rfl (by decide) dL_law_591 (n2 h18b) (fun hr18 => ?_)
    refine x_iload 0 dL_law_592 rfl ?_
    rw [gi_nrm W]
    refine x_i2l (nrm_rg W) dL_law_594 ?_
    refine x_lcmp hr18 (nrm_rg W) dL_law_595 ?_
    refine x_top (y := 0) (by rw [hv (by omega), icmp_self]) ?_
    refine x_if_eq (tgt := 601) (by omega) dL_law_596 (by decide) (fun _ => ?_) (fun h => absurd rfl h)
    refine x_goto (tgt := 1865) dL_law_601 (by decide) ?_
    refine x_sub [1, 2, 3, 4, 5] (ls2 := [(0, gx b), (1, gr 0), (2, gr 20), (3, gr 18), (4, gi ((5 * i : Nat) : Int))]) rfl ?_
    exact x_wide (by show kc + 4 + 0 + 0 ≤ kc + 100; omega) (by show ks + 300 + 0 + 0 ≤ ks + 2000; omega) kk
set_option maxRecDepth 20000 in
theorem xl_sink {P : Pst} {b Ls i kc ks : Nat} {xs : Nat → Int32} {L L1 : Nat → Nat} {A A1 A3 : Mem} {E : Nat} {W : Int} (hi : 5 * i + 5 ≤ Ls) (hLs : Ls ≤ 2560) (hkc : kc + 100 ≤ 601024) (hks : ks + 2000 ≤ 7293034) (h0 : L 0 = 2) (h18 : L 18 = 2) (h20 : L 20 = 2) (hM : LM L1) (h18b : L1 18 = 2) (hE3 : E ≤ 3) (hH : Ct mL_sink [gr 0, gi (sx xs (5 * i + 1)), gi (sx xs (5 * i + 2)), gi (sx xs (5 * i + 3)), gr 18] L A (pr (some (gi (E : Int))) L1 A1)) (hR : Ct mX4_sink [gr 20, gi (sx xs (5 * i + 1)), gi (sx xs (5 * i + 2)), gi (sx xs (5 * i + 3))] L1 A1 (pr (some (gi W)) L1 A3)) (hT : A3 20 0 = E) (hv : E = 0 → A3 18 0 = nrm W) (kk : GX (SX b Ls xs) mL_law P (kc + 100) (ks + 2000) 1865 [(0, gx b), (1, gr 0), (2, gr 20), (3, gr 18), (4, gi ((5 * i : Nat) : Int))] [] L1 A3) : GX (SX b Ls xs) mL_law P kc ks 604 [(0, gx b), (1, gr 0), (2, gr 20), (3, gr 18), (4, gi ((5 * i : Nat) : Int))] [] L A := by
  refine x_aload_n 1 dL_law_604 rfl rfl ?_
  refine x_arg (i := i) (k := 1) (j4 := 4) rfl rfl (by omega) hLs dL_law_605 dL_law_606 dL_law_608 dL_law_609 dL_law_610 ?_
  refine x_arg (i := i) (k := 2) (j4 := 4) rfl rfl (by omega) hLs dL_law_611 dL_law_612 dL_law_614 dL_law_615 dL_law_616 ?_
  refine x_arg (i := i) (k := 3) (j4 := 4) rfl rfl (by omega) hLs dL_law_617 dL_law_618 dL_law_620 dL_law_621 dL_law_622 ?_
  refine x_aload_n 3 dL_law_623 rfl rfl ?_
  refine x_cSH (My := mL_sink) (gs := [_, _, _, _, _]) (st := []) hH mfL_sink wst_L_sink wm_L_127 dL_law_624 (Nat.le_of_ble_eq_true rfl) rfl (fun _ => (Nat.le_of_ble_eq_true rfl)) (kfit hkc (Nat.le_of_ble_eq_true rfl)) (kfit hks (Nat.le_of_ble_eq_true rfl)) rfl ⟨(by simp only [List.forall_mem_cons]; exact ⟨trivial, okv_r (n2 h0) (by decide), okv_r (n2 h20) (by decide), okv_r (n2 h18) (by decide), okv_i _, fun _ h => absurd h List.not_mem_nil⟩), fun _ h => absurd h List.not_mem_nil⟩ rfl ?_
  refine x_st2 (ls2 := (5, _) :: [(0, gx b), (1, gr 0), (2, gr 20), (3, gr 18), (4, gi ((5 * i : Nat) : Int))]) dL_law_627 (by decide) (c1_cx (c1_cr (c1_cr (c1_cr (c1_ci c1_0))))) rfl ?_
  refine x_sub [1, 2, 3, 4, 5, 0] (ls2 := [(0, gx b), (1, gr 0), (2, gr 20), (3, gr 18), (4, gi ((5 * i : Nat) : Int)), (5, _)]) rfl ?_
  refine x_aload_n 2 dL_law_629 rfl rfl ?_
  refine x_arg (i := i) (k := 1) (j4 := 4) rfl rfl (by omega) hLs dL_law_630 dL_law_631 dL_law_633 dL_law_634 dL_law_635 ?_
  refine x_arg (i := i) (k := 2) (j4 := 4) rfl rfl (by omega) hLs dL_law_636 dL_law_637 dL_law_639 dL_law_640 dL_law_641 ?_
  refine x_arg (i := i) (k := 3) (j4 := 4) rfl rfl (by omega) hLs dL_law_642 dL_law_643 dL_law_645 dL_law_646 dL_law_647 ?_
  refine x_cV_i (My := mX4_sink) (gs := [_, _, _]) (st := []) hR mfX4_sink cf_5 wi_X4_sink wsl_X4_sink wm_L_129 dL_law_648 (Nat.le_of_ble_eq_true rfl) rfl (by decide) (n2 (hM 20 rfl)) rfl (fun _ => (Nat.le_of_ble_eq_true rfl)) (kfit2 hkc (Nat.le_of_ble_eq_true rfl)) (kfit2 hks (Nat.le_of_ble_eq_true rfl)) rfl rfl ?_
  refine x_st2 (ls2 := [(6, _), (0, gx b), (1, gr 0), (2, gr 20), (3, gr 18), (4, gi ((5 * i : Nat) : Int)), (5, _)]) dL_law_651 (by decide) (c1_cx (c1_cr (c1_cr (c1_cr (c1_ci (c1_ci c1_0)))))) rfl ?_
  refine x_aload_n 3 dL_law_653 rfl rfl ?_
  refine x_cV_i (My := mX4_thrown) (gs := []) (st := []) (c_X4_thrown hM) mfX4_thrown cf_5 wi_X4_thrown wsl_X4_thrown wm_L_105 dL_law_654 (Nat.le_of_ble_eq_true rfl) rfl (by decide) (n2 (hM 20 rfl)) rfl (fun _ => (Nat.le_of_ble_eq_true rfl)) (kfit3 hkc (Nat.le_of_ble_eq_true rfl)) (kfit3 hks (Nat.le_of_ble_eq_true rfl)) rfl rfl ?_
  refine x_top (y := (E : Int)) hT ?_
  refine x_iload 6 dL_law_657 rfl ?_
  refine x_icmp_eq (tgt := 664) (by omega) (by omega) dL_law_659 (by decide) (fun _ => ?_) (fun h => absurd rfl h)
  refine x_iload 6 dL_law_664 rfl ?_
  refine x_if_ne (tgt := 681) (by omega) dL_law_666 (by decide) (fun _ => ?_) (fun hE0 => ?_)
  · refine x_goto (tgt := 1865) dL_law_681 (by decide) ?_
    refine x_sub [1, 2, 3, 4, 5] (ls2 := [(0, gx b), (1, gr 0), (2, gr 20), (3, gr 18), (4, gi ((5 * i : Nat) : Int))]) rfl ?_
    exact x_wide (by show kc + 4 + 0 + 0 ≤ kc + 100; omega) (by show ks + 300 + 0 + 0 ≤ ks + 2000; omega) kk
  · refine x_aload_n 4 dL_law_669 rfl rfl ?_
    refine x_iconst dL_law_670 ?_
    refine x_lald (N := 1) (n := 18) 0 rfl (by decide) rfl (by decide) dL_law_671 (n2 h18b) (fun hr18 => ?_)
    refine x_iload 0 dL_law_672 rfl ?_
    rw [gi_nrm W]
    refine x_i2l (nrm_rg W) dL_law_674 ?_
    refine x_lcmp hr18 (nrm_rg W) dL_law_675 ?_
    refine x_top (y := 0) (by rw [hv (by omega), icmp_self]) ?_
    refine x_if_eq (tgt := 681) (by omega) dL_law_676 (by decide) (fun _ => ?_) (fun h => absurd rfl h)
    refine x_goto (tgt := 1865) dL_law_681 (by decide) ?_
    refine x_sub [1, 2, 3, 4, 5] (ls2 := [(0, gx b), (1, gr 0), (2, gr 20), (3, gr 18), (4, gi ((5 * i : Nat) : Int))]) rfl ?_
    exact x_wide (by show kc + 4 + 0 + 0 ≤ kc + 100; omega) (by show ks + 300 + 0 + 0 ≤ ks + 2000; omega) kk
set_option maxRecDepth 20000 in
theorem xl_prop {P : Pst} {b Ls i kc ks : Nat} {xs : Nat → Int32} {L L1 : Nat → Nat} {A A1 A3 : Mem} {E : Nat} (hi : 5 * i + 5 ≤ Ls) (hLs : Ls ≤ 2560) (hkc : kc + 100 ≤ 601024) (hks : ks + 2000 ≤ 7293034) (h0 : L 0 = 2) (h18 : L 18 = 2) (h20 : L 20 = 2) (hM : LM L1) (h18b : L1 18 = 2) (hE3 : E ≤ 3) (hH : Ct mL_prop [gr 0, gi (sx xs (5 * i + 1)), gi (sx xs (5 * i + 2)), gi (sx xs (5 * i + 3))] L A (pr (some (gi (E : Int))) L1 A1)) (hR : Ct mX4_prop [gr 20, gi (sx xs (5 * i + 1)), gi (sx xs (5 * i + 2)), gi (sx xs (5 * i + 3))] L1 A1 (pr none L1 A3)) (hT : A3 20 0 = E) (kk : GX (SX b Ls xs) mL_law P (kc + 100) (ks + 2000) 1865 [(0, gx b), (1, gr 0), (2, gr 20), (3, gr 18), (4, gi ((5 * i : Nat) : Int))] [] L1 A3) : GX (SX b Ls xs) mL_law P kc ks 684 [(0, gx b), (1, gr 0), (2, gr 20), (3, gr 18), (4, gi ((5 * i : Nat) : Int))] [] L A := by
  refine x_aload_n 1 dL_law_684 rfl rfl ?_
  refine x_arg (i := i) (k := 1) (j4 := 4) rfl rfl (by omega) hLs dL_law_685 dL_law_686 dL_law_688 dL_law_689 dL_law_690 ?_
  refine x_arg (i := i) (k := 2) (j4 := 4) rfl rfl (by omega) hLs dL_law_691 dL_law_692 dL_law_694 dL_law_695 dL_law_696 ?_
  refine x_arg (i := i) (k := 3) (j4 := 4) rfl rfl (by omega) hLs dL_law_697 dL_law_698 dL_law_700 dL_law_701 dL_law_702 ?_
  refine x_cSH (My := mL_prop) (gs := [_, _, _, _]) (st := []) hH mfL_prop wst_L_prop wm_L_130 dL_law_703 (Nat.le_of_ble_eq_true rfl) rfl (fun _ => (Nat.le_of_ble_eq_true rfl)) (kfit hkc (Nat.le_of_ble_eq_true rfl)) (kfit hks (Nat.le_of_ble_eq_true rfl)) rfl ⟨(by simp only [List.forall_mem_cons]; exact ⟨trivial, okv_r (n2 h0) (by decide), okv_r (n2 h20) (by decide), okv_r (n2 h18) (by decide), okv_i _, fun _ h => absurd h List.not_mem_nil⟩), fun _ h => absurd h List.not_mem_nil⟩ rfl ?_
  refine x_st2 (ls2 := (5, _) :: [(0, gx b), (1, gr 0), (2, gr 20), (3, gr 18), (4, gi ((5 * i : Nat) : Int))]) dL_law_706 (by decide) (c1_cx (c1_cr (c1_cr (c1_cr (c1_ci c1_0))))) rfl ?_
  refine x_sub [1, 2, 3, 4, 5, 0] (ls2 := [(0, gx b), (1, gr 0), (2, gr 20), (3, gr 18), (4, gi ((5 * i : Nat) : Int)), (5, _)]) rfl ?_
  refine x_aload_n 2 dL_law_708 rfl rfl ?_
  refine x_arg (i := i) (k := 1) (j4 := 4) rfl rfl (by omega) hLs dL_law_709 dL_law_710 dL_law_712 dL_law_713 dL_law_714 ?_
  refine x_arg (i := i) (k := 2) (j4 := 4) rfl rfl (by omega) hLs dL_law_715 dL_law_716 dL_law_718 dL_law_719 dL_law_720 ?_
  refine x_arg (i := i) (k := 3) (j4 := 4) rfl rfl (by omega) hLs dL_law_721 dL_law_722 dL_law_724 dL_law_725 dL_law_726 ?_
  refine x_cV_v (My := mX4_prop) (gs := [_, _, _]) (st := []) hR mfX4_prop cf_5 wi_X4_prop wsl_X4_prop wm_L_132 dL_law_727 (Nat.le_of_ble_eq_true rfl) rfl (by decide) (n2 (hM 20 rfl)) rfl (fun _ => (Nat.le_of_ble_eq_true rfl)) (kfit2 hkc (Nat.le_of_ble_eq_true rfl)) (kfit2 hks (Nat.le_of_ble_eq_true rfl)) rfl rfl ?_
  refine x_aload_n 2 dL_law_730 rfl rfl ?_
  refine x_cV_i (My := mX4_thrown) (gs := []) (st := []) (c_X4_thrown hM) mfX4_thrown cf_5 wi_X4_thrown wsl_X4_thrown wm_L_105 dL_law_731 (Nat.le_of_ble_eq_true rfl) rfl (by decide) (n2 (hM 20 rfl)) rfl (fun _ => (Nat.le_of_ble_eq_true rfl)) (kfit3 hkc (Nat.le_of_ble_eq_true rfl)) (kfit3 hks (Nat.le_of_ble_eq_true rfl)) rfl rfl ?_
  refine x_top (y := (E : Int)) hT ?_
  refine x_iload 5 dL_law_734 rfl ?_
  refine x_icmp_eq (tgt := 741) (by omega) (by omega) dL_law_736 (by decide) (fun _ => ?_) (fun h => absurd rfl h)
  refine x_goto (tgt := 1865) dL_law_741 (by decide) ?_
  refine x_sub [0, 1, 2, 3, 4] (ls2 := [(0, gx b), (1, gr 0), (2, gr 20), (3, gr 18), (4, gi ((5 * i : Nat) : Int))]) rfl ?_
  exact x_wide (by show kc + 1 + 0 + 0 ≤ kc + 100; omega) (by show ks + 6 + 0 + 0 ≤ ks + 2000; omega) kk
set_option maxRecDepth 20000 in
theorem xl_trap {P : Pst} {b Ls i kc ks : Nat} {xs : Nat → Int32} {L L1 : Nat → Nat} {A A1 A3 : Mem} {E : Nat} {W : Int} (hi : 5 * i + 5 ≤ Ls) (hLs : Ls ≤ 2560) (hkc : kc + 100 ≤ 601024) (hks : ks + 2000 ≤ 7293034) (h0 : L 0 = 2) (h18 : L 18 = 2) (h20 : L 20 = 2) (hM : LM L1) (h18b : L1 18 = 2) (hE3 : E ≤ 3) (hH : Ct mL_trap [gr 0, gi (sx xs (5 * i + 1)), gi (sx xs (5 * i + 2)), gi (sx xs (5 * i + 3)), gr 18] L A (pr (some (gi (E : Int))) L1 A1)) (hR : Ct mX4_trap [gr 20, gi (sx xs (5 * i + 1)), gi (sx xs (5 * i + 2)), gi (sx xs (5 * i + 3))] L1 A1 (pr (some (gi W)) L1 A3)) (hT : A3 20 0 = E) (hv : E = 0 → A3 18 0 = nrm W) (kk : GX (SX b Ls xs) mL_law P (kc + 100) (ks + 2000) 1865 [(0, gx b), (1, gr 0), (2, gr 20), (3, gr 18), (4, gi ((5 * i : Nat) : Int))] [] L1 A3) : GX (SX b Ls xs) mL_law P kc ks 744 [(0, gx b), (1, gr 0), (2, gr 20), (3, gr 18), (4, gi ((5 * i : Nat) : Int))] [] L A := by
  refine x_aload_n 1 dL_law_744 rfl rfl ?_
  refine x_arg (i := i) (k := 1) (j4 := 4) rfl rfl (by omega) hLs dL_law_745 dL_law_746 dL_law_748 dL_law_749 dL_law_750 ?_
  refine x_arg (i := i) (k := 2) (j4 := 4) rfl rfl (by omega) hLs dL_law_751 dL_law_752 dL_law_754 dL_law_755 dL_law_756 ?_
  refine x_arg (i := i) (k := 3) (j4 := 4) rfl rfl (by omega) hLs dL_law_757 dL_law_758 dL_law_760 dL_law_761 dL_law_762 ?_
  refine x_aload_n 3 dL_law_763 rfl rfl ?_
  refine x_cSH (My := mL_trap) (gs := [_, _, _, _, _]) (st := []) hH mfL_trap wst_L_trap wm_L_133 dL_law_764 (Nat.le_of_ble_eq_true rfl) rfl (fun _ => (Nat.le_of_ble_eq_true rfl)) (kfit hkc (Nat.le_of_ble_eq_true rfl)) (kfit hks (Nat.le_of_ble_eq_true rfl)) rfl ⟨(by simp only [List.forall_mem_cons]; exact ⟨trivial, okv_r (n2 h0) (by decide), okv_r (n2 h20) (by decide), okv_r (n2 h18) (by decide), okv_i _, fun _ h => absurd h List.not_mem_nil⟩), fun _ h => absurd h List.not_mem_nil⟩ rfl ?_
  refine x_st2 (ls2 := (5, _) :: [(0, gx b), (1, gr 0), (2, gr 20), (3, gr 18), (4, gi ((5 * i : Nat) : Int))]) dL_law_767 (by decide) (c1_cx (c1_cr (c1_cr (c1_cr (c1_ci c1_0))))) rfl ?_
  refine x_sub [1, 2, 3, 4, 5, 0] (ls2 := [(0, gx b), (1, gr 0), (2, gr 20), (3, gr 18), (4, gi ((5 * i : Nat) : Int)), (5, _)]) rfl ?_
  refine x_aload_n 2 dL_law_769 rfl rfl ?_
  refine x_arg (i := i) (k := 1) (j4 := 4) rfl rfl (by omega) hLs dL_law_770 dL_law_771 dL_law_773 dL_law_774 dL_law_775 ?_
  refine x_arg (i := i) (k := 2) (j4 := 4) rfl rfl (by omega) hLs dL_law_776 dL_law_777 dL_law_779 dL_law_780 dL_law_781 ?_
  refine x_arg (i := i) (k := 3) (j4 := 4) rfl rfl (by omega) hLs dL_law_782 dL_law_783 dL_law_785 dL_law_786 dL_law_787 ?_
  refine x_cV_i (My := mX4_trap) (gs := [_, _, _]) (st := []) hR mfX4_trap cf_5 wi_X4_trap wsl_X4_trap wm_L_135 dL_law_788 (Nat.le_of_ble_eq_true rfl) rfl (by decide) (n2 (hM 20 rfl)) rfl (fun _ => (Nat.le_of_ble_eq_true rfl)) (kfit2 hkc (Nat.le_of_ble_eq_true rfl)) (kfit2 hks (Nat.le_of_ble_eq_true rfl)) rfl rfl ?_
  refine x_st2 (ls2 := [(6, _), (0, gx b), (1, gr 0), (2, gr 20), (3, gr 18), (4, gi ((5 * i : Nat) : Int)), (5, _)]) dL_law_791 (by decide) (c1_cx (c1_cr (c1_cr (c1_cr (c1_ci (c1_ci c1_0)))))) rfl ?_
  refine x_aload_n 3 dL_law_793 rfl rfl ?_
  refine x_cV_i (My := mX4_thrown) (gs := []) (st := []) (c_X4_thrown hM) mfX4_thrown cf_5 wi_X4_thrown wsl_X4_thrown wm_L_105 dL_law_794 (Nat.le_of_ble_eq_true rfl) rfl (by decide) (n2 (hM 20 rfl)) rfl (fun _ => (Nat.le_of_ble_eq_true rfl)) (kfit3 hkc (Nat.le_of_ble_eq_true rfl)) (kfit3 hks (Nat.le_of_ble_eq_true rfl)) rfl rfl ?_
  refine x_top (y := (E : Int)) hT ?_
  refine x_iload 6 dL_law_797 rfl ?_
  refine x_icmp_eq (tgt := 804) (by omega) (by omega) dL_law_799 (by decide) (fun _ => ?_) (fun h => absurd rfl h)
  refine x_iload 6 dL_law_804 rfl ?_
  refine x_if_ne (tgt := 821) (by omega) dL_law_806 (by decide) (fun _ => ?_) (fun hE0 => ?_)
  · refine x_goto (tgt := 1865) dL_law_821 (by decide) ?_
    refine x_sub [1, 2, 3, 4, 5] (ls2 := [(0, gx b), (1, gr 0), (2, gr 20), (3, gr 18), (4, gi ((5 * i : Nat) : Int))]) rfl ?_
    exact x_wide (by show kc + 1 + 0 + 0 ≤ kc + 100; omega) (by show ks + 6 + 0 + 0 ≤ ks + 2000; omega) kk
  · refine x_aload_n 4 dL_law_809 rfl rfl ?_
    refine x_iconst dL_law_810 ?_
    refine x_lald (N := 1) (n := 18) 0 rfl (by decide) rfl (by decide) dL_law_811 (n2 h18b) (fun hr18 => ?_)
    refine x_iload 0 dL_law_812 rfl ?_
    rw [gi_nrm W]
    refine x_i2l (nrm_rg W) dL_law_814 ?_
    refine x_lcmp hr18 (nrm_rg W) dL_law_815 ?_
    refine x_top (y := 0) (by rw [hv (by omega), icmp_self]) ?_
    refine x_if_eq (tgt := 821) (by omega) dL_law_816 (by decide) (fun _ => ?_) (fun h => absurd rfl h)
    refine x_goto (tgt := 1865) dL_law_821 (by decide) ?_
    refine x_sub [1, 2, 3, 4, 5] (ls2 := [(0, gx b), (1, gr 0), (2, gr 20), (3, gr 18), (4, gi ((5 * i : Nat) : Int))]) rfl ?_
    exact x_wide (by show kc + 1 + 0 + 0 ≤ kc + 100; omega) (by show ks + 6 + 0 + 0 ≤ ks + 2000; omega) kk
set_option maxRecDepth 20000 in
theorem xl_rat {P : Pst} {b Ls i kc ks : Nat} {xs : Nat → Int32} {L L1 : Nat → Nat} {A A1 A3 : Mem} {E : Nat} {W : Int} (hi : 5 * i + 5 ≤ Ls) (hLs : Ls ≤ 2560) (hkc : kc + 100 ≤ 601024) (hks : ks + 2000 ≤ 7293034) (h0 : L 0 = 2) (h18 : L 18 = 2) (h20 : L 20 = 2) (hM : LM L1) (h18b : L1 18 = 2) (hE3 : E ≤ 3) (hH : Ct mL_rat [gr 0, gi (sx xs (5 * i + 1)), gi (sx xs (5 * i + 2)), gr 18] L A (pr (some (gi (E : Int))) L1 A1)) (hR : Ct mX4_rat [gr 20, gi (sx xs (5 * i + 1)), gi (sx xs (5 * i + 2))] L1 A1 (pr (some (gi W)) L1 A3)) (hT : A3 20 0 = E) (hv : E = 0 → A3 18 0 = nrm W) (kk : GX (SX b Ls xs) mL_law P (kc + 100) (ks + 2000) 1865 [(0, gx b), (1, gr 0), (2, gr 20), (3, gr 18), (4, gi ((5 * i : Nat) : Int))] [] L1 A3) : GX (SX b Ls xs) mL_law P kc ks 824 [(0, gx b), (1, gr 0), (2, gr 20), (3, gr 18), (4, gi ((5 * i : Nat) : Int))] [] L A := by
  refine x_aload_n 1 dL_law_824 rfl rfl ?_
  refine x_arg (i := i) (k := 1) (j4 := 4) rfl rfl (by omega) hLs dL_law_825 dL_law_826 dL_law_828 dL_law_829 dL_law_830 ?_
  refine x_arg (i := i) (k := 2) (j4 := 4) rfl rfl (by omega) hLs dL_law_831 dL_law_832 dL_law_834 dL_law_835 dL_law_836 ?_
  refine x_aload_n 3 dL_law_837 rfl rfl ?_
  refine x_cSH (My := mL_rat) (gs := [_, _, _, _]) (st := []) hH mfL_rat wst_L_rat wm_L_136 dL_law_838 (Nat.le_of_ble_eq_true rfl) rfl (fun _ => (Nat.le_of_ble_eq_true rfl)) (kfit hkc (Nat.le_of_ble_eq_true rfl)) (kfit hks (Nat.le_of_ble_eq_true rfl)) rfl ⟨(by simp only [List.forall_mem_cons]; exact ⟨trivial, okv_r (n2 h0) (by decide), okv_r (n2 h20) (by decide), okv_r (n2 h18) (by decide), okv_i _, fun _ h => absurd h List.not_mem_nil⟩), fun _ h => absurd h List.not_mem_nil⟩ rfl ?_
  refine x_st2 (ls2 := (5, _) :: [(0, gx b), (1, gr 0), (2, gr 20), (3, gr 18), (4, gi ((5 * i : Nat) : Int))]) dL_law_841 (by decide) (c1_cx (c1_cr (c1_cr (c1_cr (c1_ci c1_0))))) rfl ?_
  refine x_sub [1, 2, 3, 4, 5, 0] (ls2 := [(0, gx b), (1, gr 0), (2, gr 20), (3, gr 18), (4, gi ((5 * i : Nat) : Int)), (5, _)]) rfl ?_
  refine x_aload_n 2 dL_law_843 rfl rfl ?_
  refine x_arg (i := i) (k := 1) (j4 := 4) rfl rfl (by omega) hLs dL_law_844 dL_law_845 dL_law_847 dL_law_848 dL_law_849 ?_
  refine x_arg (i := i) (k := 2) (j4 := 4) rfl rfl (by omega) hLs dL_law_850 dL_law_851 dL_law_853 dL_law_854 dL_law_855 ?_
  refine x_cV_i (My := mX4_rat) (gs := [_, _]) (st := []) hR mfX4_rat cf_5 wi_X4_rat wsl_X4_rat wm_L_139 dL_law_856 (Nat.le_of_ble_eq_true rfl) rfl (by decide) (n2 (hM 20 rfl)) rfl (fun _ => (Nat.le_of_ble_eq_true rfl)) (kfit2 hkc (Nat.le_of_ble_eq_true rfl)) (kfit2 hks (Nat.le_of_ble_eq_true rfl)) rfl rfl ?_
  refine x_st2 (ls2 := [(6, _), (0, gx b), (1, gr 0), (2, gr 20), (3, gr 18), (4, gi ((5 * i : Nat) : Int)), (5, _)]) dL_law_859 (by decide) (c1_cx (c1_cr (c1_cr (c1_cr (c1_ci (c1_ci c1_0)))))) rfl ?_
  refine x_aload_n 3 dL_law_861 rfl rfl ?_
  refine x_cV_i (My := mX4_thrown) (gs := []) (st := []) (c_X4_thrown hM) mfX4_thrown cf_5 wi_X4_thrown wsl_X4_thrown wm_L_105 dL_law_862 (Nat.le_of_ble_eq_true rfl) rfl (by decide) (n2 (hM 20 rfl)) rfl (fun _ => (Nat.le_of_ble_eq_true rfl)) (kfit3 hkc (Nat.le_of_ble_eq_true rfl)) (kfit3 hks (Nat.le_of_ble_eq_true rfl)) rfl rfl ?_
  refine x_top (y := (E : Int)) hT ?_
  refine x_iload 6 dL_law_865 rfl ?_
  refine x_icmp_eq (tgt := 872) (by omega) (by omega) dL_law_867 (by decide) (fun _ => ?_) (fun h => absurd rfl h)
  refine x_iload 6 dL_law_872 rfl ?_
  refine x_if_ne (tgt := 889) (by omega) dL_law_874 (by decide) (fun _ => ?_) (fun hE0 => ?_)
  · refine x_goto (tgt := 1865) dL_law_889 (by decide) ?_
    refine x_sub [1, 2, 3, 4, 5] (ls2 := [(0, gx b), (1, gr 0), (2, gr 20), (3, gr 18), (4, gi ((5 * i : Nat) : Int))]) rfl ?_
    exact x_wide (by show kc + 4 + 0 + 0 ≤ kc + 100; omega) (by show ks + 300 + 0 + 0 ≤ ks + 2000; omega) kk
  · refine x_aload_n 4 dL_law_877 rfl rfl ?_
    refine x_iconst dL_law_878 ?_
    refine x_lald (N := 1) (n := 18) 0 rfl (by decide) rfl (by decide) dL_law_879 (n2 h18b) (fun hr18 => ?_)
    refine x_iload 0 dL_law_880 rfl ?_
    rw [gi_nrm W]
    refine x_i2l (nrm_rg W) dL_law_882 ?_
    refine x_lcmp hr18 (nrm_rg W) dL_law_883 ?_
    refine x_top (y := 0) (by rw [hv (by omega), icmp_self]) ?_
    refine x_if_eq (tgt := 889) (by omega) dL_law_884 (by decide) (fun _ => ?_) (fun h => absurd rfl h)
    refine x_goto (tgt := 1865) dL_law_889 (by decide) ?_
    refine x_sub [1, 2, 3, 4, 5] (ls2 := [(0, gx b), (1, gr 0), (2, gr 20), (3, gr 18), (4, gi ((5 * i : Nat) : Int))]) rfl ?_
    exact x_wide (by show kc + 4 + 0 + 0 ≤ kc + 100; omega) (by show ks + 300 + 0 + 0 ≤ ks + 2000; omega) kk
set_option maxRecDepth 20000 in
theorem xl_divide {P : Pst} {b Ls i kc ks : Nat} {xs : Nat → Int32} {L L1 : Nat → Nat} {A A1 A3 : Mem} {E : Nat} {W : Int} (hi : 5 * i + 5 ≤ Ls) (hLs : Ls ≤ 2560) (hkc : kc + 100 ≤ 601024) (hks : ks + 2000 ≤ 7293034) (h0 : L 0 = 2) (h18 : L 18 = 2) (h20 : L 20 = 2) (hM : LM L1) (h18b : L1 18 = 2) (hE3 : E ≤ 3) (hH : Ct mL_divide [gr 0, gi (sx xs (5 * i + 1)), gr 18] L A (pr (some (gi (E : Int))) L1 A1)) (hR : Ct mX4_divide [gr 20, gi (sx xs (5 * i + 1))] L1 A1 (pr (some (gi W)) L1 A3)) (hT : A3 20 0 = E) (hv : E = 0 → A3 18 0 = nrm W) (kk : GX (SX b Ls xs) mL_law P (kc + 100) (ks + 2000) 1865 [(0, gx b), (1, gr 0), (2, gr 20), (3, gr 18), (4, gi ((5 * i : Nat) : Int))] [] L1 A3) : GX (SX b Ls xs) mL_law P kc ks 892 [(0, gx b), (1, gr 0), (2, gr 20), (3, gr 18), (4, gi ((5 * i : Nat) : Int))] [] L A := by
  refine x_aload_n 1 dL_law_892 rfl rfl ?_
  refine x_arg (i := i) (k := 1) (j4 := 4) rfl rfl (by omega) hLs dL_law_893 dL_law_894 dL_law_896 dL_law_897 dL_law_898 ?_
  refine x_aload_n 3 dL_law_899 rfl rfl ?_
  refine x_cSH (My := mL_divide) (gs := [_, _, _]) (st := []) hH mfL_divide wst_L_divide wm_L_140 dL_law_900 (Nat.le_of_ble_eq_true rfl) rfl (fun _ => (Nat.le_of_ble_eq_true rfl)) (kfit hkc (Nat.le_of_ble_eq_true rfl)) (kfit hks (Nat.le_of_ble_eq_true rfl)) rfl ⟨(by simp only [List.forall_mem_cons]; exact ⟨trivial, okv_r (n2 h0) (by decide), okv_r (n2 h20) (by decide), okv_r (n2 h18) (by decide), okv_i _, fun _ h => absurd h List.not_mem_nil⟩), fun _ h => absurd h List.not_mem_nil⟩ rfl ?_
  refine x_st2 (ls2 := (5, _) :: [(0, gx b), (1, gr 0), (2, gr 20), (3, gr 18), (4, gi ((5 * i : Nat) : Int))]) dL_law_903 (by decide) (c1_cx (c1_cr (c1_cr (c1_cr (c1_ci c1_0))))) rfl ?_
  refine x_sub [1, 2, 3, 4, 5, 0] (ls2 := [(0, gx b), (1, gr 0), (2, gr 20), (3, gr 18), (4, gi ((5 * i : Nat) : Int)), (5, _)]) rfl ?_
  refine x_aload_n 2 dL_law_905 rfl rfl ?_
  refine x_arg (i := i) (k := 1) (j4 := 4) rfl rfl (by omega) hLs dL_law_906 dL_law_907 dL_law_909 dL_law_910 dL_law_911 ?_
  refine x_cV_i (My := mX4_divide) (gs := [_]) (st := []) hR mfX4_divide cf_5 wi_X4_divide wsl_X4_divide wm_L_142 dL_law_912 (Nat.le_of_ble_eq_true rfl) rfl (by decide) (n2 (hM 20 rfl)) rfl (fun _ => (Nat.le_of_ble_eq_true rfl)) (kfit2 hkc (Nat.le_of_ble_eq_true rfl)) (kfit2 hks (Nat.le_of_ble_eq_true rfl)) rfl rfl ?_
  refine x_st2 (ls2 := [(6, _), (0, gx b), (1, gr 0), (2, gr 20), (3, gr 18), (4, gi ((5 * i : Nat) : Int)), (5, _)]) dL_law_915 (by decide) (c1_cx (c1_cr (c1_cr (c1_cr (c1_ci (c1_ci c1_0)))))) rfl ?_
  refine x_aload_n 3 dL_law_917 rfl rfl ?_
  refine x_cV_i (My := mX4_thrown) (gs := []) (st := []) (c_X4_thrown hM) mfX4_thrown cf_5 wi_X4_thrown wsl_X4_thrown wm_L_105 dL_law_918 (Nat.le_of_ble_eq_true rfl) rfl (by decide) (n2 (hM 20 rfl)) rfl (fun _ => (Nat.le_of_ble_eq_true rfl)) (kfit3 hkc (Nat.le_of_ble_eq_true rfl)) (kfit3 hks (Nat.le_of_ble_eq_true rfl)) rfl rfl ?_
  refine x_top (y := (E : Int)) hT ?_
  refine x_iload 6 dL_law_921 rfl ?_
  refine x_icmp_eq (tgt := 928) (by omega) (by omega) dL_law_923 (by decide) (fun _ => ?_) (fun h => absurd rfl h)
  refine x_iload 6 dL_law_928 rfl ?_
  refine x_if_ne (tgt := 945) (by omega) dL_law_930 (by decide) (fun _ => ?_) (fun hE0 => ?_)
  · refine x_goto (tgt := 1865) dL_law_945 (by decide) ?_
    refine x_sub [1, 2, 3, 4, 5] (ls2 := [(0, gx b), (1, gr 0), (2, gr 20), (3, gr 18), (4, gi ((5 * i : Nat) : Int))]) rfl ?_
    exact x_wide (by show kc + 1 + 0 + 0 ≤ kc + 100; omega) (by show ks + 6 + 0 + 0 ≤ ks + 2000; omega) kk
  · refine x_aload_n 4 dL_law_933 rfl rfl ?_
    refine x_iconst dL_law_934 ?_
    refine x_lald (N := 1) (n := 18) 0 rfl (by decide) rfl (by decide) dL_law_935 (n2 h18b) (fun hr18 => ?_)
    refine x_iload 0 dL_law_936 rfl ?_
    rw [gi_nrm W]
    refine x_i2l (nrm_rg W) dL_law_938 ?_
    refine x_lcmp hr18 (nrm_rg W) dL_law_939 ?_
    refine x_top (y := 0) (by rw [hv (by omega), icmp_self]) ?_
    refine x_if_eq (tgt := 945) (by omega) dL_law_940 (by decide) (fun _ => ?_) (fun h => absurd rfl h)
    refine x_goto (tgt := 1865) dL_law_945 (by decide) ?_
    refine x_sub [1, 2, 3, 4, 5] (ls2 := [(0, gx b), (1, gr 0), (2, gr 20), (3, gr 18), (4, gi ((5 * i : Nat) : Int))]) rfl ?_
    exact x_wide (by show kc + 1 + 0 + 0 ≤ kc + 100; omega) (by show ks + 6 + 0 + 0 ≤ ks + 2000; omega) kk
set_option maxRecDepth 20000 in
theorem xl_rub {P : Pst} {b Ls i kc ks : Nat} {xs : Nat → Int32} {L L1 : Nat → Nat} {A A1 A3 : Mem} {E : Nat} {W : Int} (hi : 5 * i + 5 ≤ Ls) (hLs : Ls ≤ 2560) (hkc : kc + 100 ≤ 601024) (hks : ks + 2000 ≤ 7293034) (h0 : L 0 = 2) (h18 : L 18 = 2) (h20 : L 20 = 2) (hM : LM L1) (h18b : L1 18 = 2) (hE3 : E ≤ 3) (hH : Ct mL_rub [gr 0, gi (sx xs (5 * i + 1)), gr 18] L A (pr (some (gi (E : Int))) L1 A1)) (hR : Ct mX4_rub [gr 20, gi (sx xs (5 * i + 1))] L1 A1 (pr (some (gi W)) L1 A3)) (hT : A3 20 0 = E) (hv : E = 0 → A3 18 0 = nrm W) (kk : GX (SX b Ls xs) mL_law P (kc + 100) (ks + 2000) 1865 [(0, gx b), (1, gr 0), (2, gr 20), (3, gr 18), (4, gi ((5 * i : Nat) : Int))] [] L1 A3) : GX (SX b Ls xs) mL_law P kc ks 948 [(0, gx b), (1, gr 0), (2, gr 20), (3, gr 18), (4, gi ((5 * i : Nat) : Int))] [] L A := by
  refine x_aload_n 1 dL_law_948 rfl rfl ?_
  refine x_arg (i := i) (k := 1) (j4 := 4) rfl rfl (by omega) hLs dL_law_949 dL_law_950 dL_law_952 dL_law_953 dL_law_954 ?_
  refine x_aload_n 3 dL_law_955 rfl rfl ?_
  refine x_cSH (My := mL_rub) (gs := [_, _, _]) (st := []) hH mfL_rub wst_L_rub wm_L_143 dL_law_956 (Nat.le_of_ble_eq_true rfl) rfl (fun _ => (Nat.le_of_ble_eq_true rfl)) (kfit hkc (Nat.le_of_ble_eq_true rfl)) (kfit hks (Nat.le_of_ble_eq_true rfl)) rfl ⟨(by simp only [List.forall_mem_cons]; exact ⟨trivial, okv_r (n2 h0) (by decide), okv_r (n2 h20) (by decide), okv_r (n2 h18) (by decide), okv_i _, fun _ h => absurd h List.not_mem_nil⟩), fun _ h => absurd h List.not_mem_nil⟩ rfl ?_
  refine x_st2 (ls2 := (5, _) :: [(0, gx b), (1, gr 0), (2, gr 20), (3, gr 18), (4, gi ((5 * i : Nat) : Int))]) dL_law_959 (by decide) (c1_cx (c1_cr (c1_cr (c1_cr (c1_ci c1_0))))) rfl ?_
  refine x_sub [1, 2, 3, 4, 5, 0] (ls2 := [(0, gx b), (1, gr 0), (2, gr 20), (3, gr 18), (4, gi ((5 * i : Nat) : Int)), (5, _)]) rfl ?_
  refine x_aload_n 2 dL_law_961 rfl rfl ?_
  refine x_arg (i := i) (k := 1) (j4 := 4) rfl rfl (by omega) hLs dL_law_962 dL_law_963 dL_law_965 dL_law_966 dL_law_967 ?_
  refine x_cV_i (My := mX4_rub) (gs := [_]) (st := []) hR mfX4_rub cf_5 wi_X4_rub wsl_X4_rub wm_L_145 dL_law_968 (Nat.le_of_ble_eq_true rfl) rfl (by decide) (n2 (hM 20 rfl)) rfl (fun _ => (Nat.le_of_ble_eq_true rfl)) (kfit2 hkc (Nat.le_of_ble_eq_true rfl)) (kfit2 hks (Nat.le_of_ble_eq_true rfl)) rfl rfl ?_
  refine x_st2 (ls2 := [(6, _), (0, gx b), (1, gr 0), (2, gr 20), (3, gr 18), (4, gi ((5 * i : Nat) : Int)), (5, _)]) dL_law_971 (by decide) (c1_cx (c1_cr (c1_cr (c1_cr (c1_ci (c1_ci c1_0)))))) rfl ?_
  refine x_aload_n 3 dL_law_973 rfl rfl ?_
  refine x_cV_i (My := mX4_thrown) (gs := []) (st := []) (c_X4_thrown hM) mfX4_thrown cf_5 wi_X4_thrown wsl_X4_thrown wm_L_105 dL_law_974 (Nat.le_of_ble_eq_true rfl) rfl (by decide) (n2 (hM 20 rfl)) rfl (fun _ => (Nat.le_of_ble_eq_true rfl)) (kfit3 hkc (Nat.le_of_ble_eq_true rfl)) (kfit3 hks (Nat.le_of_ble_eq_true rfl)) rfl rfl ?_
  refine x_top (y := (E : Int)) hT ?_
  refine x_iload 6 dL_law_977 rfl ?_
  refine x_icmp_eq (tgt := 984) (by omega) (by omega) dL_law_979 (by decide) (fun _ => ?_) (fun h => absurd rfl h)
  refine x_iload 6 dL_law_984 rfl ?_
  refine x_if_ne (tgt := 1001) (by omega) dL_law_986 (by decide) (fun _ => ?_) (fun hE0 => ?_)
  · refine x_goto (tgt := 1865) dL_law_1001 (by decide) ?_
    refine x_sub [1, 2, 3, 4, 5] (ls2 := [(0, gx b), (1, gr 0), (2, gr 20), (3, gr 18), (4, gi ((5 * i : Nat) : Int))]) rfl ?_
    exact x_wide (by show kc + 1 + 0 + 0 ≤ kc + 100; omega) (by show ks + 6 + 0 + 0 ≤ ks + 2000; omega) kk
  · refine x_aload_n 4 dL_law_989 rfl rfl ?_
    refine x_iconst dL_law_990 ?_
    refine x_lald (N := 1) (n := 18) 0 rfl (by decide) rfl (by decide) dL_law_991 (n2 h18b) (fun hr18 => ?_)
    refine x_iload 0 dL_law_992 rfl ?_
    rw [gi_nrm W]
    refine x_i2l (nrm_rg W) dL_law_994 ?_
    refine x_lcmp hr18 (nrm_rg W) dL_law_995 ?_
    refine x_top (y := 0) (by rw [hv (by omega), icmp_self]) ?_
    refine x_if_eq (tgt := 1001) (by omega) dL_law_996 (by decide) (fun _ => ?_) (fun h => absurd rfl h)
    refine x_goto (tgt := 1865) dL_law_1001 (by decide) ?_
    refine x_sub [1, 2, 3, 4, 5] (ls2 := [(0, gx b), (1, gr 0), (2, gr 20), (3, gr 18), (4, gi ((5 * i : Nat) : Int))]) rfl ?_
    exact x_wide (by show kc + 1 + 0 + 0 ≤ kc + 100; omega) (by show ks + 6 + 0 + 0 ≤ ks + 2000; omega) kk
set_option maxRecDepth 20000 in
theorem xl_bid {P : Pst} {b Ls i kc ks : Nat} {xs : Nat → Int32} {L L1 : Nat → Nat} {A A1 A3 : Mem} {E : Nat} {W : Int} (hi : 5 * i + 5 ≤ Ls) (hLs : Ls ≤ 2560) (hkc : kc + 100 ≤ 601024) (hks : ks + 2000 ≤ 7293034) (h0 : L 0 = 2) (h18 : L 18 = 2) (h20 : L 20 = 2) (hM : LM L1) (h18b : L1 18 = 2) (hE3 : E ≤ 3) (hH : Ct mL_bid [gr 0, gi (sx xs (5 * i + 1)), gi (sx xs (5 * i + 2)), gi (sx xs (5 * i + 3)), gr 18] L A (pr (some (gi (E : Int))) L1 A1)) (hR : Ct mX4_bid [gr 20, gi (sx xs (5 * i + 1)), gi (sx xs (5 * i + 2)), gi (sx xs (5 * i + 3))] L1 A1 (pr (some (gi W)) L1 A3)) (hT : A3 20 0 = E) (hv : E = 0 → A3 18 0 = nrm W) (kk : GX (SX b Ls xs) mL_law P (kc + 100) (ks + 2000) 1865 [(0, gx b), (1, gr 0), (2, gr 20), (3, gr 18), (4, gi ((5 * i : Nat) : Int))] [] L1 A3) : GX (SX b Ls xs) mL_law P kc ks 1004 [(0, gx b), (1, gr 0), (2, gr 20), (3, gr 18), (4, gi ((5 * i : Nat) : Int))] [] L A := by
  refine x_aload_n 1 dL_law_1004 rfl rfl ?_
  refine x_arg (i := i) (k := 1) (j4 := 4) rfl rfl (by omega) hLs dL_law_1005 dL_law_1006 dL_law_1008 dL_law_1009 dL_law_1010 ?_
  refine x_arg (i := i) (k := 2) (j4 := 4) rfl rfl (by omega) hLs dL_law_1011 dL_law_1012 dL_law_1014 dL_law_1015 dL_law_1016 ?_
  refine x_arg (i := i) (k := 3) (j4 := 4) rfl rfl (by omega) hLs dL_law_1017 dL_law_1018 dL_law_1020 dL_law_1021 dL_law_1022 ?_
  refine x_aload_n 3 dL_law_1023 rfl rfl ?_
  refine x_cSH (My := mL_bid) (gs := [_, _, _, _, _]) (st := []) hH mfL_bid wst_L_bid wm_L_146 dL_law_1024 (Nat.le_of_ble_eq_true rfl) rfl (fun _ => (Nat.le_of_ble_eq_true rfl)) (kfit hkc (Nat.le_of_ble_eq_true rfl)) (kfit hks (Nat.le_of_ble_eq_true rfl)) rfl ⟨(by simp only [List.forall_mem_cons]; exact ⟨trivial, okv_r (n2 h0) (by decide), okv_r (n2 h20) (by decide), okv_r (n2 h18) (by decide), okv_i _, fun _ h => absurd h List.not_mem_nil⟩), fun _ h => absurd h List.not_mem_nil⟩ rfl ?_
  refine x_st2 (ls2 := (5, _) :: [(0, gx b), (1, gr 0), (2, gr 20), (3, gr 18), (4, gi ((5 * i : Nat) : Int))]) dL_law_1027 (by decide) (c1_cx (c1_cr (c1_cr (c1_cr (c1_ci c1_0))))) rfl ?_
  refine x_sub [1, 2, 3, 4, 5, 0] (ls2 := [(0, gx b), (1, gr 0), (2, gr 20), (3, gr 18), (4, gi ((5 * i : Nat) : Int)), (5, _)]) rfl ?_
  refine x_aload_n 2 dL_law_1029 rfl rfl ?_
  refine x_arg (i := i) (k := 1) (j4 := 4) rfl rfl (by omega) hLs dL_law_1030 dL_law_1031 dL_law_1033 dL_law_1034 dL_law_1035 ?_
  refine x_arg (i := i) (k := 2) (j4 := 4) rfl rfl (by omega) hLs dL_law_1036 dL_law_1037 dL_law_1039 dL_law_1040 dL_law_1041 ?_
  refine x_arg (i := i) (k := 3) (j4 := 4) rfl rfl (by omega) hLs dL_law_1042 dL_law_1043 dL_law_1045 dL_law_1046 dL_law_1047 ?_
  refine x_cV_i (My := mX4_bid) (gs := [_, _, _]) (st := []) hR mfX4_bid cf_5 wi_X4_bid wsl_X4_bid wm_L_148 dL_law_1048 (Nat.le_of_ble_eq_true rfl) rfl (by decide) (n2 (hM 20 rfl)) rfl (fun _ => (Nat.le_of_ble_eq_true rfl)) (kfit2 hkc (Nat.le_of_ble_eq_true rfl)) (kfit2 hks (Nat.le_of_ble_eq_true rfl)) rfl rfl ?_
  refine x_st2 (ls2 := [(6, _), (0, gx b), (1, gr 0), (2, gr 20), (3, gr 18), (4, gi ((5 * i : Nat) : Int)), (5, _)]) dL_law_1051 (by decide) (c1_cx (c1_cr (c1_cr (c1_cr (c1_ci (c1_ci c1_0)))))) rfl ?_
  refine x_aload_n 3 dL_law_1053 rfl rfl ?_
  refine x_cV_i (My := mX4_thrown) (gs := []) (st := []) (c_X4_thrown hM) mfX4_thrown cf_5 wi_X4_thrown wsl_X4_thrown wm_L_105 dL_law_1054 (Nat.le_of_ble_eq_true rfl) rfl (by decide) (n2 (hM 20 rfl)) rfl (fun _ => (Nat.le_of_ble_eq_true rfl)) (kfit3 hkc (Nat.le_of_ble_eq_true rfl)) (kfit3 hks (Nat.le_of_ble_eq_true rfl)) rfl rfl ?_
  refine x_top (y := (E : Int)) hT ?_
  refine x_iload 6 dL_law_1057 rfl ?_
  refine x_icmp_eq (tgt := 1064) (by omega) (by omega) dL_law_1059 (by decide) (fun _ => ?_) (fun h => absurd rfl h)
  refine x_iload 6 dL_law_1064 rfl ?_
  refine x_if_ne (tgt := 1081) (by omega) dL_law_1066 (by decide) (fun _ => ?_) (fun hE0 => ?_)
  · refine x_goto (tgt := 1865) dL_law_1081 (by decide) ?_
    refine x_sub [1, 2, 3, 4, 5] (ls2 := [(0, gx b), (1, gr 0), (2, gr 20), (3, gr 18), (4, gi ((5 * i : Nat) : Int))]) rfl ?_
    exact x_wide (by show kc + 1 + 0 + 0 ≤ kc + 100; omega) (by show ks + 6 + 0 + 0 ≤ ks + 2000; omega) kk
  · refine x_aload_n 4 dL_law_1069 rfl rfl ?_
    refine x_iconst dL_law_1070 ?_
    refine x_lald (N := 1) (n := 18) 0 rfl (by decide) rfl (by decide) dL_law_1071 (n2 h18b) (fun hr18 => ?_)
    refine x_iload 0 dL_law_1072 rfl ?_
    rw [gi_nrm W]
    refine x_i2l (nrm_rg W) dL_law_1074 ?_
    refine x_lcmp hr18 (nrm_rg W) dL_law_1075 ?_
    refine x_top (y := 0) (by rw [hv (by omega), icmp_self]) ?_
    refine x_if_eq (tgt := 1081) (by omega) dL_law_1076 (by decide) (fun _ => ?_) (fun h => absurd rfl h)
    refine x_goto (tgt := 1865) dL_law_1081 (by decide) ?_
    refine x_sub [1, 2, 3, 4, 5] (ls2 := [(0, gx b), (1, gr 0), (2, gr 20), (3, gr 18), (4, gi ((5 * i : Nat) : Int))]) rfl ?_
    exact x_wide (by show kc + 1 + 0 + 0 ≤ kc + 100; omega) (by show ks + 6 + 0 + 0 ≤ ks + 2000; omega) kk
set_option maxRecDepth 20000 in
theorem xl_sell {P : Pst} {b Ls i kc ks : Nat} {xs : Nat → Int32} {L L1 : Nat → Nat} {A A1 A3 : Mem} {E : Nat} {W : Int} (hi : 5 * i + 5 ≤ Ls) (hLs : Ls ≤ 2560) (hkc : kc + 100 ≤ 601024) (hks : ks + 2000 ≤ 7293034) (h0 : L 0 = 2) (h18 : L 18 = 2) (h20 : L 20 = 2) (hM : LM L1) (h18b : L1 18 = 2) (hE3 : E ≤ 3) (hH : Ct mL_sell [gr 0, gi (sx xs (5 * i + 1)), gr 18] L A (pr (some (gi (E : Int))) L1 A1)) (hR : Ct mX4_sell [gr 20, gi (sx xs (5 * i + 1))] L1 A1 (pr (some (gi W)) L1 A3)) (hT : A3 20 0 = E) (hv : E = 0 → A3 18 0 = nrm W) (kk : GX (SX b Ls xs) mL_law P (kc + 100) (ks + 2000) 1865 [(0, gx b), (1, gr 0), (2, gr 20), (3, gr 18), (4, gi ((5 * i : Nat) : Int))] [] L1 A3) : GX (SX b Ls xs) mL_law P kc ks 1084 [(0, gx b), (1, gr 0), (2, gr 20), (3, gr 18), (4, gi ((5 * i : Nat) : Int))] [] L A := by
  refine x_aload_n 1 dL_law_1084 rfl rfl ?_
  refine x_arg (i := i) (k := 1) (j4 := 4) rfl rfl (by omega) hLs dL_law_1085 dL_law_1086 dL_law_1088 dL_law_1089 dL_law_1090 ?_
  refine x_aload_n 3 dL_law_1091 rfl rfl ?_
  refine x_cSH (My := mL_sell) (gs := [_, _, _]) (st := []) hH mfL_sell wst_L_sell wm_L_149 dL_law_1092 (Nat.le_of_ble_eq_true rfl) rfl (fun _ => (Nat.le_of_ble_eq_true rfl)) (kfit hkc (Nat.le_of_ble_eq_true rfl)) (kfit hks (Nat.le_of_ble_eq_true rfl)) rfl ⟨(by simp only [List.forall_mem_cons]; exact ⟨trivial, okv_r (n2 h0) (by decide), okv_r (n2 h20) (by decide), okv_r (n2 h18) (by decide), okv_i _, fun _ h => absurd h List.not_mem_nil⟩), fun _ h => absurd h List.not_mem_nil⟩ rfl ?_
  refine x_st2 (ls2 := (5, _) :: [(0, gx b), (1, gr 0), (2, gr 20), (3, gr 18), (4, gi ((5 * i : Nat) : Int))]) dL_law_1095 (by decide) (c1_cx (c1_cr (c1_cr (c1_cr (c1_ci c1_0))))) rfl ?_
  refine x_sub [1, 2, 3, 4, 5, 0] (ls2 := [(0, gx b), (1, gr 0), (2, gr 20), (3, gr 18), (4, gi ((5 * i : Nat) : Int)), (5, _)]) rfl ?_
  refine x_aload_n 2 dL_law_1097 rfl rfl ?_
  refine x_arg (i := i) (k := 1) (j4 := 4) rfl rfl (by omega) hLs dL_law_1098 dL_law_1099 dL_law_1101 dL_law_1102 dL_law_1103 ?_
  refine x_cV_i (My := mX4_sell) (gs := [_]) (st := []) hR mfX4_sell cf_5 wi_X4_sell wsl_X4_sell wm_L_151 dL_law_1104 (Nat.le_of_ble_eq_true rfl) rfl (by decide) (n2 (hM 20 rfl)) rfl (fun _ => (Nat.le_of_ble_eq_true rfl)) (kfit2 hkc (Nat.le_of_ble_eq_true rfl)) (kfit2 hks (Nat.le_of_ble_eq_true rfl)) rfl rfl ?_
  refine x_st2 (ls2 := [(6, _), (0, gx b), (1, gr 0), (2, gr 20), (3, gr 18), (4, gi ((5 * i : Nat) : Int)), (5, _)]) dL_law_1107 (by decide) (c1_cx (c1_cr (c1_cr (c1_cr (c1_ci (c1_ci c1_0)))))) rfl ?_
  refine x_aload_n 3 dL_law_1109 rfl rfl ?_
  refine x_cV_i (My := mX4_thrown) (gs := []) (st := []) (c_X4_thrown hM) mfX4_thrown cf_5 wi_X4_thrown wsl_X4_thrown wm_L_105 dL_law_1110 (Nat.le_of_ble_eq_true rfl) rfl (by decide) (n2 (hM 20 rfl)) rfl (fun _ => (Nat.le_of_ble_eq_true rfl)) (kfit3 hkc (Nat.le_of_ble_eq_true rfl)) (kfit3 hks (Nat.le_of_ble_eq_true rfl)) rfl rfl ?_
  refine x_top (y := (E : Int)) hT ?_
  refine x_iload 6 dL_law_1113 rfl ?_
  refine x_icmp_eq (tgt := 1120) (by omega) (by omega) dL_law_1115 (by decide) (fun _ => ?_) (fun h => absurd rfl h)
  refine x_iload 6 dL_law_1120 rfl ?_
  refine x_if_ne (tgt := 1137) (by omega) dL_law_1122 (by decide) (fun _ => ?_) (fun hE0 => ?_)
  · refine x_goto (tgt := 1865) dL_law_1137 (by decide) ?_
    refine x_sub [1, 2, 3, 4, 5] (ls2 := [(0, gx b), (1, gr 0), (2, gr 20), (3, gr 18), (4, gi ((5 * i : Nat) : Int))]) rfl ?_
    exact x_wide (by show kc + 1 + 0 + 0 ≤ kc + 100; omega) (by show ks + 6 + 0 + 0 ≤ ks + 2000; omega) kk
  · refine x_aload_n 4 dL_law_1125 rfl rfl ?_
    refine x_iconst dL_law_1126 ?_
    refine x_lald (N := 1) (n := 18) 0 rfl (by decide) rfl (by decide) dL_law_1127 (n2 h18b) (fun hr18 => ?_)
    refine x_iload 0 dL_law_1128 rfl ?_
    rw [gi_nrm W]
    refine x_i2l (nrm_rg W) dL_law_1130 ?_
    refine x_lcmp hr18 (nrm_rg W) dL_law_1131 ?_
    refine x_top (y := 0) (by rw [hv (by omega), icmp_self]) ?_
    refine x_if_eq (tgt := 1137) (by omega) dL_law_1132 (by decide) (fun _ => ?_) (fun h => absurd rfl h)
    refine x_goto (tgt := 1865) dL_law_1137 (by decide) ?_
    refine x_sub [1, 2, 3, 4, 5] (ls2 := [(0, gx b), (1, gr 0), (2, gr 20), (3, gr 18), (4, gi ((5 * i : Nat) : Int))]) rfl ?_
    exact x_wide (by show kc + 1 + 0 + 0 ≤ kc + 100; omega) (by show ks + 6 + 0 + 0 ≤ ks + 2000; omega) kk
set_option maxRecDepth 20000 in
theorem xl_bore {P : Pst} {b Ls i kc ks : Nat} {xs : Nat → Int32} {L L1 : Nat → Nat} {A A1 A3 : Mem} {E : Nat} {W : Int} (hi : 5 * i + 5 ≤ Ls) (hLs : Ls ≤ 2560) (hkc : kc + 100 ≤ 601024) (hks : ks + 2000 ≤ 7293034) (h0 : L 0 = 2) (h18 : L 18 = 2) (h20 : L 20 = 2) (hM : LM L1) (h18b : L1 18 = 2) (hE3 : E ≤ 3) (hH : Ct mL_bore [gr 0, gi (sx xs (5 * i + 1)), gr 18] L A (pr (some (gi (E : Int))) L1 A1)) (hR : Ct mX4_bore [gr 20, gi (sx xs (5 * i + 1))] L1 A1 (pr (some (gi W)) L1 A3)) (hT : A3 20 0 = E) (hv : E = 0 → A3 18 0 = nrm W) (kk : GX (SX b Ls xs) mL_law P (kc + 100) (ks + 2000) 1865 [(0, gx b), (1, gr 0), (2, gr 20), (3, gr 18), (4, gi ((5 * i : Nat) : Int))] [] L1 A3) : GX (SX b Ls xs) mL_law P kc ks 1153 [(0, gx b), (1, gr 0), (2, gr 20), (3, gr 18), (4, gi ((5 * i : Nat) : Int))] [] L A := by
  refine x_aload_n 1 dL_law_1153 rfl rfl ?_
  refine x_arg (i := i) (k := 1) (j4 := 4) rfl rfl (by omega) hLs dL_law_1154 dL_law_1155 dL_law_1157 dL_law_1158 dL_law_1159 ?_
  refine x_aload_n 3 dL_law_1160 rfl rfl ?_
  refine x_cSH (My := mL_bore) (gs := [_, _, _]) (st := []) hH mfL_bore wst_L_bore wm_L_156 dL_law_1161 (Nat.le_of_ble_eq_true rfl) rfl (fun _ => (Nat.le_of_ble_eq_true rfl)) (kfit hkc (Nat.le_of_ble_eq_true rfl)) (kfit hks (Nat.le_of_ble_eq_true rfl)) rfl ⟨(by simp only [List.forall_mem_cons]; exact ⟨trivial, okv_r (n2 h0) (by decide), okv_r (n2 h20) (by decide), okv_r (n2 h18) (by decide), okv_i _, fun _ h => absurd h List.not_mem_nil⟩), fun _ h => absurd h List.not_mem_nil⟩ rfl ?_
  refine x_st2 (ls2 := (5, _) :: [(0, gx b), (1, gr 0), (2, gr 20), (3, gr 18), (4, gi ((5 * i : Nat) : Int))]) dL_law_1164 (by decide) (c1_cx (c1_cr (c1_cr (c1_cr (c1_ci c1_0))))) rfl ?_
  refine x_sub [1, 2, 3, 4, 5, 0] (ls2 := [(0, gx b), (1, gr 0), (2, gr 20), (3, gr 18), (4, gi ((5 * i : Nat) : Int)), (5, _)]) rfl ?_
  refine x_aload_n 2 dL_law_1166 rfl rfl ?_
  refine x_arg (i := i) (k := 1) (j4 := 4) rfl rfl (by omega) hLs dL_law_1167 dL_law_1168 dL_law_1170 dL_law_1171 dL_law_1172 ?_
  refine x_cV_i (My := mX4_bore) (gs := [_]) (st := []) hR mfX4_bore cf_5 wi_X4_bore wsl_X4_bore wm_L_158 dL_law_1173 (Nat.le_of_ble_eq_true rfl) rfl (by decide) (n2 (hM 20 rfl)) rfl (fun _ => (Nat.le_of_ble_eq_true rfl)) (kfit2 hkc (Nat.le_of_ble_eq_true rfl)) (kfit2 hks (Nat.le_of_ble_eq_true rfl)) rfl rfl ?_
  refine x_st2 (ls2 := [(6, _), (0, gx b), (1, gr 0), (2, gr 20), (3, gr 18), (4, gi ((5 * i : Nat) : Int)), (5, _)]) dL_law_1176 (by decide) (c1_cx (c1_cr (c1_cr (c1_cr (c1_ci (c1_ci c1_0)))))) rfl ?_
  refine x_aload_n 3 dL_law_1178 rfl rfl ?_
  refine x_cV_i (My := mX4_thrown) (gs := []) (st := []) (c_X4_thrown hM) mfX4_thrown cf_5 wi_X4_thrown wsl_X4_thrown wm_L_105 dL_law_1179 (Nat.le_of_ble_eq_true rfl) rfl (by decide) (n2 (hM 20 rfl)) rfl (fun _ => (Nat.le_of_ble_eq_true rfl)) (kfit3 hkc (Nat.le_of_ble_eq_true rfl)) (kfit3 hks (Nat.le_of_ble_eq_true rfl)) rfl rfl ?_
  refine x_top (y := (E : Int)) hT ?_
  refine x_iload 6 dL_law_1182 rfl ?_
  refine x_icmp_eq (tgt := 1189) (by omega) (by omega) dL_law_1184 (by decide) (fun _ => ?_) (fun h => absurd rfl h)
  refine x_iload 6 dL_law_1189 rfl ?_
  refine x_if_ne (tgt := 1206) (by omega) dL_law_1191 (by decide) (fun _ => ?_) (fun hE0 => ?_)
  · refine x_goto (tgt := 1865) dL_law_1206 (by decide) ?_
    refine x_sub [1, 2, 3, 4, 5] (ls2 := [(0, gx b), (1, gr 0), (2, gr 20), (3, gr 18), (4, gi ((5 * i : Nat) : Int))]) rfl ?_
    exact x_wide (by show kc + 1 + 0 + 0 ≤ kc + 100; omega) (by show ks + 6 + 0 + 0 ≤ ks + 2000; omega) kk
  · refine x_aload_n 4 dL_law_1194 rfl rfl ?_
    refine x_iconst dL_law_1195 ?_
    refine x_lald (N := 1) (n := 18) 0 rfl (by decide) rfl (by decide) dL_law_1196 (n2 h18b) (fun hr18 => ?_)
    refine x_iload 0 dL_law_1197 rfl ?_
    rw [gi_nrm W]
    refine x_i2l (nrm_rg W) dL_law_1199 ?_
    refine x_lcmp hr18 (nrm_rg W) dL_law_1200 ?_
    refine x_top (y := 0) (by rw [hv (by omega), icmp_self]) ?_
    refine x_if_eq (tgt := 1206) (by omega) dL_law_1201 (by decide) (fun _ => ?_) (fun h => absurd rfl h)
    refine x_goto (tgt := 1865) dL_law_1206 (by decide) ?_
    refine x_sub [1, 2, 3, 4, 5] (ls2 := [(0, gx b), (1, gr 0), (2, gr 20), (3, gr 18), (4, gi ((5 * i : Nat) : Int))]) rfl ?_
    exact x_wide (by show kc + 1 + 0 + 0 ≤ kc + 100; omega) (by show ks + 6 + 0 + 0 ≤ ks + 2000; omega) kk
set_option maxRecDepth 20000 in
theorem xl_ofCell {P : Pst} {b Ls i kc ks : Nat} {xs : Nat → Int32} {L L1 : Nat → Nat} {A A1 A3 : Mem} {E : Nat} {W : Int} (hi : 5 * i + 5 ≤ Ls) (hLs : Ls ≤ 2560) (hkc : kc + 100 ≤ 601024) (hks : ks + 2000 ≤ 7293034) (h0 : L 0 = 2) (h18 : L 18 = 2) (h20 : L 20 = 2) (hM : LM L1) (h18b : L1 18 = 2) (hE3 : E ≤ 3) (hH : Ct mL_ofCell [gr 0, gi (sx xs (5 * i + 1)), gi (sx xs (5 * i + 2)), gr 18] L A (pr (some (gi (E : Int))) L1 A1)) (hR : Ct mX4_ofCell [gr 20, gi (sx xs (5 * i + 1)), gi (sx xs (5 * i + 2))] L1 A1 (pr (some (gi W)) L1 A3)) (hT : A3 20 0 = E) (hv : E = 0 → A3 18 0 = nrm W) (kk : GX (SX b Ls xs) mL_law P (kc + 100) (ks + 2000) 1865 [(0, gx b), (1, gr 0), (2, gr 20), (3, gr 18), (4, gi ((5 * i : Nat) : Int))] [] L1 A3) : GX (SX b Ls xs) mL_law P kc ks 1209 [(0, gx b), (1, gr 0), (2, gr 20), (3, gr 18), (4, gi ((5 * i : Nat) : Int))] [] L A := by
  refine x_aload_n 1 dL_law_1209 rfl rfl ?_
  refine x_arg (i := i) (k := 1) (j4 := 4) rfl rfl (by omega) hLs dL_law_1210 dL_law_1211 dL_law_1213 dL_law_1214 dL_law_1215 ?_
  refine x_arg (i := i) (k := 2) (j4 := 4) rfl rfl (by omega) hLs dL_law_1216 dL_law_1217 dL_law_1219 dL_law_1220 dL_law_1221 ?_
  refine x_aload_n 3 dL_law_1222 rfl rfl ?_
  refine x_cSH (My := mL_ofCell) (gs := [_, _, _, _]) (st := []) hH mfL_ofCell wst_L_ofCell wm_L_159 dL_law_1223 (Nat.le_of_ble_eq_true rfl) rfl (fun _ => (Nat.le_of_ble_eq_true rfl)) (kfit hkc (Nat.le_of_ble_eq_true rfl)) (kfit hks (Nat.le_of_ble_eq_true rfl)) rfl ⟨(by simp only [List.forall_mem_cons]; exact ⟨trivial, okv_r (n2 h0) (by decide), okv_r (n2 h20) (by decide), okv_r (n2 h18) (by decide), okv_i _, fun _ h => absurd h List.not_mem_nil⟩), fun _ h => absurd h List.not_mem_nil⟩ rfl ?_
  refine x_st2 (ls2 := (5, _) :: [(0, gx b), (1, gr 0), (2, gr 20), (3, gr 18), (4, gi ((5 * i : Nat) : Int))]) dL_law_1226 (by decide) (c1_cx (c1_cr (c1_cr (c1_cr (c1_ci c1_0))))) rfl ?_
  refine x_sub [1, 2, 3, 4, 5, 0] (ls2 := [(0, gx b), (1, gr 0), (2, gr 20), (3, gr 18), (4, gi ((5 * i : Nat) : Int)), (5, _)]) rfl ?_
  refine x_aload_n 2 dL_law_1228 rfl rfl ?_
  refine x_arg (i := i) (k := 1) (j4 := 4) rfl rfl (by omega) hLs dL_law_1229 dL_law_1230 dL_law_1232 dL_law_1233 dL_law_1234 ?_
  refine x_arg (i := i) (k := 2) (j4 := 4) rfl rfl (by omega) hLs dL_law_1235 dL_law_1236 dL_law_1238 dL_law_1239 dL_law_1240 ?_
  refine x_cV_i (My := mX4_ofCell) (gs := [_, _]) (st := []) hR mfX4_ofCell cf_5 wi_X4_ofCell wsl_X4_ofCell wm_L_161 dL_law_1241 (Nat.le_of_ble_eq_true rfl) rfl (by decide) (n2 (hM 20 rfl)) rfl (fun _ => (Nat.le_of_ble_eq_true rfl)) (kfit2 hkc (Nat.le_of_ble_eq_true rfl)) (kfit2 hks (Nat.le_of_ble_eq_true rfl)) rfl rfl ?_
  refine x_st2 (ls2 := [(6, _), (0, gx b), (1, gr 0), (2, gr 20), (3, gr 18), (4, gi ((5 * i : Nat) : Int)), (5, _)]) dL_law_1244 (by decide) (c1_cx (c1_cr (c1_cr (c1_cr (c1_ci (c1_ci c1_0)))))) rfl ?_
  refine x_aload_n 3 dL_law_1246 rfl rfl ?_
  refine x_cV_i (My := mX4_thrown) (gs := []) (st := []) (c_X4_thrown hM) mfX4_thrown cf_5 wi_X4_thrown wsl_X4_thrown wm_L_105 dL_law_1247 (Nat.le_of_ble_eq_true rfl) rfl (by decide) (n2 (hM 20 rfl)) rfl (fun _ => (Nat.le_of_ble_eq_true rfl)) (kfit3 hkc (Nat.le_of_ble_eq_true rfl)) (kfit3 hks (Nat.le_of_ble_eq_true rfl)) rfl rfl ?_
  refine x_top (y := (E : Int)) hT ?_
  refine x_iload 6 dL_law_1250 rfl ?_
  refine x_icmp_eq (tgt := 1257) (by omega) (by omega) dL_law_1252 (by decide) (fun _ => ?_) (fun h => absurd rfl h)
  refine x_iload 6 dL_law_1257 rfl ?_
  refine x_if_ne (tgt := 1274) (by omega) dL_law_1259 (by decide) (fun _ => ?_) (fun hE0 => ?_)
  · refine x_goto (tgt := 1865) dL_law_1274 (by decide) ?_
    refine x_sub [1, 2, 3, 4, 5] (ls2 := [(0, gx b), (1, gr 0), (2, gr 20), (3, gr 18), (4, gi ((5 * i : Nat) : Int))]) rfl ?_
    exact x_wide (by show kc + 1 + 0 + 0 ≤ kc + 100; omega) (by show ks + 6 + 0 + 0 ≤ ks + 2000; omega) kk
  · refine x_aload_n 4 dL_law_1262 rfl rfl ?_
    refine x_iconst dL_law_1263 ?_
    refine x_lald (N := 1) (n := 18) 0 rfl (by decide) rfl (by decide) dL_law_1264 (n2 h18b) (fun hr18 => ?_)
    refine x_iload 0 dL_law_1265 rfl ?_
    rw [gi_nrm W]
    refine x_i2l (nrm_rg W) dL_law_1267 ?_
    refine x_lcmp hr18 (nrm_rg W) dL_law_1268 ?_
    refine x_top (y := 0) (by rw [hv (by omega), icmp_self]) ?_
    refine x_if_eq (tgt := 1274) (by omega) dL_law_1269 (by decide) (fun _ => ?_) (fun h => absurd rfl h)
    refine x_goto (tgt := 1865) dL_law_1274 (by decide) ?_
    refine x_sub [1, 2, 3, 4, 5] (ls2 := [(0, gx b), (1, gr 0), (2, gr 20), (3, gr 18), (4, gi ((5 * i : Nat) : Int))]) rfl ?_
    exact x_wide (by show kc + 1 + 0 + 0 ≤ kc + 100; omega) (by show ks + 6 + 0 + 0 ≤ ks + 2000; omega) kk
set_option maxRecDepth 20000 in
theorem xl_ofClaim {P : Pst} {b Ls i kc ks : Nat} {xs : Nat → Int32} {L L1 : Nat → Nat} {A A1 A3 : Mem} {E : Nat} {W : Int} (hi : 5 * i + 5 ≤ Ls) (hLs : Ls ≤ 2560) (hkc : kc + 100 ≤ 601024) (hks : ks + 2000 ≤ 7293034) (h0 : L 0 = 2) (h18 : L 18 = 2) (h20 : L 20 = 2) (hM : LM L1) (h18b : L1 18 = 2) (hE3 : E ≤ 3) (hH : Ct mL_ofClaim [gr 0, gi (sx xs (5 * i + 1)), gi (sx xs (5 * i + 2)), gr 18] L A (pr (some (gi (E : Int))) L1 A1)) (hR : Ct mX4_ofClaim [gr 20, gi (sx xs (5 * i + 1)), gi (sx xs (5 * i + 2))] L1 A1 (pr (some (gi W)) L1 A3)) (hT : A3 20 0 = E) (hv : E = 0 → A3 18 0 = nrm W) (kk : GX (SX b Ls xs) mL_law P (kc + 100) (ks + 2000) 1865 [(0, gx b), (1, gr 0), (2, gr 20), (3, gr 18), (4, gi ((5 * i : Nat) : Int))] [] L1 A3) : GX (SX b Ls xs) mL_law P kc ks 1277 [(0, gx b), (1, gr 0), (2, gr 20), (3, gr 18), (4, gi ((5 * i : Nat) : Int))] [] L A := by
  refine x_aload_n 1 dL_law_1277 rfl rfl ?_
  refine x_arg (i := i) (k := 1) (j4 := 4) rfl rfl (by omega) hLs dL_law_1278 dL_law_1279 dL_law_1281 dL_law_1282 dL_law_1283 ?_
  refine x_arg (i := i) (k := 2) (j4 := 4) rfl rfl (by omega) hLs dL_law_1284 dL_law_1285 dL_law_1287 dL_law_1288 dL_law_1289 ?_
  refine x_aload_n 3 dL_law_1290 rfl rfl ?_
  refine x_cSH (My := mL_ofClaim) (gs := [_, _, _, _]) (st := []) hH mfL_ofClaim wst_L_ofClaim wm_L_162 dL_law_1291 (Nat.le_of_ble_eq_true rfl) rfl (fun _ => (Nat.le_of_ble_eq_true rfl)) (kfit hkc (Nat.le_of_ble_eq_true rfl)) (kfit hks (Nat.le_of_ble_eq_true rfl)) rfl ⟨(by simp only [List.forall_mem_cons]; exact ⟨trivial, okv_r (n2 h0) (by decide), okv_r (n2 h20) (by decide), okv_r (n2 h18) (by decide), okv_i _, fun _ h => absurd h List.not_mem_nil⟩), fun _ h => absurd h List.not_mem_nil⟩ rfl ?_
  refine x_st2 (ls2 := (5, _) :: [(0, gx b), (1, gr 0), (2, gr 20), (3, gr 18), (4, gi ((5 * i : Nat) : Int))]) dL_law_1294 (by decide) (c1_cx (c1_cr (c1_cr (c1_cr (c1_ci c1_0))))) rfl ?_
  refine x_sub [1, 2, 3, 4, 5, 0] (ls2 := [(0, gx b), (1, gr 0), (2, gr 20), (3, gr 18), (4, gi ((5 * i : Nat) : Int)), (5, _)]) rfl ?_
  refine x_aload_n 2 dL_law_1296 rfl rfl ?_
  refine x_arg (i := i) (k := 1) (j4 := 4) rfl rfl (by omega) hLs dL_law_1297 dL_law_1298 dL_law_1300 dL_law_1301 dL_law_1302 ?_
  refine x_arg (i := i) (k := 2) (j4 := 4) rfl rfl (by omega) hLs dL_law_1303 dL_law_1304 dL_law_1306 dL_law_1307 dL_law_1308 ?_
  refine x_cV_i (My := mX4_ofClaim) (gs := [_, _]) (st := []) hR mfX4_ofClaim cf_5 wi_X4_ofClaim wsl_X4_ofClaim wm_L_164 dL_law_1309 (Nat.le_of_ble_eq_true rfl) rfl (by decide) (n2 (hM 20 rfl)) rfl (fun _ => (Nat.le_of_ble_eq_true rfl)) (kfit2 hkc (Nat.le_of_ble_eq_true rfl)) (kfit2 hks (Nat.le_of_ble_eq_true rfl)) rfl rfl ?_
  refine x_st2 (ls2 := [(6, _), (0, gx b), (1, gr 0), (2, gr 20), (3, gr 18), (4, gi ((5 * i : Nat) : Int)), (5, _)]) dL_law_1312 (by decide) (c1_cx (c1_cr (c1_cr (c1_cr (c1_ci (c1_ci c1_0)))))) rfl ?_
  refine x_aload_n 3 dL_law_1314 rfl rfl ?_
  refine x_cV_i (My := mX4_thrown) (gs := []) (st := []) (c_X4_thrown hM) mfX4_thrown cf_5 wi_X4_thrown wsl_X4_thrown wm_L_105 dL_law_1315 (Nat.le_of_ble_eq_true rfl) rfl (by decide) (n2 (hM 20 rfl)) rfl (fun _ => (Nat.le_of_ble_eq_true rfl)) (kfit3 hkc (Nat.le_of_ble_eq_true rfl)) (kfit3 hks (Nat.le_of_ble_eq_true rfl)) rfl rfl ?_
  refine x_top (y := (E : Int)) hT ?_
  refine x_iload 6 dL_law_1318 rfl ?_
  refine x_icmp_eq (tgt := 1325) (by omega) (by omega) dL_law_1320 (by decide) (fun _ => ?_) (fun h => absurd rfl h)
  refine x_iload 6 dL_law_1325 rfl ?_
  refine x_if_ne (tgt := 1342) (by omega) dL_law_1327 (by decide) (fun _ => ?_) (fun hE0 => ?_)
  · refine x_goto (tgt := 1865) dL_law_1342 (by decide) ?_
    refine x_sub [1, 2, 3, 4, 5] (ls2 := [(0, gx b), (1, gr 0), (2, gr 20), (3, gr 18), (4, gi ((5 * i : Nat) : Int))]) rfl ?_
    exact x_wide (by show kc + 1 + 0 + 0 ≤ kc + 100; omega) (by show ks + 6 + 0 + 0 ≤ ks + 2000; omega) kk
  · refine x_aload_n 4 dL_law_1330 rfl rfl ?_
    refine x_iconst dL_law_1331 ?_
    refine x_lald (N := 1) (n := 18) 0 rfl (by decide) rfl (by decide) dL_law_1332 (n2 h18b) (fun hr18 => ?_)
    refine x_iload 0 dL_law_1333 rfl ?_
    rw [gi_nrm W]
    refine x_i2l (nrm_rg W) dL_law_1335 ?_
    refine x_lcmp hr18 (nrm_rg W) dL_law_1336 ?_
    refine x_top (y := 0) (by rw [hv (by omega), icmp_self]) ?_
    refine x_if_eq (tgt := 1342) (by omega) dL_law_1337 (by decide) (fun _ => ?_) (fun h => absurd rfl h)
    refine x_goto (tgt := 1865) dL_law_1342 (by decide) ?_
    refine x_sub [1, 2, 3, 4, 5] (ls2 := [(0, gx b), (1, gr 0), (2, gr 20), (3, gr 18), (4, gi ((5 * i : Nat) : Int))]) rfl ?_
    exact x_wide (by show kc + 1 + 0 + 0 ≤ kc + 100; omega) (by show ks + 6 + 0 + 0 ≤ ks + 2000; omega) kk
set_option maxRecDepth 20000 in
theorem xl_share {P : Pst} {b Ls i kc ks : Nat} {xs : Nat → Int32} {L L1 : Nat → Nat} {A A1 A3 : Mem} {E : Nat} {W : Int} (hi : 5 * i + 5 ≤ Ls) (hLs : Ls ≤ 2560) (hkc : kc + 100 ≤ 601024) (hks : ks + 2000 ≤ 7293034) (h0 : L 0 = 2) (h18 : L 18 = 2) (h20 : L 20 = 2) (hM : LM L1) (h18b : L1 18 = 2) (hE3 : E ≤ 3) (hH : Ct mL_share [gr 0, gi (sx xs (5 * i + 1)), gi (sx xs (5 * i + 2)), gr 18] L A (pr (some (gi (E : Int))) L1 A1)) (hR : Ct mX4_share [gr 20, gi (sx xs (5 * i + 1)), gi (sx xs (5 * i + 2))] L1 A1 (pr (some (gi W)) L1 A3)) (hT : A3 20 0 = E) (hv : E = 0 → A3 18 0 = nrm W) (kk : GX (SX b Ls xs) mL_law P (kc + 100) (ks + 2000) 1865 [(0, gx b), (1, gr 0), (2, gr 20), (3, gr 18), (4, gi ((5 * i : Nat) : Int))] [] L1 A3) : GX (SX b Ls xs) mL_law P kc ks 1345 [(0, gx b), (1, gr 0), (2, gr 20), (3, gr 18), (4, gi ((5 * i : Nat) : Int))] [] L A := by
  refine x_aload_n 1 dL_law_1345 rfl rfl ?_
  refine x_arg (i := i) (k := 1) (j4 := 4) rfl rfl (by omega) hLs dL_law_1346 dL_law_1347 dL_law_1349 dL_law_1350 dL_law_1351 ?_
  refine x_arg (i := i) (k := 2) (j4 := 4) rfl rfl (by omega) hLs dL_law_1352 dL_law_1353 dL_law_1355 dL_law_1356 dL_law_1357 ?_
  refine x_aload_n 3 dL_law_1358 rfl rfl ?_
  refine x_cSH (My := mL_share) (gs := [_, _, _, _]) (st := []) hH mfL_share wst_L_share wm_L_165 dL_law_1359 (Nat.le_of_ble_eq_true rfl) rfl (fun _ => (Nat.le_of_ble_eq_true rfl)) (kfit hkc (Nat.le_of_ble_eq_true rfl)) (kfit hks (Nat.le_of_ble_eq_true rfl)) rfl ⟨(by simp only [List.forall_mem_cons]; exact ⟨trivial, okv_r (n2 h0) (by decide), okv_r (n2 h20) (by decide), okv_r (n2 h18) (by decide), okv_i _, fun _ h => absurd h List.not_mem_nil⟩), fun _ h => absurd h List.not_mem_nil⟩ rfl ?_
  refine x_st2 (ls2 := (5, _) :: [(0, gx b), (1, gr 0), (2, gr 20), (3, gr 18), (4, gi ((5 * i : Nat) : Int))]) dL_law_1362 (by decide) (c1_cx (c1_cr (c1_cr (c1_cr (c1_ci c1_0))))) rfl ?_
  refine x_sub [1, 2, 3, 4, 5, 0] (ls2 := [(0, gx b), (1, gr 0), (2, gr 20), (3, gr 18), (4, gi ((5 * i : Nat) : Int)), (5, _)]) rfl ?_
  refine x_aload_n 2 dL_law_1364 rfl rfl ?_
  refine x_arg (i := i) (k := 1) (j4 := 4) rfl rfl (by omega) hLs dL_law_1365 dL_law_1366 dL_law_1368 dL_law_1369 dL_law_1370 ?_
  refine x_arg (i := i) (k := 2) (j4 := 4) rfl rfl (by omega) hLs dL_law_1371 dL_law_1372 dL_law_1374 dL_law_1375 dL_law_1376 ?_
  refine x_cV_i (My := mX4_share) (gs := [_, _]) (st := []) hR mfX4_share cf_5 wi_X4_share wsl_X4_share wm_L_167 dL_law_1377 (Nat.le_of_ble_eq_true rfl) rfl (by decide) (n2 (hM 20 rfl)) rfl (fun _ => (Nat.le_of_ble_eq_true rfl)) (kfit2 hkc (Nat.le_of_ble_eq_true rfl)) (kfit2 hks (Nat.le_of_ble_eq_true rfl)) rfl rfl ?_
  refine x_st2 (ls2 := [(6, _), (0, gx b), (1, gr 0), (2, gr 20), (3, gr 18), (4, gi ((5 * i : Nat) : Int)), (5, _)]) dL_law_1380 (by decide) (c1_cx (c1_cr (c1_cr (c1_cr (c1_ci (c1_ci c1_0)))))) rfl ?_
  refine x_aload_n 3 dL_law_1382 rfl rfl ?_
  refine x_cV_i (My := mX4_thrown) (gs := []) (st := []) (c_X4_thrown hM) mfX4_thrown cf_5 wi_X4_thrown wsl_X4_thrown wm_L_105 dL_law_1383 (Nat.le_of_ble_eq_true rfl) rfl (by decide) (n2 (hM 20 rfl)) rfl (fun _ => (Nat.le_of_ble_eq_true rfl)) (kfit3 hkc (Nat.le_of_ble_eq_true rfl)) (kfit3 hks (Nat.le_of_ble_eq_true rfl)) rfl rfl ?_
  refine x_top (y := (E : Int)) hT ?_
  refine x_iload 6 dL_law_1386 rfl ?_
  refine x_icmp_eq (tgt := 1393) (by omega) (by omega) dL_law_1388 (by decide) (fun _ => ?_) (fun h => absurd rfl h)
  refine x_iload 6 dL_law_1393 rfl ?_
  refine x_if_ne (tgt := 1410) (by omega) dL_law_1395 (by decide) (fun _ => ?_) (fun hE0 => ?_)
  · refine x_goto (tgt := 1865) dL_law_1410 (by decide) ?_
    refine x_sub [1, 2, 3, 4, 5] (ls2 := [(0, gx b), (1, gr 0), (2, gr 20), (3, gr 18), (4, gi ((5 * i : Nat) : Int))]) rfl ?_
    exact x_wide (by show kc + 1 + 0 + 0 ≤ kc + 100; omega) (by show ks + 6 + 0 + 0 ≤ ks + 2000; omega) kk
  · refine x_aload_n 4 dL_law_1398 rfl rfl ?_
    refine x_iconst dL_law_1399 ?_
    refine x_lald (N := 1) (n := 18) 0 rfl (by decide) rfl (by decide) dL_law_1400 (n2 h18b) (fun hr18 => ?_)
    refine x_iload 0 dL_law_1401 rfl ?_
    rw [gi_nrm W]
    refine x_i2l (nrm_rg W) dL_law_1403 ?_
    refine x_lcmp hr18 (nrm_rg W) dL_law_1404 ?_
    refine x_top (y := 0) (by rw [hv (by omega), icmp_self]) ?_
    refine x_if_eq (tgt := 1410) (by omega) dL_law_1405 (by decide) (fun _ => ?_) (fun h => absurd rfl h)
    refine x_goto (tgt := 1865) dL_law_1410 (by decide) ?_
    refine x_sub [1, 2, 3, 4, 5] (ls2 := [(0, gx b), (1, gr 0), (2, gr 20), (3, gr 18), (4, gi ((5 * i : Nat) : Int))]) rfl ?_
    exact x_wide (by show kc + 1 + 0 + 0 ≤ kc + 100; omega) (by show ks + 6 + 0 + 0 ≤ ks + 2000; omega) kk
set_option maxRecDepth 20000 in
theorem xl_verdict {P : Pst} {b Ls i kc ks : Nat} {xs : Nat → Int32} {L L1 : Nat → Nat} {A A1 A3 : Mem} {E : Nat} {W : Int} (hi : 5 * i + 5 ≤ Ls) (hLs : Ls ≤ 2560) (hkc : kc + 100 ≤ 601024) (hks : ks + 2000 ≤ 7293034) (h0 : L 0 = 2) (h18 : L 18 = 2) (h20 : L 20 = 2) (hM : LM L1) (h18b : L1 18 = 2) (hE3 : E ≤ 3) (hH : Ct mL_verdict [gr 0, gi (sx xs (5 * i + 1)), gi (sx xs (5 * i + 2)), gr 18] L A (pr (some (gi (E : Int))) L1 A1)) (hR : Ct mX4_verdict [gr 20, gi (sx xs (5 * i + 1)), gi (sx xs (5 * i + 2))] L1 A1 (pr (some (gi W)) L1 A3)) (hT : A3 20 0 = E) (hv : E = 0 → A3 18 0 = nrm W) (kk : GX (SX b Ls xs) mL_law P (kc + 100) (ks + 2000) 1865 [(0, gx b), (1, gr 0), (2, gr 20), (3, gr 18), (4, gi ((5 * i : Nat) : Int))] [] L1 A3) : GX (SX b Ls xs) mL_law P kc ks 1413 [(0, gx b), (1, gr 0), (2, gr 20), (3, gr 18), (4, gi ((5 * i : Nat) : Int))] [] L A := by
  refine x_aload_n 1 dL_law_1413 rfl rfl ?_
  refine x_arg (i := i) (k := 1) (j4 := 4) rfl rfl (by omega) hLs dL_law_1414 dL_law_1415 dL_law_1417 dL_law_1418 dL_law_1419 ?_
  refine x_arg (i := i) (k := 2) (j4 := 4) rfl rfl (by omega) hLs dL_law_1420 dL_law_1421 dL_law_1423 dL_law_1424 dL_law_1425 ?_
  refine x_aload_n 3 dL_law_1426 rfl rfl ?_
  refine x_cSH (My := mL_verdict) (gs := [_, _, _, _]) (st := []) hH mfL_verdict wst_L_verdict wm_L_168 dL_law_1427 (Nat.le_of_ble_eq_true rfl) rfl (fun _ => (Nat.le_of_ble_eq_true rfl)) (kfit hkc (Nat.le_of_ble_eq_true rfl)) (kfit hks (Nat.le_of_ble_eq_true rfl)) rfl ⟨(by simp only [List.forall_mem_cons]; exact ⟨trivial, okv_r (n2 h0) (by decide), okv_r (n2 h20) (by decide), okv_r (n2 h18) (by decide), okv_i _, fun _ h => absurd h List.not_mem_nil⟩), fun _ h => absurd h List.not_mem_nil⟩ rfl ?_
  refine x_st2 (ls2 := (5, _) :: [(0, gx b), (1, gr 0), (2, gr 20), (3, gr 18), (4, gi ((5 * i : Nat) : Int))]) dL_law_1430 (by decide) (c1_cx (c1_cr (c1_cr (c1_cr (c1_ci c1_0))))) rfl ?_
  refine x_sub [1, 2, 3, 4, 5, 0] (ls2 := [(0, gx b), (1, gr 0), (2, gr 20), (3, gr 18), (4, gi ((5 * i : Nat) : Int)), (5, _)]) rfl ?_
  refine x_aload_n 2 dL_law_1432 rfl rfl ?_
  refine x_arg (i := i) (k := 1) (j4 := 4) rfl rfl (by omega) hLs dL_law_1433 dL_law_1434 dL_law_1436 dL_law_1437 dL_law_1438 ?_
  refine x_arg (i := i) (k := 2) (j4 := 4) rfl rfl (by omega) hLs dL_law_1439 dL_law_1440 dL_law_1442 dL_law_1443 dL_law_1444 ?_
  refine x_cV_i (My := mX4_verdict) (gs := [_, _]) (st := []) hR mfX4_verdict cf_5 wi_X4_verdict wsl_X4_verdict wm_L_170 dL_law_1445 (Nat.le_of_ble_eq_true rfl) rfl (by decide) (n2 (hM 20 rfl)) rfl (fun _ => (Nat.le_of_ble_eq_true rfl)) (kfit2 hkc (Nat.le_of_ble_eq_true rfl)) (kfit2 hks (Nat.le_of_ble_eq_true rfl)) rfl rfl ?_
  refine x_st2 (ls2 := [(6, _), (0, gx b), (1, gr 0), (2, gr 20), (3, gr 18), (4, gi ((5 * i : Nat) : Int)), (5, _)]) dL_law_1448 (by decide) (c1_cx (c1_cr (c1_cr (c1_cr (c1_ci (c1_ci c1_0)))))) rfl ?_
  refine x_aload_n 3 dL_law_1450 rfl rfl ?_
  refine x_cV_i (My := mX4_thrown) (gs := []) (st := []) (c_X4_thrown hM) mfX4_thrown cf_5 wi_X4_thrown wsl_X4_thrown wm_L_105 dL_law_1451 (Nat.le_of_ble_eq_true rfl) rfl (by decide) (n2 (hM 20 rfl)) rfl (fun _ => (Nat.le_of_ble_eq_true rfl)) (kfit3 hkc (Nat.le_of_ble_eq_true rfl)) (kfit3 hks (Nat.le_of_ble_eq_true rfl)) rfl rfl ?_
  refine x_top (y := (E : Int)) hT ?_
  refine x_iload 6 dL_law_1454 rfl ?_
  refine x_icmp_eq (tgt := 1461) (by omega) (by omega) dL_law_1456 (by decide) (fun _ => ?_) (fun h => absurd rfl h)
  refine x_iload 6 dL_law_1461 rfl ?_
  refine x_if_ne (tgt := 1478) (by omega) dL_law_1463 (by decide) (fun _ => ?_) (fun hE0 => ?_)
  · refine x_goto (tgt := 1865) dL_law_1478 (by decide) ?_
    refine x_sub [1, 2, 3, 4, 5] (ls2 := [(0, gx b), (1, gr 0), (2, gr 20), (3, gr 18), (4, gi ((5 * i : Nat) : Int))]) rfl ?_
    exact x_wide (by show kc + 1 + 0 + 0 ≤ kc + 100; omega) (by show ks + 6 + 0 + 0 ≤ ks + 2000; omega) kk
  · refine x_aload_n 4 dL_law_1466 rfl rfl ?_
    refine x_iconst dL_law_1467 ?_
    refine x_lald (N := 1) (n := 18) 0 rfl (by decide) rfl (by decide) dL_law_1468 (n2 h18b) (fun hr18 => ?_)
    refine x_iload 0 dL_law_1469 rfl ?_
    rw [gi_nrm W]
    refine x_i2l (nrm_rg W) dL_law_1471 ?_
    refine x_lcmp hr18 (nrm_rg W) dL_law_1472 ?_
    refine x_top (y := 0) (by rw [hv (by omega), icmp_self]) ?_
    refine x_if_eq (tgt := 1478) (by omega) dL_law_1473 (by decide) (fun _ => ?_) (fun h => absurd rfl h)
    refine x_goto (tgt := 1865) dL_law_1478 (by decide) ?_
    refine x_sub [1, 2, 3, 4, 5] (ls2 := [(0, gx b), (1, gr 0), (2, gr 20), (3, gr 18), (4, gi ((5 * i : Nat) : Int))]) rfl ?_
    exact x_wide (by show kc + 1 + 0 + 0 ≤ kc + 100; omega) (by show ks + 6 + 0 + 0 ≤ ks + 2000; omega) kk
set_option maxRecDepth 20000 in
theorem xl_ofPerson {P : Pst} {b Ls i kc ks : Nat} {xs : Nat → Int32} {L L1 : Nat → Nat} {A A1 A3 : Mem} {E : Nat} {W : Int} (hi : 5 * i + 5 ≤ Ls) (hLs : Ls ≤ 2560) (hkc : kc + 100 ≤ 601024) (hks : ks + 2000 ≤ 7293034) (h0 : L 0 = 2) (h18 : L 18 = 2) (h20 : L 20 = 2) (hM : LM L1) (h18b : L1 18 = 2) (hE3 : E ≤ 3) (hH : Ct mL_ofPerson [gr 0, gi (sx xs (5 * i + 1)), gi (sx xs (5 * i + 2)), gr 18] L A (pr (some (gi (E : Int))) L1 A1)) (hR : Ct mX4_ofPerson [gr 20, gi (sx xs (5 * i + 1)), gi (sx xs (5 * i + 2))] L1 A1 (pr (some (gi W)) L1 A3)) (hT : A3 20 0 = E) (hv : E = 0 → A3 18 0 = nrm W) (kk : GX (SX b Ls xs) mL_law P (kc + 100) (ks + 2000) 1865 [(0, gx b), (1, gr 0), (2, gr 20), (3, gr 18), (4, gi ((5 * i : Nat) : Int))] [] L1 A3) : GX (SX b Ls xs) mL_law P kc ks 1481 [(0, gx b), (1, gr 0), (2, gr 20), (3, gr 18), (4, gi ((5 * i : Nat) : Int))] [] L A := by
  refine x_aload_n 1 dL_law_1481 rfl rfl ?_
  refine x_arg (i := i) (k := 1) (j4 := 4) rfl rfl (by omega) hLs dL_law_1482 dL_law_1483 dL_law_1485 dL_law_1486 dL_law_1487 ?_
  refine x_arg (i := i) (k := 2) (j4 := 4) rfl rfl (by omega) hLs dL_law_1488 dL_law_1489 dL_law_1491 dL_law_1492 dL_law_1493 ?_
  refine x_aload_n 3 dL_law_1494 rfl rfl ?_
  refine x_cSH (My := mL_ofPerson) (gs := [_, _, _, _]) (st := []) hH mfL_ofPerson wst_L_ofPerson wm_L_171 dL_law_1495 (Nat.le_of_ble_eq_true rfl) rfl (fun _ => (Nat.le_of_ble_eq_true rfl)) (kfit hkc (Nat.le_of_ble_eq_true rfl)) (kfit hks (Nat.le_of_ble_eq_true rfl)) rfl ⟨(by simp only [List.forall_mem_cons]; exact ⟨trivial, okv_r (n2 h0) (by decide), okv_r (n2 h20) (by decide), okv_r (n2 h18) (by decide), okv_i _, fun _ h => absurd h List.not_mem_nil⟩), fun _ h => absurd h List.not_mem_nil⟩ rfl ?_
  refine x_st2 (ls2 := (5, _) :: [(0, gx b), (1, gr 0), (2, gr 20), (3, gr 18), (4, gi ((5 * i : Nat) : Int))]) dL_law_1498 (by decide) (c1_cx (c1_cr (c1_cr (c1_cr (c1_ci c1_0))))) rfl ?_
  refine x_sub [1, 2, 3, 4, 5, 0] (ls2 := [(0, gx b), (1, gr 0), (2, gr 20), (3, gr 18), (4, gi ((5 * i : Nat) : Int)), (5, _)]) rfl ?_
  refine x_aload_n 2 dL_law_1500 rfl rfl ?_
  refine x_arg (i := i) (k := 1) (j4 := 4) rfl rfl (by omega) hLs dL_law_1501 dL_law_1502 dL_law_1504 dL_law_1505 dL_law_1506 ?_
  refine x_arg (i := i) (k := 2) (j4 := 4) rfl rfl (by omega) hLs dL_law_1507 dL_law_1508 dL_law_1510 dL_law_1511 dL_law_1512 ?_
  refine x_cV_i (My := mX4_ofPerson) (gs := [_, _]) (st := []) hR mfX4_ofPerson cf_5 wi_X4_ofPerson wsl_X4_ofPerson wm_L_173 dL_law_1513 (Nat.le_of_ble_eq_true rfl) rfl (by decide) (n2 (hM 20 rfl)) rfl (fun _ => (Nat.le_of_ble_eq_true rfl)) (kfit2 hkc (Nat.le_of_ble_eq_true rfl)) (kfit2 hks (Nat.le_of_ble_eq_true rfl)) rfl rfl ?_
  refine x_st2 (ls2 := [(6, _), (0, gx b), (1, gr 0), (2, gr 20), (3, gr 18), (4, gi ((5 * i : Nat) : Int)), (5, _)]) dL_law_1516 (by decide) (c1_cx (c1_cr (c1_cr (c1_cr (c1_ci (c1_ci c1_0)))))) rfl ?_
  refine x_aload_n 3 dL_law_1518 rfl rfl ?_
  refine x_cV_i (My := mX4_thrown) (gs := []) (st := []) (c_X4_thrown hM) mfX4_thrown cf_5 wi_X4_thrown wsl_X4_thrown wm_L_105 dL_law_1519 (Nat.le_of_ble_eq_true rfl) rfl (by decide) (n2 (hM 20 rfl)) rfl (fun _ => (Nat.le_of_ble_eq_true rfl)) (kfit3 hkc (Nat.le_of_ble_eq_true rfl)) (kfit3 hks (Nat.le_of_ble_eq_true rfl)) rfl rfl ?_
  refine x_top (y := (E : Int)) hT ?_
  refine x_iload 6 dL_law_1522 rfl ?_
  refine x_icmp_eq (tgt := 1529) (by omega) (by omega) dL_law_1524 (by decide) (fun _ => ?_) (fun h => absurd rfl h)
  refine x_iload 6 dL_law_1529 rfl ?_
  refine x_if_ne (tgt := 1546) (by omega) dL_law_1531 (by decide) (fun _ => ?_) (fun hE0 => ?_)
  · refine x_goto (tgt := 1865) dL_law_1546 (by decide) ?_
    refine x_sub [1, 2, 3, 4, 5] (ls2 := [(0, gx b), (1, gr 0), (2, gr 20), (3, gr 18), (4, gi ((5 * i : Nat) : Int))]) rfl ?_
    exact x_wide (by show kc + 1 + 0 + 0 ≤ kc + 100; omega) (by show ks + 6 + 0 + 0 ≤ ks + 2000; omega) kk
  · refine x_aload_n 4 dL_law_1534 rfl rfl ?_
    refine x_iconst dL_law_1535 ?_
    refine x_lald (N := 1) (n := 18) 0 rfl (by decide) rfl (by decide) dL_law_1536 (n2 h18b) (fun hr18 => ?_)
    refine x_iload 0 dL_law_1537 rfl ?_
    rw [gi_nrm W]
    refine x_i2l (nrm_rg W) dL_law_1539 ?_
    refine x_lcmp hr18 (nrm_rg W) dL_law_1540 ?_
    refine x_top (y := 0) (by rw [hv (by omega), icmp_self]) ?_
    refine x_if_eq (tgt := 1546) (by omega) dL_law_1541 (by decide) (fun _ => ?_) (fun h => absurd rfl h)
    refine x_goto (tgt := 1865) dL_law_1546 (by decide) ?_
    refine x_sub [1, 2, 3, 4, 5] (ls2 := [(0, gx b), (1, gr 0), (2, gr 20), (3, gr 18), (4, gi ((5 * i : Nat) : Int))]) rfl ?_
    exact x_wide (by show kc + 1 + 0 + 0 ≤ kc + 100; omega) (by show ks + 6 + 0 + 0 ≤ ks + 2000; omega) kk
set_option maxRecDepth 20000 in
theorem xl_ofStone {P : Pst} {b Ls i kc ks : Nat} {xs : Nat → Int32} {L L1 : Nat → Nat} {A A1 A3 : Mem} {E : Nat} {W : Int} (hi : 5 * i + 5 ≤ Ls) (hLs : Ls ≤ 2560) (hkc : kc + 100 ≤ 601024) (hks : ks + 2000 ≤ 7293034) (h0 : L 0 = 2) (h18 : L 18 = 2) (h20 : L 20 = 2) (hM : LM L1) (h18b : L1 18 = 2) (hE3 : E ≤ 3) (hH : Ct mL_ofStone [gr 0, gi (sx xs (5 * i + 1)), gi (sx xs (5 * i + 2)), gr 18] L A (pr (some (gi (E : Int))) L1 A1)) (hR : Ct mX4_ofStone [gr 20, gi (sx xs (5 * i + 1)), gi (sx xs (5 * i + 2))] L1 A1 (pr (some (gi W)) L1 A3)) (hT : A3 20 0 = E) (hv : E = 0 → A3 18 0 = nrm W) (kk : GX (SX b Ls xs) mL_law P (kc + 100) (ks + 2000) 1865 [(0, gx b), (1, gr 0), (2, gr 20), (3, gr 18), (4, gi ((5 * i : Nat) : Int))] [] L1 A3) : GX (SX b Ls xs) mL_law P kc ks 1549 [(0, gx b), (1, gr 0), (2, gr 20), (3, gr 18), (4, gi ((5 * i : Nat) : Int))] [] L A := by
  refine x_aload_n 1 dL_law_1549 rfl rfl ?_
  refine x_arg (i := i) (k := 1) (j4 := 4) rfl rfl (by omega) hLs dL_law_1550 dL_law_1551 dL_law_1553 dL_law_1554 dL_law_1555 ?_
  refine x_arg (i := i) (k := 2) (j4 := 4) rfl rfl (by omega) hLs dL_law_1556 dL_law_1557 dL_law_1559 dL_law_1560 dL_law_1561 ?_
  refine x_aload_n 3 dL_law_1562 rfl rfl ?_
  refine x_cSH (My := mL_ofStone) (gs := [_, _, _, _]) (st := []) hH mfL_ofStone wst_L_ofStone wm_L_174 dL_law_1563 (Nat.le_of_ble_eq_true rfl) rfl (fun _ => (Nat.le_of_ble_eq_true rfl)) (kfit hkc (Nat.le_of_ble_eq_true rfl)) (kfit hks (Nat.le_of_ble_eq_true rfl)) rfl ⟨(by simp only [List.forall_mem_cons]; exact ⟨trivial, okv_r (n2 h0) (by decide), okv_r (n2 h20) (by decide), okv_r (n2 h18) (by decide), okv_i _, fun _ h => absurd h List.not_mem_nil⟩), fun _ h => absurd h List.not_mem_nil⟩ rfl ?_
  refine x_st2 (ls2 := (5, _) :: [(0, gx b), (1, gr 0), (2, gr 20), (3, gr 18), (4, gi ((5 * i : Nat) : Int))]) dL_law_1566 (by decide) (c1_cx (c1_cr (c1_cr (c1_cr (c1_ci c1_0))))) rfl ?_
  refine x_sub [1, 2, 3, 4, 5, 0] (ls2 := [(0, gx b), (1, gr 0), (2, gr 20), (3, gr 18), (4, gi ((5 * i : Nat) : Int)), (5, _)]) rfl ?_
  refine x_aload_n 2 dL_law_1568 rfl rfl ?_
  refine x_arg (i := i) (k := 1) (j4 := 4) rfl rfl (by omega) hLs dL_law_1569 dL_law_1570 dL_law_1572 dL_law_1573 dL_law_1574 ?_
  refine x_arg (i := i) (k := 2) (j4 := 4) rfl rfl (by omega) hLs dL_law_1575 dL_law_1576 dL_law_1578 dL_law_1579 dL_law_1580 ?_
  refine x_cV_i (My := mX4_ofStone) (gs := [_, _]) (st := []) hR mfX4_ofStone cf_5 wi_X4_ofStone wsl_X4_ofStone wm_L_176 dL_law_1581 (Nat.le_of_ble_eq_true rfl) rfl (by decide) (n2 (hM 20 rfl)) rfl (fun _ => (Nat.le_of_ble_eq_true rfl)) (kfit2 hkc (Nat.le_of_ble_eq_true rfl)) (kfit2 hks (Nat.le_of_ble_eq_true rfl)) rfl rfl ?_
  refine x_st2 (ls2 := [(6, _), (0, gx b), (1, gr 0), (2, gr 20), (3, gr 18), (4, gi ((5 * i : Nat) : Int)), (5, _)]) dL_law_1584 (by decide) (c1_cx (c1_cr (c1_cr (c1_cr (c1_ci (c1_ci c1_0)))))) rfl ?_
  refine x_aload_n 3 dL_law_1586 rfl rfl ?_
  refine x_cV_i (My := mX4_thrown) (gs := []) (st := []) (c_X4_thrown hM) mfX4_thrown cf_5 wi_X4_thrown wsl_X4_thrown wm_L_105 dL_law_1587 (Nat.le_of_ble_eq_true rfl) rfl (by decide) (n2 (hM 20 rfl)) rfl (fun _ => (Nat.le_of_ble_eq_true rfl)) (kfit3 hkc (Nat.le_of_ble_eq_true rfl)) (kfit3 hks (Nat.le_of_ble_eq_true rfl)) rfl rfl ?_
  refine x_top (y := (E : Int)) hT ?_
  refine x_iload 6 dL_law_1590 rfl ?_
  refine x_icmp_eq (tgt := 1597) (by omega) (by omega) dL_law_1592 (by decide) (fun _ => ?_) (fun h => absurd rfl h)
  refine x_iload 6 dL_law_1597 rfl ?_
  refine x_if_ne (tgt := 1614) (by omega) dL_law_1599 (by decide) (fun _ => ?_) (fun hE0 => ?_)
  · refine x_goto (tgt := 1865) dL_law_1614 (by decide) ?_
    refine x_sub [1, 2, 3, 4, 5] (ls2 := [(0, gx b), (1, gr 0), (2, gr 20), (3, gr 18), (4, gi ((5 * i : Nat) : Int))]) rfl ?_
    exact x_wide (by show kc + 1 + 0 + 0 ≤ kc + 100; omega) (by show ks + 6 + 0 + 0 ≤ ks + 2000; omega) kk
  · refine x_aload_n 4 dL_law_1602 rfl rfl ?_
    refine x_iconst dL_law_1603 ?_
    refine x_lald (N := 1) (n := 18) 0 rfl (by decide) rfl (by decide) dL_law_1604 (n2 h18b) (fun hr18 => ?_)
    refine x_iload 0 dL_law_1605 rfl ?_
    rw [gi_nrm W]
    refine x_i2l (nrm_rg W) dL_law_1607 ?_
    refine x_lcmp hr18 (nrm_rg W) dL_law_1608 ?_
    refine x_top (y := 0) (by rw [hv (by omega), icmp_self]) ?_
    refine x_if_eq (tgt := 1614) (by omega) dL_law_1609 (by decide) (fun _ => ?_) (fun h => absurd rfl h)
    refine x_goto (tgt := 1865) dL_law_1614 (by decide) ?_
    refine x_sub [1, 2, 3, 4, 5] (ls2 := [(0, gx b), (1, gr 0), (2, gr 20), (3, gr 18), (4, gi ((5 * i : Nat) : Int))]) rfl ?_
    exact x_wide (by show kc + 1 + 0 + 0 ≤ kc + 100; omega) (by show ks + 6 + 0 + 0 ≤ ks + 2000; omega) kk
set_option maxRecDepth 20000 in
theorem xl_purse {P : Pst} {b Ls i kc ks : Nat} {xs : Nat → Int32} {L L1 : Nat → Nat} {A A1 A3 : Mem} {E : Nat} {W : Int} (hi : 5 * i + 5 ≤ Ls) (hLs : Ls ≤ 2560) (hkc : kc + 100 ≤ 601024) (hks : ks + 2000 ≤ 7293034) (h0 : L 0 = 2) (h18 : L 18 = 2) (h20 : L 20 = 2) (hM : LM L1) (h18b : L1 18 = 2) (hE3 : E ≤ 3) (hH : Ct mL_purse [gr 0, gi (sx xs (5 * i + 1)), gr 18] L A (pr (some (gi (E : Int))) L1 A1)) (hR : Ct mX4_purse [gr 20, gi (sx xs (5 * i + 1))] L1 A1 (pr (some (gi W)) L1 A3)) (hT : A3 20 0 = E) (hv : E = 0 → A3 18 0 = nrm W) (kk : GX (SX b Ls xs) mL_law P (kc + 100) (ks + 2000) 1865 [(0, gx b), (1, gr 0), (2, gr 20), (3, gr 18), (4, gi ((5 * i : Nat) : Int))] [] L1 A3) : GX (SX b Ls xs) mL_law P kc ks 1617 [(0, gx b), (1, gr 0), (2, gr 20), (3, gr 18), (4, gi ((5 * i : Nat) : Int))] [] L A := by
  refine x_aload_n 1 dL_law_1617 rfl rfl ?_
  refine x_arg (i := i) (k := 1) (j4 := 4) rfl rfl (by omega) hLs dL_law_1618 dL_law_1619 dL_law_1621 dL_law_1622 dL_law_1623 ?_
  refine x_aload_n 3 dL_law_1624 rfl rfl ?_
  refine x_cSH (My := mL_purse) (gs := [_, _, _]) (st := []) hH mfL_purse wst_L_purse wm_L_177 dL_law_1625 (Nat.le_of_ble_eq_true rfl) rfl (fun _ => (Nat.le_of_ble_eq_true rfl)) (kfit hkc (Nat.le_of_ble_eq_true rfl)) (kfit hks (Nat.le_of_ble_eq_true rfl)) rfl ⟨(by simp only [List.forall_mem_cons]; exact ⟨trivial, okv_r (n2 h0) (by decide), okv_r (n2 h20) (by decide), okv_r (n2 h18) (by decide), okv_i _, fun _ h => absurd h List.not_mem_nil⟩), fun _ h => absurd h List.not_mem_nil⟩ rfl ?_
  refine x_st2 (ls2 := (5, _) :: [(0, gx b), (1, gr 0), (2, gr 20), (3, gr 18), (4, gi ((5 * i : Nat) : Int))]) dL_law_1628 (by decide) (c1_cx (c1_cr (c1_cr (c1_cr (c1_ci c1_0))))) rfl ?_
  refine x_sub [1, 2, 3, 4, 5, 0] (ls2 := [(0, gx b), (1, gr 0), (2, gr 20), (3, gr 18), (4, gi ((5 * i : Nat) : Int)), (5, _)]) rfl ?_
  refine x_aload_n 2 dL_law_1630 rfl rfl ?_
  refine x_arg (i := i) (k := 1) (j4 := 4) rfl rfl (by omega) hLs dL_law_1631 dL_law_1632 dL_law_1634 dL_law_1635 dL_law_1636 ?_
  refine x_cV_i (My := mX4_purse) (gs := [_]) (st := []) hR mfX4_purse cf_5 wi_X4_purse wsl_X4_purse wm_L_179 dL_law_1637 (Nat.le_of_ble_eq_true rfl) rfl (by decide) (n2 (hM 20 rfl)) rfl (fun _ => (Nat.le_of_ble_eq_true rfl)) (kfit2 hkc (Nat.le_of_ble_eq_true rfl)) (kfit2 hks (Nat.le_of_ble_eq_true rfl)) rfl rfl ?_
  refine x_st2 (ls2 := [(6, _), (0, gx b), (1, gr 0), (2, gr 20), (3, gr 18), (4, gi ((5 * i : Nat) : Int)), (5, _)]) dL_law_1640 (by decide) (c1_cx (c1_cr (c1_cr (c1_cr (c1_ci (c1_ci c1_0)))))) rfl ?_
  refine x_aload_n 3 dL_law_1642 rfl rfl ?_
  refine x_cV_i (My := mX4_thrown) (gs := []) (st := []) (c_X4_thrown hM) mfX4_thrown cf_5 wi_X4_thrown wsl_X4_thrown wm_L_105 dL_law_1643 (Nat.le_of_ble_eq_true rfl) rfl (by decide) (n2 (hM 20 rfl)) rfl (fun _ => (Nat.le_of_ble_eq_true rfl)) (kfit3 hkc (Nat.le_of_ble_eq_true rfl)) (kfit3 hks (Nat.le_of_ble_eq_true rfl)) rfl rfl ?_
  refine x_top (y := (E : Int)) hT ?_
  refine x_iload 6 dL_law_1646 rfl ?_
  refine x_icmp_eq (tgt := 1653) (by omega) (by omega) dL_law_1648 (by decide) (fun _ => ?_) (fun h => absurd rfl h)
  refine x_iload 6 dL_law_1653 rfl ?_
  refine x_if_ne (tgt := 1670) (by omega) dL_law_1655 (by decide) (fun _ => ?_) (fun hE0 => ?_)
  · refine x_goto (tgt := 1865) dL_law_1670 (by decide) ?_
    refine x_sub [1, 2, 3, 4, 5] (ls2 := [(0, gx b), (1, gr 0), (2, gr 20), (3, gr 18), (4, gi ((5 * i : Nat) : Int))]) rfl ?_
    exact x_wide (by show kc + 1 + 0 + 0 ≤ kc + 100; omega) (by show ks + 6 + 0 + 0 ≤ ks + 2000; omega) kk
  · refine x_aload_n 4 dL_law_1658 rfl rfl ?_
    refine x_iconst dL_law_1659 ?_
    refine x_lald (N := 1) (n := 18) 0 rfl (by decide) rfl (by decide) dL_law_1660 (n2 h18b) (fun hr18 => ?_)
    refine x_iload 0 dL_law_1661 rfl ?_
    rw [gi_nrm W]
    refine x_i2l (nrm_rg W) dL_law_1663 ?_
    refine x_lcmp hr18 (nrm_rg W) dL_law_1664 ?_
    refine x_top (y := 0) (by rw [hv (by omega), icmp_self]) ?_
    refine x_if_eq (tgt := 1670) (by omega) dL_law_1665 (by decide) (fun _ => ?_) (fun h => absurd rfl h)
    refine x_goto (tgt := 1865) dL_law_1670 (by decide) ?_
    refine x_sub [1, 2, 3, 4, 5] (ls2 := [(0, gx b), (1, gr 0), (2, gr 20), (3, gr 18), (4, gi ((5 * i : Nat) : Int))]) rfl ?_
    exact x_wide (by show kc + 1 + 0 + 0 ≤ kc + 100; omega) (by show ks + 6 + 0 + 0 ≤ ks + 2000; omega) kk
set_option maxRecDepth 20000 in
theorem xl_carats {P : Pst} {b Ls i kc ks : Nat} {xs : Nat → Int32} {L L1 : Nat → Nat} {A A1 A3 : Mem} {E : Nat} {W : Int} (hi : 5 * i + 5 ≤ Ls) (hLs : Ls ≤ 2560) (hkc : kc + 100 ≤ 601024) (hks : ks + 2000 ≤ 7293034) (h0 : L 0 = 2) (h18 : L 18 = 2) (h20 : L 20 = 2) (hM : LM L1) (h18b : L1 18 = 2) (hE3 : E ≤ 3) (hH : Ct mL_carats [gr 0, gi (sx xs (5 * i + 1)), gr 18] L A (pr (some (gi (E : Int))) L1 A1)) (hR : Ct mX4_carats [gr 20, gi (sx xs (5 * i + 1))] L1 A1 (pr (some (gi W)) L1 A3)) (hT : A3 20 0 = E) (hv : E = 0 → A3 18 0 = nrm W) (kk : GX (SX b Ls xs) mL_law P (kc + 100) (ks + 2000) 1865 [(0, gx b), (1, gr 0), (2, gr 20), (3, gr 18), (4, gi ((5 * i : Nat) : Int))] [] L1 A3) : GX (SX b Ls xs) mL_law P kc ks 1673 [(0, gx b), (1, gr 0), (2, gr 20), (3, gr 18), (4, gi ((5 * i : Nat) : Int))] [] L A := by
  refine x_aload_n 1 dL_law_1673 rfl rfl ?_
  refine x_arg (i := i) (k := 1) (j4 := 4) rfl rfl (by omega) hLs dL_law_1674 dL_law_1675 dL_law_1677 dL_law_1678 dL_law_1679 ?_
  refine x_aload_n 3 dL_law_1680 rfl rfl ?_
  refine x_cSH (My := mL_carats) (gs := [_, _, _]) (st := []) hH mfL_carats wst_L_carats wm_L_180 dL_law_1681 (Nat.le_of_ble_eq_true rfl) rfl (fun _ => (Nat.le_of_ble_eq_true rfl)) (kfit hkc (Nat.le_of_ble_eq_true rfl)) (kfit hks (Nat.le_of_ble_eq_true rfl)) rfl ⟨(by simp only [List.forall_mem_cons]; exact ⟨trivial, okv_r (n2 h0) (by decide), okv_r (n2 h20) (by decide), okv_r (n2 h18) (by decide), okv_i _, fun _ h => absurd h List.not_mem_nil⟩), fun _ h => absurd h List.not_mem_nil⟩ rfl ?_
  refine x_st2 (ls2 := (5, _) :: [(0, gx b), (1, gr 0), (2, gr 20), (3, gr 18), (4, gi ((5 * i : Nat) : Int))]) dL_law_1684 (by decide) (c1_cx (c1_cr (c1_cr (c1_cr (c1_ci c1_0))))) rfl ?_
  refine x_sub [1, 2, 3, 4, 5, 0] (ls2 := [(0, gx b), (1, gr 0), (2, gr 20), (3, gr 18), (4, gi ((5 * i : Nat) : Int)), (5, _)]) rfl ?_
  refine x_aload_n 2 dL_law_1686 rfl rfl ?_
  refine x_arg (i := i) (k := 1) (j4 := 4) rfl rfl (by omega) hLs dL_law_1687 dL_law_1688 dL_law_1690 dL_law_1691 dL_law_1692 ?_
  refine x_cV_i (My := mX4_carats) (gs := [_]) (st := []) hR mfX4_carats cf_5 wi_X4_carats wsl_X4_carats wm_L_182 dL_law_1693 (Nat.le_of_ble_eq_true rfl) rfl (by decide) (n2 (hM 20 rfl)) rfl (fun _ => (Nat.le_of_ble_eq_true rfl)) (kfit2 hkc (Nat.le_of_ble_eq_true rfl)) (kfit2 hks (Nat.le_of_ble_eq_true rfl)) rfl rfl ?_
  refine x_st2 (ls2 := [(6, _), (0, gx b), (1, gr 0), (2, gr 20), (3, gr 18), (4, gi ((5 * i : Nat) : Int)), (5, _)]) dL_law_1696 (by decide) (c1_cx (c1_cr (c1_cr (c1_cr (c1_ci (c1_ci c1_0)))))) rfl ?_
  refine x_aload_n 3 dL_law_1698 rfl rfl ?_
  refine x_cV_i (My := mX4_thrown) (gs := []) (st := []) (c_X4_thrown hM) mfX4_thrown cf_5 wi_X4_thrown wsl_X4_thrown wm_L_105 dL_law_1699 (Nat.le_of_ble_eq_true rfl) rfl (by decide) (n2 (hM 20 rfl)) rfl (fun _ => (Nat.le_of_ble_eq_true rfl)) (kfit3 hkc (Nat.le_of_ble_eq_true rfl)) (kfit3 hks (Nat.le_of_ble_eq_true rfl)) rfl rfl ?_
  refine x_top (y := (E : Int)) hT ?_
  refine x_iload 6 dL_law_1702 rfl ?_
  refine x_icmp_eq (tgt := 1709) (by omega) (by omega) dL_law_1704 (by decide) (fun _ => ?_) (fun h => absurd rfl h)
  refine x_iload 6 dL_law_1709 rfl ?_
  refine x_if_ne (tgt := 1726) (by omega) dL_law_1711 (by decide) (fun _ => ?_) (fun hE0 => ?_)
  · refine x_goto (tgt := 1865) dL_law_1726 (by decide) ?_
    refine x_sub [1, 2, 3, 4, 5] (ls2 := [(0, gx b), (1, gr 0), (2, gr 20), (3, gr 18), (4, gi ((5 * i : Nat) : Int))]) rfl ?_
    exact x_wide (by show kc + 1 + 0 + 0 ≤ kc + 100; omega) (by show ks + 6 + 0 + 0 ≤ ks + 2000; omega) kk
  · refine x_aload_n 4 dL_law_1714 rfl rfl ?_
    refine x_iconst dL_law_1715 ?_
    refine x_lald (N := 1) (n := 18) 0 rfl (by decide) rfl (by decide) dL_law_1716 (n2 h18b) (fun hr18 => ?_)
    refine x_iload 0 dL_law_1717 rfl ?_
    rw [gi_nrm W]
    refine x_i2l (nrm_rg W) dL_law_1719 ?_
    refine x_lcmp hr18 (nrm_rg W) dL_law_1720 ?_
    refine x_top (y := 0) (by rw [hv (by omega), icmp_self]) ?_
    refine x_if_eq (tgt := 1726) (by omega) dL_law_1721 (by decide) (fun _ => ?_) (fun h => absurd rfl h)
    refine x_goto (tgt := 1865) dL_law_1726 (by decide) ?_
    refine x_sub [1, 2, 3, 4, 5] (ls2 := [(0, gx b), (1, gr 0), (2, gr 20), (3, gr 18), (4, gi ((5 * i : Nat) : Int))]) rfl ?_
    exact x_wide (by show kc + 1 + 0 + 0 ≤ kc + 100; omega) (by show ks + 6 + 0 + 0 ≤ ks + 2000; omega) kk
set_option maxRecDepth 20000 in
theorem xl_plan {P : Pst} {b Ls i kc ks : Nat} {xs : Nat → Int32} {L L1 : Nat → Nat} {A A1 A3 : Mem} {E : Nat} {W : Int} (hi : 5 * i + 5 ≤ Ls) (hLs : Ls ≤ 2560) (hkc : kc + 100 ≤ 601024) (hks : ks + 2000 ≤ 7293034) (h0 : L 0 = 2) (h18 : L 18 = 2) (h20 : L 20 = 2) (hM : LM L1) (h18b : L1 18 = 2) (hE3 : E ≤ 3) (hH : Ct mL_plan [gr 0, gi (sx xs (5 * i + 1)), gi (sx xs (5 * i + 2)), gr 18] L A (pr (some (gi (E : Int))) L1 A1)) (hR : Ct mX4_plan [gr 20, gi (sx xs (5 * i + 1)), gi (sx xs (5 * i + 2))] L1 A1 (pr (some (gi W)) L1 A3)) (hT : A3 20 0 = E) (hv : E = 0 → A3 18 0 = nrm W) (kk : GX (SX b Ls xs) mL_law P (kc + 100) (ks + 2000) 1865 [(0, gx b), (1, gr 0), (2, gr 20), (3, gr 18), (4, gi ((5 * i : Nat) : Int))] [] L1 A3) : GX (SX b Ls xs) mL_law P kc ks 1729 [(0, gx b), (1, gr 0), (2, gr 20), (3, gr 18), (4, gi ((5 * i : Nat) : Int))] [] L A := by
  refine x_aload_n 1 dL_law_1729 rfl rfl ?_
  refine x_arg (i := i) (k := 1) (j4 := 4) rfl rfl (by omega) hLs dL_law_1730 dL_law_1731 dL_law_1733 dL_law_1734 dL_law_1735 ?_
  refine x_arg (i := i) (k := 2) (j4 := 4) rfl rfl (by omega) hLs dL_law_1736 dL_law_1737 dL_law_1739 dL_law_1740 dL_law_1741 ?_
  refine x_aload_n 3 dL_law_1742 rfl rfl ?_
  refine x_cSH (My := mL_plan) (gs := [_, _, _, _]) (st := []) hH mfL_plan wst_L_plan wm_L_183 dL_law_1743 (Nat.le_of_ble_eq_true rfl) rfl (fun _ => (Nat.le_of_ble_eq_true rfl)) (kfit hkc (Nat.le_of_ble_eq_true rfl)) (kfit hks (Nat.le_of_ble_eq_true rfl)) rfl ⟨(by simp only [List.forall_mem_cons]; exact ⟨trivial, okv_r (n2 h0) (by decide), okv_r (n2 h20) (by decide), okv_r (n2 h18) (by decide), okv_i _, fun _ h => absurd h List.not_mem_nil⟩), fun _ h => absurd h List.not_mem_nil⟩ rfl ?_
  refine x_st2 (ls2 := (5, _) :: [(0, gx b), (1, gr 0), (2, gr 20), (3, gr 18), (4, gi ((5 * i : Nat) : Int))]) dL_law_1746 (by decide) (c1_cx (c1_cr (c1_cr (c1_cr (c1_ci c1_0))))) rfl ?_
  refine x_sub [1, 2, 3, 4, 5, 0] (ls2 := [(0, gx b), (1, gr 0), (2, gr 20), (3, gr 18), (4, gi ((5 * i : Nat) : Int)), (5, _)]) rfl ?_
  refine x_aload_n 2 dL_law_1748 rfl rfl ?_
  refine x_arg (i := i) (k := 1) (j4 := 4) rfl rfl (by omega) hLs dL_law_1749 dL_law_1750 dL_law_1752 dL_law_1753 dL_law_1754 ?_
  refine x_arg (i := i) (k := 2) (j4 := 4) rfl rfl (by omega) hLs dL_law_1755 dL_law_1756 dL_law_1758 dL_law_1759 dL_law_1760 ?_
  refine x_cV_i (My := mX4_plan) (gs := [_, _]) (st := []) hR mfX4_plan cf_5 wi_X4_plan wsl_X4_plan wm_L_185 dL_law_1761 (Nat.le_of_ble_eq_true rfl) rfl (by decide) (n2 (hM 20 rfl)) rfl (fun _ => (Nat.le_of_ble_eq_true rfl)) (kfit2 hkc (Nat.le_of_ble_eq_true rfl)) (kfit2 hks (Nat.le_of_ble_eq_true rfl)) rfl rfl ?_
  refine x_st2 (ls2 := [(6, _), (0, gx b), (1, gr 0), (2, gr 20), (3, gr 18), (4, gi ((5 * i : Nat) : Int)), (5, _)]) dL_law_1764 (by decide) (c1_cx (c1_cr (c1_cr (c1_cr (c1_ci (c1_ci c1_0)))))) rfl ?_
  refine x_aload_n 3 dL_law_1766 rfl rfl ?_
  refine x_cV_i (My := mX4_thrown) (gs := []) (st := []) (c_X4_thrown hM) mfX4_thrown cf_5 wi_X4_thrown wsl_X4_thrown wm_L_105 dL_law_1767 (Nat.le_of_ble_eq_true rfl) rfl (by decide) (n2 (hM 20 rfl)) rfl (fun _ => (Nat.le_of_ble_eq_true rfl)) (kfit3 hkc (Nat.le_of_ble_eq_true rfl)) (kfit3 hks (Nat.le_of_ble_eq_true rfl)) rfl rfl ?_
  refine x_top (y := (E : Int)) hT ?_
  refine x_iload 6 dL_law_1770 rfl ?_
  refine x_icmp_eq (tgt := 1777) (by omega) (by omega) dL_law_1772 (by decide) (fun _ => ?_) (fun h => absurd rfl h)
  refine x_iload 6 dL_law_1777 rfl ?_
  refine x_if_ne (tgt := 1794) (by omega) dL_law_1779 (by decide) (fun _ => ?_) (fun hE0 => ?_)
  · refine x_goto (tgt := 1865) dL_law_1794 (by decide) ?_
    refine x_sub [1, 2, 3, 4, 5] (ls2 := [(0, gx b), (1, gr 0), (2, gr 20), (3, gr 18), (4, gi ((5 * i : Nat) : Int))]) rfl ?_
    exact x_wide (by show kc + 1 + 0 + 0 ≤ kc + 100; omega) (by show ks + 6 + 0 + 0 ≤ ks + 2000; omega) kk
  · refine x_aload_n 4 dL_law_1782 rfl rfl ?_
    refine x_iconst dL_law_1783 ?_
    refine x_lald (N := 1) (n := 18) 0 rfl (by decide) rfl (by decide) dL_law_1784 (n2 h18b) (fun hr18 => ?_)
    refine x_iload 0 dL_law_1785 rfl ?_
    rw [gi_nrm W]
    refine x_i2l (nrm_rg W) dL_law_1787 ?_
    refine x_lcmp hr18 (nrm_rg W) dL_law_1788 ?_
    refine x_top (y := 0) (by rw [hv (by omega), icmp_self]) ?_
    refine x_if_eq (tgt := 1794) (by omega) dL_law_1789 (by decide) (fun _ => ?_) (fun h => absurd rfl h)
    refine x_goto (tgt := 1865) dL_law_1794 (by decide) ?_
    refine x_sub [1, 2, 3, 4, 5] (ls2 := [(0, gx b), (1, gr 0), (2, gr 20), (3, gr 18), (4, gi ((5 * i : Nat) : Int))]) rfl ?_
    exact x_wide (by show kc + 1 + 0 + 0 ≤ kc + 100; omega) (by show ks + 6 + 0 + 0 ≤ ks + 2000; omega) kk
set_option maxRecDepth 20000 in
theorem xl_planAnew {P : Pst} {b Ls i kc ks : Nat} {xs : Nat → Int32} {L L1 : Nat → Nat} {A A1 A3 : Mem} {E : Nat} {W : Int} (hi : 5 * i + 5 ≤ Ls) (hLs : Ls ≤ 2560) (hkc : kc + 100 ≤ 601024) (hks : ks + 2000 ≤ 7293034) (h0 : L 0 = 2) (h18 : L 18 = 2) (h20 : L 20 = 2) (hM : LM L1) (h18b : L1 18 = 2) (hE3 : E ≤ 3) (hH : Ct mL_planAnew [gr 0, gi (sx xs (5 * i + 1)), gi (sx xs (5 * i + 2)), gr 18] L A (pr (some (gi (E : Int))) L1 A1)) (hR : Ct mX4_planAnew [gr 20, gi (sx xs (5 * i + 1)), gi (sx xs (5 * i + 2))] L1 A1 (pr (some (gi W)) L1 A3)) (hT : A3 20 0 = E) (hv : E = 0 → A3 18 0 = nrm W) (kk : GX (SX b Ls xs) mL_law P (kc + 100) (ks + 2000) 1865 [(0, gx b), (1, gr 0), (2, gr 20), (3, gr 18), (4, gi ((5 * i : Nat) : Int))] [] L1 A3) : GX (SX b Ls xs) mL_law P kc ks 1797 [(0, gx b), (1, gr 0), (2, gr 20), (3, gr 18), (4, gi ((5 * i : Nat) : Int))] [] L A := by
  refine x_aload_n 1 dL_law_1797 rfl rfl ?_
  refine x_arg (i := i) (k := 1) (j4 := 4) rfl rfl (by omega) hLs dL_law_1798 dL_law_1799 dL_law_1801 dL_law_1802 dL_law_1803 ?_
  refine x_arg (i := i) (k := 2) (j4 := 4) rfl rfl (by omega) hLs dL_law_1804 dL_law_1805 dL_law_1807 dL_law_1808 dL_law_1809 ?_
  refine x_aload_n 3 dL_law_1810 rfl rfl ?_
  refine x_cSH (My := mL_planAnew) (gs := [_, _, _, _]) (st := []) hH mfL_planAnew wst_L_planAnew wm_L_186 dL_law_1811 (Nat.le_of_ble_eq_true rfl) rfl (fun _ => (Nat.le_of_ble_eq_true rfl)) (kfit hkc (Nat.le_of_ble_eq_true rfl)) (kfit hks (Nat.le_of_ble_eq_true rfl)) rfl ⟨(by simp only [List.forall_mem_cons]; exact ⟨trivial, okv_r (n2 h0) (by decide), okv_r (n2 h20) (by decide), okv_r (n2 h18) (by decide), okv_i _, fun _ h => absurd h List.not_mem_nil⟩), fun _ h => absurd h List.not_mem_nil⟩ rfl ?_
  refine x_st2 (ls2 := (5, _) :: [(0, gx b), (1, gr 0), (2, gr 20), (3, gr 18), (4, gi ((5 * i : Nat) : Int))]) dL_law_1814 (by decide) (c1_cx (c1_cr (c1_cr (c1_cr (c1_ci c1_0))))) rfl ?_
  refine x_sub [1, 2, 3, 4, 5, 0] (ls2 := [(0, gx b), (1, gr 0), (2, gr 20), (3, gr 18), (4, gi ((5 * i : Nat) : Int)), (5, _)]) rfl ?_
  refine x_aload_n 2 dL_law_1816 rfl rfl ?_
  refine x_arg (i := i) (k := 1) (j4 := 4) rfl rfl (by omega) hLs dL_law_1817 dL_law_1818 dL_law_1820 dL_law_1821 dL_law_1822 ?_
  refine x_arg (i := i) (k := 2) (j4 := 4) rfl rfl (by omega) hLs dL_law_1823 dL_law_1824 dL_law_1826 dL_law_1827 dL_law_1828 ?_
  refine x_cV_i (My := mX4_planAnew) (gs := [_, _]) (st := []) hR mfX4_planAnew cf_5 wi_X4_planAnew wsl_X4_planAnew wm_L_188 dL_law_1829 (Nat.le_of_ble_eq_true rfl) rfl (by decide) (n2 (hM 20 rfl)) rfl (fun _ => (Nat.le_of_ble_eq_true rfl)) (kfit2 hkc (Nat.le_of_ble_eq_true rfl)) (kfit2 hks (Nat.le_of_ble_eq_true rfl)) rfl rfl ?_
  refine x_st2 (ls2 := [(6, _), (0, gx b), (1, gr 0), (2, gr 20), (3, gr 18), (4, gi ((5 * i : Nat) : Int)), (5, _)]) dL_law_1832 (by decide) (c1_cx (c1_cr (c1_cr (c1_cr (c1_ci (c1_ci c1_0)))))) rfl ?_
  refine x_aload_n 3 dL_law_1834 rfl rfl ?_
  refine x_cV_i (My := mX4_thrown) (gs := []) (st := []) (c_X4_thrown hM) mfX4_thrown cf_5 wi_X4_thrown wsl_X4_thrown wm_L_105 dL_law_1835 (Nat.le_of_ble_eq_true rfl) rfl (by decide) (n2 (hM 20 rfl)) rfl (fun _ => (Nat.le_of_ble_eq_true rfl)) (kfit3 hkc (Nat.le_of_ble_eq_true rfl)) (kfit3 hks (Nat.le_of_ble_eq_true rfl)) rfl rfl ?_
  refine x_top (y := (E : Int)) hT ?_
  refine x_iload 6 dL_law_1838 rfl ?_
  refine x_icmp_eq (tgt := 1845) (by omega) (by omega) dL_law_1840 (by decide) (fun _ => ?_) (fun h => absurd rfl h)
  refine x_iload 6 dL_law_1845 rfl ?_
  refine x_if_ne (tgt := 1862) (by omega) dL_law_1847 (by decide) (fun _ => ?_) (fun hE0 => ?_)
  · refine x_goto (tgt := 1865) dL_law_1862 (by decide) ?_
    refine x_sub [1, 2, 3, 4, 5] (ls2 := [(0, gx b), (1, gr 0), (2, gr 20), (3, gr 18), (4, gi ((5 * i : Nat) : Int))]) rfl ?_
    exact x_wide (by show kc + 1 + 0 + 0 ≤ kc + 100; omega) (by show ks + 6 + 0 + 0 ≤ ks + 2000; omega) kk
  · refine x_aload_n 4 dL_law_1850 rfl rfl ?_
    refine x_iconst dL_law_1851 ?_
    refine x_lald (N := 1) (n := 18) 0 rfl (by decide) rfl (by decide) dL_law_1852 (n2 h18b) (fun hr18 => ?_)
    refine x_iload 0 dL_law_1853 rfl ?_
    rw [gi_nrm W]
    refine x_i2l (nrm_rg W) dL_law_1855 ?_
    refine x_lcmp hr18 (nrm_rg W) dL_law_1856 ?_
    refine x_top (y := 0) (by rw [hv (by omega), icmp_self]) ?_
    refine x_if_eq (tgt := 1862) (by omega) dL_law_1857 (by decide) (fun _ => ?_) (fun h => absurd rfl h)
    refine x_goto (tgt := 1865) dL_law_1862 (by decide) ?_
    refine x_sub [1, 2, 3, 4, 5] (ls2 := [(0, gx b), (1, gr 0), (2, gr 20), (3, gr 18), (4, gi ((5 * i : Nat) : Int))]) rfl ?_
    exact x_wide (by show kc + 1 + 0 + 0 ≤ kc + 100; omega) (by show ks + 6 + 0 + 0 ≤ ks + 2000; omega) kk
