theorem LI_mono {i : Nat} {L : Nat → Nat} {A : Mem} (h : LI i L A) : LI (i + 1) L A := by
  obtain ⟨hV, hX, hI, hJ, hR, hM, h18, h8⟩ := h
  exact ⟨hV, hX, hI, hJ, hR, hM, h18, fun p => by have := h8 p; omega⟩
section GLOOP
variable {P : Pst} {b Ls i kc ks : Nat} {xs : Nat → Int32} {L : Nat → Nat} {A : Mem}
set_option maxRecDepth 20000 in
theorem xs_hour (hkc : kc + 100 ≤ 601024) (hks : ks + 2000 ≤ 7293034) (h : LI i L A)
    (kk : ∀ (L' : Nat → Nat) (A' : Mem), LI (i + 1) L' A' → GX (SX b Ls xs) mL_law P (kc + 100) (ks + 2000) 1865 [(0, gx b), (1, gr 0), (2, gr 20), (3, gr 18), (4, gi ((5 * i : Nat) : Int))] [] L' A') : GX (SX b Ls xs) mL_law P kc ks 1140 [(0, gx b), (1, gr 0), (2, gr 20), (3, gr 18), (4, gi ((5 * i : Nat) : Int))] [] L A := by
  obtain ⟨hV, hX, hI, hJ, hR, hM, h18, h8⟩ := id h
  have hL := vc_L hV
  refine x_aload_n 1 dL_law_1140 rfl rfl ?_
  refine x_cV_i (My := mX3_hour) (gs := []) (st := []) (c_X3_hour hV) mfX3_hour cf_4 wi_X3_hour wsl_X3_hour wm_L_152 dL_law_1141 (Nat.le_of_ble_eq_true rfl) rfl (by decide) (n2 (hL 0 rfl)) rfl (fun _ => (Nat.le_of_ble_eq_true rfl)) (kfit hkc (Nat.le_of_ble_eq_true rfl)) (kfit hks (Nat.le_of_ble_eq_true rfl)) rfl rfl ?_
  refine x_aload_n 2 dL_law_1144 rfl rfl ?_
  refine x_cV_i (My := mX4_hour) (gs := []) (st := [gi (A 0 9)]) (c_X4_hour hM hV hR) mfX4_hour cf_5 wi_X4_hour wsl_X4_hour wm_L_155 dL_law_1145 (Nat.le_of_ble_eq_true rfl) rfl (by decide) (n2 (hM 20 rfl)) rfl (fun _ => (Nat.le_of_ble_eq_true rfl)) (kfit2 hkc (Nat.le_of_ble_eq_true rfl)) (kfit2 hks (Nat.le_of_ble_eq_true rfl)) rfl rfl ?_
  have hp := (vc_p hV).1
  refine x_icmp_eq (tgt := 1865) (by omega) (by omega) dL_law_1148 (by decide) (fun _ => ?_) (fun q => absurd rfl q)
  exact x_wide (by show kc + 0 + 0 ≤ kc + 100; omega) (by show ks + 0 + 0 ≤ ks + 2000; omega) (kk _ _ (LI_err h 0))

theorem xs_seam (hi : 5 * i + 5 ≤ Ls) (hLs : Ls ≤ 2560) (hkc : kc + 100 ≤ 601024) (hks : ks + 2000 ≤ 7293034) (h : LI i L A)
    (kk : ∀ (L' : Nat → Nat) (A' : Mem), LI (i + 1) L' A' → GX (SX b Ls xs) mL_law P (kc + 100) (ks + 2000) 1865 [(0, gx b), (1, gr 0), (2, gr 20), (3, gr 18), (4, gi ((5 * i : Nat) : Int))] [] L' A') : GX (SX b Ls xs) mL_law P kc ks 156 [(0, gx b), (1, gr 0), (2, gr 20), (3, gr 18), (4, gi ((5 * i : Nat) : Int))] [] L A := by
  obtain ⟨E, L1, A1, A3, hE3, hH, hR, hT, hM, h18b, hLI⟩ := st_seam h (by omega) (sx_rg xs (5 * i + 1)) (sx_rg xs (5 * i + 2)) (sx_rg xs (5 * i + 3))
  exact xl_seam hi hLs hkc hks (vc_L h.1 0 rfl) h.2.2.2.2.2.2.1 (h.2.2.2.2.2.1 20 rfl) hM h18b hE3 hH hR hT (kk _ _ hLI)
theorem xs_pass (hi : 5 * i + 5 ≤ Ls) (hLs : Ls ≤ 2560) (hkc : kc + 100 ≤ 601024) (hks : ks + 2000 ≤ 7293034) (h : LI i L A)
    (kk : ∀ (L' : Nat → Nat) (A' : Mem), LI (i + 1) L' A' → GX (SX b Ls xs) mL_law P (kc + 100) (ks + 2000) 1865 [(0, gx b), (1, gr 0), (2, gr 20), (3, gr 18), (4, gi ((5 * i : Nat) : Int))] [] L' A') : GX (SX b Ls xs) mL_law P kc ks 216 [(0, gx b), (1, gr 0), (2, gr 20), (3, gr 18), (4, gi ((5 * i : Nat) : Int))] [] L A := by
  obtain ⟨E, W, L1, A1, A3, hE3, hH, hR, hT, hv, hM, h18b, hLI⟩ := st_pass h (by omega) (sx_rg xs (5 * i + 1))
  exact xl_pass hi hLs hkc hks (vc_L h.1 0 rfl) h.2.2.2.2.2.2.1 (h.2.2.2.2.2.1 20 rfl) hM h18b hE3 hH hR hT hv (kk _ _ hLI)
theorem xs_peg (hi : 5 * i + 5 ≤ Ls) (hLs : Ls ≤ 2560) (hkc : kc + 100 ≤ 601024) (hks : ks + 2000 ≤ 7293034) (h : LI i L A)
    (kk : ∀ (L' : Nat → Nat) (A' : Mem), LI (i + 1) L' A' → GX (SX b Ls xs) mL_law P (kc + 100) (ks + 2000) 1865 [(0, gx b), (1, gr 0), (2, gr 20), (3, gr 18), (4, gi ((5 * i : Nat) : Int))] [] L' A') : GX (SX b Ls xs) mL_law P kc ks 272 [(0, gx b), (1, gr 0), (2, gr 20), (3, gr 18), (4, gi ((5 * i : Nat) : Int))] [] L A := by
  obtain ⟨E, W, L1, A1, A3, hE3, hH, hR, hT, hv, hM, h18b, hLI⟩ := st_peg h (by omega) (sx_rg xs (5 * i + 1)) (sx_rg xs (5 * i + 2)) (sx_rg xs (5 * i + 3)) (sx_rg xs (5 * i + 4))
  exact xl_peg hi hLs hkc hks (vc_L h.1 0 rfl) h.2.2.2.2.2.2.1 (h.2.2.2.2.2.1 20 rfl) hM h18b hE3 hH hR hT hv (kk _ _ hLI)
theorem xs_witness (hi : 5 * i + 5 ≤ Ls) (hLs : Ls ≤ 2560) (hkc : kc + 100 ≤ 601024) (hks : ks + 2000 ≤ 7293034) (h : LI i L A)
    (kk : ∀ (L' : Nat → Nat) (A' : Mem), LI (i + 1) L' A' → GX (SX b Ls xs) mL_law P (kc + 100) (ks + 2000) 1865 [(0, gx b), (1, gr 0), (2, gr 20), (3, gr 18), (4, gi ((5 * i : Nat) : Int))] [] L' A') : GX (SX b Ls xs) mL_law P kc ks 364 [(0, gx b), (1, gr 0), (2, gr 20), (3, gr 18), (4, gi ((5 * i : Nat) : Int))] [] L A := by
  obtain ⟨E, W, L1, A1, A3, hE3, hH, hR, hT, hv, hM, h18b, hLI⟩ := st_witness h (by omega) (sx_rg xs (5 * i + 1)) (sx_rg xs (5 * i + 2)) (sx_rg xs (5 * i + 3))
  exact xl_witness hi hLs hkc hks (vc_L h.1 0 rfl) h.2.2.2.2.2.2.1 (h.2.2.2.2.2.1 20 rfl) hM h18b hE3 hH hR hT hv (kk _ _ hLI)
theorem xs_partner (hi : 5 * i + 5 ≤ Ls) (hLs : Ls ≤ 2560) (hkc : kc + 100 ≤ 601024) (hks : ks + 2000 ≤ 7293034) (h : LI i L A)
    (kk : ∀ (L' : Nat → Nat) (A' : Mem), LI (i + 1) L' A' → GX (SX b Ls xs) mL_law P (kc + 100) (ks + 2000) 1865 [(0, gx b), (1, gr 0), (2, gr 20), (3, gr 18), (4, gi ((5 * i : Nat) : Int))] [] L' A') : GX (SX b Ls xs) mL_law P kc ks 444 [(0, gx b), (1, gr 0), (2, gr 20), (3, gr 18), (4, gi ((5 * i : Nat) : Int))] [] L A := by
  obtain ⟨E, W, L1, A1, A3, hE3, hH, hR, hT, hv, hM, h18b, hLI⟩ := st_partner h (by omega) (sx_rg xs (5 * i + 1)) (sx_rg xs (5 * i + 2)) (sx_rg xs (5 * i + 3))
  exact xl_partner hi hLs hkc hks (vc_L h.1 0 rfl) h.2.2.2.2.2.2.1 (h.2.2.2.2.2.1 20 rfl) hM h18b hE3 hH hR hT hv (kk _ _ hLI)
theorem xs_dig (hi : 5 * i + 5 ≤ Ls) (hLs : Ls ≤ 2560) (hkc : kc + 100 ≤ 601024) (hks : ks + 2000 ≤ 7293034) (h : LI i L A)
    (kk : ∀ (L' : Nat → Nat) (A' : Mem), LI (i + 1) L' A' → GX (SX b Ls xs) mL_law P (kc + 100) (ks + 2000) 1865 [(0, gx b), (1, gr 0), (2, gr 20), (3, gr 18), (4, gi ((5 * i : Nat) : Int))] [] L' A') : GX (SX b Ls xs) mL_law P kc ks 524 [(0, gx b), (1, gr 0), (2, gr 20), (3, gr 18), (4, gi ((5 * i : Nat) : Int))] [] L A := by
  obtain ⟨E, W, L1, A1, A3, hE3, hH, hR, hT, hv, hM, h18b, hLI⟩ := st_dig h (by omega) (sx_rg xs (5 * i + 1)) (sx_rg xs (5 * i + 2)) (sx_rg xs (5 * i + 3))
  exact xl_dig hi hLs hkc hks (vc_L h.1 0 rfl) h.2.2.2.2.2.2.1 (h.2.2.2.2.2.1 20 rfl) hM h18b hE3 hH hR hT hv (kk _ _ hLI)
theorem xs_sink (hi : 5 * i + 5 ≤ Ls) (hLs : Ls ≤ 2560) (hkc : kc + 100 ≤ 601024) (hks : ks + 2000 ≤ 7293034) (h : LI i L A)
    (kk : ∀ (L' : Nat → Nat) (A' : Mem), LI (i + 1) L' A' → GX (SX b Ls xs) mL_law P (kc + 100) (ks + 2000) 1865 [(0, gx b), (1, gr 0), (2, gr 20), (3, gr 18), (4, gi ((5 * i : Nat) : Int))] [] L' A') : GX (SX b Ls xs) mL_law P kc ks 604 [(0, gx b), (1, gr 0), (2, gr 20), (3, gr 18), (4, gi ((5 * i : Nat) : Int))] [] L A := by
  obtain ⟨E, W, L1, A1, A3, hE3, hH, hR, hT, hv, hM, h18b, hLI⟩ := st_sink h (by omega) (sx_rg xs (5 * i + 1)) (sx_rg xs (5 * i + 2)) (sx_rg xs (5 * i + 3))
  exact xl_sink hi hLs hkc hks (vc_L h.1 0 rfl) h.2.2.2.2.2.2.1 (h.2.2.2.2.2.1 20 rfl) hM h18b hE3 hH hR hT hv (kk _ _ hLI)
theorem xs_prop (hi : 5 * i + 5 ≤ Ls) (hLs : Ls ≤ 2560) (hkc : kc + 100 ≤ 601024) (hks : ks + 2000 ≤ 7293034) (h : LI i L A)
    (kk : ∀ (L' : Nat → Nat) (A' : Mem), LI (i + 1) L' A' → GX (SX b Ls xs) mL_law P (kc + 100) (ks + 2000) 1865 [(0, gx b), (1, gr 0), (2, gr 20), (3, gr 18), (4, gi ((5 * i : Nat) : Int))] [] L' A') : GX (SX b Ls xs) mL_law P kc ks 684 [(0, gx b), (1, gr 0), (2, gr 20), (3, gr 18), (4, gi ((5 * i : Nat) : Int))] [] L A := by
  obtain ⟨E, L1, A1, A3, hE3, hH, hR, hT, hM, h18b, hLI⟩ := st_prop h (by omega) (sx_rg xs (5 * i + 1)) (sx_rg xs (5 * i + 2)) (sx_rg xs (5 * i + 3))
  exact xl_prop hi hLs hkc hks (vc_L h.1 0 rfl) h.2.2.2.2.2.2.1 (h.2.2.2.2.2.1 20 rfl) hM h18b hE3 hH hR hT (kk _ _ hLI)
theorem xs_trap (hi : 5 * i + 5 ≤ Ls) (hLs : Ls ≤ 2560) (hkc : kc + 100 ≤ 601024) (hks : ks + 2000 ≤ 7293034) (h : LI i L A)
    (kk : ∀ (L' : Nat → Nat) (A' : Mem), LI (i + 1) L' A' → GX (SX b Ls xs) mL_law P (kc + 100) (ks + 2000) 1865 [(0, gx b), (1, gr 0), (2, gr 20), (3, gr 18), (4, gi ((5 * i : Nat) : Int))] [] L' A') : GX (SX b Ls xs) mL_law P kc ks 744 [(0, gx b), (1, gr 0), (2, gr 20), (3, gr 18), (4, gi ((5 * i : Nat) : Int))] [] L A := by
  obtain ⟨E, W, L1, A1, A3, hE3, hH, hR, hT, hv, hM, h18b, hLI⟩ := st_trap h (by omega) (sx_rg xs (5 * i + 1)) (sx_rg xs (5 * i + 2)) (sx_rg xs (5 * i + 3))
  exact xl_trap hi hLs hkc hks (vc_L h.1 0 rfl) h.2.2.2.2.2.2.1 (h.2.2.2.2.2.1 20 rfl) hM h18b hE3 hH hR hT hv (kk _ _ hLI)
theorem xs_rat (hi : 5 * i + 5 ≤ Ls) (hLs : Ls ≤ 2560) (hkc : kc + 100 ≤ 601024) (hks : ks + 2000 ≤ 7293034) (h : LI i L A)
    (kk : ∀ (L' : Nat → Nat) (A' : Mem), LI (i + 1) L' A' → GX (SX b Ls xs) mL_law P (kc + 100) (ks + 2000) 1865 [(0, gx b), (1, gr 0), (2, gr 20), (3, gr 18), (4, gi ((5 * i : Nat) : Int))] [] L' A') : GX (SX b Ls xs) mL_law P kc ks 824 [(0, gx b), (1, gr 0), (2, gr 20), (3, gr 18), (4, gi ((5 * i : Nat) : Int))] [] L A := by
  obtain ⟨E, W, L1, A1, A3, hE3, hH, hR, hT, hv, hM, h18b, hLI⟩ := st_rat h (by omega) (sx_rg xs (5 * i + 1)) (sx_rg xs (5 * i + 2))
  exact xl_rat hi hLs hkc hks (vc_L h.1 0 rfl) h.2.2.2.2.2.2.1 (h.2.2.2.2.2.1 20 rfl) hM h18b hE3 hH hR hT hv (kk _ _ hLI)
theorem xs_divide (hi : 5 * i + 5 ≤ Ls) (hLs : Ls ≤ 2560) (hkc : kc + 100 ≤ 601024) (hks : ks + 2000 ≤ 7293034) (h : LI i L A)
    (kk : ∀ (L' : Nat → Nat) (A' : Mem), LI (i + 1) L' A' → GX (SX b Ls xs) mL_law P (kc + 100) (ks + 2000) 1865 [(0, gx b), (1, gr 0), (2, gr 20), (3, gr 18), (4, gi ((5 * i : Nat) : Int))] [] L' A') : GX (SX b Ls xs) mL_law P kc ks 892 [(0, gx b), (1, gr 0), (2, gr 20), (3, gr 18), (4, gi ((5 * i : Nat) : Int))] [] L A := by
  obtain ⟨E, W, L1, A1, A3, hE3, hH, hR, hT, hv, hM, h18b, hLI⟩ := st_divide h (by omega) (sx_rg xs (5 * i + 1))
  exact xl_divide hi hLs hkc hks (vc_L h.1 0 rfl) h.2.2.2.2.2.2.1 (h.2.2.2.2.2.1 20 rfl) hM h18b hE3 hH hR hT hv (kk _ _ hLI)
theorem xs_rub (hi : 5 * i + 5 ≤ Ls) (hLs : Ls ≤ 2560) (hkc : kc + 100 ≤ 601024) (hks : ks + 2000 ≤ 7293034) (h : LI i L A)
    (kk : ∀ (L' : Nat → Nat) (A' : Mem), LI (i + 1) L' A' → GX (SX b Ls xs) mL_law P (kc + 100) (ks + 2000) 1865 [(0, gx b), (1, gr 0), (2, gr 20), (3, gr 18), (4, gi ((5 * i : Nat) : Int))] [] L' A') : GX (SX b Ls xs) mL_law P kc ks 948 [(0, gx b), (1, gr 0), (2, gr 20), (3, gr 18), (4, gi ((5 * i : Nat) : Int))] [] L A := by
  obtain ⟨E, W, L1, A1, A3, hE3, hH, hR, hT, hv, hM, h18b, hLI⟩ := st_rub h (by omega) (sx_rg xs (5 * i + 1))
  exact xl_rub hi hLs hkc hks (vc_L h.1 0 rfl) h.2.2.2.2.2.2.1 (h.2.2.2.2.2.1 20 rfl) hM h18b hE3 hH hR hT hv (kk _ _ hLI)
theorem xs_bid (hi : 5 * i + 5 ≤ Ls) (hLs : Ls ≤ 2560) (hkc : kc + 100 ≤ 601024) (hks : ks + 2000 ≤ 7293034) (h : LI i L A)
    (kk : ∀ (L' : Nat → Nat) (A' : Mem), LI (i + 1) L' A' → GX (SX b Ls xs) mL_law P (kc + 100) (ks + 2000) 1865 [(0, gx b), (1, gr 0), (2, gr 20), (3, gr 18), (4, gi ((5 * i : Nat) : Int))] [] L' A') : GX (SX b Ls xs) mL_law P kc ks 1004 [(0, gx b), (1, gr 0), (2, gr 20), (3, gr 18), (4, gi ((5 * i : Nat) : Int))] [] L A := by
  obtain ⟨E, W, L1, A1, A3, hE3, hH, hR, hT, hv, hM, h18b, hLI⟩ := st_bid h (by omega) (sx_rg xs (5 * i + 1)) (sx_rg xs (5 * i + 2)) (sx_rg xs (5 * i + 3))
  exact xl_bid hi hLs hkc hks (vc_L h.1 0 rfl) h.2.2.2.2.2.2.1 (h.2.2.2.2.2.1 20 rfl) hM h18b hE3 hH hR hT hv (kk _ _ hLI)
theorem xs_sell (hi : 5 * i + 5 ≤ Ls) (hLs : Ls ≤ 2560) (hkc : kc + 100 ≤ 601024) (hks : ks + 2000 ≤ 7293034) (h : LI i L A)
    (kk : ∀ (L' : Nat → Nat) (A' : Mem), LI (i + 1) L' A' → GX (SX b Ls xs) mL_law P (kc + 100) (ks + 2000) 1865 [(0, gx b), (1, gr 0), (2, gr 20), (3, gr 18), (4, gi ((5 * i : Nat) : Int))] [] L' A') : GX (SX b Ls xs) mL_law P kc ks 1084 [(0, gx b), (1, gr 0), (2, gr 20), (3, gr 18), (4, gi ((5 * i : Nat) : Int))] [] L A := by
  obtain ⟨E, W, L1, A1, A3, hE3, hH, hR, hT, hv, hM, h18b, hLI⟩ := st_sell h (by omega) (sx_rg xs (5 * i + 1))
  exact xl_sell hi hLs hkc hks (vc_L h.1 0 rfl) h.2.2.2.2.2.2.1 (h.2.2.2.2.2.1 20 rfl) hM h18b hE3 hH hR hT hv (kk _ _ hLI)
theorem xs_bore (hi : 5 * i + 5 ≤ Ls) (hLs : Ls ≤ 2560) (hkc : kc + 100 ≤ 601024) (hks : ks + 2000 ≤ 7293034) (h : LI i L A)
    (kk : ∀ (L' : Nat → Nat) (A' : Mem), LI (i + 1) L' A' → GX (SX b Ls xs) mL_law P (kc + 100) (ks + 2000) 1865 [(0, gx b), (1, gr 0), (2, gr 20), (3, gr 18), (4, gi ((5 * i : Nat) : Int))] [] L' A') : GX (SX b Ls xs) mL_law P kc ks 1153 [(0, gx b), (1, gr 0), (2, gr 20), (3, gr 18), (4, gi ((5 * i : Nat) : Int))] [] L A := by
  obtain ⟨E, W, L1, A1, A3, hE3, hH, hR, hT, hv, hM, h18b, hLI⟩ := st_bore h (by omega) (sx_rg xs (5 * i + 1))
  exact xl_bore hi hLs hkc hks (vc_L h.1 0 rfl) h.2.2.2.2.2.2.1 (h.2.2.2.2.2.1 20 rfl) hM h18b hE3 hH hR hT hv (kk _ _ hLI)
theorem xs_ofCell (hi : 5 * i + 5 ≤ Ls) (hLs : Ls ≤ 2560) (hkc : kc + 100 ≤ 601024) (hks : ks + 2000 ≤ 7293034) (h : LI i L A)
    (kk : ∀ (L' : Nat → Nat) (A' : Mem), LI (i + 1) L' A' → GX (SX b Ls xs) mL_law P (kc + 100) (ks + 2000) 1865 [(0, gx b), (1, gr 0), (2, gr 20), (3, gr 18), (4, gi ((5 * i : Nat) : Int))] [] L' A') : GX (SX b Ls xs) mL_law P kc ks 1209 [(0, gx b), (1, gr 0), (2, gr 20), (3, gr 18), (4, gi ((5 * i : Nat) : Int))] [] L A := by
  obtain ⟨E, W, L1, A1, A3, hE3, hH, hR, hT, hv, hM, h18b, hLI⟩ := st_ofCell h (by omega) (sx_rg xs (5 * i + 1)) (sx_rg xs (5 * i + 2))
  exact xl_ofCell hi hLs hkc hks (vc_L h.1 0 rfl) h.2.2.2.2.2.2.1 (h.2.2.2.2.2.1 20 rfl) hM h18b hE3 hH hR hT hv (kk _ _ hLI)
theorem xs_ofClaim (hi : 5 * i + 5 ≤ Ls) (hLs : Ls ≤ 2560) (hkc : kc + 100 ≤ 601024) (hks : ks + 2000 ≤ 7293034) (h : LI i L A)
    (kk : ∀ (L' : Nat → Nat) (A' : Mem), LI (i + 1) L' A' → GX (SX b Ls xs) mL_law P (kc + 100) (ks + 2000) 1865 [(0, gx b), (1, gr 0), (2, gr 20), (3, gr 18), (4, gi ((5 * i : Nat) : Int))] [] L' A') : GX (SX b Ls xs) mL_law P kc ks 1277 [(0, gx b), (1, gr 0), (2, gr 20), (3, gr 18), (4, gi ((5 * i : Nat) : Int))] [] L A := by
  obtain ⟨E, W, L1, A1, A3, hE3, hH, hR, hT, hv, hM, h18b, hLI⟩ := st_ofClaim h (by omega) (sx_rg xs (5 * i + 1)) (sx_rg xs (5 * i + 2))
  exact xl_ofClaim hi hLs hkc hks (vc_L h.1 0 rfl) h.2.2.2.2.2.2.1 (h.2.2.2.2.2.1 20 rfl) hM h18b hE3 hH hR hT hv (kk _ _ hLI)
theorem xs_share (hi : 5 * i + 5 ≤ Ls) (hLs : Ls ≤ 2560) (hkc : kc + 100 ≤ 601024) (hks : ks + 2000 ≤ 7293034) (h : LI i L A)
    (kk : ∀ (L' : Nat → Nat) (A' : Mem), LI (i + 1) L' A' → GX (SX b Ls xs) mL_law P (kc + 100) (ks + 2000) 1865 [(0, gx b), (1, gr 0), (2, gr 20), (3, gr 18), (4, gi ((5 * i : Nat) : Int))] [] L' A') : GX (SX b Ls xs) mL_law P kc ks 1345 [(0, gx b), (1, gr 0), (2, gr 20), (3, gr 18), (4, gi ((5 * i : Nat) : Int))] [] L A := by
  obtain ⟨E, W, L1, A1, A3, hE3, hH, hR, hT, hv, hM, h18b, hLI⟩ := st_share h (by omega) (sx_rg xs (5 * i + 1)) (sx_rg xs (5 * i + 2))
  exact xl_share hi hLs hkc hks (vc_L h.1 0 rfl) h.2.2.2.2.2.2.1 (h.2.2.2.2.2.1 20 rfl) hM h18b hE3 hH hR hT hv (kk _ _ hLI)
theorem xs_verdict (hi : 5 * i + 5 ≤ Ls) (hLs : Ls ≤ 2560) (hkc : kc + 100 ≤ 601024) (hks : ks + 2000 ≤ 7293034) (h : LI i L A)
    (kk : ∀ (L' : Nat → Nat) (A' : Mem), LI (i + 1) L' A' → GX (SX b Ls xs) mL_law P (kc + 100) (ks + 2000) 1865 [(0, gx b), (1, gr 0), (2, gr 20), (3, gr 18), (4, gi ((5 * i : Nat) : Int))] [] L' A') : GX (SX b Ls xs) mL_law P kc ks 1413 [(0, gx b), (1, gr 0), (2, gr 20), (3, gr 18), (4, gi ((5 * i : Nat) : Int))] [] L A := by
  obtain ⟨E, W, L1, A1, A3, hE3, hH, hR, hT, hv, hM, h18b, hLI⟩ := st_verdict h (by omega) (sx_rg xs (5 * i + 1)) (sx_rg xs (5 * i + 2))
  exact xl_verdict hi hLs hkc hks (vc_L h.1 0 rfl) h.2.2.2.2.2.2.1 (h.2.2.2.2.2.1 20 rfl) hM h18b hE3 hH hR hT hv (kk _ _ hLI)
theorem xs_ofPerson (hi : 5 * i + 5 ≤ Ls) (hLs : Ls ≤ 2560) (hkc : kc + 100 ≤ 601024) (hks : ks + 2000 ≤ 7293034) (h : LI i L A)
    (kk : ∀ (L' : Nat → Nat) (A' : Mem), LI (i + 1) L' A' → GX (SX b Ls xs) mL_law P (kc + 100) (ks + 2000) 1865 [(0, gx b), (1, gr 0), (2, gr 20), (3, gr 18), (4, gi ((5 * i : Nat) : Int))] [] L' A') : GX (SX b Ls xs) mL_law P kc ks 1481 [(0, gx b), (1, gr 0), (2, gr 20), (3, gr 18), (4, gi ((5 * i : Nat) : Int))] [] L A := by
  obtain ⟨E, W, L1, A1, A3, hE3, hH, hR, hT, hv, hM, h18b, hLI⟩ := st_ofPerson h (by omega) (sx_rg xs (5 * i + 1)) (sx_rg xs (5 * i + 2))
  exact xl_ofPerson hi hLs hkc hks (vc_L h.1 0 rfl) h.2.2.2.2.2.2.1 (h.2.2.2.2.2.1 20 rfl) hM h18b hE3 hH hR hT hv (kk _ _ hLI)
theorem xs_ofStone (hi : 5 * i + 5 ≤ Ls) (hLs : Ls ≤ 2560) (hkc : kc + 100 ≤ 601024) (hks : ks + 2000 ≤ 7293034) (h : LI i L A)
    (kk : ∀ (L' : Nat → Nat) (A' : Mem), LI (i + 1) L' A' → GX (SX b Ls xs) mL_law P (kc + 100) (ks + 2000) 1865 [(0, gx b), (1, gr 0), (2, gr 20), (3, gr 18), (4, gi ((5 * i : Nat) : Int))] [] L' A') : GX (SX b Ls xs) mL_law P kc ks 1549 [(0, gx b), (1, gr 0), (2, gr 20), (3, gr 18), (4, gi ((5 * i : Nat) : Int))] [] L A := by
  obtain ⟨E, W, L1, A1, A3, hE3, hH, hR, hT, hv, hM, h18b, hLI⟩ := st_ofStone h (by omega) (sx_rg xs (5 * i + 1)) (sx_rg xs (5 * i + 2))
  exact xl_ofStone hi hLs hkc hks (vc_L h.1 0 rfl) h.2.2.2.2.2.2.1 (h.2.2.2.2.2.1 20 rfl) hM h18b hE3 hH hR hT hv (kk _ _ hLI)
theorem xs_purse (hi : 5 * i + 5 ≤ Ls) (hLs : Ls ≤ 2560) (hkc : kc + 100 ≤ 601024) (hks : ks + 2000 ≤ 7293034) (h : LI i L A)
    (kk : ∀ (L' : Nat → Nat) (A' : Mem), LI (i + 1) L' A' → GX (SX b Ls xs) mL_law P (kc + 100) (ks + 2000) 1865 [(0, gx b), (1, gr 0), (2, gr 20), (3, gr 18), (4, gi ((5 * i : Nat) : Int))] [] L' A') : GX (SX b Ls xs) mL_law P kc ks 1617 [(0, gx b), (1, gr 0), (2, gr 20), (3, gr 18), (4, gi ((5 * i : Nat) : Int))] [] L A := by
  obtain ⟨E, W, L1, A1, A3, hE3, hH, hR, hT, hv, hM, h18b, hLI⟩ := st_purse h (by omega) (sx_rg xs (5 * i + 1))
  exact xl_purse hi hLs hkc hks (vc_L h.1 0 rfl) h.2.2.2.2.2.2.1 (h.2.2.2.2.2.1 20 rfl) hM h18b hE3 hH hR hT hv (kk _ _ hLI)
theorem xs_carats (hi : 5 * i + 5 ≤ Ls) (hLs : Ls ≤ 2560) (hkc : kc + 100 ≤ 601024) (hks : ks + 2000 ≤ 7293034) (h : LI i L A)
    (kk : ∀ (L' : Nat → Nat) (A' : Mem), LI (i + 1) L' A' → GX (SX b Ls xs) mL_law P (kc + 100) (ks + 2000) 1865 [(0, gx b), (1, gr 0), (2, gr 20), (3, gr 18), (4, gi ((5 * i : Nat) : Int))] [] L' A') : GX (SX b Ls xs) mL_law P kc ks 1673 [(0, gx b), (1, gr 0), (2, gr 20), (3, gr 18), (4, gi ((5 * i : Nat) : Int))] [] L A := by
  obtain ⟨E, W, L1, A1, A3, hE3, hH, hR, hT, hv, hM, h18b, hLI⟩ := st_carats h (by omega) (sx_rg xs (5 * i + 1))
  exact xl_carats hi hLs hkc hks (vc_L h.1 0 rfl) h.2.2.2.2.2.2.1 (h.2.2.2.2.2.1 20 rfl) hM h18b hE3 hH hR hT hv (kk _ _ hLI)
theorem xs_plan (hi : 5 * i + 5 ≤ Ls) (hLs : Ls ≤ 2560) (hkc : kc + 100 ≤ 601024) (hks : ks + 2000 ≤ 7293034) (h : LI i L A)
    (kk : ∀ (L' : Nat → Nat) (A' : Mem), LI (i + 1) L' A' → GX (SX b Ls xs) mL_law P (kc + 100) (ks + 2000) 1865 [(0, gx b), (1, gr 0), (2, gr 20), (3, gr 18), (4, gi ((5 * i : Nat) : Int))] [] L' A') : GX (SX b Ls xs) mL_law P kc ks 1729 [(0, gx b), (1, gr 0), (2, gr 20), (3, gr 18), (4, gi ((5 * i : Nat) : Int))] [] L A := by
  obtain ⟨E, W, L1, A1, A3, hE3, hH, hR, hT, hv, hM, h18b, hLI⟩ := st_plan h (by omega) (sx_rg xs (5 * i + 1)) (sx_rg xs (5 * i + 2))
  exact xl_plan hi hLs hkc hks (vc_L h.1 0 rfl) h.2.2.2.2.2.2.1 (h.2.2.2.2.2.1 20 rfl) hM h18b hE3 hH hR hT hv (kk _ _ hLI)
theorem xs_planAnew (hi : 5 * i + 5 ≤ Ls) (hLs : Ls ≤ 2560) (hkc : kc + 100 ≤ 601024) (hks : ks + 2000 ≤ 7293034) (h : LI i L A)
    (kk : ∀ (L' : Nat → Nat) (A' : Mem), LI (i + 1) L' A' → GX (SX b Ls xs) mL_law P (kc + 100) (ks + 2000) 1865 [(0, gx b), (1, gr 0), (2, gr 20), (3, gr 18), (4, gi ((5 * i : Nat) : Int))] [] L' A') : GX (SX b Ls xs) mL_law P kc ks 1797 [(0, gx b), (1, gr 0), (2, gr 20), (3, gr 18), (4, gi ((5 * i : Nat) : Int))] [] L A := by
  obtain ⟨E, W, L1, A1, A3, hE3, hH, hR, hT, hv, hM, h18b, hLI⟩ := st_planAnew h (by omega) (sx_rg xs (5 * i + 1)) (sx_rg xs (5 * i + 2))
  exact xl_planAnew hi hLs hkc hks (vc_L h.1 0 rfl) h.2.2.2.2.2.2.1 (h.2.2.2.2.2.1 20 rfl) hM h18b hE3 hH hR hT hv (kk _ _ hLI)
set_option maxHeartbeats 1000000 in
set_option maxRecDepth 20000 in
theorem x_loop (hLs : Ls ≤ 2560) (hP : ∀ (L : Nat → Nat) (A : Mem), P (.inr (some (gi 1))) L A) (d : Nat) : ∀ (i kc ks : Nat) (L : Nat → Nat) (A : Mem), i + d = Ls / 5 → kc + 100 * d ≤ 601024 → ks + 2000 * d ≤ 7293034 → LI i L A → GX (SX b Ls xs) mL_law P kc ks 23 [(0, gx b), (1, gr 0), (2, gr 20), (3, gr 18), (4, gi ((5 * i : Nat) : Int))] [] L A := by
  induction d with
  | zero =>
    intro i kc ks L A hid hkc hks h
    refine x_iload 4 dL_law_23 rfl ?_
    refine x_aldx 0 dL_law_25 rfl rfl ?_
    refine x_slen dL_law_26 ?_
    refine x_iconst dL_law_27 ?_
    refine x_isub dL_law_28 ?_
    refine x_icmp_gt (tgt := 1871) (by omega) (by omega) dL_law_29 (by decide) (fun _ => ?_) (fun q => absurd q (by omega))
    refine x_iconst dL_law_1871 ?_
    exact x_zret dL_law_1872 rfl (Or.inr rfl) (by show kc ≤ 601024; omega) (by show ks ≤ 7293034; omega) (hP _ _)
  | succ d ih =>
    intro i kc ks L A hid hkc hks h
    have hi : 5 * i + 5 ≤ Ls := by omega
    have hkc2 : kc + 100 ≤ 601024 := by omega
    have hks2 : ks + 2000 ≤ 7293034 := by omega
    have hk : ∀ (L' : Nat → Nat) (A' : Mem), LI (i + 1) L' A' → GX (SX b Ls xs) mL_law P (kc + 100) (ks + 2000) 1865 [(0, gx b), (1, gr 0), (2, gr 20), (3, gr 18), (4, gi ((5 * i : Nat) : Int))] [] L' A' := fun L' A' h' => by
      refine x_inc (ls2 := [(4, gi (((5 * i : Nat) : Int) + 5)), (0, gx b), (1, gr 0), (2, gr 20), (3, gr 18)]) 4 dL_law_1865 rfl (by decide) (c1_cx (c1_cr (c1_cr (c1_cr (c1_ci c1_0))))) rfl ?_
      refine x_goto (tgt := 23) dL_law_1868 (by decide) ?_
      refine x_sub [1, 2, 3, 4, 0] (ls2 := [(0, gx b), (1, gr 0), (2, gr 20), (3, gr 18), (4, gi (((5 * i : Nat) : Int) + 5))]) rfl ?_
      refine x_ls (ls2 := [(0, gx b), (1, gr 0), (2, gr 20), (3, gr 18), (4, gi ((5 * (i + 1) : Nat) : Int))]) (by rw [show ((5 * (i + 1) : Nat) : Int) = ((5 * i : Nat) : Int) + 5 by omega]) rfl rfl ?_
      exact ih (i + 1) (kc + 100) (ks + 2000) L' A' (by omega) (by omega) (by omega) h'
    refine x_iload 4 dL_law_23 rfl ?_
    refine x_aldx 0 dL_law_25 rfl rfl ?_
    refine x_slen dL_law_26 ?_
    refine x_iconst dL_law_27 ?_
    refine x_isub dL_law_28 ?_
    refine x_icmp_gt (tgt := 1871) (by omega) (by omega) dL_law_29 (by decide) (fun q => absurd q (by omega)) (fun _ => ?_)
    refine x_aldx 0 dL_law_32 rfl rfl ?_
    refine x_iload 4 dL_law_33 rfl ?_
    refine x_sld (5 * i) rfl (by omega) hLs dL_law_35 ?_
    refine x_bipush dL_law_36 (by decide) ?_
    refine x_iand31 dL_law_38 (fun y hy0 hy1 => ?_)
    refine x_tsw (dt := 1865) (by omega) dL_law_39 (by decide) (fun _ => ?_) (fun h1 h2 => ?_)
    · exact x_wide (by omega) (by omega) (hk L A (LI_mono h))
    · rcases (show y = 0 ∨ y = 1 ∨ y = 2 ∨ y = 3 ∨ y = 4 ∨ y = 5 ∨ y = 6 ∨ y = 7 ∨ y = 8 ∨ y = 9 ∨ y = 10 ∨ y = 11 ∨ y = 12 ∨ y = 13 ∨ y = 14 ∨ y = 15 ∨ y = 16 ∨ y = 17 ∨ y = 18 ∨ y = 19 ∨ y = 20 ∨ y = 21 ∨ y = 22 ∨ y = 23 ∨ y = 24 ∨ y = 25 by omega) with hs | hs | hs | hs | hs | hs | hs | hs | hs | hs | hs | hs | hs | hs | hs | hs | hs | hs | hs | hs | hs | hs | hs | hs | hs | hs
      · exact ⟨_, 156, by rw [hs]; rfl, by decide, xs_seam hi hLs hkc2 hks2 h hk⟩
      · exact ⟨_, 216, by rw [hs]; rfl, by decide, xs_pass hi hLs hkc2 hks2 h hk⟩
      · exact ⟨_, 272, by rw [hs]; rfl, by decide, xs_peg hi hLs hkc2 hks2 h hk⟩
      · exact ⟨_, 364, by rw [hs]; rfl, by decide, xs_witness hi hLs hkc2 hks2 h hk⟩
      · exact ⟨_, 444, by rw [hs]; rfl, by decide, xs_partner hi hLs hkc2 hks2 h hk⟩
      · exact ⟨_, 524, by rw [hs]; rfl, by decide, xs_dig hi hLs hkc2 hks2 h hk⟩
      · exact ⟨_, 604, by rw [hs]; rfl, by decide, xs_sink hi hLs hkc2 hks2 h hk⟩
      · exact ⟨_, 684, by rw [hs]; rfl, by decide, xs_prop hi hLs hkc2 hks2 h hk⟩
      · exact ⟨_, 744, by rw [hs]; rfl, by decide, xs_trap hi hLs hkc2 hks2 h hk⟩
      · exact ⟨_, 824, by rw [hs]; rfl, by decide, xs_rat hi hLs hkc2 hks2 h hk⟩
      · exact ⟨_, 892, by rw [hs]; rfl, by decide, xs_divide hi hLs hkc2 hks2 h hk⟩
      · exact ⟨_, 948, by rw [hs]; rfl, by decide, xs_rub hi hLs hkc2 hks2 h hk⟩
      · exact ⟨_, 1004, by rw [hs]; rfl, by decide, xs_bid hi hLs hkc2 hks2 h hk⟩
      · exact ⟨_, 1084, by rw [hs]; rfl, by decide, xs_sell hi hLs hkc2 hks2 h hk⟩
      · exact ⟨_, 1140, by rw [hs]; rfl, by decide, xs_hour hkc2 hks2 h hk⟩
      · exact ⟨_, 1153, by rw [hs]; rfl, by decide, xs_bore hi hLs hkc2 hks2 h hk⟩
      · exact ⟨_, 1209, by rw [hs]; rfl, by decide, xs_ofCell hi hLs hkc2 hks2 h hk⟩
      · exact ⟨_, 1277, by rw [hs]; rfl, by decide, xs_ofClaim hi hLs hkc2 hks2 h hk⟩
      · exact ⟨_, 1345, by rw [hs]; rfl, by decide, xs_share hi hLs hkc2 hks2 h hk⟩
      · exact ⟨_, 1413, by rw [hs]; rfl, by decide, xs_verdict hi hLs hkc2 hks2 h hk⟩
      · exact ⟨_, 1481, by rw [hs]; rfl, by decide, xs_ofPerson hi hLs hkc2 hks2 h hk⟩
      · exact ⟨_, 1549, by rw [hs]; rfl, by decide, xs_ofStone hi hLs hkc2 hks2 h hk⟩
      · exact ⟨_, 1617, by rw [hs]; rfl, by decide, xs_purse hi hLs hkc2 hks2 h hk⟩
      · exact ⟨_, 1673, by rw [hs]; rfl, by decide, xs_carats hi hLs hkc2 hks2 h hk⟩
      · exact ⟨_, 1729, by rw [hs]; rfl, by decide, xs_plan hi hLs hkc2 hks2 h hk⟩
      · exact ⟨_, 1797, by rw [hs]; rfl, by decide, xs_planAnew hi hLs hkc2 hks2 h hk⟩
end GLOOP
