def celE (x w : Int) : Nat := if ¬ (0 ≤ x ∧ x < 100) then 1 else if ¬ (0 ≤ w ∧ w ≤ 3) then 2 else 0
def celV (A : Mem) (x w : Int) : Int := if w = 0 then A 12 x.toNat else if w = 1 then A 16 x.toNat else if w = 2 then b2 (decide (A 17 x.toNat ≠ -1)) else hldC A x
def claE (A : Mem) (x w : Int) : Nat := if ¬ (0 ≤ x ∧ x < A 2 2) then 1 else if ¬ (0 ≤ w ∧ w ≤ 6) then 2 else 0
def hldN (A : Mem) (k : Nat) : Int := cntF (fun c => decide (covC A c k = true ∧ hldC A c = k)) 100
def prcN (A : Mem) (k : Int) : Int := cntF (inpC A k) (A 3 2).toNat
def claV (A : Mem) (x w : Int) : Int := if w = 0 then A (100 + 3 * x.toNat) 0 else if w = 1 then A (100 + 3 * x.toNat) 5 else if w = 2 then b2 (livB (A 0 9) (A (100 + 3 * x.toNat) 6)) else if w = 3 then hldN A x.toNat else if w = 4 then A (100 + 3 * x.toNat) 7 else if w = 5 then prcN A x else lapC (A 0 9) (A (100 + 3 * x.toNat) 6)
def shaE (A : Mem) (x p : Int) : Nat := if ¬ ((0 ≤ x ∧ x < A 2 2) ∧ 0 ≤ p ∧ p < 8) then 1 else 0
def verE (A : Mem) (x y : Int) : Nat := if ¬ ((0 ≤ x ∧ x < A 2 2) ∧ 0 ≤ y ∧ y < A 2 2) then 1 else if x = y then 2 else 0
def ovC (A : Mem) (k j : Nat) : Bool := ovB (A (100 + 3 * k) 1) (A (100 + 3 * k) 2) (A (100 + 3 * k) 3) (A (100 + 3 * k) 4) (A (100 + 3 * j) 1) (A (100 + 3 * j) 2) (A (100 + 3 * j) 3) (A (100 + 3 * j) 4)
def verV (A : Mem) (x y : Int) : Int := if livC A x.toNat = true ∧ livC A y.toNat = true ∧ ovC A x.toNat y.toNat = true then
  (if A (100 + 3 * x.toNat) 5 = A (100 + 3 * y.toNat) 5 then (if y < x then y else x) else if A (100 + 3 * x.toNat) 5 < A (100 + 3 * y.toNat) 5 then x else y) else -1
def perE (p w : Int) : Nat := if ¬ (0 ≤ p ∧ p < 8) then 1 else if ¬ (0 ≤ w ∧ w ≤ 3) then 2 else 0
def perN (A : Mem) (p : Int) : Int := cntF (fun s => decide (plC A s = 1 ∧ A (200 + 3 * s) 6 = p)) (A 3 2).toNat
def perV (A : Mem) (p w : Int) : Int := if w = 0 then A 6 p.toNat else if w = 1 then brdC A p else if w = 2 then perN A p else A 8 p.toNat
def stoE (A : Mem) (x w : Int) : Nat := if ¬ (0 ≤ x ∧ x < A 3 2) then 1 else if ¬ (0 ≤ w ∧ w ≤ 7) then 2 else 0
def stoV (A : Mem) (x w : Int) : Int := if w = 0 then A (200 + 3 * x.toNat) 3 else if w = 1 then lusC (A (200 + 3 * x.toNat) 5) (A (200 + 3 * x.toNat) 1) else if w = 2 then A (200 + 3 * x.toNat) 6 else if w = 3 then A (200 + 3 * x.toNat) 2 else if w = 4 then valC (A (200 + 3 * x.toNat) 5) (A (200 + 3 * x.toNat) 1) (A (200 + 3 * x.toNat) 3) else if w = 5 then A (200 + 3 * x.toNat) 7 else if w = 6 then A (200 + 3 * x.toNat) 5 else A (200 + 3 * x.toNat) 0
def purE (b : Int) : Nat := if ¬ (0 ≤ b ∧ b < 5) then 1 else 0
def borE (x : Int) : Nat := if ¬ (0 ≤ x ∧ x < 100) then 1 else 0
def carE (w : Int) : Nat := if ¬ (0 ≤ w ∧ w ≤ 5) then 1 else 0
def carV (A : Mem) (w : Int) : Int := if w = 0 then sumF (A 13) 100 else if w = 1 then sumF (A 14) 100 else if w = 5 then sumF (fun s => A (200 + 3 * s) 4) (A 3 2).toNat else sumF (cwQ A (w - 2)) (A 3 2).toNat

set_option maxRecDepth 20000 in
theorem c_X3_bore {L : Nat → Nat} {A : Mem} (hV : VC L A) {x : Int} (hx : -2147483648 ≤ x ∧ x < 2147483648) : Ct mX3_bore [gr 0, gi x] L A (exP [xIOE] (borE x) (some (gi (boreC A x))) L A L A) := by
  have hL := vc_L hV
  have hnc := vc_nc hV; have hns := vc_ns hV; have hp0 := (vc_p hV).1
  refine Ct_of (ls := [(0, _), (1, _)]) rfl (by decide) (fun _ => rfl) (fun _ => Nat.le_of_ble_eq_true rfl) ?_
  refine g_iload_n 1 dX3_bore_0 rfl rfl ?_
  by_cases hs1 : 0 ≤ x ∧ x < 100
  · skip
    refine g_cS_v (My := mX3_needCell) (gs := [_]) (c_X3_needCell hx hs1) mfX3_needCell rfl wst_X3_needCell wm_X3_51 dX3_bore_1 (Nat.le_of_ble_eq_true rfl) rfl (fun _ => Nat.le_of_ble_eq_true rfl) (Nat.le_of_ble_eq_true rfl) (Nat.le_of_ble_eq_true rfl) rfl rfl ?_
    refine g_aload_n 0 dX3_bore_4 rfl rfl ?_
    refine g_getfr2 (r := 1) cf_4 0 rfl (by decide) (by decide) rfl (by decide) wf_X3_12 dX3_bore_5 (hL 0 rfl) rfl ?_
    refine g_iload_n 1 dX3_bore_8 rfl rfl ?_
    refine g_cV_i (My := mX1_caratsAround) (gs := [_]) (c_X1_caratsAround hL hs1) mfX1_caratsAround cf_2 wi_X1_caratsAround wsl_X1_caratsAround wm_X3_263 dX3_bore_9 (Nat.le_of_ble_eq_true rfl) rfl (by decide) (n2 (hL 1 rfl)) rfl (fun _ => Nat.le_of_ble_eq_true rfl) (Nat.le_of_ble_eq_true rfl) (Nat.le_of_ble_eq_true rfl) rfl rfl ?_
    exact g_iret dX3_bore_12 rfl (Nat.le_of_ble_eq_true rfl) (Nat.le_of_ble_eq_true rfl) (ex_ok (by unfold borE; grind) (congrArg (fun z => some (gi z)) (rfl)) rfl (rfl))
  · skip
    exact g_cS_t (My := mX3_needCell_x) (gs := [_]) (c_X3_needCell_x hx hs1) mfX3_needCell_x rfl wst_X3_needCell wm_X3_51 dX3_bore_1 (Nat.le_of_ble_eq_true rfl) rfl (fun _ => Nat.le_of_ble_eq_true rfl) (Nat.le_of_ble_eq_true rfl) (Nat.le_of_ble_eq_true rfl) rfl rfl rfl (ex_th 0 (by unfold borE; grind) rfl)

set_option maxRecDepth 20000 in
theorem c_X3_ofCell {L : Nat → Nat} {A : Mem} (hV : VC L A) {x w : Int} (hx : -2147483648 ≤ x ∧ x < 2147483648) (hw : -2147483648 ≤ w ∧ w < 2147483648) : Ct mX3_ofCell [gr 0, gi x, gi w] L A (exP [xIOE, xIAE] (celE x w) (some (gi (celV A x w))) L A L A) := by
  have hL := vc_L hV
  have hnc := vc_nc hV; have hns := vc_ns hV; have hp0 := (vc_p hV).1
  refine Ct_of (ls := [(0, _), (1, _), (2, _)]) rfl (by decide) (fun _ => rfl) (fun _ => Nat.le_of_ble_eq_true rfl) ?_
  refine g_iload_n 1 dX3_ofCell_0 rfl rfl ?_
  by_cases hs1 : 0 ≤ x ∧ x < 100
  · skip
    refine g_cS_v (My := mX3_needCell) (gs := [_]) (c_X3_needCell hx hs1) mfX3_needCell rfl wst_X3_needCell wm_X3_51 dX3_ofCell_1 (Nat.le_of_ble_eq_true rfl) rfl (fun _ => Nat.le_of_ble_eq_true rfl) (Nat.le_of_ble_eq_true rfl) (Nat.le_of_ble_eq_true rfl) rfl rfl ?_
    refine g_iload_n 2 dX3_ofCell_4 rfl rfl ?_
    refine g_tsw (dt := 87) (by omega) dX3_ofCell_5 (by decide) (fun h5_1 => ?_) (fun h5_1a h5_1b => ?_)
    · skip
      exact g_throw thX3_ofCell_87 (Nat.le_of_ble_eq_true rfl) (Nat.le_of_ble_eq_true rfl) (by decide) (ex_th 1 (by unfold celE; grind) rfl)
    · skip
      rcases (show w = 0 ∨ w = 1 ∨ w = 2 ∨ w = 3 by omega) with hs5_ | hs5_ | hs5_ | hs5_
      · skip
        refine ⟨_, 36, by rw [hs5_]; rfl, by decide, ?_⟩
        refine g_aload_n 0 dX3_ofCell_36 rfl rfl ?_
        refine g_getfr2 (r := 1) cf_4 0 rfl (by decide) (by decide) rfl (by decide) wf_X3_12 dX3_ofCell_37 (hL 0 rfl) rfl ?_
        refine g_getfr2 (r := 12) cf_2 0 rfl (by decide) (by decide) rfl (by decide) wf_X3_59 dX3_ofCell_40 (hL 1 rfl) rfl ?_
        refine g_iload_n 1 dX3_ofCell_43 rfl rfl ?_
        refine g_ia (by omega) (by omega) rfl (by decide) dX3_ofCell_44 (n2 (hL 12 rfl)) (fun h44_2 => ?_)
        exact g_iret dX3_ofCell_45 rfl (Nat.le_of_ble_eq_true rfl) (Nat.le_of_ble_eq_true rfl) (ex_ok (by unfold celE; grind) (congrArg (fun z => some (gi z)) (by unfold celV; grind [b2])) rfl (rfl))
      · skip
        refine ⟨_, 46, by rw [hs5_]; rfl, by decide, ?_⟩
        refine g_aload_n 0 dX3_ofCell_46 rfl rfl ?_
        refine g_getfr2 (r := 1) cf_4 0 rfl (by decide) (by decide) rfl (by decide) wf_X3_12 dX3_ofCell_47 (hL 0 rfl) rfl ?_
        refine g_getfr2 (r := 16) cf_2 4 rfl (by decide) (by decide) rfl (by decide) wf_X3_166 dX3_ofCell_50 (hL 1 rfl) rfl ?_
        refine g_iload_n 1 dX3_ofCell_53 rfl rfl ?_
        refine g_za (by omega) (by omega) rfl (by decide) dX3_ofCell_54 (n2 (hL 16 rfl)) (fun h54_3 => ?_)
        have hz16 := (vc_g hV).2.2.2.2.1 x.toNat
        refine g_top (y := b2 (decide (A 16 x.toNat = 1))) (by grind [b2]) ?_
        refine g_cS_i (My := mX3_oneIf) (gs := [_]) (c_X3_oneIf _) mfX3_oneIf rfl wst_X3_oneIf wm_X3_266 dX3_ofCell_55 (Nat.le_of_ble_eq_true rfl) rfl (fun _ => Nat.le_of_ble_eq_true rfl) (Nat.le_of_ble_eq_true rfl) (Nat.le_of_ble_eq_true rfl) rfl rfl ?_
        exact g_iret dX3_ofCell_58 rfl (Nat.le_of_ble_eq_true rfl) (Nat.le_of_ble_eq_true rfl) (ex_ok (by unfold celE; grind) (congrArg (fun z => some (gi z)) (by unfold celV; grind [b2])) rfl (rfl))
      · skip
        refine ⟨_, 59, by rw [hs5_]; rfl, by decide, ?_⟩
        refine g_aload_n 0 dX3_ofCell_59 rfl rfl ?_
        refine g_getfr2 (r := 1) cf_4 0 rfl (by decide) (by decide) rfl (by decide) wf_X3_12 dX3_ofCell_60 (hL 0 rfl) rfl ?_
        refine g_getfr2 (r := 17) cf_2 5 rfl (by decide) (by decide) rfl (by decide) wf_X3_172 dX3_ofCell_63 (hL 1 rfl) rfl ?_
        refine g_iload_n 1 dX3_ofCell_66 rfl rfl ?_
        refine g_ia (by omega) (by omega) rfl (by decide) dX3_ofCell_67 (n2 (hL 17 rfl)) (fun h67_4 => ?_)
        refine g_iconst dX3_ofCell_68 ?_
        refine g_icmp_eq (tgt := 76) (by omega) (by omega) dX3_ofCell_69 (by decide) (fun h69_5 => ?_) (fun h69_5 => ?_)
        · skip
          refine g_iconst dX3_ofCell_76 ?_
          refine g_top (y := b2 (decide (A 17 x.toNat ≠ -1))) (by grind [b2]) ?_
          refine g_cS_i (My := mX3_oneIf) (gs := [_]) (c_X3_oneIf _) mfX3_oneIf rfl wst_X3_oneIf wm_X3_266 dX3_ofCell_77 (Nat.le_of_ble_eq_true rfl) rfl (fun _ => Nat.le_of_ble_eq_true rfl) (Nat.le_of_ble_eq_true rfl) (Nat.le_of_ble_eq_true rfl) rfl rfl ?_
          exact g_iret dX3_ofCell_80 rfl (Nat.le_of_ble_eq_true rfl) (Nat.le_of_ble_eq_true rfl) (ex_ok (by unfold celE; grind) (congrArg (fun z => some (gi z)) (by unfold celV; grind [b2])) rfl (rfl))
        · skip
          refine g_iconst dX3_ofCell_72 ?_
          refine g_goto (tgt := 77) dX3_ofCell_73 (by decide) ?_
          refine g_top (y := b2 (decide (A 17 x.toNat ≠ -1))) (by grind [b2]) ?_
          refine g_cS_i (My := mX3_oneIf) (gs := [_]) (c_X3_oneIf _) mfX3_oneIf rfl wst_X3_oneIf wm_X3_266 dX3_ofCell_77 (Nat.le_of_ble_eq_true rfl) rfl (fun _ => Nat.le_of_ble_eq_true rfl) (Nat.le_of_ble_eq_true rfl) (Nat.le_of_ble_eq_true rfl) rfl rfl ?_
          exact g_iret dX3_ofCell_80 rfl (Nat.le_of_ble_eq_true rfl) (Nat.le_of_ble_eq_true rfl) (ex_ok (by unfold celE; grind) (congrArg (fun z => some (gi z)) (by unfold celV; grind [b2])) rfl (rfl))
      · skip
        refine ⟨_, 81, by rw [hs5_]; rfl, by decide, ?_⟩
        refine g_aload_n 0 dX3_ofCell_81 rfl rfl ?_
        refine g_iload_n 1 dX3_ofCell_82 rfl rfl ?_
        refine g_cV_i (My := mX3_holderOf) (gs := [_]) (c_X3_holderOf hV hs1) mfX3_holderOf cf_4 wi_X3_holderOf wsl_X3_holderOf wm_X3_189 dX3_ofCell_83 (Nat.le_of_ble_eq_true rfl) rfl (by decide) (n2 (hL 0 rfl)) rfl (fun _ => Nat.le_of_ble_eq_true rfl) (Nat.le_of_ble_eq_true rfl) (Nat.le_of_ble_eq_true rfl) rfl rfl ?_
        exact g_iret dX3_ofCell_86 rfl (Nat.le_of_ble_eq_true rfl) (Nat.le_of_ble_eq_true rfl) (ex_ok (by unfold celE; grind) (congrArg (fun z => some (gi z)) (by unfold celV; grind [b2])) rfl (rfl))
  · skip
    exact g_cS_t (My := mX3_needCell_x) (gs := [_]) (c_X3_needCell_x hx hs1) mfX3_needCell_x rfl wst_X3_needCell wm_X3_51 dX3_ofCell_1 (Nat.le_of_ble_eq_true rfl) rfl (fun _ => Nat.le_of_ble_eq_true rfl) (Nat.le_of_ble_eq_true rfl) (Nat.le_of_ble_eq_true rfl) rfl rfl rfl (ex_th 0 (by unfold celE; grind) rfl)

set_option maxRecDepth 20000 in
theorem c_X3_ofClaim {L : Nat → Nat} {A : Mem} (hV : VC L A) {x w : Int} (hx : -2147483648 ≤ x ∧ x < 2147483648) (hw : -2147483648 ≤ w ∧ w < 2147483648) : Ct mX3_ofClaim [gr 0, gi x, gi w] L A (exP [xIOE, xIAE] (claE A x w) (some (gi (claV A x w))) L A L A) := by
  have hL := vc_L hV
  have hnc := vc_nc hV; have hns := vc_ns hV; have hp0 := (vc_p hV).1
  refine Ct_of (ls := [(0, _), (1, _), (2, _)]) rfl (by decide) (fun _ => rfl) (fun _ => Nat.le_of_ble_eq_true rfl) ?_
  refine g_aload_n 0 dX3_ofClaim_0 rfl rfl ?_
  refine g_iload_n 1 dX3_ofClaim_1 rfl rfl ?_
  by_cases hs2 : 0 ≤ x ∧ x < A 2 2
  · skip
    obtain ⟨k, rfl⟩ : ∃ k : Nat, x = k := ⟨x.toNat, by omega⟩
    have hk : (k : Int) < A 2 2 := by omega
    refine g_cV_i (My := mX3_claimAt) (gs := [_]) (c_X3_claimAt hV hk) mfX3_claimAt cf_4 wi_X3_claimAt wsl_X3_claimAt wm_X3_112 dX3_ofClaim_2 (Nat.le_of_ble_eq_true rfl) rfl (by decide) (n2 (hL 0 rfl)) rfl (fun _ => Nat.le_of_ble_eq_true rfl) (Nat.le_of_ble_eq_true rfl) (Nat.le_of_ble_eq_true rfl) rfl rfl ?_
    refine g_sa (ls2 := [(3, _), (0, _), (1, _), (2, _)]) dX3_ofClaim_5 rfl (by decide) (c1_cr (c1_ci (c1_ci c1_0))) rfl ?_
    refine g_iload_n 3 dX3_ofClaim_6 rfl rfl ?_
    refine g_tsw (dt := 96) (by omega) dX3_ofClaim_7 (by decide) (fun h7_1 => ?_) (fun h7_1a h7_1b => ?_)
    · skip
      exact g_throw thX3_ofClaim_96 (Nat.le_of_ble_eq_true rfl) (Nat.le_of_ble_eq_true rfl) (by decide) (ex_th 1 (by unfold claE; grind) rfl)
    · skip
      rcases (show w = 0 ∨ w = 1 ∨ w = 2 ∨ w = 3 ∨ w = 4 ∨ w = 5 ∨ w = 6 by omega) with hs7_ | hs7_ | hs7_ | hs7_ | hs7_ | hs7_ | hs7_
      · skip
        refine ⟨_, 48, by rw [hs7_]; rfl, by decide, ?_⟩
        refine g_aload_n 0 dX3_ofClaim_48 rfl rfl ?_
        refine g_getfi cf_1 0 (ly_c0 (vc_k hV hk)) (by decide) (by decide) rfl (by decide) wf_X3_136 dX3_ofClaim_49 (n2 (vc_c hV hk).1) (fun h49_2 => ?_)
        exact g_iret dX3_ofClaim_52 rfl (Nat.le_of_ble_eq_true rfl) (Nat.le_of_ble_eq_true rfl) (ex_ok (by unfold claE; grind) (congrArg (fun z => some (gi z)) (by unfold claV; simp only [Int.toNat_natCast]; grind [hldN, prcN])) rfl (rfl))
      · skip
        refine ⟨_, 53, by rw [hs7_]; rfl, by decide, ?_⟩
        refine g_aload_n 0 dX3_ofClaim_53 rfl rfl ?_
        refine g_getfi cf_1 5 (ly_c0 (vc_k hV hk)) (by decide) (by decide) rfl (by decide) wf_X3_130 dX3_ofClaim_54 (n2 (vc_c hV hk).1) (fun h54_3 => ?_)
        exact g_iret dX3_ofClaim_57 rfl (Nat.le_of_ble_eq_true rfl) (Nat.le_of_ble_eq_true rfl) (ex_ok (by unfold claE; grind) (congrArg (fun z => some (gi z)) (by unfold claV; simp only [Int.toNat_natCast]; grind [hldN, prcN])) rfl (rfl))
      · skip
        refine ⟨_, 58, by rw [hs7_]; rfl, by decide, ?_⟩
        refine g_aload_n 0 dX3_ofClaim_58 rfl rfl ?_
        refine g_aload_n 1 dX3_ofClaim_59 rfl rfl ?_
        refine g_getfi cf_4 9 rfl (by decide) (by decide) rfl (by decide) wf_X3_80 dX3_ofClaim_60 (n2 (hL 0 rfl)) (fun h60_4 => ?_)
        refine g_cV_i (My := mX0_isLive) (gs := [_]) (c_X0_isLive (vc_k hV hk) (vc_c hV hk) (by omega) (by have := (vc_cv hV hk).2.2.2.1; omega)) mfX0_isLive cf_1 wi_X0_isLive wsl_X0_isLive wm_X3_272 dX3_ofClaim_63 (Nat.le_of_ble_eq_true rfl) (ly_c0 (vc_k hV hk)) (by decide) (n2 (vc_c hV hk).1) rfl (fun _ => Nat.le_of_ble_eq_true rfl) (Nat.le_of_ble_eq_true rfl) (Nat.le_of_ble_eq_true rfl) rfl rfl ?_
        refine g_cS_i (My := mX3_oneIf) (gs := [_]) (c_X3_oneIf _) mfX3_oneIf rfl wst_X3_oneIf wm_X3_266 dX3_ofClaim_66 (Nat.le_of_ble_eq_true rfl) rfl (fun _ => Nat.le_of_ble_eq_true rfl) (Nat.le_of_ble_eq_true rfl) (Nat.le_of_ble_eq_true rfl) rfl rfl ?_
        exact g_iret dX3_ofClaim_69 rfl (Nat.le_of_ble_eq_true rfl) (Nat.le_of_ble_eq_true rfl) (ex_ok (by unfold claE; grind) (congrArg (fun z => some (gi z)) (by unfold claV; simp only [Int.toNat_natCast]; grind [hldN, prcN])) rfl (rfl))
      · skip
        refine ⟨_, 70, by rw [hs7_]; rfl, by decide, ?_⟩
        refine g_aload_n 1 dX3_ofClaim_70 rfl rfl ?_
        refine g_iload_n 2 dX3_ofClaim_71 rfl rfl ?_
        refine g_cV_i (My := mX3_cellsHeldBy) (gs := [_]) (c_X3_cellsHeldBy hV hk) mfX3_cellsHeldBy cf_4 wi_X3_cellsHeldBy wsl_X3_cellsHeldBy wm_X3_275 dX3_ofClaim_72 (Nat.le_of_ble_eq_true rfl) rfl (by decide) (n2 (hL 0 rfl)) rfl (fun _ => Nat.le_of_ble_eq_true rfl) (Nat.le_of_ble_eq_true rfl) (Nat.le_of_ble_eq_true rfl) rfl rfl ?_
        exact g_iret dX3_ofClaim_75 rfl (Nat.le_of_ble_eq_true rfl) (Nat.le_of_ble_eq_true rfl) (ex_ok (by unfold claE; grind) (congrArg (fun z => some (gi z)) (by unfold claV; simp only [Int.toNat_natCast]; grind [hldN, prcN])) rfl (rfl))
      · skip
        refine ⟨_, 76, by rw [hs7_]; rfl, by decide, ?_⟩
        refine g_aload_n 0 dX3_ofClaim_76 rfl rfl ?_
        refine g_getfi cf_1 7 (ly_c0 (vc_k hV hk)) (by decide) (by decide) rfl (by decide) wf_X3_159 dX3_ofClaim_77 (n2 (vc_c hV hk).1) (fun h77_5 => ?_)
        exact g_iret dX3_ofClaim_80 rfl (Nat.le_of_ble_eq_true rfl) (Nat.le_of_ble_eq_true rfl) (ex_ok (by unfold claE; grind) (congrArg (fun z => some (gi z)) (by unfold claV; simp only [Int.toNat_natCast]; grind [hldN, prcN])) rfl (rfl))
      · skip
        refine ⟨_, 81, by rw [hs7_]; rfl, by decide, ?_⟩
        refine g_aload_n 1 dX3_ofClaim_81 rfl rfl ?_
        refine g_iload_n 2 dX3_ofClaim_82 rfl rfl ?_
        refine g_cV_i (My := mX3_stonesInParcel) (gs := [_]) (c_X3_stonesInParcel hV hx) mfX3_stonesInParcel cf_4 wi_X3_stonesInParcel wsl_X3_stonesInParcel wm_X3_198 dX3_ofClaim_83 (Nat.le_of_ble_eq_true rfl) rfl (by decide) (n2 (hL 0 rfl)) rfl (fun _ => Nat.le_of_ble_eq_true rfl) (Nat.le_of_ble_eq_true rfl) (Nat.le_of_ble_eq_true rfl) rfl rfl ?_
        exact g_iret dX3_ofClaim_86 rfl (Nat.le_of_ble_eq_true rfl) (Nat.le_of_ble_eq_true rfl) (ex_ok (by unfold claE; grind) (congrArg (fun z => some (gi z)) (by unfold claV; simp only [Int.toNat_natCast]; grind [hldN, prcN])) rfl (rfl))
      · skip
        refine ⟨_, 87, by rw [hs7_]; rfl, by decide, ?_⟩
        refine g_aload_n 0 dX3_ofClaim_87 rfl rfl ?_
        refine g_aload_n 1 dX3_ofClaim_88 rfl rfl ?_
        refine g_getfi cf_4 9 rfl (by decide) (by decide) rfl (by decide) wf_X3_80 dX3_ofClaim_89 (n2 (hL 0 rfl)) (fun h89_6 => ?_)
        refine g_cV_i (My := mX0_hoursToLapse) (gs := [_]) (c_X0_hoursToLapse (vc_k hV hk) (vc_c hV hk) (by omega) (by have := (vc_cv hV hk).2.2.2.1; omega)) mfX0_hoursToLapse cf_1 wi_X0_hoursToLapse wsl_X0_hoursToLapse wm_X3_278 dX3_ofClaim_92 (Nat.le_of_ble_eq_true rfl) (ly_c0 (vc_k hV hk)) (by decide) (n2 (vc_c hV hk).1) rfl (fun _ => Nat.le_of_ble_eq_true rfl) (Nat.le_of_ble_eq_true rfl) (Nat.le_of_ble_eq_true rfl) rfl rfl ?_
        exact g_iret dX3_ofClaim_95 rfl (Nat.le_of_ble_eq_true rfl) (Nat.le_of_ble_eq_true rfl) (ex_ok (by unfold claE; grind) (congrArg (fun z => some (gi z)) (by unfold claV; simp only [Int.toNat_natCast]; grind [hldN, prcN])) rfl (rfl))
  · skip
    exact g_cV_t (My := mX3_claimAt_x) (gs := [_]) (c_X3_claimAt_x hV hx hs2) mfX3_claimAt_x cf_4 wi_X3_claimAt wsl_X3_claimAt wm_X3_112 dX3_ofClaim_2 (Nat.le_of_ble_eq_true rfl) rfl (by decide) (n2 (hL 0 rfl)) rfl (fun _ => Nat.le_of_ble_eq_true rfl) (Nat.le_of_ble_eq_true rfl) (Nat.le_of_ble_eq_true rfl) rfl rfl rfl (ex_th 0 (by unfold claE; grind) rfl)

set_option maxRecDepth 20000 in
theorem c_X3_share {L : Nat → Nat} {A : Mem} (hV : VC L A) {x p : Int} (hx : -2147483648 ≤ x ∧ x < 2147483648) (hp : -2147483648 ≤ p ∧ p < 2147483648) : Ct mX3_share [gr 0, gi x, gi p] L A (exP [xIOE] (shaE A x p) (some (gi (A (101 + 3 * x.toNat) p.toNat))) L A L A) := by
  have hL := vc_L hV
  have hnc := vc_nc hV; have hns := vc_ns hV; have hp0 := (vc_p hV).1
  refine Ct_of (ls := [(0, _), (1, _), (2, _)]) rfl (by decide) (fun _ => rfl) (fun _ => Nat.le_of_ble_eq_true rfl) ?_
  refine g_aload_n 0 dX3_share_0 rfl rfl ?_
  refine g_iload_n 1 dX3_share_1 rfl rfl ?_
  by_cases hs2 : 0 ≤ x ∧ x < A 2 2
  · skip
    obtain ⟨k, rfl⟩ : ∃ k : Nat, x = k := ⟨x.toNat, by omega⟩
    have hk : (k : Int) < A 2 2 := by omega
    refine g_cV_i (My := mX3_claimAt) (gs := [_]) (c_X3_claimAt hV hk) mfX3_claimAt cf_4 wi_X3_claimAt wsl_X3_claimAt wm_X3_112 dX3_share_2 (Nat.le_of_ble_eq_true rfl) rfl (by decide) (n2 (hL 0 rfl)) rfl (fun _ => Nat.le_of_ble_eq_true rfl) (Nat.le_of_ble_eq_true rfl) (Nat.le_of_ble_eq_true rfl) rfl rfl ?_
    refine g_sa (ls2 := [(3, _), (0, _), (1, _), (2, _)]) dX3_share_5 rfl (by decide) (c1_cr (c1_ci (c1_ci c1_0))) rfl ?_
    refine g_iload_n 3 dX3_share_6 rfl rfl ?_
    by_cases hs7 : 0 ≤ p ∧ p < 8
    · skip
      refine g_cS_v (My := mX3_needPerson) (gs := [_]) (c_X3_needPerson hp hs7) mfX3_needPerson rfl wst_X3_needPerson wm_X3_86 dX3_share_7 (Nat.le_of_ble_eq_true rfl) rfl (fun _ => Nat.le_of_ble_eq_true rfl) (Nat.le_of_ble_eq_true rfl) (Nat.le_of_ble_eq_true rfl) rfl rfl ?_
      refine g_aload_n 0 dX3_share_10 rfl rfl ?_
      refine g_getfr2 (r := 101 + 3 * k) cf_1 8 (ly_c0 (vc_k hV hk)) (by decide) (by decide) rfl (by decide) wf_X3_133 dX3_share_11 (vc_c hV hk).1 (rfn_c8 k) ?_
      refine g_iload_n 3 dX3_share_14 rfl rfl ?_
      refine g_ia (by omega) (by omega) (ly_c1 (vc_k hV hk)) (by decide) dX3_share_15 (n2 (vc_c hV hk).2.1) (fun h15_1 => ?_)
      exact g_iret dX3_share_16 rfl (Nat.le_of_ble_eq_true rfl) (Nat.le_of_ble_eq_true rfl) (ex_ok (by unfold shaE; grind) (congrArg (fun z => some (gi z)) (rfl)) rfl (rfl))
    · skip
      exact g_cS_t (My := mX3_needPerson_x) (gs := [_]) (c_X3_needPerson_x hp hs7) mfX3_needPerson_x rfl wst_X3_needPerson wm_X3_86 dX3_share_7 (Nat.le_of_ble_eq_true rfl) rfl (fun _ => Nat.le_of_ble_eq_true rfl) (Nat.le_of_ble_eq_true rfl) (Nat.le_of_ble_eq_true rfl) rfl rfl rfl (ex_th 0 (by unfold shaE; grind) rfl)
  · skip
    exact g_cV_t (My := mX3_claimAt_x) (gs := [_]) (c_X3_claimAt_x hV hx hs2) mfX3_claimAt_x cf_4 wi_X3_claimAt wsl_X3_claimAt wm_X3_112 dX3_share_2 (Nat.le_of_ble_eq_true rfl) rfl (by decide) (n2 (hL 0 rfl)) rfl (fun _ => Nat.le_of_ble_eq_true rfl) (Nat.le_of_ble_eq_true rfl) (Nat.le_of_ble_eq_true rfl) rfl rfl rfl (ex_th 0 (by unfold shaE; grind) rfl)

set_option maxHeartbeats 1000000 in
set_option maxRecDepth 20000 in
theorem c_X3_verdict {L : Nat → Nat} {A : Mem} (hV : VC L A) {x y : Int} (hx : -2147483648 ≤ x ∧ x < 2147483648) (hy : -2147483648 ≤ y ∧ y < 2147483648) : Ct mX3_verdict [gr 0, gi x, gi y] L A (exP [xIOE, xIAE] (verE A x y) (some (gi (verV A x y))) L A L A) := by
  have hL := vc_L hV
  have hnc := vc_nc hV; have hns := vc_ns hV; have hp0 := (vc_p hV).1
  refine Ct_of (ls := [(0, _), (1, _), (2, _)]) rfl (by decide) (fun _ => rfl) (fun _ => Nat.le_of_ble_eq_true rfl) ?_
  refine g_aload_n 0 dX3_verdict_0 rfl rfl ?_
  refine g_iload_n 1 dX3_verdict_1 rfl rfl ?_
  by_cases hs2 : 0 ≤ x ∧ x < A 2 2
  · skip
    obtain ⟨k, rfl⟩ : ∃ k : Nat, x = k := ⟨x.toNat, by omega⟩
    have hk : (k : Int) < A 2 2 := by omega
    refine g_cV_i (My := mX3_claimAt) (gs := [_]) (c_X3_claimAt hV hk) mfX3_claimAt cf_4 wi_X3_claimAt wsl_X3_claimAt wm_X3_112 dX3_verdict_2 (Nat.le_of_ble_eq_true rfl) rfl (by decide) (n2 (hL 0 rfl)) rfl (fun _ => Nat.le_of_ble_eq_true rfl) (Nat.le_of_ble_eq_true rfl) (Nat.le_of_ble_eq_true rfl) rfl rfl ?_
    refine g_sa (ls2 := [(3, _), (0, _), (1, _), (2, _)]) dX3_verdict_5 rfl (by decide) (c1_cr (c1_ci (c1_ci c1_0))) rfl ?_
    refine g_aload_n 1 dX3_verdict_6 rfl rfl ?_
    refine g_iload_n 3 dX3_verdict_7 rfl rfl ?_
    by_cases hs8 : 0 ≤ y ∧ y < A 2 2
    · skip
      obtain ⟨j, rfl⟩ : ∃ j : Nat, y = j := ⟨y.toNat, by omega⟩
      have hj : (j : Int) < A 2 2 := by omega
      refine g_cV_i (My := mX3_claimAt) (gs := [_]) (c_X3_claimAt hV hj) mfX3_claimAt cf_4 wi_X3_claimAt wsl_X3_claimAt wm_X3_112 dX3_verdict_8 (Nat.le_of_ble_eq_true rfl) rfl (by decide) (n2 (hL 0 rfl)) rfl (fun _ => Nat.le_of_ble_eq_true rfl) (Nat.le_of_ble_eq_true rfl) (Nat.le_of_ble_eq_true rfl) rfl rfl ?_
      refine g_sa2 (ls2 := [(4, _), (3, _), (0, _), (1, _), (2, _)]) dX3_verdict_11 (by decide) (c1_cr (c1_cr (c1_ci (c1_ci c1_0)))) rfl ?_
      refine g_iload_n 3 dX3_verdict_13 rfl rfl ?_
      refine g_iload_n 4 dX3_verdict_14 rfl rfl ?_
      refine g_icmp_ne (tgt := 29) (by omega) (by omega) dX3_verdict_15 (by decide) (fun h15_1 => ?_) (fun h15_1 => ?_)
      · skip
        refine g_aload_n 1 dX3_verdict_29 rfl rfl ?_
        refine g_aload_n 2 dX3_verdict_30 rfl rfl ?_
        refine g_getfi cf_4 9 rfl (by decide) (by decide) rfl (by decide) wf_X3_80 dX3_verdict_31 (n2 (hL 0 rfl)) (fun h31_2 => ?_)
        refine g_cV_i (My := mX0_isLive) (gs := [_]) (c_X0_isLive (vc_k hV hk) (vc_c hV hk) (by omega) (by have := (vc_cv hV hk).2.2.2.1; omega)) mfX0_isLive cf_1 wi_X0_isLive wsl_X0_isLive wm_X3_272 dX3_verdict_34 (Nat.le_of_ble_eq_true rfl) (ly_c0 (vc_k hV hk)) (by decide) (n2 (vc_c hV hk).1) rfl (fun _ => Nat.le_of_ble_eq_true rfl) (Nat.le_of_ble_eq_true rfl) (Nat.le_of_ble_eq_true rfl) rfl rfl ?_
        refine g_ifb_eq (tgt := 61) dX3_verdict_37 (by decide) (fun h37_3 => ?_) (fun h37_3 => ?_)
        · skip
          refine g_iconst dX3_verdict_61 ?_
          exact g_iret dX3_verdict_62 rfl (Nat.le_of_ble_eq_true rfl) (Nat.le_of_ble_eq_true rfl) (ex_ok (by unfold verE; grind) (congrArg (fun z => some (gi z)) (by unfold verV livC ovC; simp only [Int.toNat_natCast]; grind)) rfl (rfl))
        · skip
          refine g_aload 0 dX3_verdict_40 rfl ?_
          refine g_aload_n 2 dX3_verdict_42 rfl rfl ?_
          refine g_getfi cf_4 9 rfl (by decide) (by decide) rfl (by decide) wf_X3_80 dX3_verdict_43 (n2 (hL 0 rfl)) (fun h43_4 => ?_)
          refine g_cV_i (My := mX0_isLive) (gs := [_]) (c_X0_isLive (vc_k hV hj) (vc_c hV hj) (by omega) (by have := (vc_cv hV hj).2.2.2.1; omega)) mfX0_isLive cf_1 wi_X0_isLive wsl_X0_isLive wm_X3_272 dX3_verdict_46 (Nat.le_of_ble_eq_true rfl) (ly_c0 (vc_k hV hj)) (by decide) (n2 (vc_c hV hj).1) rfl (fun _ => Nat.le_of_ble_eq_true rfl) (Nat.le_of_ble_eq_true rfl) (Nat.le_of_ble_eq_true rfl) rfl rfl ?_
          refine g_ifb_eq (tgt := 61) dX3_verdict_49 (by decide) (fun h49_5 => ?_) (fun h49_5 => ?_)
          · skip
            refine g_iconst dX3_verdict_61 ?_
            exact g_iret dX3_verdict_62 rfl (Nat.le_of_ble_eq_true rfl) (Nat.le_of_ble_eq_true rfl) (ex_ok (by unfold verE; grind) (congrArg (fun z => some (gi z)) (by unfold verV livC ovC; simp only [Int.toNat_natCast]; grind)) rfl (rfl))
          · skip
            refine g_aload_n 1 dX3_verdict_52 rfl rfl ?_
            refine g_aload 0 dX3_verdict_53 rfl ?_
            refine g_cV_i (My := mX0_overlaps) (gs := [_]) (c_X0_overlaps (vc_k hV hk) (vc_c hV hk) (vc_cv hV hk).2.1 (vc_k hV hj) (vc_c hV hj) (vc_cv hV hj).2.1) mfX0_overlaps cf_1 wi_X0_overlaps wsl_X0_overlaps wm_X3_285 dX3_verdict_55 (Nat.le_of_ble_eq_true rfl) (ly_c0 (vc_k hV hk)) (by decide) (n2 (vc_c hV hk).1) rfl (fun _ => Nat.le_of_ble_eq_true rfl) (Nat.le_of_ble_eq_true rfl) (Nat.le_of_ble_eq_true rfl) rfl rfl ?_
            refine g_ifb_ne (tgt := 63) dX3_verdict_58 (by decide) (fun h58_6 => ?_) (fun h58_6 => ?_)
            · skip
              refine g_aload_n 1 dX3_verdict_63 rfl rfl ?_
              refine g_getfi cf_1 5 (ly_c0 (vc_k hV hk)) (by decide) (by decide) rfl (by decide) wf_X3_130 dX3_verdict_64 (n2 (vc_c hV hk).1) (fun h64_7 => ?_)
              refine g_aload 0 dX3_verdict_67 rfl ?_
              refine g_getfi cf_1 5 (ly_c0 (vc_k hV hj)) (by decide) (by decide) rfl (by decide) wf_X3_130 dX3_verdict_69 (n2 (vc_c hV hj).1) (fun h69_8 => ?_)
              refine g_icmp_ne (tgt := 81) (by omega) (by omega) dX3_verdict_72 (by decide) (fun h72_9 => ?_) (fun h72_9 => ?_)
              · skip
                refine g_aload_n 1 dX3_verdict_81 rfl rfl ?_
                refine g_getfi cf_1 5 (ly_c0 (vc_k hV hk)) (by decide) (by decide) rfl (by decide) wf_X3_130 dX3_verdict_82 (n2 (vc_c hV hk).1) (fun h82_10 => ?_)
                refine g_aload 0 dX3_verdict_85 rfl ?_
                refine g_getfi cf_1 5 (ly_c0 (vc_k hV hj)) (by decide) (by decide) rfl (by decide) wf_X3_130 dX3_verdict_87 (n2 (vc_c hV hj).1) (fun h87_11 => ?_)
                refine g_icmp_ge (tgt := 97) (by omega) (by omega) dX3_verdict_90 (by decide) (fun h90_12 => ?_) (fun h90_12 => ?_)
                · skip
                  refine g_iload_n 4 dX3_verdict_97 rfl rfl ?_
                  exact g_iret dX3_verdict_98 rfl (Nat.le_of_ble_eq_true rfl) (Nat.le_of_ble_eq_true rfl) (ex_ok (by unfold verE; grind) (congrArg (fun z => some (gi z)) (by unfold verV livC ovC; simp only [Int.toNat_natCast]; grind)) rfl (rfl))
                · skip
                  refine g_iload_n 3 dX3_verdict_93 rfl rfl ?_
                  refine g_goto (tgt := 98) dX3_verdict_94 (by decide) ?_
                  exact g_iret dX3_verdict_98 rfl (Nat.le_of_ble_eq_true rfl) (Nat.le_of_ble_eq_true rfl) (ex_ok (by unfold verE; grind) (congrArg (fun z => some (gi z)) (by unfold verV livC ovC; simp only [Int.toNat_natCast]; grind)) rfl (rfl))
              · skip
                refine g_iload_n 3 dX3_verdict_75 rfl rfl ?_
                refine g_iload_n 4 dX3_verdict_76 rfl rfl ?_
                refine g_min (by omega) (by omega) wm_X3_289 wst_J9_min_7cf53 wn_J9 wo_J9_min_7cf53 (Nat.le_of_ble_eq_true rfl) (Nat.le_of_ble_eq_true rfl) (by decide) dX3_verdict_77 ?_
                exact g_iret dX3_verdict_80 rfl (Nat.le_of_ble_eq_true rfl) (Nat.le_of_ble_eq_true rfl) (ex_ok (by unfold verE; grind) (congrArg (fun z => some (gi z)) (by unfold verV livC ovC; simp only [Int.toNat_natCast]; grind)) rfl (rfl))
            · skip
              refine g_iconst dX3_verdict_61 ?_
              exact g_iret dX3_verdict_62 rfl (Nat.le_of_ble_eq_true rfl) (Nat.le_of_ble_eq_true rfl) (ex_ok (by unfold verE; grind) (congrArg (fun z => some (gi z)) (by unfold verV livC ovC; simp only [Int.toNat_natCast]; grind)) rfl (rfl))
      · skip
        exact g_throw thX3_verdict_18 (Nat.le_of_ble_eq_true rfl) (Nat.le_of_ble_eq_true rfl) (by decide) (ex_th 1 (by unfold verE; grind) rfl)
    · skip
      exact g_cV_t (My := mX3_claimAt_x) (gs := [_]) (c_X3_claimAt_x hV hy hs8) mfX3_claimAt_x cf_4 wi_X3_claimAt wsl_X3_claimAt wm_X3_112 dX3_verdict_8 (Nat.le_of_ble_eq_true rfl) rfl (by decide) (n2 (hL 0 rfl)) rfl (fun _ => Nat.le_of_ble_eq_true rfl) (Nat.le_of_ble_eq_true rfl) (Nat.le_of_ble_eq_true rfl) rfl rfl rfl (ex_th 0 (by unfold verE; grind) rfl)
  · skip
    exact g_cV_t (My := mX3_claimAt_x) (gs := [_]) (c_X3_claimAt_x hV hx hs2) mfX3_claimAt_x cf_4 wi_X3_claimAt wsl_X3_claimAt wm_X3_112 dX3_verdict_2 (Nat.le_of_ble_eq_true rfl) rfl (by decide) (n2 (hL 0 rfl)) rfl (fun _ => Nat.le_of_ble_eq_true rfl) (Nat.le_of_ble_eq_true rfl) (Nat.le_of_ble_eq_true rfl) rfl rfl rfl (ex_th 0 (by unfold verE; grind) rfl)

set_option maxRecDepth 20000 in
theorem c_X3_ofPerson {L : Nat → Nat} {A : Mem} (hV : VC L A) {p w : Int} (hp : -2147483648 ≤ p ∧ p < 2147483648) (hw : -2147483648 ≤ w ∧ w < 2147483648) : Ct mX3_ofPerson [gr 0, gi p, gi w] L A (exP [xIOE, xIAE] (perE p w) (some (gi (perV A p w))) L A L A) := by
  have hL := vc_L hV
  have hnc := vc_nc hV; have hns := vc_ns hV; have hp0 := (vc_p hV).1
  refine Ct_of (ls := [(0, _), (1, _), (2, _)]) rfl (by decide) (fun _ => rfl) (fun _ => Nat.le_of_ble_eq_true rfl) ?_
  refine g_iload_n 1 dX3_ofPerson_0 rfl rfl ?_
  by_cases hs1 : 0 ≤ p ∧ p < 8
  · skip
    refine g_cS_v (My := mX3_needPerson) (gs := [_]) (c_X3_needPerson hp hs1) mfX3_needPerson rfl wst_X3_needPerson wm_X3_86 dX3_ofPerson_1 (Nat.le_of_ble_eq_true rfl) rfl (fun _ => Nat.le_of_ble_eq_true rfl) (Nat.le_of_ble_eq_true rfl) (Nat.le_of_ble_eq_true rfl) rfl rfl ?_
    refine g_iload_n 2 dX3_ofPerson_4 rfl rfl ?_
    refine g_tsw (dt := 62) (by omega) dX3_ofPerson_5 (by decide) (fun h5_1 => ?_) (fun h5_1a h5_1b => ?_)
    · skip
      exact g_throw thX3_ofPerson_62 (Nat.le_of_ble_eq_true rfl) (Nat.le_of_ble_eq_true rfl) (by decide) (ex_th 1 (by unfold perE; grind) rfl)
    · skip
      rcases (show w = 0 ∨ w = 1 ∨ w = 2 ∨ w = 3 by omega) with hs5_ | hs5_ | hs5_ | hs5_
      · skip
        refine ⟨_, 36, by rw [hs5_]; rfl, by decide, ?_⟩
        refine g_aload_n 0 dX3_ofPerson_36 rfl rfl ?_
        refine g_getfr2 (r := 6) cf_4 3 rfl (by decide) (by decide) rfl (by decide) wf_X3_26 dX3_ofPerson_37 (hL 0 rfl) rfl ?_
        refine g_iload_n 1 dX3_ofPerson_40 rfl rfl ?_
        refine g_ia (by omega) (by omega) rfl (by decide) dX3_ofPerson_41 (n2 (hL 6 rfl)) (fun h41_2 => ?_)
        exact g_iret dX3_ofPerson_42 rfl (Nat.le_of_ble_eq_true rfl) (Nat.le_of_ble_eq_true rfl) (ex_ok (by unfold perE; grind) (congrArg (fun z => some (gi z)) (by unfold perV perN; grind)) rfl (rfl))
      · skip
        refine ⟨_, 43, by rw [hs5_]; rfl, by decide, ?_⟩
        refine g_aload_n 0 dX3_ofPerson_43 rfl rfl ?_
        refine g_iload_n 1 dX3_ofPerson_44 rfl rfl ?_
        refine g_cV_i (My := mX3_hoursBarred) (gs := [_]) (c_X3_hoursBarred hV hs1) mfX3_hoursBarred cf_4 wi_X3_hoursBarred wsl_X3_hoursBarred wm_X3_295 dX3_ofPerson_45 (Nat.le_of_ble_eq_true rfl) rfl (by decide) (n2 (hL 0 rfl)) rfl (fun _ => Nat.le_of_ble_eq_true rfl) (Nat.le_of_ble_eq_true rfl) (Nat.le_of_ble_eq_true rfl) rfl rfl ?_
        exact g_iret dX3_ofPerson_48 rfl (Nat.le_of_ble_eq_true rfl) (Nat.le_of_ble_eq_true rfl) (ex_ok (by unfold perE; grind) (congrArg (fun z => some (gi z)) (by unfold perV perN; grind)) rfl (rfl))
      · skip
        refine ⟨_, 49, by rw [hs5_]; rfl, by decide, ?_⟩
        refine g_aload_n 0 dX3_ofPerson_49 rfl rfl ?_
        refine g_iload_n 1 dX3_ofPerson_50 rfl rfl ?_
        refine g_cV_i (My := mX3_stonesOfPerson) (gs := [_]) (c_X3_stonesOfPerson hV hp) mfX3_stonesOfPerson cf_4 wi_X3_stonesOfPerson wsl_X3_stonesOfPerson wm_X3_298 dX3_ofPerson_51 (Nat.le_of_ble_eq_true rfl) rfl (by decide) (n2 (hL 0 rfl)) rfl (fun _ => Nat.le_of_ble_eq_true rfl) (Nat.le_of_ble_eq_true rfl) (Nat.le_of_ble_eq_true rfl) rfl rfl ?_
        exact g_iret dX3_ofPerson_54 rfl (Nat.le_of_ble_eq_true rfl) (Nat.le_of_ble_eq_true rfl) (ex_ok (by unfold perE; grind) (congrArg (fun z => some (gi z)) (by unfold perV perN; grind)) rfl (rfl))
      · skip
        refine ⟨_, 55, by rw [hs5_]; rfl, by decide, ?_⟩
        refine g_aload_n 0 dX3_ofPerson_55 rfl rfl ?_
        refine g_getfr2 (r := 8) cf_4 5 rfl (by decide) (by decide) rfl (by decide) wf_X3_33 dX3_ofPerson_56 (hL 0 rfl) rfl ?_
        refine g_iload_n 1 dX3_ofPerson_59 rfl rfl ?_
        refine g_ia (by omega) (by omega) rfl (by decide) dX3_ofPerson_60 (n2 (hL 8 rfl)) (fun h60_3 => ?_)
        exact g_iret dX3_ofPerson_61 rfl (Nat.le_of_ble_eq_true rfl) (Nat.le_of_ble_eq_true rfl) (ex_ok (by unfold perE; grind) (congrArg (fun z => some (gi z)) (by unfold perV perN; grind)) rfl (rfl))
  · skip
    exact g_cS_t (My := mX3_needPerson_x) (gs := [_]) (c_X3_needPerson_x hp hs1) mfX3_needPerson_x rfl wst_X3_needPerson wm_X3_86 dX3_ofPerson_1 (Nat.le_of_ble_eq_true rfl) rfl (fun _ => Nat.le_of_ble_eq_true rfl) (Nat.le_of_ble_eq_true rfl) (Nat.le_of_ble_eq_true rfl) rfl rfl rfl (ex_th 0 (by unfold perE; grind) rfl)

set_option maxRecDepth 20000 in
theorem c_X3_ofStone {L : Nat → Nat} {A : Mem} (hV : VC L A) {x w : Int} (hx : -2147483648 ≤ x ∧ x < 2147483648) (hw : -2147483648 ≤ w ∧ w < 2147483648) : Ct mX3_ofStone [gr 0, gi x, gi w] L A (exP [xIOE, xIAE] (stoE A x w) (some (gi (stoV A x w))) L A L A) := by
  have hL := vc_L hV
  have hnc := vc_nc hV; have hns := vc_ns hV; have hp0 := (vc_p hV).1
  refine Ct_of (ls := [(0, _), (1, _), (2, _)]) rfl (by decide) (fun _ => rfl) (fun _ => Nat.le_of_ble_eq_true rfl) ?_
  refine g_aload_n 0 dX3_ofStone_0 rfl rfl ?_
  refine g_iload_n 1 dX3_ofStone_1 rfl rfl ?_
  by_cases hs2 : 0 ≤ x ∧ x < A 3 2
  · skip
    obtain ⟨s, rfl⟩ : ∃ s : Nat, x = s := ⟨x.toNat, by omega⟩
    have hs : (s : Int) < A 3 2 := by omega
    refine g_cV_i (My := mX3_stoneAt) (gs := [_]) (c_X3_stoneAt hV hs) mfX3_stoneAt cf_4 wi_X3_stoneAt wsl_X3_stoneAt wm_X3_209 dX3_ofStone_2 (Nat.le_of_ble_eq_true rfl) rfl (by decide) (n2 (hL 0 rfl)) rfl (fun _ => Nat.le_of_ble_eq_true rfl) (Nat.le_of_ble_eq_true rfl) (Nat.le_of_ble_eq_true rfl) rfl rfl ?_
    refine g_sa (ls2 := [(3, _), (0, _), (1, _), (2, _)]) dX3_ofStone_5 rfl (by decide) (c1_cr (c1_ci (c1_ci c1_0))) rfl ?_
    refine g_iload_n 3 dX3_ofStone_6 rfl rfl ?_
    refine g_tsw (dt := 92) (by omega) dX3_ofStone_7 (by decide) (fun h7_1 => ?_) (fun h7_1a h7_1b => ?_)
    · skip
      exact g_throw thX3_ofStone_92 (Nat.le_of_ble_eq_true rfl) (Nat.le_of_ble_eq_true rfl) (by decide) (ex_th 1 (by unfold stoE; grind) rfl)
    · skip
      rcases (show w = 0 ∨ w = 1 ∨ w = 2 ∨ w = 3 ∨ w = 4 ∨ w = 5 ∨ w = 6 ∨ w = 7 by omega) with hs7_ | hs7_ | hs7_ | hs7_ | hs7_ | hs7_ | hs7_ | hs7_
      · skip
        refine ⟨_, 52, by rw [hs7_]; rfl, by decide, ?_⟩
        refine g_aload_n 0 dX3_ofStone_52 rfl rfl ?_
        refine g_getfi cf_3 3 (ly_s0 s) (by decide) (by decide) rfl (by decide) wf_X3_222 dX3_ofStone_53 (n2 (vc_s hV hs).1) (fun h53_2 => ?_)
        exact g_iret dX3_ofStone_56 rfl (Nat.le_of_ble_eq_true rfl) (Nat.le_of_ble_eq_true rfl) (ex_ok (by unfold stoE; grind) (congrArg (fun z => some (gi z)) (by unfold stoV; simp only [Int.toNat_natCast]; grind)) rfl (rfl))
      · skip
        refine ⟨_, 57, by rw [hs7_]; rfl, by decide, ?_⟩
        refine g_aload_n 0 dX3_ofStone_57 rfl rfl ?_
        refine g_cV_i (My := mX2_lustre) (gs := []) (c_X2_lustre (vc_s hV hs) (by have := (vc_sv hV hs).2.1; omega)) mfX2_lustre cf_3 wi_X2_lustre wsl_X2_lustre wm_X3_228 dX3_ofStone_58 (Nat.le_of_ble_eq_true rfl) (ly_s0 s) (by decide) (n2 (vc_s hV hs).1) rfl (fun _ => Nat.le_of_ble_eq_true rfl) (Nat.le_of_ble_eq_true rfl) (Nat.le_of_ble_eq_true rfl) rfl rfl ?_
        exact g_iret dX3_ofStone_61 rfl (Nat.le_of_ble_eq_true rfl) (Nat.le_of_ble_eq_true rfl) (ex_ok (by unfold stoE; grind) (congrArg (fun z => some (gi z)) (by unfold stoV; simp only [Int.toNat_natCast]; grind)) rfl (rfl))
      · skip
        refine ⟨_, 62, by rw [hs7_]; rfl, by decide, ?_⟩
        refine g_aload_n 0 dX3_ofStone_62 rfl rfl ?_
        refine g_getfi cf_3 6 (ly_s0 s) (by decide) (by decide) rfl (by decide) wf_X3_217 dX3_ofStone_63 (n2 (vc_s hV hs).1) (fun h63_3 => ?_)
        exact g_iret dX3_ofStone_66 rfl (Nat.le_of_ble_eq_true rfl) (Nat.le_of_ble_eq_true rfl) (ex_ok (by unfold stoE; grind) (congrArg (fun z => some (gi z)) (by unfold stoV; simp only [Int.toNat_natCast]; grind)) rfl (rfl))
      · skip
        refine ⟨_, 67, by rw [hs7_]; rfl, by decide, ?_⟩
        refine g_aload_n 0 dX3_ofStone_67 rfl rfl ?_
        refine g_getfi cf_3 2 (ly_s0 s) (by decide) (by decide) rfl (by decide) wf_X3_303 dX3_ofStone_68 (n2 (vc_s hV hs).1) (fun h68_4 => ?_)
        exact g_iret dX3_ofStone_71 rfl (Nat.le_of_ble_eq_true rfl) (Nat.le_of_ble_eq_true rfl) (ex_ok (by unfold stoE; grind) (congrArg (fun z => some (gi z)) (by unfold stoV; simp only [Int.toNat_natCast]; grind)) rfl (rfl))
      · skip
        refine ⟨_, 72, by rw [hs7_]; rfl, by decide, ?_⟩
        refine g_aload_n 0 dX3_ofStone_72 rfl rfl ?_
        refine g_cV_i (My := mX2_value) (gs := []) (c_X2_value (vc_s hV hs) (by have := (vc_sv hV hs).2.1; omega)) mfX2_value cf_3 wi_X2_value wsl_X2_value wm_X3_306 dX3_ofStone_73 (Nat.le_of_ble_eq_true rfl) (ly_s0 s) (by decide) (n2 (vc_s hV hs).1) rfl (fun _ => Nat.le_of_ble_eq_true rfl) (Nat.le_of_ble_eq_true rfl) (Nat.le_of_ble_eq_true rfl) rfl rfl ?_
        exact g_iret dX3_ofStone_76 rfl (Nat.le_of_ble_eq_true rfl) (Nat.le_of_ble_eq_true rfl) (ex_ok (by unfold stoE; grind) (congrArg (fun z => some (gi z)) (by unfold stoV; simp only [Int.toNat_natCast]; grind)) rfl (rfl))
      · skip
        refine ⟨_, 77, by rw [hs7_]; rfl, by decide, ?_⟩
        refine g_aload_n 0 dX3_ofStone_77 rfl rfl ?_
        refine g_getfi cf_3 7 (ly_s0 s) (by decide) (by decide) rfl (by decide) wf_X3_260 dX3_ofStone_78 (n2 (vc_s hV hs).1) (fun h78_5 => ?_)
        exact g_iret dX3_ofStone_81 rfl (Nat.le_of_ble_eq_true rfl) (Nat.le_of_ble_eq_true rfl) (ex_ok (by unfold stoE; grind) (congrArg (fun z => some (gi z)) (by unfold stoV; simp only [Int.toNat_natCast]; grind)) rfl (rfl))
      · skip
        refine ⟨_, 82, by rw [hs7_]; rfl, by decide, ?_⟩
        refine g_aload_n 0 dX3_ofStone_82 rfl rfl ?_
        refine g_getfi cf_3 5 (ly_s0 s) (by decide) (by decide) rfl (by decide) wf_X3_236 dX3_ofStone_83 (n2 (vc_s hV hs).1) (fun h83_6 => ?_)
        exact g_iret dX3_ofStone_86 rfl (Nat.le_of_ble_eq_true rfl) (Nat.le_of_ble_eq_true rfl) (ex_ok (by unfold stoE; grind) (congrArg (fun z => some (gi z)) (by unfold stoV; simp only [Int.toNat_natCast]; grind)) rfl (rfl))
      · skip
        refine ⟨_, 87, by rw [hs7_]; rfl, by decide, ?_⟩
        refine g_aload_n 0 dX3_ofStone_87 rfl rfl ?_
        refine g_getfi cf_3 0 (ly_s0 s) (by decide) (by decide) rfl (by decide) wf_X3_309 dX3_ofStone_88 (n2 (vc_s hV hs).1) (fun h88_7 => ?_)
        exact g_iret dX3_ofStone_91 rfl (Nat.le_of_ble_eq_true rfl) (Nat.le_of_ble_eq_true rfl) (ex_ok (by unfold stoE; grind) (congrArg (fun z => some (gi z)) (by unfold stoV; simp only [Int.toNat_natCast]; grind)) rfl (rfl))
  · skip
    exact g_cV_t (My := mX3_stoneAt_x) (gs := [_]) (c_X3_stoneAt_x hV hx hs2) mfX3_stoneAt_x cf_4 wi_X3_stoneAt wsl_X3_stoneAt wm_X3_209 dX3_ofStone_2 (Nat.le_of_ble_eq_true rfl) rfl (by decide) (n2 (hL 0 rfl)) rfl (fun _ => Nat.le_of_ble_eq_true rfl) (Nat.le_of_ble_eq_true rfl) (Nat.le_of_ble_eq_true rfl) rfl rfl rfl (ex_th 0 (by unfold stoE; grind) rfl)

set_option maxRecDepth 20000 in
theorem c_X3_purse {L : Nat → Nat} {A : Mem} (hV : VC L A) {b : Int} (hb : -2147483648 ≤ b ∧ b < 2147483648) : Ct mX3_purse [gr 0, gi b] L A (exP [xIOE] (purE b) (some (gi (A 9 b.toNat))) L A L A) := by
  have hL := vc_L hV
  have hnc := vc_nc hV; have hns := vc_ns hV; have hp0 := (vc_p hV).1
  refine Ct_of (ls := [(0, _), (1, _)]) rfl (by decide) (fun _ => rfl) (fun _ => Nat.le_of_ble_eq_true rfl) ?_
  refine g_iload_n 1 dX3_purse_0 rfl rfl ?_
  by_cases hs1 : 0 ≤ b ∧ b < 5
  · skip
    refine g_cS_v (My := mX3_needBuyer) (gs := [_]) (c_X3_needBuyer hb hs1) mfX3_needBuyer rfl wst_X3_needBuyer wm_X3_239 dX3_purse_1 (Nat.le_of_ble_eq_true rfl) rfl (fun _ => Nat.le_of_ble_eq_true rfl) (Nat.le_of_ble_eq_true rfl) (Nat.le_of_ble_eq_true rfl) rfl rfl ?_
    refine g_aload_n 0 dX3_purse_4 rfl rfl ?_
    refine g_getfr2 (r := 9) cf_4 6 rfl (by decide) (by decide) rfl (by decide) wf_X3_36 dX3_purse_5 (hL 0 rfl) rfl ?_
    refine g_iload_n 1 dX3_purse_8 rfl rfl ?_
    refine g_ia (by omega) (by omega) rfl (by decide) dX3_purse_9 (n2 (hL 9 rfl)) (fun h9_1 => ?_)
    exact g_iret dX3_purse_10 rfl (Nat.le_of_ble_eq_true rfl) (Nat.le_of_ble_eq_true rfl) (ex_ok (by unfold purE; grind) (congrArg (fun z => some (gi z)) (rfl)) rfl (rfl))
  · skip
    exact g_cS_t (My := mX3_needBuyer_x) (gs := [_]) (c_X3_needBuyer_x hb hs1) mfX3_needBuyer_x rfl wst_X3_needBuyer wm_X3_239 dX3_purse_1 (Nat.le_of_ble_eq_true rfl) rfl (fun _ => Nat.le_of_ble_eq_true rfl) (Nat.le_of_ble_eq_true rfl) (Nat.le_of_ble_eq_true rfl) rfl rfl rfl (ex_th 0 (by unfold purE; grind) rfl)

set_option maxRecDepth 20000 in
theorem c_X3_carats {L : Nat → Nat} {A : Mem} (hV : VC L A) {w : Int} (hw : -2147483648 ≤ w ∧ w < 2147483648) : Ct mX3_carats [gr 0, gi w] L A (exP [xIAE] (carE w) (some (gi (carV A w))) L A L A) := by
  have hL := vc_L hV
  have hnc := vc_nc hV; have hns := vc_ns hV; have hp0 := (vc_p hV).1
  refine Ct_of (ls := [(0, _), (1, _)]) rfl (by decide) (fun _ => rfl) (fun _ => Nat.le_of_ble_eq_true rfl) ?_
  refine g_iload_n 1 dX3_carats_0 rfl rfl ?_
  refine g_tsw (dt := 85) (by omega) dX3_carats_1 (by decide) (fun h1_1 => ?_) (fun h1_1a h1_1b => ?_)
  · skip
    exact g_throw thX3_carats_85 (Nat.le_of_ble_eq_true rfl) (Nat.le_of_ble_eq_true rfl) (by decide) (ex_th 0 (by unfold carE; grind) rfl)
  · skip
    rcases (show w = 0 ∨ w = 1 ∨ w = 2 ∨ w = 3 ∨ w = 4 ∨ w = 5 by omega) with hs1_ | hs1_ | hs1_ | hs1_ | hs1_ | hs1_
    · skip
      refine ⟨_, 40, by rw [hs1_]; rfl, by decide, ?_⟩
      refine g_aload_n 0 dX3_carats_40 rfl rfl ?_
      refine g_getfr2 (r := 1) cf_4 0 rfl (by decide) (by decide) rfl (by decide) wf_X3_12 dX3_carats_41 (hL 0 rfl) rfl ?_
      refine g_getfr2 (r := 13) cf_2 1 rfl (by decide) (by decide) rfl (by decide) wf_X3_69 dX3_carats_44 (hL 1 rfl) rfl ?_
      refine g_cS_i (My := mX3_sum) (gs := [_]) (c_X3_sum (n := 13) rfl (hL 13 rfl)) mfX3_sum rfl wst_X3_sum wm_X3_314 dX3_carats_47 (Nat.le_of_ble_eq_true rfl) rfl (fun _ => Nat.le_of_ble_eq_true rfl) (Nat.le_of_ble_eq_true rfl) (Nat.le_of_ble_eq_true rfl) rfl rfl ?_
      exact g_iret dX3_carats_50 rfl (Nat.le_of_ble_eq_true rfl) (Nat.le_of_ble_eq_true rfl) (ex_ok (by unfold carE; grind) (congrArg (fun z => some (gi z)) (by unfold carV; simp only [hs1_]; rfl)) rfl (rfl))
    · skip
      refine ⟨_, 51, by rw [hs1_]; rfl, by decide, ?_⟩
      refine g_aload_n 0 dX3_carats_51 rfl rfl ?_
      refine g_getfr2 (r := 1) cf_4 0 rfl (by decide) (by decide) rfl (by decide) wf_X3_12 dX3_carats_52 (hL 0 rfl) rfl ?_
      refine g_getfr2 (r := 14) cf_2 2 rfl (by decide) (by decide) rfl (by decide) wf_X3_74 dX3_carats_55 (hL 1 rfl) rfl ?_
      refine g_cS_i (My := mX3_sum) (gs := [_]) (c_X3_sum (n := 14) rfl (hL 14 rfl)) mfX3_sum rfl wst_X3_sum wm_X3_314 dX3_carats_58 (Nat.le_of_ble_eq_true rfl) rfl (fun _ => Nat.le_of_ble_eq_true rfl) (Nat.le_of_ble_eq_true rfl) (Nat.le_of_ble_eq_true rfl) rfl rfl ?_
      exact g_iret dX3_carats_61 rfl (Nat.le_of_ble_eq_true rfl) (Nat.le_of_ble_eq_true rfl) (ex_ok (by unfold carE; grind) (congrArg (fun z => some (gi z)) (by unfold carV; simp only [hs1_]; rfl)) rfl (rfl))
    · skip
      refine ⟨_, 62, by rw [hs1_]; rfl, by decide, ?_⟩
      refine g_aload_n 0 dX3_carats_62 rfl rfl ?_
      refine g_iconst dX3_carats_63 ?_
      refine g_cV_i (My := mX3_caratsOfStones) (gs := [_]) (c_X3_caratsOfStones hV (by omega)) mfX3_caratsOfStones cf_4 wi_X3_caratsOfStones wsl_X3_caratsOfStones wm_X3_317 dX3_carats_64 (Nat.le_of_ble_eq_true rfl) rfl (by decide) (n2 (hL 0 rfl)) rfl (fun _ => Nat.le_of_ble_eq_true rfl) (Nat.le_of_ble_eq_true rfl) (Nat.le_of_ble_eq_true rfl) rfl rfl ?_
      exact g_iret dX3_carats_67 rfl (Nat.le_of_ble_eq_true rfl) (Nat.le_of_ble_eq_true rfl) (ex_ok (by unfold carE; grind) (congrArg (fun z => some (gi z)) (by unfold carV; simp only [hs1_]; rfl)) rfl (rfl))
    · skip
      refine ⟨_, 68, by rw [hs1_]; rfl, by decide, ?_⟩
      refine g_aload_n 0 dX3_carats_68 rfl rfl ?_
      refine g_iconst dX3_carats_69 ?_
      refine g_cV_i (My := mX3_caratsOfStones) (gs := [_]) (c_X3_caratsOfStones hV (by omega)) mfX3_caratsOfStones cf_4 wi_X3_caratsOfStones wsl_X3_caratsOfStones wm_X3_317 dX3_carats_70 (Nat.le_of_ble_eq_true rfl) rfl (by decide) (n2 (hL 0 rfl)) rfl (fun _ => Nat.le_of_ble_eq_true rfl) (Nat.le_of_ble_eq_true rfl) (Nat.le_of_ble_eq_true rfl) rfl rfl ?_
      exact g_iret dX3_carats_73 rfl (Nat.le_of_ble_eq_true rfl) (Nat.le_of_ble_eq_true rfl) (ex_ok (by unfold carE; grind) (congrArg (fun z => some (gi z)) (by unfold carV; simp only [hs1_]; rfl)) rfl (rfl))
    · skip
      refine ⟨_, 74, by rw [hs1_]; rfl, by decide, ?_⟩
      refine g_aload_n 0 dX3_carats_74 rfl rfl ?_
      refine g_iconst dX3_carats_75 ?_
      refine g_cV_i (My := mX3_caratsOfStones) (gs := [_]) (c_X3_caratsOfStones hV (by omega)) mfX3_caratsOfStones cf_4 wi_X3_caratsOfStones wsl_X3_caratsOfStones wm_X3_317 dX3_carats_76 (Nat.le_of_ble_eq_true rfl) rfl (by decide) (n2 (hL 0 rfl)) rfl (fun _ => Nat.le_of_ble_eq_true rfl) (Nat.le_of_ble_eq_true rfl) (Nat.le_of_ble_eq_true rfl) rfl rfl ?_
      exact g_iret dX3_carats_79 rfl (Nat.le_of_ble_eq_true rfl) (Nat.le_of_ble_eq_true rfl) (ex_ok (by unfold carE; grind) (congrArg (fun z => some (gi z)) (by unfold carV; simp only [hs1_]; rfl)) rfl (rfl))
    · skip
      refine ⟨_, 80, by rw [hs1_]; rfl, by decide, ?_⟩
      refine g_aload_n 0 dX3_carats_80 rfl rfl ?_
      refine g_cV_i (My := mX3_caratsLost) (gs := []) (c_X3_caratsLost hV) mfX3_caratsLost cf_4 wi_X3_caratsLost wsl_X3_caratsLost wm_X3_320 dX3_carats_81 (Nat.le_of_ble_eq_true rfl) rfl (by decide) (n2 (hL 0 rfl)) rfl (fun _ => Nat.le_of_ble_eq_true rfl) (Nat.le_of_ble_eq_true rfl) (Nat.le_of_ble_eq_true rfl) rfl rfl ?_
      exact g_iret dX3_carats_84 rfl (Nat.le_of_ble_eq_true rfl) (Nat.le_of_ble_eq_true rfl) (ex_ok (by unfold carE; grind) (congrArg (fun z => some (gi z)) (by unfold carV; simp only [hs1_]; rfl)) rfl (rfl))

