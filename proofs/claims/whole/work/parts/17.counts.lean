def exP (es : List String) (e : Nat) (v : Option GV) (L2 : Nat → Nat) (A2 : Mem) (L : Nat → Nat) (A : Mem) : Pst := fun o L' A' => (e = 0 ∧ o = .inr v ∧ L' = L2 ∧ A' = A2) ∨ ∃ (k : Nat) (E : String), e = k + 1 ∧ es[k]? = some E ∧ o = .inl E ∧ L' = L ∧ A' = A
theorem ex_ok {es : List String} {e : Nat} {v v2 : Option GV} {L L1 L2 : Nat → Nat} {A A1 A2 : Mem} (h : e = 0) (hv : v = v2) (hL : L1 = L2) (hA : A1 = A2) : exP es e v2 L2 A2 L A (.inr v) L1 A1 := Or.inl ⟨h, by rw [hv], hL, hA⟩
theorem ex_th {es : List String} {e : Nat} {v2 : Option GV} {L L2 : Nat → Nat} {A A2 : Mem} {E : String} (k : Nat) (h : e = k + 1) (hE : es[k]? = some E) : exP es e v2 L2 A2 L A (.inl E) L A := Or.inr ⟨k, E, h, hE, rfl, rfl, rfl⟩
theorem Ct_post {M : MD} {gs : List GV} {L : Nat → Nat} {A : Mem} {P P2 : Pst} (hC : Ct M gs L A P) (h : ∀ o L' A', P o L' A' → P2 o L' A') : Ct M gs L A P2 := by
  intro l hl D a0 sz
  have hm := hC l hl D a0 sz
  intro p e ha hc hk s m args below hf happ hpre ht
  obtain ⟨k, o, h1, h2, h3, h4⟩ := hm p e ha hc hk s m args below hf happ hpre ht
  refine ⟨k, o, h1, h2, h3, ?_⟩
  rcases h4 with ⟨⟨v, a, L1, A1, q1, q2, q3⟩, q4⟩ | ⟨q, q0, E, ce, Lx, ⟨a, L1, A1, q1, q2⟩, q3⟩
  · exact Or.inl ⟨⟨v, a, L1, A1, q1, h _ _ _ q2, q3⟩, q4⟩
  · exact Or.inr ⟨q, q0, E, ce, Lx, ⟨a, L1, A1, h _ _ _ q1, q2⟩, q3⟩
theorem Ct_ex0 {M : MD} {gs : List GV} {L L2 : Nat → Nat} {A A2 : Mem} {es : List String} {e : Nat} {v : Option GV} (hC : Ct M gs L A (exP es e v L2 A2 L A)) (h : e = 0) : Ct M gs L A (pr v L2 A2) := Ct_post hC (fun o L' A' q => by
  rcases q with ⟨-, q⟩ | ⟨k, E, q, -⟩
  · exact q
  · omega)
theorem Ct_ex1 {M : MD} {gs : List GV} {L L2 : Nat → Nat} {A A2 : Mem} {es : List String} {e : Nat} {v : Option GV} {E : String} (hC : Ct M gs L A (exP es e v L2 A2 L A)) (k : Nat) (h : e = k + 1) (hE : es[k]? = some E) : Ct M gs L A (pt E L A) := Ct_post hC (fun o L' A' q => by
  rcases q with ⟨q, -⟩ | ⟨k2, E2, q, q2, q3⟩
  · omega
  · have : k2 = k := by omega
    subst this
    rw [hE] at q2
    cases q2
    exact q3)
theorem g_ix {M : MD} {P : Pst} {kc ks pc : Nat} {ls : List (Nat × GV)} {st : List GV} {L : Nat → Nat} {A : Mem} {x : Int} (h : 0 ≤ x) (k : ∀ n : Nat, x = n → GW M P kc ks pc ls st L A) : GW M P kc ks pc ls st L A := k x.toNat (by omega)
/-- 0: at hand; 1: no such; 2: not at hand -/
def ahE (A : Mem) (x p c : Int) : Nat := if (0 ≤ x ∧ x < A 2 2) ∧ (0 ≤ p ∧ p < 8) ∧ 0 ≤ c ∧ c < 100 then (if 0 < A (101 + 3 * x.toNat) p.toNat ∧ brdC A p = 0 ∧ hldC A c = x then 0 else 2) else 1

set_option maxRecDepth 20000 in
theorem c_X3_claimAtHand {L : Nat → Nat} {A : Mem} (hV : VC L A) {k : Nat} {p c : Int} (hk : (k : Int) < A 2 2) (hp : 0 ≤ p ∧ p < 8) (hc : 0 ≤ c ∧ c < 100) (h1 : 0 < A (101 + 3 * k) p.toNat) (h2 : brdC A p = 0) (h3 : hldC A c = k) : Ct mX3_claimAtHand [gr 0, gi k, gi p, gi c] L A (pr (some (gr (100 + 3 * k))) L A) := by
  have hL := vc_L hV
  have hnc := vc_nc hV; have hns := vc_ns hV; have hp0 := (vc_p hV).1
  refine Ct_of (ls := [(0, _), (1, _), (2, _), (3, _)]) rfl (by decide) (fun _ => rfl) (fun _ => Nat.le_of_ble_eq_true rfl) ?_
  refine g_aload_n 0 dX3_claimAtHand_0 rfl rfl ?_
  refine g_iload_n 1 dX3_claimAtHand_1 rfl rfl ?_
  refine g_cV_i (My := mX3_claimAt) (gs := [_]) (c_X3_claimAt hV hk) mfX3_claimAt cf_4 wi_X3_claimAt wsl_X3_claimAt wm_X3_112 dX3_claimAtHand_2 (Nat.le_of_ble_eq_true rfl) rfl (by decide) (n2 (hL 0 rfl)) rfl (fun _ => Nat.le_of_ble_eq_true rfl) (Nat.le_of_ble_eq_true rfl) (Nat.le_of_ble_eq_true rfl) rfl rfl ?_
  refine g_sa2 (ls2 := [(4, _), (0, _), (1, _), (2, _), (3, _)]) dX3_claimAtHand_5 (by decide) (c1_cr (c1_ci (c1_ci (c1_ci c1_0)))) rfl ?_
  refine g_iload_n 3 dX3_claimAtHand_7 rfl rfl ?_
  refine g_cS_v (My := mX3_needPerson) (gs := [_]) (c_X3_needPerson (by omega) hp) mfX3_needPerson rfl wst_X3_needPerson wm_X3_86 dX3_claimAtHand_8 (Nat.le_of_ble_eq_true rfl) rfl (fun _ => Nat.le_of_ble_eq_true rfl) (Nat.le_of_ble_eq_true rfl) (Nat.le_of_ble_eq_true rfl) rfl rfl ?_
  refine g_iload_n 4 dX3_claimAtHand_11 rfl rfl ?_
  refine g_cS_v (My := mX3_needCell) (gs := [_]) (c_X3_needCell (by omega) hc) mfX3_needCell rfl wst_X3_needCell wm_X3_51 dX3_claimAtHand_12 (Nat.le_of_ble_eq_true rfl) rfl (fun _ => Nat.le_of_ble_eq_true rfl) (Nat.le_of_ble_eq_true rfl) (Nat.le_of_ble_eq_true rfl) rfl rfl ?_
  refine g_aload 0 dX3_claimAtHand_15 rfl ?_
  refine g_iload_n 3 dX3_claimAtHand_17 rfl rfl ?_
  refine g_cV_i (My := mX0_isOfPeople) (gs := [_]) (c_X0_isOfPeople (vc_k hV hk) (vc_c hV hk) hp) mfX0_isOfPeople cf_1 wi_X0_isOfPeople wsl_X0_isOfPeople wm_X3_116 dX3_claimAtHand_18 (Nat.le_of_ble_eq_true rfl) (ly_c0 (vc_k hV hk)) (by decide) (n2 (vc_c hV hk).1) rfl (fun _ => Nat.le_of_ble_eq_true rfl) (Nat.le_of_ble_eq_true rfl) (Nat.le_of_ble_eq_true rfl) rfl rfl ?_
  refine g_ifb_ne (tgt := 35) dX3_claimAtHand_21 (by decide) (fun h21_1 => ?_) (fun h21_1 => absurd h21_1 (by simp only [decide_eq_false_iff_not]; omega))
  refine g_aload_n 1 dX3_claimAtHand_35 rfl rfl ?_
  refine g_iload_n 3 dX3_claimAtHand_36 rfl rfl ?_
  refine g_cV_v (My := mX3_needFree) (gs := [_]) (c_X3_needFree hV hp h2) mfX3_needFree cf_4 wi_X3_needFree wsl_X3_needFree wm_X3_100 dX3_claimAtHand_37 (Nat.le_of_ble_eq_true rfl) rfl (by decide) (n2 (hL 0 rfl)) rfl (fun _ => Nat.le_of_ble_eq_true rfl) (Nat.le_of_ble_eq_true rfl) (Nat.le_of_ble_eq_true rfl) rfl rfl ?_
  refine g_aload_n 1 dX3_claimAtHand_40 rfl rfl ?_
  refine g_iload_n 4 dX3_claimAtHand_41 rfl rfl ?_
  refine g_cV_i (My := mX3_holderOf) (gs := [_]) (c_X3_holderOf hV hc) mfX3_holderOf cf_4 wi_X3_holderOf wsl_X3_holderOf wm_X3_189 dX3_claimAtHand_42 (Nat.le_of_ble_eq_true rfl) rfl (by decide) (n2 (hL 0 rfl)) rfl (fun _ => Nat.le_of_ble_eq_true rfl) (Nat.le_of_ble_eq_true rfl) (Nat.le_of_ble_eq_true rfl) rfl rfl ?_
  refine g_iload_n 2 dX3_claimAtHand_45 rfl rfl ?_
  have hr9 := hldC_rg hV c
  refine g_icmp_eq (tgt := 60) (by omega) (by omega) dX3_claimAtHand_46 (by decide) (fun h46_2 => ?_) (fun h46_2 => absurd h3 h46_2)
  refine g_aload 0 dX3_claimAtHand_60 rfl ?_
  exact g_aret dX3_claimAtHand_62 rfl (Nat.le_of_ble_eq_true rfl) (Nat.le_of_ble_eq_true rfl) (pr_mk (rfl) rfl (rfl))

set_option maxRecDepth 20000 in
theorem c_X3_claimAtHand_x {L : Nat → Nat} {A : Mem} (hV : VC L A) {x p c : Int} (hx : -2147483648 ≤ x ∧ x < 2147483648) (hp : -2147483648 ≤ p ∧ p < 2147483648) (hc : -2147483648 ≤ c ∧ c < 2147483648) (he : ahE A x p c ≠ 0) : Ct mX3_claimAtHand_x [gr 0, gi x, gi p, gi c] L A (exP [xIOE, xISE] (ahE A x p c) none L A L A) := by
  have hL := vc_L hV
  have hnc := vc_nc hV; have hns := vc_ns hV; have hp0 := (vc_p hV).1
  refine Ct_of (ls := [(0, _), (1, _), (2, _), (3, _)]) rfl (by decide) (fun _ => rfl) (fun _ => Nat.le_of_ble_eq_true rfl) ?_
  refine g_aload_n 0 dX3_claimAtHand_0 rfl rfl ?_
  refine g_iload_n 1 dX3_claimAtHand_1 rfl rfl ?_
  by_cases hs2 : 0 ≤ x ∧ x < A 2 2
  · skip
    obtain ⟨k, rfl⟩ : ∃ k : Nat, x = k := ⟨x.toNat, by omega⟩
    have hk : (k : Int) < A 2 2 := by omega
    refine g_cV_i (My := mX3_claimAt) (gs := [_]) (c_X3_claimAt hV hk) mfX3_claimAt cf_4 wi_X3_claimAt wsl_X3_claimAt wm_X3_112 dX3_claimAtHand_2 (Nat.le_of_ble_eq_true rfl) rfl (by decide) (n2 (hL 0 rfl)) rfl (fun _ => Nat.le_of_ble_eq_true rfl) (Nat.le_of_ble_eq_true rfl) (Nat.le_of_ble_eq_true rfl) rfl rfl ?_
    refine g_sa2 (ls2 := [(4, _), (0, _), (1, _), (2, _), (3, _)]) dX3_claimAtHand_5 (by decide) (c1_cr (c1_ci (c1_ci (c1_ci c1_0)))) rfl ?_
    refine g_iload_n 3 dX3_claimAtHand_7 rfl rfl ?_
    by_cases hs8 : 0 ≤ p ∧ p < 8
    · skip
      refine g_cS_v (My := mX3_needPerson) (gs := [_]) (c_X3_needPerson hp hs8) mfX3_needPerson rfl wst_X3_needPerson wm_X3_86 dX3_claimAtHand_8 (Nat.le_of_ble_eq_true rfl) rfl (fun _ => Nat.le_of_ble_eq_true rfl) (Nat.le_of_ble_eq_true rfl) (Nat.le_of_ble_eq_true rfl) rfl rfl ?_
      refine g_iload_n 4 dX3_claimAtHand_11 rfl rfl ?_
      by_cases hs12 : 0 ≤ c ∧ c < 100
      · skip
        refine g_cS_v (My := mX3_needCell) (gs := [_]) (c_X3_needCell hc hs12) mfX3_needCell rfl wst_X3_needCell wm_X3_51 dX3_claimAtHand_12 (Nat.le_of_ble_eq_true rfl) rfl (fun _ => Nat.le_of_ble_eq_true rfl) (Nat.le_of_ble_eq_true rfl) (Nat.le_of_ble_eq_true rfl) rfl rfl ?_
        refine g_aload 0 dX3_claimAtHand_15 rfl ?_
        refine g_iload_n 3 dX3_claimAtHand_17 rfl rfl ?_
        refine g_cV_i (My := mX0_isOfPeople) (gs := [_]) (c_X0_isOfPeople (vc_k hV hk) (vc_c hV hk) hs8) mfX0_isOfPeople cf_1 wi_X0_isOfPeople wsl_X0_isOfPeople wm_X3_116 dX3_claimAtHand_18 (Nat.le_of_ble_eq_true rfl) (ly_c0 (vc_k hV hk)) (by decide) (n2 (vc_c hV hk).1) rfl (fun _ => Nat.le_of_ble_eq_true rfl) (Nat.le_of_ble_eq_true rfl) (Nat.le_of_ble_eq_true rfl) rfl rfl ?_
        refine g_ifb_ne (tgt := 35) dX3_claimAtHand_21 (by decide) (fun h21_1 => ?_) (fun h21_1 => ?_)
        · skip
          refine g_aload_n 1 dX3_claimAtHand_35 rfl rfl ?_
          refine g_iload_n 3 dX3_claimAtHand_36 rfl rfl ?_
          by_cases hs37 : brdC A p = 0
          · skip
            refine g_cV_v (My := mX3_needFree) (gs := [_]) (c_X3_needFree hV hs8 hs37) mfX3_needFree cf_4 wi_X3_needFree wsl_X3_needFree wm_X3_100 dX3_claimAtHand_37 (Nat.le_of_ble_eq_true rfl) rfl (by decide) (n2 (hL 0 rfl)) rfl (fun _ => Nat.le_of_ble_eq_true rfl) (Nat.le_of_ble_eq_true rfl) (Nat.le_of_ble_eq_true rfl) rfl rfl ?_
            refine g_aload_n 1 dX3_claimAtHand_40 rfl rfl ?_
            refine g_iload_n 4 dX3_claimAtHand_41 rfl rfl ?_
            refine g_cV_i (My := mX3_holderOf) (gs := [_]) (c_X3_holderOf hV hs12) mfX3_holderOf cf_4 wi_X3_holderOf wsl_X3_holderOf wm_X3_189 dX3_claimAtHand_42 (Nat.le_of_ble_eq_true rfl) rfl (by decide) (n2 (hL 0 rfl)) rfl (fun _ => Nat.le_of_ble_eq_true rfl) (Nat.le_of_ble_eq_true rfl) (Nat.le_of_ble_eq_true rfl) rfl rfl ?_
            refine g_iload_n 2 dX3_claimAtHand_45 rfl rfl ?_
            have hr9 := hldC_rg hV c
            refine g_icmp_eq (tgt := 60) (by omega) (by omega) dX3_claimAtHand_46 (by decide) (fun h46_2 => absurd (show ahE A (k : Int) p c = 0 by unfold ahE; grind) he) (fun h46_2 => ?_)
            exact g_throw thX3_claimAtHand_49 (Nat.le_of_ble_eq_true rfl) (Nat.le_of_ble_eq_true rfl) (by decide) (ex_th 1 (by unfold ahE; grind) rfl)
          · skip
            exact g_cV_t (My := mX3_needFree_x) (gs := [_]) (c_X3_needFree_x hV hs8 hs37) mfX3_needFree_x cf_4 wi_X3_needFree wsl_X3_needFree wm_X3_100 dX3_claimAtHand_37 (Nat.le_of_ble_eq_true rfl) rfl (by decide) (n2 (hL 0 rfl)) rfl (fun _ => Nat.le_of_ble_eq_true rfl) (Nat.le_of_ble_eq_true rfl) (Nat.le_of_ble_eq_true rfl) rfl rfl rfl (ex_th 1 (by unfold ahE; grind) rfl)
        · skip
          exact g_throw thX3_claimAtHand_24 (Nat.le_of_ble_eq_true rfl) (Nat.le_of_ble_eq_true rfl) (by decide) (ex_th 1 (by unfold ahE; grind) rfl)
      · skip
        exact g_cS_t (My := mX3_needCell_x) (gs := [_]) (c_X3_needCell_x hc hs12) mfX3_needCell_x rfl wst_X3_needCell wm_X3_51 dX3_claimAtHand_12 (Nat.le_of_ble_eq_true rfl) rfl (fun _ => Nat.le_of_ble_eq_true rfl) (Nat.le_of_ble_eq_true rfl) (Nat.le_of_ble_eq_true rfl) rfl rfl rfl (ex_th 0 (by unfold ahE; grind) rfl)
    · skip
      exact g_cS_t (My := mX3_needPerson_x) (gs := [_]) (c_X3_needPerson_x hp hs8) mfX3_needPerson_x rfl wst_X3_needPerson wm_X3_86 dX3_claimAtHand_8 (Nat.le_of_ble_eq_true rfl) rfl (fun _ => Nat.le_of_ble_eq_true rfl) (Nat.le_of_ble_eq_true rfl) (Nat.le_of_ble_eq_true rfl) rfl rfl rfl (ex_th 0 (by unfold ahE; grind) rfl)
  · skip
    exact g_cV_t (My := mX3_claimAt_x) (gs := [_]) (c_X3_claimAt_x hV hx hs2) mfX3_claimAt_x cf_4 wi_X3_claimAt wsl_X3_claimAt wm_X3_112 dX3_claimAtHand_2 (Nat.le_of_ble_eq_true rfl) rfl (by decide) (n2 (hL 0 rfl)) rfl (fun _ => Nat.le_of_ble_eq_true rfl) (Nat.le_of_ble_eq_true rfl) (Nat.le_of_ble_eq_true rfl) rfl rfl rfl (ex_th 0 (by unfold ahE; grind) rfl)

set_option maxRecDepth 20000 in
theorem c_X3_stonesInParcel {L : Nat → Nat} {A : Mem} (hV : VC L A) {k : Int} (hk : -2147483648 ≤ k ∧ k < 2147483648) : Ct mX3_stonesInParcel [gr 0, gi k] L A (pr (some (gi (cntF (inpC A k) (A 3 2).toNat))) L A) := by
  have hL := vc_L hV
  have hnc := vc_nc hV; have hns := vc_ns hV; have hp0 := (vc_p hV).1
  refine Ct_of (ls := [(0, _), (1, _)]) rfl (by decide) (fun _ => rfl) (fun _ => Nat.le_of_ble_eq_true rfl) ?_
  refine g_iconst dX3_stonesInParcel_0 ?_
  refine g_st (ls2 := [(2, _), (0, _), (1, _)]) dX3_stonesInParcel_1 rfl (by decide) (c1_cr (c1_ci c1_0)) rfl ?_
  refine g_iconst dX3_stonesInParcel_2 ?_
  refine g_st (ls2 := [(3, _), (2, _), (0, _), (1, _)]) dX3_stonesInParcel_3 rfl (by decide) (c1_ci (c1_cr (c1_ci c1_0))) rfl ?_
  refine g_sub [2, 3, 1, 0] (ls2 := [(0, _), (1, _), (2, _), (3, _)]) rfl ?_
  have hQ4 : (fun i : Nat => GW mX3_stonesInParcel (pr (some (gi (cntF (inpC A k) (A 3 2).toNat))) L A) 0 0 4 [(0, gr (0)), (1, gi (k)), (2, gi (cntF (inpC A k) i)), (3, gi ((i : Int)))] [] L (A)) 0 := by
    refine lp_up (Q := (fun i : Nat => GW mX3_stonesInParcel (pr (some (gi (cntF (inpC A k) (A 3 2).toNat))) L A) 0 0 4 [(0, gr (0)), (1, gi (k)), (2, gi (cntF (inpC A k) i)), (3, gi ((i : Int)))] [] L (A))) (n := (A 3 2).toNat) ?_ (fun i hi4 ih4 => ?_)
    · skip
      refine g_iload_n 3 dX3_stonesInParcel_4 rfl rfl ?_
      refine g_aload_n 0 dX3_stonesInParcel_5 rfl rfl ?_
      refine g_getfr2 (r := 3) cf_4 2 rfl (by decide) (by decide) rfl (by decide) wf_X3_23 dX3_stonesInParcel_6 (hL 0 rfl) rfl ?_
      refine g_cV_i (My := mJx4a65c_size_8abf5) (gs := []) (c_AL_size rfl (n2 (vc_L hV 3 rfl))) mfJx4a65c_size_8abf5 cf_0 wi_Jx4a65c_size_8abf5 wsl_Jx4a65c_size_8abf5 wm_X3_94 dX3_stonesInParcel_9 (Nat.le_of_ble_eq_true rfl) rfl (by decide) (n2 (hL 3 rfl)) rfl (fun _ => Nat.le_of_ble_eq_true rfl) (Nat.le_of_ble_eq_true rfl) (Nat.le_of_ble_eq_true rfl) rfl rfl ?_
      refine g_icmp_ge (tgt := 42) (by omega) (by omega) dX3_stonesInParcel_12 (by decide) (fun h12_1 => ?_) (fun h12_1 => absurd h12_1 (by omega))
      refine g_iload_n 2 dX3_stonesInParcel_42 rfl rfl ?_
      exact g_iret dX3_stonesInParcel_43 rfl (Nat.le_of_ble_eq_true rfl) (Nat.le_of_ble_eq_true rfl) (pr_i (rfl) (rfl))
    · skip
      have hs : (i : Int) < A 3 2 := by omega
      refine g_iload_n 3 dX3_stonesInParcel_4 rfl rfl ?_
      refine g_aload_n 0 dX3_stonesInParcel_5 rfl rfl ?_
      refine g_getfr2 (r := 3) cf_4 2 rfl (by decide) (by decide) rfl (by decide) wf_X3_23 dX3_stonesInParcel_6 (hL 0 rfl) rfl ?_
      refine g_cV_i (My := mJx4a65c_size_8abf5) (gs := []) (c_AL_size rfl (n2 (vc_L hV 3 rfl))) mfJx4a65c_size_8abf5 cf_0 wi_Jx4a65c_size_8abf5 wsl_Jx4a65c_size_8abf5 wm_X3_94 dX3_stonesInParcel_9 (Nat.le_of_ble_eq_true rfl) rfl (by decide) (n2 (hL 3 rfl)) rfl (fun _ => Nat.le_of_ble_eq_true rfl) (Nat.le_of_ble_eq_true rfl) (Nat.le_of_ble_eq_true rfl) rfl rfl ?_
      refine g_icmp_ge (tgt := 42) (by omega) (by omega) dX3_stonesInParcel_12 (by decide) (fun h12_2 => absurd h12_2 (by omega)) (fun h12_2 => ?_)
      refine g_iload_n 2 dX3_stonesInParcel_15 rfl rfl ?_
      refine g_aload_n 0 dX3_stonesInParcel_16 rfl rfl ?_
      refine g_getfr2 (r := 3) cf_4 2 rfl (by decide) (by decide) rfl (by decide) wf_X3_23 dX3_stonesInParcel_17 (hL 0 rfl) rfl ?_
      refine g_iload_n 3 dX3_stonesInParcel_20 rfl rfl ?_
      refine g_cV_i (My := mJx4a65c_get_915e3) (gs := [_]) (c_SL_get (vc_ls hV hs) hs) mfJx4a65c_get_915e3 cf_0 wi_Jx4a65c_get_915e3 wsl_Jx4a65c_get_915e3 wm_X3_350 dX3_stonesInParcel_21 (Nat.le_of_ble_eq_true rfl) rfl (by decide) (n2 (hL 3 rfl)) rfl (fun _ => Nat.le_of_ble_eq_true rfl) (Nat.le_of_ble_eq_true rfl) (Nat.le_of_ble_eq_true rfl) rfl rfl ?_
      refine g_cast cf_3 (ly_s0 i) (by decide) wc_X3_218 dX3_stonesInParcel_24 (n2 (vc_s hV hs).1) ?_
      refine g_iload_n 1 dX3_stonesInParcel_27 rfl rfl ?_
      refine g_cV_i (My := mX2_isInParcelOf) (gs := [_]) (c_X2_isInParcelOf (vc_s hV hs) hk) mfX2_isInParcelOf cf_3 wi_X2_isInParcelOf wsl_X2_isInParcelOf wm_X3_382 dX3_stonesInParcel_28 (Nat.le_of_ble_eq_true rfl) (ly_s0 i) (by decide) (n2 (vc_s hV hs).1) rfl (fun _ => Nat.le_of_ble_eq_true rfl) (Nat.le_of_ble_eq_true rfl) (Nat.le_of_ble_eq_true rfl) rfl rfl ?_
      refine g_cS_i (My := mX3_oneIf) (gs := [_]) (c_X3_oneIf _) mfX3_oneIf rfl wst_X3_oneIf wm_X3_266 dX3_stonesInParcel_31 (Nat.le_of_ble_eq_true rfl) rfl (fun _ => Nat.le_of_ble_eq_true rfl) (Nat.le_of_ble_eq_true rfl) (Nat.le_of_ble_eq_true rfl) rfl rfl ?_
      refine g_iadd dX3_stonesInParcel_34 ?_
      refine g_st (ls2 := [(2, _), (0, _), (1, _), (3, _)]) dX3_stonesInParcel_35 rfl (by decide) (c1_cr (c1_ci (c1_ci (c1_ci c1_0)))) rfl ?_
      refine g_inc (ls2 := [(3, _), (2, _), (0, _), (1, _)]) 3 dX3_stonesInParcel_36 rfl (by decide) (c1_ci (c1_cr (c1_ci (c1_ci c1_0)))) rfl ?_
      refine g_goto (tgt := 4) dX3_stonesInParcel_39 (by decide) ?_
      refine g_sub [2, 3, 1, 0] (ls2 := [(0, _), (1, _), (2, _), (3, _)]) rfl ?_
      exact g_ls (by simp only [cntF]; rfl) rfl rfl ih4
  exact g_ls (by rfl) rfl rfl hQ4

def cwP (A : Mem) (k : Int) (s : Nat) : Int := if inpC A k s = true then A (200 + 3 * s) 3 else 0
def cwQ (A : Mem) (q : Int) (s : Nat) : Int := if plC A s = q then A (200 + 3 * s) 3 else 0

set_option maxRecDepth 20000 in
theorem c_X3_caratsInParcel {L : Nat → Nat} {A : Mem} (hV : VC L A) {k : Int} (hk : -2147483648 ≤ k ∧ k < 2147483648) : Ct mX3_caratsInParcel [gr 0, gi k] L A (pr (some (gi (sumF (cwP A k) (A 3 2).toNat))) L A) := by
  have hL := vc_L hV
  have hnc := vc_nc hV; have hns := vc_ns hV; have hp0 := (vc_p hV).1
  refine Ct_of (ls := [(0, _), (1, _)]) rfl (by decide) (fun _ => rfl) (fun _ => Nat.le_of_ble_eq_true rfl) ?_
  refine g_iconst dX3_caratsInParcel_0 ?_
  refine g_st (ls2 := [(2, _), (0, _), (1, _)]) dX3_caratsInParcel_1 rfl (by decide) (c1_cr (c1_ci c1_0)) rfl ?_
  refine g_iconst dX3_caratsInParcel_2 ?_
  refine g_st (ls2 := [(3, _), (2, _), (0, _), (1, _)]) dX3_caratsInParcel_3 rfl (by decide) (c1_ci (c1_cr (c1_ci c1_0))) rfl ?_
  refine g_sub [2, 3, 1, 0] (ls2 := [(0, _), (1, _), (2, _), (3, _)]) rfl ?_
  have hQ4 : (fun i : Nat => GW mX3_caratsInParcel (pr (some (gi (sumF (cwP A k) (A 3 2).toNat))) L A) 0 0 4 [(0, gr (0)), (1, gi (k)), (2, gi (sumF (cwP A k) i)), (3, gi ((i : Int)))] [] L (A)) 0 := by
    refine lp_up (Q := (fun i : Nat => GW mX3_caratsInParcel (pr (some (gi (sumF (cwP A k) (A 3 2).toNat))) L A) 0 0 4 [(0, gr (0)), (1, gi (k)), (2, gi (sumF (cwP A k) i)), (3, gi ((i : Int)))] [] L (A))) (n := (A 3 2).toNat) ?_ (fun i hi4 ih4 => ?_)
    · skip
      refine g_iload_n 3 dX3_caratsInParcel_4 rfl rfl ?_
      refine g_aload_n 0 dX3_caratsInParcel_5 rfl rfl ?_
      refine g_getfr2 (r := 3) cf_4 2 rfl (by decide) (by decide) rfl (by decide) wf_X3_23 dX3_caratsInParcel_6 (hL 0 rfl) rfl ?_
      refine g_cV_i (My := mJx4a65c_size_8abf5) (gs := []) (c_AL_size rfl (n2 (vc_L hV 3 rfl))) mfJx4a65c_size_8abf5 cf_0 wi_Jx4a65c_size_8abf5 wsl_Jx4a65c_size_8abf5 wm_X3_94 dX3_caratsInParcel_9 (Nat.le_of_ble_eq_true rfl) rfl (by decide) (n2 (hL 3 rfl)) rfl (fun _ => Nat.le_of_ble_eq_true rfl) (Nat.le_of_ble_eq_true rfl) (Nat.le_of_ble_eq_true rfl) rfl rfl ?_
      refine g_icmp_ge (tgt := 55) (by omega) (by omega) dX3_caratsInParcel_12 (by decide) (fun h12_1 => ?_) (fun h12_1 => absurd h12_1 (by omega))
      refine g_iload_n 2 dX3_caratsInParcel_55 rfl rfl ?_
      exact g_iret dX3_caratsInParcel_56 rfl (Nat.le_of_ble_eq_true rfl) (Nat.le_of_ble_eq_true rfl) (pr_i (rfl) (rfl))
    · skip
      have hs : (i : Int) < A 3 2 := by omega
      refine g_iload_n 3 dX3_caratsInParcel_4 rfl rfl ?_
      refine g_aload_n 0 dX3_caratsInParcel_5 rfl rfl ?_
      refine g_getfr2 (r := 3) cf_4 2 rfl (by decide) (by decide) rfl (by decide) wf_X3_23 dX3_caratsInParcel_6 (hL 0 rfl) rfl ?_
      refine g_cV_i (My := mJx4a65c_size_8abf5) (gs := []) (c_AL_size rfl (n2 (vc_L hV 3 rfl))) mfJx4a65c_size_8abf5 cf_0 wi_Jx4a65c_size_8abf5 wsl_Jx4a65c_size_8abf5 wm_X3_94 dX3_caratsInParcel_9 (Nat.le_of_ble_eq_true rfl) rfl (by decide) (n2 (hL 3 rfl)) rfl (fun _ => Nat.le_of_ble_eq_true rfl) (Nat.le_of_ble_eq_true rfl) (Nat.le_of_ble_eq_true rfl) rfl rfl ?_
      refine g_icmp_ge (tgt := 55) (by omega) (by omega) dX3_caratsInParcel_12 (by decide) (fun h12_2 => absurd h12_2 (by omega)) (fun h12_2 => ?_)
      refine g_aload_n 0 dX3_caratsInParcel_15 rfl rfl ?_
      refine g_getfr2 (r := 3) cf_4 2 rfl (by decide) (by decide) rfl (by decide) wf_X3_23 dX3_caratsInParcel_16 (hL 0 rfl) rfl ?_
      refine g_iload_n 3 dX3_caratsInParcel_19 rfl rfl ?_
      refine g_cV_i (My := mJx4a65c_get_915e3) (gs := [_]) (c_SL_get (vc_ls hV hs) hs) mfJx4a65c_get_915e3 cf_0 wi_Jx4a65c_get_915e3 wsl_Jx4a65c_get_915e3 wm_X3_350 dX3_caratsInParcel_20 (Nat.le_of_ble_eq_true rfl) rfl (by decide) (n2 (hL 3 rfl)) rfl (fun _ => Nat.le_of_ble_eq_true rfl) (Nat.le_of_ble_eq_true rfl) (Nat.le_of_ble_eq_true rfl) rfl rfl ?_
      refine g_cast cf_3 (ly_s0 i) (by decide) wc_X3_218 dX3_caratsInParcel_23 (n2 (vc_s hV hs).1) ?_
      refine g_sa2 (ls2 := [(4, _), (0, _), (1, _), (2, _), (3, _)]) dX3_caratsInParcel_26 (by decide) (c1_cr (c1_ci (c1_ci (c1_ci c1_0)))) rfl ?_
      refine g_iload_n 3 dX3_caratsInParcel_28 rfl rfl ?_
      refine g_aload 0 dX3_caratsInParcel_29 rfl ?_
      refine g_iload_n 2 dX3_caratsInParcel_31 rfl rfl ?_
      refine g_cV_i (My := mX2_isInParcelOf) (gs := [_]) (c_X2_isInParcelOf (vc_s hV hs) hk) mfX2_isInParcelOf cf_3 wi_X2_isInParcelOf wsl_X2_isInParcelOf wm_X3_382 dX3_caratsInParcel_32 (Nat.le_of_ble_eq_true rfl) (ly_s0 i) (by decide) (n2 (vc_s hV hs).1) rfl (fun _ => Nat.le_of_ble_eq_true rfl) (Nat.le_of_ble_eq_true rfl) (Nat.le_of_ble_eq_true rfl) rfl rfl ?_
      refine g_ifb_eq (tgt := 46) dX3_caratsInParcel_35 (by decide) (fun h35_3 => ?_) (fun h35_3 => ?_)
      · skip
        refine g_iconst dX3_caratsInParcel_46 ?_
        refine g_top (y := cwP A k i) (by unfold cwP inpC; grind) ?_
        refine g_iadd dX3_caratsInParcel_47 ?_
        refine g_st (ls2 := [(2, _), (4, _), (0, _), (1, _), (3, _)]) dX3_caratsInParcel_48 rfl (by decide) (c1_cr (c1_cr (c1_ci (c1_ci (c1_ci c1_0))))) rfl ?_
        refine g_inc (ls2 := [(3, _), (2, _), (4, _), (0, _), (1, _)]) 4 dX3_caratsInParcel_49 rfl (by decide) (c1_ci (c1_cr (c1_cr (c1_ci (c1_ci c1_0))))) rfl ?_
        refine g_goto (tgt := 4) dX3_caratsInParcel_52 (by decide) ?_
        refine g_sub [3, 4, 1, 0] (ls2 := [(0, _), (1, _), (2, _), (3, _)]) rfl ?_
        exact g_ls (by simp only [sumF]; rfl) rfl rfl ih4
      · skip
        refine g_aload 0 dX3_caratsInParcel_38 rfl ?_
        refine g_getfi cf_3 3 (ly_s0 i) (by decide) (by decide) rfl (by decide) wf_X3_222 dX3_caratsInParcel_40 (n2 (vc_s hV hs).1) (fun h40_4 => ?_)
        refine g_goto (tgt := 47) dX3_caratsInParcel_43 (by decide) ?_
        refine g_top (y := cwP A k i) (by unfold cwP inpC; grind) ?_
        refine g_iadd dX3_caratsInParcel_47 ?_
        refine g_st (ls2 := [(2, _), (4, _), (0, _), (1, _), (3, _)]) dX3_caratsInParcel_48 rfl (by decide) (c1_cr (c1_cr (c1_ci (c1_ci (c1_ci c1_0))))) rfl ?_
        refine g_inc (ls2 := [(3, _), (2, _), (4, _), (0, _), (1, _)]) 4 dX3_caratsInParcel_49 rfl (by decide) (c1_ci (c1_cr (c1_cr (c1_ci (c1_ci c1_0))))) rfl ?_
        refine g_goto (tgt := 4) dX3_caratsInParcel_52 (by decide) ?_
        refine g_sub [3, 4, 1, 0] (ls2 := [(0, _), (1, _), (2, _), (3, _)]) rfl ?_
        exact g_ls (by simp only [sumF]; rfl) rfl rfl ih4
  exact g_ls (by rfl) rfl rfl hQ4

set_option maxRecDepth 20000 in
theorem c_X3_caratsOfStones {L : Nat → Nat} {A : Mem} (hV : VC L A) {k : Int} (hk : -2147483648 ≤ k ∧ k < 2147483648) : Ct mX3_caratsOfStones [gr 0, gi k] L A (pr (some (gi (sumF (cwQ A k) (A 3 2).toNat))) L A) := by
  have hL := vc_L hV
  have hnc := vc_nc hV; have hns := vc_ns hV; have hp0 := (vc_p hV).1
  refine Ct_of (ls := [(0, _), (1, _)]) rfl (by decide) (fun _ => rfl) (fun _ => Nat.le_of_ble_eq_true rfl) ?_
  refine g_iconst dX3_caratsOfStones_0 ?_
  refine g_st (ls2 := [(2, _), (0, _), (1, _)]) dX3_caratsOfStones_1 rfl (by decide) (c1_cr (c1_ci c1_0)) rfl ?_
  refine g_iconst dX3_caratsOfStones_2 ?_
  refine g_st (ls2 := [(3, _), (2, _), (0, _), (1, _)]) dX3_caratsOfStones_3 rfl (by decide) (c1_ci (c1_cr (c1_ci c1_0))) rfl ?_
  refine g_sub [2, 3, 1, 0] (ls2 := [(0, _), (1, _), (2, _), (3, _)]) rfl ?_
  have hQ4 : (fun i : Nat => GW mX3_caratsOfStones (pr (some (gi (sumF (cwQ A k) (A 3 2).toNat))) L A) 0 0 4 [(0, gr (0)), (1, gi (k)), (2, gi (sumF (cwQ A k) i)), (3, gi ((i : Int)))] [] L (A)) 0 := by
    refine lp_up (Q := (fun i : Nat => GW mX3_caratsOfStones (pr (some (gi (sumF (cwQ A k) (A 3 2).toNat))) L A) 0 0 4 [(0, gr (0)), (1, gi (k)), (2, gi (sumF (cwQ A k) i)), (3, gi ((i : Int)))] [] L (A))) (n := (A 3 2).toNat) ?_ (fun i hi4 ih4 => ?_)
    · skip
      refine g_iload_n 3 dX3_caratsOfStones_4 rfl rfl ?_
      refine g_aload_n 0 dX3_caratsOfStones_5 rfl rfl ?_
      refine g_getfr2 (r := 3) cf_4 2 rfl (by decide) (by decide) rfl (by decide) wf_X3_23 dX3_caratsOfStones_6 (hL 0 rfl) rfl ?_
      refine g_cV_i (My := mJx4a65c_size_8abf5) (gs := []) (c_AL_size rfl (n2 (vc_L hV 3 rfl))) mfJx4a65c_size_8abf5 cf_0 wi_Jx4a65c_size_8abf5 wsl_Jx4a65c_size_8abf5 wm_X3_94 dX3_caratsOfStones_9 (Nat.le_of_ble_eq_true rfl) rfl (by decide) (n2 (hL 3 rfl)) rfl (fun _ => Nat.le_of_ble_eq_true rfl) (Nat.le_of_ble_eq_true rfl) (Nat.le_of_ble_eq_true rfl) rfl rfl ?_
      refine g_icmp_ge (tgt := 55) (by omega) (by omega) dX3_caratsOfStones_12 (by decide) (fun h12_1 => ?_) (fun h12_1 => absurd h12_1 (by omega))
      refine g_iload_n 2 dX3_caratsOfStones_55 rfl rfl ?_
      exact g_iret dX3_caratsOfStones_56 rfl (Nat.le_of_ble_eq_true rfl) (Nat.le_of_ble_eq_true rfl) (pr_i (rfl) (rfl))
    · skip
      have hs : (i : Int) < A 3 2 := by omega
      refine g_iload_n 3 dX3_caratsOfStones_4 rfl rfl ?_
      refine g_aload_n 0 dX3_caratsOfStones_5 rfl rfl ?_
      refine g_getfr2 (r := 3) cf_4 2 rfl (by decide) (by decide) rfl (by decide) wf_X3_23 dX3_caratsOfStones_6 (hL 0 rfl) rfl ?_
      refine g_cV_i (My := mJx4a65c_size_8abf5) (gs := []) (c_AL_size rfl (n2 (vc_L hV 3 rfl))) mfJx4a65c_size_8abf5 cf_0 wi_Jx4a65c_size_8abf5 wsl_Jx4a65c_size_8abf5 wm_X3_94 dX3_caratsOfStones_9 (Nat.le_of_ble_eq_true rfl) rfl (by decide) (n2 (hL 3 rfl)) rfl (fun _ => Nat.le_of_ble_eq_true rfl) (Nat.le_of_ble_eq_true rfl) (Nat.le_of_ble_eq_true rfl) rfl rfl ?_
      refine g_icmp_ge (tgt := 55) (by omega) (by omega) dX3_caratsOfStones_12 (by decide) (fun h12_2 => absurd h12_2 (by omega)) (fun h12_2 => ?_)
      refine g_aload_n 0 dX3_caratsOfStones_15 rfl rfl ?_
      refine g_getfr2 (r := 3) cf_4 2 rfl (by decide) (by decide) rfl (by decide) wf_X3_23 dX3_caratsOfStones_16 (hL 0 rfl) rfl ?_
      refine g_iload_n 3 dX3_caratsOfStones_19 rfl rfl ?_
      refine g_cV_i (My := mJx4a65c_get_915e3) (gs := [_]) (c_SL_get (vc_ls hV hs) hs) mfJx4a65c_get_915e3 cf_0 wi_Jx4a65c_get_915e3 wsl_Jx4a65c_get_915e3 wm_X3_350 dX3_caratsOfStones_20 (Nat.le_of_ble_eq_true rfl) rfl (by decide) (n2 (hL 3 rfl)) rfl (fun _ => Nat.le_of_ble_eq_true rfl) (Nat.le_of_ble_eq_true rfl) (Nat.le_of_ble_eq_true rfl) rfl rfl ?_
      refine g_cast cf_3 (ly_s0 i) (by decide) wc_X3_218 dX3_caratsOfStones_23 (n2 (vc_s hV hs).1) ?_
      refine g_sa2 (ls2 := [(4, _), (0, _), (1, _), (2, _), (3, _)]) dX3_caratsOfStones_26 (by decide) (c1_cr (c1_ci (c1_ci (c1_ci c1_0)))) rfl ?_
      refine g_iload_n 3 dX3_caratsOfStones_28 rfl rfl ?_
      refine g_aload 0 dX3_caratsOfStones_29 rfl ?_
      refine g_cV_i (My := mX2_place) (gs := []) (c_X2_place (vc_s hV hs)) mfX2_place cf_3 wi_X2_place wsl_X2_place wm_X3_364 dX3_caratsOfStones_31 (Nat.le_of_ble_eq_true rfl) (ly_s0 i) (by decide) (n2 (vc_s hV hs).1) rfl (fun _ => Nat.le_of_ble_eq_true rfl) (Nat.le_of_ble_eq_true rfl) (Nat.le_of_ble_eq_true rfl) rfl rfl ?_
      refine g_iload_n 2 dX3_caratsOfStones_34 rfl rfl ?_
      have hpl := plC_rg A i; unfold plC at hpl
      refine g_icmp_ne (tgt := 46) (by omega) (by omega) dX3_caratsOfStones_35 (by decide) (fun h35_3 => ?_) (fun h35_3 => ?_)
      · skip
        refine g_iconst dX3_caratsOfStones_46 ?_
        refine g_top (y := cwQ A k i) (by unfold cwQ plC; grind) ?_
        refine g_iadd dX3_caratsOfStones_47 ?_
        refine g_st (ls2 := [(2, _), (4, _), (0, _), (1, _), (3, _)]) dX3_caratsOfStones_48 rfl (by decide) (c1_cr (c1_cr (c1_ci (c1_ci (c1_ci c1_0))))) rfl ?_
        refine g_inc (ls2 := [(3, _), (2, _), (4, _), (0, _), (1, _)]) 4 dX3_caratsOfStones_49 rfl (by decide) (c1_ci (c1_cr (c1_cr (c1_ci (c1_ci c1_0))))) rfl ?_
        refine g_goto (tgt := 4) dX3_caratsOfStones_52 (by decide) ?_
        refine g_sub [3, 4, 1, 0] (ls2 := [(0, _), (1, _), (2, _), (3, _)]) rfl ?_
        exact g_ls (by simp only [sumF]; rfl) rfl rfl ih4
      · skip
        refine g_aload 0 dX3_caratsOfStones_38 rfl ?_
        refine g_getfi cf_3 3 (ly_s0 i) (by decide) (by decide) rfl (by decide) wf_X3_222 dX3_caratsOfStones_40 (n2 (vc_s hV hs).1) (fun h40_4 => ?_)
        refine g_goto (tgt := 47) dX3_caratsOfStones_43 (by decide) ?_
        refine g_top (y := cwQ A k i) (by unfold cwQ plC; grind) ?_
        refine g_iadd dX3_caratsOfStones_47 ?_
        refine g_st (ls2 := [(2, _), (4, _), (0, _), (1, _), (3, _)]) dX3_caratsOfStones_48 rfl (by decide) (c1_cr (c1_cr (c1_ci (c1_ci (c1_ci c1_0))))) rfl ?_
        refine g_inc (ls2 := [(3, _), (2, _), (4, _), (0, _), (1, _)]) 4 dX3_caratsOfStones_49 rfl (by decide) (c1_ci (c1_cr (c1_cr (c1_ci (c1_ci c1_0))))) rfl ?_
        refine g_goto (tgt := 4) dX3_caratsOfStones_52 (by decide) ?_
        refine g_sub [3, 4, 1, 0] (ls2 := [(0, _), (1, _), (2, _), (3, _)]) rfl ?_
        exact g_ls (by simp only [sumF]; rfl) rfl rfl ih4
  exact g_ls (by rfl) rfl rfl hQ4

set_option maxRecDepth 20000 in
theorem c_X3_stonesOfPerson {L : Nat → Nat} {A : Mem} (hV : VC L A) {k : Int} (hk : -2147483648 ≤ k ∧ k < 2147483648) : Ct mX3_stonesOfPerson [gr 0, gi k] L A (pr (some (gi (cntF (fun s => decide (plC A s = 1 ∧ A (200 + 3 * s) 6 = k)) (A 3 2).toNat))) L A) := by
  have hL := vc_L hV
  have hnc := vc_nc hV; have hns := vc_ns hV; have hp0 := (vc_p hV).1
  refine Ct_of (ls := [(0, _), (1, _)]) rfl (by decide) (fun _ => rfl) (fun _ => Nat.le_of_ble_eq_true rfl) ?_
  refine g_iconst dX3_stonesOfPerson_0 ?_
  refine g_st (ls2 := [(2, _), (0, _), (1, _)]) dX3_stonesOfPerson_1 rfl (by decide) (c1_cr (c1_ci c1_0)) rfl ?_
  refine g_iconst dX3_stonesOfPerson_2 ?_
  refine g_st (ls2 := [(3, _), (2, _), (0, _), (1, _)]) dX3_stonesOfPerson_3 rfl (by decide) (c1_ci (c1_cr (c1_ci c1_0))) rfl ?_
  refine g_sub [2, 3, 1, 0] (ls2 := [(0, _), (1, _), (2, _), (3, _)]) rfl ?_
  have hQ4 : (fun i : Nat => GW mX3_stonesOfPerson (pr (some (gi (cntF (fun s => decide (plC A s = 1 ∧ A (200 + 3 * s) 6 = k)) (A 3 2).toNat))) L A) 0 0 4 [(0, gr (0)), (1, gi (k)), (2, gi (cntF (fun s => decide (plC A s = 1 ∧ A (200 + 3 * s) 6 = k)) i)), (3, gi ((i : Int)))] [] L (A)) 0 := by
    refine lp_up (Q := (fun i : Nat => GW mX3_stonesOfPerson (pr (some (gi (cntF (fun s => decide (plC A s = 1 ∧ A (200 + 3 * s) 6 = k)) (A 3 2).toNat))) L A) 0 0 4 [(0, gr (0)), (1, gi (k)), (2, gi (cntF (fun s => decide (plC A s = 1 ∧ A (200 + 3 * s) 6 = k)) i)), (3, gi ((i : Int)))] [] L (A))) (n := (A 3 2).toNat) ?_ (fun i hi4 ih4 => ?_)
    · skip
      refine g_iload_n 3 dX3_stonesOfPerson_4 rfl rfl ?_
      refine g_aload_n 0 dX3_stonesOfPerson_5 rfl rfl ?_
      refine g_getfr2 (r := 3) cf_4 2 rfl (by decide) (by decide) rfl (by decide) wf_X3_23 dX3_stonesOfPerson_6 (hL 0 rfl) rfl ?_
      refine g_cV_i (My := mJx4a65c_size_8abf5) (gs := []) (c_AL_size rfl (n2 (vc_L hV 3 rfl))) mfJx4a65c_size_8abf5 cf_0 wi_Jx4a65c_size_8abf5 wsl_Jx4a65c_size_8abf5 wm_X3_94 dX3_stonesOfPerson_9 (Nat.le_of_ble_eq_true rfl) rfl (by decide) (n2 (hL 3 rfl)) rfl (fun _ => Nat.le_of_ble_eq_true rfl) (Nat.le_of_ble_eq_true rfl) (Nat.le_of_ble_eq_true rfl) rfl rfl ?_
      refine g_icmp_ge (tgt := 63) (by omega) (by omega) dX3_stonesOfPerson_12 (by decide) (fun h12_1 => ?_) (fun h12_1 => absurd h12_1 (by omega))
      refine g_iload_n 2 dX3_stonesOfPerson_63 rfl rfl ?_
      exact g_iret dX3_stonesOfPerson_64 rfl (Nat.le_of_ble_eq_true rfl) (Nat.le_of_ble_eq_true rfl) (pr_i (rfl) (rfl))
    · skip
      have hs : (i : Int) < A 3 2 := by omega
      refine g_iload_n 3 dX3_stonesOfPerson_4 rfl rfl ?_
      refine g_aload_n 0 dX3_stonesOfPerson_5 rfl rfl ?_
      refine g_getfr2 (r := 3) cf_4 2 rfl (by decide) (by decide) rfl (by decide) wf_X3_23 dX3_stonesOfPerson_6 (hL 0 rfl) rfl ?_
      refine g_cV_i (My := mJx4a65c_size_8abf5) (gs := []) (c_AL_size rfl (n2 (vc_L hV 3 rfl))) mfJx4a65c_size_8abf5 cf_0 wi_Jx4a65c_size_8abf5 wsl_Jx4a65c_size_8abf5 wm_X3_94 dX3_stonesOfPerson_9 (Nat.le_of_ble_eq_true rfl) rfl (by decide) (n2 (hL 3 rfl)) rfl (fun _ => Nat.le_of_ble_eq_true rfl) (Nat.le_of_ble_eq_true rfl) (Nat.le_of_ble_eq_true rfl) rfl rfl ?_
      refine g_icmp_ge (tgt := 63) (by omega) (by omega) dX3_stonesOfPerson_12 (by decide) (fun h12_2 => absurd h12_2 (by omega)) (fun h12_2 => ?_)
      refine g_aload_n 0 dX3_stonesOfPerson_15 rfl rfl ?_
      refine g_getfr2 (r := 3) cf_4 2 rfl (by decide) (by decide) rfl (by decide) wf_X3_23 dX3_stonesOfPerson_16 (hL 0 rfl) rfl ?_
      refine g_iload_n 3 dX3_stonesOfPerson_19 rfl rfl ?_
      refine g_cV_i (My := mJx4a65c_get_915e3) (gs := [_]) (c_SL_get (vc_ls hV hs) hs) mfJx4a65c_get_915e3 cf_0 wi_Jx4a65c_get_915e3 wsl_Jx4a65c_get_915e3 wm_X3_350 dX3_stonesOfPerson_20 (Nat.le_of_ble_eq_true rfl) rfl (by decide) (n2 (hL 3 rfl)) rfl (fun _ => Nat.le_of_ble_eq_true rfl) (Nat.le_of_ble_eq_true rfl) (Nat.le_of_ble_eq_true rfl) rfl rfl ?_
      refine g_cast cf_3 (ly_s0 i) (by decide) wc_X3_218 dX3_stonesOfPerson_23 (n2 (vc_s hV hs).1) ?_
      refine g_sa2 (ls2 := [(4, _), (0, _), (1, _), (2, _), (3, _)]) dX3_stonesOfPerson_26 (by decide) (c1_cr (c1_ci (c1_ci (c1_ci c1_0)))) rfl ?_
      refine g_iload_n 3 dX3_stonesOfPerson_28 rfl rfl ?_
      refine g_aload 0 dX3_stonesOfPerson_29 rfl ?_
      refine g_cV_i (My := mX2_place) (gs := []) (c_X2_place (vc_s hV hs)) mfX2_place cf_3 wi_X2_place wsl_X2_place wm_X3_364 dX3_stonesOfPerson_31 (Nat.le_of_ble_eq_true rfl) (ly_s0 i) (by decide) (n2 (vc_s hV hs).1) rfl (fun _ => Nat.le_of_ble_eq_true rfl) (Nat.le_of_ble_eq_true rfl) (Nat.le_of_ble_eq_true rfl) rfl rfl ?_
      refine g_iconst dX3_stonesOfPerson_34 ?_
      have hpl := plC_rg A i; unfold plC at hpl
      refine g_icmp_ne (tgt := 51) (by omega) (by omega) dX3_stonesOfPerson_35 (by decide) (fun h35_3 => ?_) (fun h35_3 => ?_)
      · skip
        refine g_iconst dX3_stonesOfPerson_51 ?_
        refine g_top (y := b2 (decide (plC A i = 1 ∧ A (200 + 3 * i) 6 = k))) (by unfold plC; grind [b2]) ?_
        refine g_cS_i (My := mX3_oneIf) (gs := [_]) (c_X3_oneIf _) mfX3_oneIf rfl wst_X3_oneIf wm_X3_266 dX3_stonesOfPerson_52 (Nat.le_of_ble_eq_true rfl) rfl (fun _ => Nat.le_of_ble_eq_true rfl) (Nat.le_of_ble_eq_true rfl) (Nat.le_of_ble_eq_true rfl) rfl rfl ?_
        refine g_iadd dX3_stonesOfPerson_55 ?_
        refine g_st (ls2 := [(2, _), (4, _), (0, _), (1, _), (3, _)]) dX3_stonesOfPerson_56 rfl (by decide) (c1_cr (c1_cr (c1_ci (c1_ci (c1_ci c1_0))))) rfl ?_
        refine g_inc (ls2 := [(3, _), (2, _), (4, _), (0, _), (1, _)]) 4 dX3_stonesOfPerson_57 rfl (by decide) (c1_ci (c1_cr (c1_cr (c1_ci (c1_ci c1_0))))) rfl ?_
        refine g_goto (tgt := 4) dX3_stonesOfPerson_60 (by decide) ?_
        refine g_sub [3, 4, 1, 0] (ls2 := [(0, _), (1, _), (2, _), (3, _)]) rfl ?_
        exact g_ls (by simp only [cntF]; rfl) rfl rfl ih4
      · skip
        refine g_aload 0 dX3_stonesOfPerson_38 rfl ?_
        refine g_getfi cf_3 6 (ly_s0 i) (by decide) (by decide) rfl (by decide) wf_X3_217 dX3_stonesOfPerson_40 (n2 (vc_s hV hs).1) (fun h40_4 => ?_)
        refine g_iload_n 2 dX3_stonesOfPerson_43 rfl rfl ?_
        refine g_icmp_ne (tgt := 51) (by omega) (by omega) dX3_stonesOfPerson_44 (by decide) (fun h44_5 => ?_) (fun h44_5 => ?_)
        · skip
          refine g_iconst dX3_stonesOfPerson_51 ?_
          refine g_top (y := b2 (decide (plC A i = 1 ∧ A (200 + 3 * i) 6 = k))) (by unfold plC; grind [b2]) ?_
          refine g_cS_i (My := mX3_oneIf) (gs := [_]) (c_X3_oneIf _) mfX3_oneIf rfl wst_X3_oneIf wm_X3_266 dX3_stonesOfPerson_52 (Nat.le_of_ble_eq_true rfl) rfl (fun _ => Nat.le_of_ble_eq_true rfl) (Nat.le_of_ble_eq_true rfl) (Nat.le_of_ble_eq_true rfl) rfl rfl ?_
          refine g_iadd dX3_stonesOfPerson_55 ?_
          refine g_st (ls2 := [(2, _), (4, _), (0, _), (1, _), (3, _)]) dX3_stonesOfPerson_56 rfl (by decide) (c1_cr (c1_cr (c1_ci (c1_ci (c1_ci c1_0))))) rfl ?_
          refine g_inc (ls2 := [(3, _), (2, _), (4, _), (0, _), (1, _)]) 4 dX3_stonesOfPerson_57 rfl (by decide) (c1_ci (c1_cr (c1_cr (c1_ci (c1_ci c1_0))))) rfl ?_
          refine g_goto (tgt := 4) dX3_stonesOfPerson_60 (by decide) ?_
          refine g_sub [3, 4, 1, 0] (ls2 := [(0, _), (1, _), (2, _), (3, _)]) rfl ?_
          exact g_ls (by simp only [cntF]; rfl) rfl rfl ih4
        · skip
          refine g_iconst dX3_stonesOfPerson_47 ?_
          refine g_goto (tgt := 52) dX3_stonesOfPerson_48 (by decide) ?_
          refine g_top (y := b2 (decide (plC A i = 1 ∧ A (200 + 3 * i) 6 = k))) (by unfold plC; grind [b2]) ?_
          refine g_cS_i (My := mX3_oneIf) (gs := [_]) (c_X3_oneIf _) mfX3_oneIf rfl wst_X3_oneIf wm_X3_266 dX3_stonesOfPerson_52 (Nat.le_of_ble_eq_true rfl) rfl (fun _ => Nat.le_of_ble_eq_true rfl) (Nat.le_of_ble_eq_true rfl) (Nat.le_of_ble_eq_true rfl) rfl rfl ?_
          refine g_iadd dX3_stonesOfPerson_55 ?_
          refine g_st (ls2 := [(2, _), (4, _), (0, _), (1, _), (3, _)]) dX3_stonesOfPerson_56 rfl (by decide) (c1_cr (c1_cr (c1_ci (c1_ci (c1_ci c1_0))))) rfl ?_
          refine g_inc (ls2 := [(3, _), (2, _), (4, _), (0, _), (1, _)]) 4 dX3_stonesOfPerson_57 rfl (by decide) (c1_ci (c1_cr (c1_cr (c1_ci (c1_ci c1_0))))) rfl ?_
          refine g_goto (tgt := 4) dX3_stonesOfPerson_60 (by decide) ?_
          refine g_sub [3, 4, 1, 0] (ls2 := [(0, _), (1, _), (2, _), (3, _)]) rfl ?_
          exact g_ls (by simp only [cntF]; rfl) rfl rfl ih4
  exact g_ls (by rfl) rfl rfl hQ4

set_option maxRecDepth 20000 in
theorem c_X3_caratsLost {L : Nat → Nat} {A : Mem} (hV : VC L A) : Ct mX3_caratsLost [gr 0] L A (pr (some (gi (sumF (fun s => A (200 + 3 * s) 4) (A 3 2).toNat))) L A) := by
  have hL := vc_L hV
  have hnc := vc_nc hV; have hns := vc_ns hV; have hp0 := (vc_p hV).1
  refine Ct_of (ls := [(0, _)]) rfl (by decide) (fun _ => rfl) (fun _ => Nat.le_of_ble_eq_true rfl) ?_
  refine g_iconst dX3_caratsLost_0 ?_
  refine g_st (ls2 := [(1, _), (0, _)]) dX3_caratsLost_1 rfl (by decide) (c1_cr c1_0) rfl ?_
  refine g_iconst dX3_caratsLost_2 ?_
  refine g_st (ls2 := [(2, _), (1, _), (0, _)]) dX3_caratsLost_3 rfl (by decide) (c1_ci (c1_cr c1_0)) rfl ?_
  refine g_sub [2, 1, 0] (ls2 := [(0, _), (1, _), (2, _)]) rfl ?_
  have hQ4 : (fun i : Nat => GW mX3_caratsLost (pr (some (gi (sumF (fun s => A (200 + 3 * s) 4) (A 3 2).toNat))) L A) 0 0 4 [(0, gr (0)), (1, gi (sumF (fun s => A (200 + 3 * s) 4) i)), (2, gi ((i : Int)))] [] L (A)) 0 := by
    refine lp_up (Q := (fun i : Nat => GW mX3_caratsLost (pr (some (gi (sumF (fun s => A (200 + 3 * s) 4) (A 3 2).toNat))) L A) 0 0 4 [(0, gr (0)), (1, gi (sumF (fun s => A (200 + 3 * s) 4) i)), (2, gi ((i : Int)))] [] L (A))) (n := (A 3 2).toNat) ?_ (fun i hi4 ih4 => ?_)
    · skip
      refine g_iload_n 2 dX3_caratsLost_4 rfl rfl ?_
      refine g_aload_n 0 dX3_caratsLost_5 rfl rfl ?_
      refine g_getfr2 (r := 3) cf_4 2 rfl (by decide) (by decide) rfl (by decide) wf_X3_23 dX3_caratsLost_6 (hL 0 rfl) rfl ?_
      refine g_cV_i (My := mJx4a65c_size_8abf5) (gs := []) (c_AL_size rfl (n2 (vc_L hV 3 rfl))) mfJx4a65c_size_8abf5 cf_0 wi_Jx4a65c_size_8abf5 wsl_Jx4a65c_size_8abf5 wm_X3_94 dX3_caratsLost_9 (Nat.le_of_ble_eq_true rfl) rfl (by decide) (n2 (hL 3 rfl)) rfl (fun _ => Nat.le_of_ble_eq_true rfl) (Nat.le_of_ble_eq_true rfl) (Nat.le_of_ble_eq_true rfl) rfl rfl ?_
      refine g_icmp_ge (tgt := 38) (by omega) (by omega) dX3_caratsLost_12 (by decide) (fun h12_1 => ?_) (fun h12_1 => absurd h12_1 (by omega))
      refine g_iload_n 1 dX3_caratsLost_38 rfl rfl ?_
      exact g_iret dX3_caratsLost_39 rfl (Nat.le_of_ble_eq_true rfl) (Nat.le_of_ble_eq_true rfl) (pr_i (rfl) (rfl))
    · skip
      have hs : (i : Int) < A 3 2 := by omega
      refine g_iload_n 2 dX3_caratsLost_4 rfl rfl ?_
      refine g_aload_n 0 dX3_caratsLost_5 rfl rfl ?_
      refine g_getfr2 (r := 3) cf_4 2 rfl (by decide) (by decide) rfl (by decide) wf_X3_23 dX3_caratsLost_6 (hL 0 rfl) rfl ?_
      refine g_cV_i (My := mJx4a65c_size_8abf5) (gs := []) (c_AL_size rfl (n2 (vc_L hV 3 rfl))) mfJx4a65c_size_8abf5 cf_0 wi_Jx4a65c_size_8abf5 wsl_Jx4a65c_size_8abf5 wm_X3_94 dX3_caratsLost_9 (Nat.le_of_ble_eq_true rfl) rfl (by decide) (n2 (hL 3 rfl)) rfl (fun _ => Nat.le_of_ble_eq_true rfl) (Nat.le_of_ble_eq_true rfl) (Nat.le_of_ble_eq_true rfl) rfl rfl ?_
      refine g_icmp_ge (tgt := 38) (by omega) (by omega) dX3_caratsLost_12 (by decide) (fun h12_2 => absurd h12_2 (by omega)) (fun h12_2 => ?_)
      refine g_iload_n 1 dX3_caratsLost_15 rfl rfl ?_
      refine g_aload_n 0 dX3_caratsLost_16 rfl rfl ?_
      refine g_getfr2 (r := 3) cf_4 2 rfl (by decide) (by decide) rfl (by decide) wf_X3_23 dX3_caratsLost_17 (hL 0 rfl) rfl ?_
      refine g_iload_n 2 dX3_caratsLost_20 rfl rfl ?_
      refine g_cV_i (My := mJx4a65c_get_915e3) (gs := [_]) (c_SL_get (vc_ls hV hs) hs) mfJx4a65c_get_915e3 cf_0 wi_Jx4a65c_get_915e3 wsl_Jx4a65c_get_915e3 wm_X3_350 dX3_caratsLost_21 (Nat.le_of_ble_eq_true rfl) rfl (by decide) (n2 (hL 3 rfl)) rfl (fun _ => Nat.le_of_ble_eq_true rfl) (Nat.le_of_ble_eq_true rfl) (Nat.le_of_ble_eq_true rfl) rfl rfl ?_
      refine g_cast cf_3 (ly_s0 i) (by decide) wc_X3_218 dX3_caratsLost_24 (n2 (vc_s hV hs).1) ?_
      refine g_getfi cf_3 4 (ly_s0 i) (by decide) (by decide) rfl (by decide) wf_X3_233 dX3_caratsLost_27 (n2 (vc_s hV hs).1) (fun h27_3 => ?_)
      refine g_iadd dX3_caratsLost_30 ?_
      refine g_st (ls2 := [(1, _), (0, _), (2, _)]) dX3_caratsLost_31 rfl (by decide) (c1_cr (c1_ci (c1_ci c1_0))) rfl ?_
      refine g_inc (ls2 := [(2, _), (1, _), (0, _)]) 2 dX3_caratsLost_32 rfl (by decide) (c1_ci (c1_cr (c1_ci c1_0))) rfl ?_
      refine g_goto (tgt := 4) dX3_caratsLost_35 (by decide) ?_
      refine g_sub [2, 1, 0] (ls2 := [(0, _), (1, _), (2, _)]) rfl ?_
      exact g_ls (by simp only [sumF]; rfl) rfl rfl ih4
  exact g_ls (by rfl) rfl rfl hQ4

set_option maxHeartbeats 1000000 in
set_option maxRecDepth 20000 in
theorem c_X3_heaviestInParcel {L : Nat → Nat} {A : Mem} (hV : VC L A) {k : Int} (hk : -2147483648 ≤ k ∧ k < 2147483648) : Ct mX3_heaviestInParcel [gr 0, gi k] L A (pr (some (gi (hvF (inpC A k) (fun s => A (200 + 3 * s) 3) (A 3 2).toNat))) L A) := by
  have hL := vc_L hV
  have hnc := vc_nc hV; have hns := vc_ns hV; have hp0 := (vc_p hV).1
  refine Ct_of (ls := [(0, _), (1, _)]) rfl (by decide) (fun _ => rfl) (fun _ => Nat.le_of_ble_eq_true rfl) ?_
  refine g_iconst dX3_heaviestInParcel_0 ?_
  refine g_st (ls2 := [(2, _), (0, _), (1, _)]) dX3_heaviestInParcel_1 rfl (by decide) (c1_cr (c1_ci c1_0)) rfl ?_
  refine g_iconst dX3_heaviestInParcel_2 ?_
  refine g_st (ls2 := [(3, _), (2, _), (0, _), (1, _)]) dX3_heaviestInParcel_3 rfl (by decide) (c1_ci (c1_cr (c1_ci c1_0))) rfl ?_
  refine g_iconst dX3_heaviestInParcel_4 ?_
  refine g_st2 (ls2 := [(4, _), (3, _), (2, _), (0, _), (1, _)]) dX3_heaviestInParcel_5 (by decide) (c1_ci (c1_ci (c1_cr (c1_ci c1_0)))) rfl ?_
  refine g_sub [3, 4, 2, 1, 0] (ls2 := [(0, _), (1, _), (2, _), (3, _), (4, _)]) rfl ?_
  have hQ7 : (fun i : Nat => GW mX3_heaviestInParcel (pr (some (gi (hvF (inpC A k) (fun s => A (200 + 3 * s) 3) (A 3 2).toNat))) L A) 0 0 7 [(0, gr (0)), (1, gi (k)), (2, gi (hvF (inpC A k) (fun s => A (200 + 3 * s) 3) i)), (3, gi ((if hvF (inpC A k) (fun s => A (200 + 3 * s) 3) i = -1 then 0 else A (200 + 3 * (hvF (inpC A k) (fun s => A (200 + 3 * s) 3) i).toNat) 3))), (4, gi ((i : Int)))] [] L (A)) 0 := by
    refine lp_up (Q := (fun i : Nat => GW mX3_heaviestInParcel (pr (some (gi (hvF (inpC A k) (fun s => A (200 + 3 * s) 3) (A 3 2).toNat))) L A) 0 0 7 [(0, gr (0)), (1, gi (k)), (2, gi (hvF (inpC A k) (fun s => A (200 + 3 * s) 3) i)), (3, gi ((if hvF (inpC A k) (fun s => A (200 + 3 * s) 3) i = -1 then 0 else A (200 + 3 * (hvF (inpC A k) (fun s => A (200 + 3 * s) 3) i).toNat) 3))), (4, gi ((i : Int)))] [] L (A))) (n := (A 3 2).toNat) ?_ (fun i hi7 ih7 => ?_)
    · skip
      refine g_iload 4 dX3_heaviestInParcel_7 rfl ?_
      refine g_aload_n 0 dX3_heaviestInParcel_9 rfl rfl ?_
      refine g_getfr2 (r := 3) cf_4 2 rfl (by decide) (by decide) rfl (by decide) wf_X3_23 dX3_heaviestInParcel_10 (hL 0 rfl) rfl ?_
      refine g_cV_i (My := mJx4a65c_size_8abf5) (gs := []) (c_AL_size rfl (n2 (vc_L hV 3 rfl))) mfJx4a65c_size_8abf5 cf_0 wi_Jx4a65c_size_8abf5 wsl_Jx4a65c_size_8abf5 wm_X3_94 dX3_heaviestInParcel_13 (Nat.le_of_ble_eq_true rfl) rfl (by decide) (n2 (hL 3 rfl)) rfl (fun _ => Nat.le_of_ble_eq_true rfl) (Nat.le_of_ble_eq_true rfl) (Nat.le_of_ble_eq_true rfl) rfl rfl ?_
      refine g_icmp_ge (tgt := 66) (by omega) (by omega) dX3_heaviestInParcel_16 (by decide) (fun h16_1 => ?_) (fun h16_1 => absurd h16_1 (by omega))
      refine g_iload_n 2 dX3_heaviestInParcel_66 rfl rfl ?_
      exact g_iret dX3_heaviestInParcel_67 rfl (Nat.le_of_ble_eq_true rfl) (Nat.le_of_ble_eq_true rfl) (pr_i (rfl) (rfl))
    · skip
      have hs : (i : Int) < A 3 2 := by omega
      have hrg := hvF_rg (inpC A k) (fun s => A (200 + 3 * s) 3) i
      refine g_iload 4 dX3_heaviestInParcel_7 rfl ?_
      refine g_aload_n 0 dX3_heaviestInParcel_9 rfl rfl ?_
      refine g_getfr2 (r := 3) cf_4 2 rfl (by decide) (by decide) rfl (by decide) wf_X3_23 dX3_heaviestInParcel_10 (hL 0 rfl) rfl ?_
      refine g_cV_i (My := mJx4a65c_size_8abf5) (gs := []) (c_AL_size rfl (n2 (vc_L hV 3 rfl))) mfJx4a65c_size_8abf5 cf_0 wi_Jx4a65c_size_8abf5 wsl_Jx4a65c_size_8abf5 wm_X3_94 dX3_heaviestInParcel_13 (Nat.le_of_ble_eq_true rfl) rfl (by decide) (n2 (hL 3 rfl)) rfl (fun _ => Nat.le_of_ble_eq_true rfl) (Nat.le_of_ble_eq_true rfl) (Nat.le_of_ble_eq_true rfl) rfl rfl ?_
      refine g_icmp_ge (tgt := 66) (by omega) (by omega) dX3_heaviestInParcel_16 (by decide) (fun h16_2 => absurd h16_2 (by omega)) (fun h16_2 => ?_)
      refine g_aload_n 0 dX3_heaviestInParcel_19 rfl rfl ?_
      refine g_getfr2 (r := 3) cf_4 2 rfl (by decide) (by decide) rfl (by decide) wf_X3_23 dX3_heaviestInParcel_20 (hL 0 rfl) rfl ?_
      refine g_iload 4 dX3_heaviestInParcel_23 rfl ?_
      refine g_cV_i (My := mJx4a65c_get_915e3) (gs := [_]) (c_SL_get (vc_ls hV hs) hs) mfJx4a65c_get_915e3 cf_0 wi_Jx4a65c_get_915e3 wsl_Jx4a65c_get_915e3 wm_X3_350 dX3_heaviestInParcel_25 (Nat.le_of_ble_eq_true rfl) rfl (by decide) (n2 (hL 3 rfl)) rfl (fun _ => Nat.le_of_ble_eq_true rfl) (Nat.le_of_ble_eq_true rfl) (Nat.le_of_ble_eq_true rfl) rfl rfl ?_
      refine g_cast cf_3 (ly_s0 i) (by decide) wc_X3_218 dX3_heaviestInParcel_28 (n2 (vc_s hV hs).1) ?_
      refine g_sa2 (ls2 := [(5, _), (0, _), (1, _), (2, _), (3, _), (4, _)]) dX3_heaviestInParcel_31 (by decide) (c1_cr (c1_ci (c1_ci (c1_ci (c1_ci c1_0))))) rfl ?_
      refine g_aload 0 dX3_heaviestInParcel_33 rfl ?_
      refine g_iload_n 2 dX3_heaviestInParcel_35 rfl rfl ?_
      refine g_cV_i (My := mX2_isInParcelOf) (gs := [_]) (c_X2_isInParcelOf (vc_s hV hs) hk) mfX2_isInParcelOf cf_3 wi_X2_isInParcelOf wsl_X2_isInParcelOf wm_X3_382 dX3_heaviestInParcel_36 (Nat.le_of_ble_eq_true rfl) (ly_s0 i) (by decide) (n2 (vc_s hV hs).1) rfl (fun _ => Nat.le_of_ble_eq_true rfl) (Nat.le_of_ble_eq_true rfl) (Nat.le_of_ble_eq_true rfl) rfl rfl ?_
      refine g_ifb_eq (tgt := 60) dX3_heaviestInParcel_39 (by decide) (fun h39_3 => ?_) (fun h39_3 => ?_)
      · skip
        refine g_inc (ls2 := [(4, _), (5, _), (0, _), (1, _), (2, _), (3, _)]) 5 dX3_heaviestInParcel_60 rfl (by decide) (c1_cr (c1_cr (c1_ci (c1_ci (c1_ci (c1_ci c1_0)))))) rfl ?_
        refine g_goto (tgt := 7) dX3_heaviestInParcel_63 (by decide) ?_
        refine g_sub [2, 3, 4, 5, 0] (ls2 := [(0, _), (1, _), (2, _), (3, _), (4, _)]) rfl ?_
        exact g_ls (by simp only [hvF, inpC] at *; grind) rfl rfl ih7
      · skip
        refine g_aload 0 dX3_heaviestInParcel_42 rfl ?_
        refine g_getfi cf_3 3 (ly_s0 i) (by decide) (by decide) rfl (by decide) wf_X3_222 dX3_heaviestInParcel_44 (n2 (vc_s hV hs).1) (fun h44_4 => ?_)
        refine g_iload_n 4 dX3_heaviestInParcel_47 rfl rfl ?_
        have hrr : 0 ≤ (if hvF (inpC A k) (fun s => A (200 + 3 * s) 3) i = -1 then 0 else A (200 + 3 * (hvF (inpC A k) (fun s => A (200 + 3 * s) 3) i).toNat) 3) ∧ (if hvF (inpC A k) (fun s => A (200 + 3 * s) 3) i = -1 then 0 else A (200 + 3 * (hvF (inpC A k) (fun s => A (200 + 3 * s) 3) i).toNat) 3) ≤ 999 := by (split; omega; exact (vc_sv hV (show (((hvF (inpC A k) (fun s => A (200 + 3 * s) 3) i).toNat : Nat) : Int) < A 3 2 by omega)).2.2.2.1)
        refine g_icmp_le (tgt := 60) (by omega) (by omega) dX3_heaviestInParcel_48 (by decide) (fun h48_5 => ?_) (fun h48_5 => ?_)
        · skip
          refine g_inc (ls2 := [(4, _), (5, _), (0, _), (1, _), (2, _), (3, _)]) 5 dX3_heaviestInParcel_60 rfl (by decide) (c1_cr (c1_cr (c1_ci (c1_ci (c1_ci (c1_ci c1_0)))))) rfl ?_
          refine g_goto (tgt := 7) dX3_heaviestInParcel_63 (by decide) ?_
          refine g_sub [2, 3, 4, 5, 0] (ls2 := [(0, _), (1, _), (2, _), (3, _), (4, _)]) rfl ?_
          exact g_ls (by simp only [hvF, inpC] at *; grind) rfl rfl ih7
        · skip
          refine g_iload 5 dX3_heaviestInParcel_51 rfl ?_
          refine g_st (ls2 := [(2, _), (5, _), (0, _), (1, _), (3, _), (4, _)]) dX3_heaviestInParcel_53 rfl (by decide) (c1_cr (c1_cr (c1_ci (c1_ci (c1_ci (c1_ci c1_0)))))) rfl ?_
          refine g_aload 1 dX3_heaviestInParcel_54 rfl ?_
          refine g_getfi cf_3 3 (ly_s0 i) (by decide) (by decide) rfl (by decide) wf_X3_222 dX3_heaviestInParcel_56 (n2 (vc_s hV hs).1) (fun h56_6 => ?_)
          refine g_st (ls2 := [(3, _), (2, _), (5, _), (0, _), (1, _), (4, _)]) dX3_heaviestInParcel_59 rfl (by decide) (c1_ci (c1_cr (c1_cr (c1_ci (c1_ci (c1_ci c1_0)))))) rfl ?_
          refine g_inc (ls2 := [(4, _), (3, _), (2, _), (5, _), (0, _), (1, _)]) 5 dX3_heaviestInParcel_60 rfl (by decide) (c1_ci (c1_ci (c1_cr (c1_cr (c1_ci (c1_ci c1_0)))))) rfl ?_
          refine g_goto (tgt := 7) dX3_heaviestInParcel_63 (by decide) ?_
          refine g_sub [4, 5, 2, 1, 0] (ls2 := [(0, _), (1, _), (2, _), (3, _), (4, _)]) rfl ?_
          exact g_ls (by simp only [hvF, inpC] at *; grind) rfl rfl ih7
  exact g_ls (by rfl) rfl rfl hQ7

set_option maxRecDepth 20000 in
theorem c_X3_cellsHeldBy {L : Nat → Nat} {A : Mem} (hV : VC L A) {k : Nat} (hk : (k : Int) < A 2 2) : Ct mX3_cellsHeldBy [gr 0, gi k] L A (pr (some (gi (cntF (fun c => decide (covC A c k = true ∧ hldC A c = k)) 100))) L A) := by
  have hL := vc_L hV
  have hnc := vc_nc hV; have hns := vc_ns hV; have hp0 := (vc_p hV).1
  refine Ct_of (ls := [(0, _), (1, _)]) rfl (by decide) (fun _ => rfl) (fun _ => Nat.le_of_ble_eq_true rfl) ?_
  refine g_iconst dX3_cellsHeldBy_0 ?_
  refine g_st (ls2 := [(2, _), (0, _), (1, _)]) dX3_cellsHeldBy_1 rfl (by decide) (c1_cr (c1_ci c1_0)) rfl ?_
  refine g_iconst dX3_cellsHeldBy_2 ?_
  refine g_st (ls2 := [(3, _), (2, _), (0, _), (1, _)]) dX3_cellsHeldBy_3 rfl (by decide) (c1_ci (c1_cr (c1_ci c1_0))) rfl ?_
  refine g_sub [2, 3, 1, 0] (ls2 := [(0, _), (1, _), (2, _), (3, _)]) rfl ?_
  have hQ4 : (fun i : Nat => GW mX3_cellsHeldBy (pr (some (gi (cntF (fun c => decide (covC A c k = true ∧ hldC A c = k)) 100))) L A) 0 0 4 [(0, gr (0)), (1, gi ((k : Int))), (2, gi (cntF (fun c => decide (covC A c k = true ∧ hldC A c = k)) i)), (3, gi ((i : Int)))] [] L (A)) 0 := by
    refine lp_up (Q := (fun i : Nat => GW mX3_cellsHeldBy (pr (some (gi (cntF (fun c => decide (covC A c k = true ∧ hldC A c = k)) 100))) L A) 0 0 4 [(0, gr (0)), (1, gi ((k : Int))), (2, gi (cntF (fun c => decide (covC A c k = true ∧ hldC A c = k)) i)), (3, gi ((i : Int)))] [] L (A))) (n := 100) ?_ (fun i hi4 ih4 => ?_)
    · skip
      refine g_iload_n 3 dX3_cellsHeldBy_4 rfl rfl ?_
      refine g_bipush dX3_cellsHeldBy_5 (by decide) ?_
      refine g_icmp_ge (tgt := 48) (by omega) (by omega) dX3_cellsHeldBy_7 (by decide) (fun h7_1 => ?_) (fun h7_1 => absurd h7_1 (by omega))
      refine g_iload_n 2 dX3_cellsHeldBy_48 rfl rfl ?_
      exact g_iret dX3_cellsHeldBy_49 rfl (Nat.le_of_ble_eq_true rfl) (Nat.le_of_ble_eq_true rfl) (pr_i (rfl) (rfl))
    · skip
      refine g_iload_n 3 dX3_cellsHeldBy_4 rfl rfl ?_
      refine g_bipush dX3_cellsHeldBy_5 (by decide) ?_
      refine g_icmp_ge (tgt := 48) (by omega) (by omega) dX3_cellsHeldBy_7 (by decide) (fun h7_2 => absurd h7_2 (by omega)) (fun h7_2 => ?_)
      refine g_iload_n 2 dX3_cellsHeldBy_10 rfl rfl ?_
      refine g_aload_n 0 dX3_cellsHeldBy_11 rfl rfl ?_
      refine g_iload_n 1 dX3_cellsHeldBy_12 rfl rfl ?_
      refine g_cV_i (My := mX3_claimAt) (gs := [_]) (c_X3_claimAt hV hk) mfX3_claimAt cf_4 wi_X3_claimAt wsl_X3_claimAt wm_X3_112 dX3_cellsHeldBy_13 (Nat.le_of_ble_eq_true rfl) rfl (by decide) (n2 (hL 0 rfl)) rfl (fun _ => Nat.le_of_ble_eq_true rfl) (Nat.le_of_ble_eq_true rfl) (Nat.le_of_ble_eq_true rfl) rfl rfl ?_
      refine g_iload_n 3 dX3_cellsHeldBy_16 rfl rfl ?_
      refine g_cV_i (My := mX0_covers) (gs := [_]) (c_X0_covers (vc_k hV hk) (vc_c hV hk) (vc_cv hV hk).2.1 (x := (i : Int)) (by omega)) mfX0_covers cf_1 wi_X0_covers wsl_X0_covers wm_X3_372 dX3_cellsHeldBy_17 (Nat.le_of_ble_eq_true rfl) (ly_c0 (vc_k hV hk)) (by decide) (n2 (vc_c hV hk).1) rfl (fun _ => Nat.le_of_ble_eq_true rfl) (Nat.le_of_ble_eq_true rfl) (Nat.le_of_ble_eq_true rfl) rfl rfl ?_
      refine g_ifb_eq (tgt := 36) dX3_cellsHeldBy_20 (by decide) (fun h20_3 => ?_) (fun h20_3 => ?_)
      · skip
        refine g_iconst dX3_cellsHeldBy_36 ?_
        refine g_top (y := b2 (decide (covC A i k = true ∧ hldC A i = k))) (by unfold covC; grind [b2]) ?_
        refine g_cS_i (My := mX3_oneIf) (gs := [_]) (c_X3_oneIf _) mfX3_oneIf rfl wst_X3_oneIf wm_X3_266 dX3_cellsHeldBy_37 (Nat.le_of_ble_eq_true rfl) rfl (fun _ => Nat.le_of_ble_eq_true rfl) (Nat.le_of_ble_eq_true rfl) (Nat.le_of_ble_eq_true rfl) rfl rfl ?_
        refine g_iadd dX3_cellsHeldBy_40 ?_
        refine g_st (ls2 := [(2, _), (0, _), (1, _), (3, _)]) dX3_cellsHeldBy_41 rfl (by decide) (c1_cr (c1_ci (c1_ci (c1_ci c1_0)))) rfl ?_
        refine g_inc (ls2 := [(3, _), (2, _), (0, _), (1, _)]) 3 dX3_cellsHeldBy_42 rfl (by decide) (c1_ci (c1_cr (c1_ci (c1_ci c1_0)))) rfl ?_
        refine g_goto (tgt := 4) dX3_cellsHeldBy_45 (by decide) ?_
        refine g_sub [2, 3, 1, 0] (ls2 := [(0, _), (1, _), (2, _), (3, _)]) rfl ?_
        exact g_ls (by simp only [cntF]; rfl) rfl rfl ih4
      · skip
        refine g_aload_n 0 dX3_cellsHeldBy_23 rfl rfl ?_
        refine g_iload_n 3 dX3_cellsHeldBy_24 rfl rfl ?_
        refine g_cV_i (My := mX3_holderOf) (gs := [_]) (c_X3_holderOf hV (x := (i : Int)) (by omega)) mfX3_holderOf cf_4 wi_X3_holderOf wsl_X3_holderOf wm_X3_189 dX3_cellsHeldBy_25 (Nat.le_of_ble_eq_true rfl) rfl (by decide) (n2 (hL 0 rfl)) rfl (fun _ => Nat.le_of_ble_eq_true rfl) (Nat.le_of_ble_eq_true rfl) (Nat.le_of_ble_eq_true rfl) rfl rfl ?_
        refine g_iload_n 1 dX3_cellsHeldBy_28 rfl rfl ?_
        have hr9 := hldC_rg hV (i : Int)
        refine g_icmp_ne (tgt := 36) (by omega) (by omega) dX3_cellsHeldBy_29 (by decide) (fun h29_4 => ?_) (fun h29_4 => ?_)
        · skip
          refine g_iconst dX3_cellsHeldBy_36 ?_
          refine g_top (y := b2 (decide (covC A i k = true ∧ hldC A i = k))) (by unfold covC; grind [b2]) ?_
          refine g_cS_i (My := mX3_oneIf) (gs := [_]) (c_X3_oneIf _) mfX3_oneIf rfl wst_X3_oneIf wm_X3_266 dX3_cellsHeldBy_37 (Nat.le_of_ble_eq_true rfl) rfl (fun _ => Nat.le_of_ble_eq_true rfl) (Nat.le_of_ble_eq_true rfl) (Nat.le_of_ble_eq_true rfl) rfl rfl ?_
          refine g_iadd dX3_cellsHeldBy_40 ?_
          refine g_st (ls2 := [(2, _), (0, _), (1, _), (3, _)]) dX3_cellsHeldBy_41 rfl (by decide) (c1_cr (c1_ci (c1_ci (c1_ci c1_0)))) rfl ?_
          refine g_inc (ls2 := [(3, _), (2, _), (0, _), (1, _)]) 3 dX3_cellsHeldBy_42 rfl (by decide) (c1_ci (c1_cr (c1_ci (c1_ci c1_0)))) rfl ?_
          refine g_goto (tgt := 4) dX3_cellsHeldBy_45 (by decide) ?_
          refine g_sub [2, 3, 1, 0] (ls2 := [(0, _), (1, _), (2, _), (3, _)]) rfl ?_
          exact g_ls (by simp only [cntF]; rfl) rfl rfl ih4
        · skip
          refine g_iconst dX3_cellsHeldBy_32 ?_
          refine g_goto (tgt := 37) dX3_cellsHeldBy_33 (by decide) ?_
          refine g_top (y := b2 (decide (covC A i k = true ∧ hldC A i = k))) (by unfold covC; grind [b2]) ?_
          refine g_cS_i (My := mX3_oneIf) (gs := [_]) (c_X3_oneIf _) mfX3_oneIf rfl wst_X3_oneIf wm_X3_266 dX3_cellsHeldBy_37 (Nat.le_of_ble_eq_true rfl) rfl (fun _ => Nat.le_of_ble_eq_true rfl) (Nat.le_of_ble_eq_true rfl) (Nat.le_of_ble_eq_true rfl) rfl rfl ?_
          refine g_iadd dX3_cellsHeldBy_40 ?_
          refine g_st (ls2 := [(2, _), (0, _), (1, _), (3, _)]) dX3_cellsHeldBy_41 rfl (by decide) (c1_cr (c1_ci (c1_ci (c1_ci c1_0)))) rfl ?_
          refine g_inc (ls2 := [(3, _), (2, _), (0, _), (1, _)]) 3 dX3_cellsHeldBy_42 rfl (by decide) (c1_ci (c1_cr (c1_ci (c1_ci c1_0)))) rfl ?_
          refine g_goto (tgt := 4) dX3_cellsHeldBy_45 (by decide) ?_
          refine g_sub [2, 3, 1, 0] (ls2 := [(0, _), (1, _), (2, _), (3, _)]) rfl ?_
          exact g_ls (by simp only [cntF]; rfl) rfl rfl ih4
  exact g_ls (by rfl) rfl rfl hQ4

set_option maxRecDepth 20000 in
theorem c_X3_sum {L : Nat → Nat} {A : Mem} {n : Nat} (hy : ly n = (6, 100)) (hn : L n = 2) : Ct mX3_sum [gr n] L A (pr (some (gi (sumF (A n) 100))) L A) := by
  refine Ct_of (ls := [(0, _)]) rfl (by decide) (fun _ => rfl) (fun _ => Nat.le_of_ble_eq_true rfl) ?_
  refine g_iconst dX3_sum_0 ?_
  refine g_st (ls2 := [(1, _), (0, _)]) dX3_sum_1 rfl (by decide) (c1_cr c1_0) rfl ?_
  refine g_iconst dX3_sum_2 ?_
  refine g_st (ls2 := [(2, _), (1, _), (0, _)]) dX3_sum_3 rfl (by decide) (c1_ci (c1_cr c1_0)) rfl ?_
  refine g_sub [2, 1, 0] (ls2 := [(0, _), (1, _), (2, _)]) rfl ?_
  have hQ4 : (fun i : Nat => GW mX3_sum (pr (some (gi (sumF (A n) 100))) L A) 0 0 4 [(0, gr (n)), (1, gi (sumF (A n) i)), (2, gi ((i : Int)))] [] L (A)) 0 := by
    refine lp_up (Q := (fun i : Nat => GW mX3_sum (pr (some (gi (sumF (A n) 100))) L A) 0 0 4 [(0, gr (n)), (1, gi (sumF (A n) i)), (2, gi ((i : Int)))] [] L (A))) (n := 100) ?_ (fun i hi4 ih4 => ?_)
    · skip
      refine g_iload_n 2 dX3_sum_4 rfl rfl ?_
      refine g_aload_n 0 dX3_sum_5 rfl rfl ?_
      refine g_alen hy (by decide) dX3_sum_6 (n2 hn) ?_
      refine g_icmp_ge (tgt := 22) (by omega) (by omega) dX3_sum_7 (by decide) (fun h7_1 => ?_) (fun h7_1 => absurd h7_1 (by omega))
      refine g_iload_n 1 dX3_sum_22 rfl rfl ?_
      exact g_iret dX3_sum_23 rfl (Nat.le_of_ble_eq_true rfl) (Nat.le_of_ble_eq_true rfl) (pr_i (rfl) (rfl))
    · skip
      refine g_iload_n 2 dX3_sum_4 rfl rfl ?_
      refine g_aload_n 0 dX3_sum_5 rfl rfl ?_
      refine g_alen hy (by decide) dX3_sum_6 (n2 hn) ?_
      refine g_icmp_ge (tgt := 22) (by omega) (by omega) dX3_sum_7 (by decide) (fun h7_2 => absurd h7_2 (by omega)) (fun h7_2 => ?_)
      refine g_iload_n 1 dX3_sum_10 rfl rfl ?_
      refine g_aload_n 0 dX3_sum_11 rfl rfl ?_
      refine g_iload_n 2 dX3_sum_12 rfl rfl ?_
      refine g_iald (i) (by omega) (by omega) hy (by decide) dX3_sum_13 (n2 hn) (fun h13_3 => ?_)
      refine g_iadd dX3_sum_14 ?_
      refine g_st (ls2 := [(1, _), (0, _), (2, _)]) dX3_sum_15 rfl (by decide) (c1_cr (c1_ci (c1_ci c1_0))) rfl ?_
      refine g_inc (ls2 := [(2, _), (1, _), (0, _)]) 2 dX3_sum_16 rfl (by decide) (c1_ci (c1_cr (c1_ci c1_0))) rfl ?_
      refine g_goto (tgt := 4) dX3_sum_19 (by decide) ?_
      refine g_sub [2, 1, 0] (ls2 := [(0, _), (1, _), (2, _)]) rfl ?_
      exact g_ls (by simp only [sumF]; rfl) rfl rfl ih4
  exact g_ls (by rfl) rfl rfl hQ4

