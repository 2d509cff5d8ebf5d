theorem mul_rg {a b : Int} (ha : 0 ≤ a ∧ a ≤ 12) (hb : 0 ≤ b ∧ b ≤ 100000) : 0 ≤ a * b ∧ a * b ≤ 1200000 := by
  refine ⟨Int.mul_nonneg ha.1 hb.1, ?_⟩
  have h1 : a * b ≤ 12 * b := Int.mul_le_mul_of_nonneg_right ha.2 hb.1
  omega
def lapC (now lw : Int) : Int := if 0 < 72 - (now - lw) then 72 - (now - lw) else 0
def livB (now lw : Int) : Bool := decide (now - lw < 72)
def covB (t l r c x : Int) : Bool := decide (t ≤ x / 10 ∧ x / 10 < t + r ∧ l ≤ x % 10 ∧ x % 10 < l + c)
def ovB (t l r c t2 l2 r2 c2 : Int) : Bool := decide (t < t2 + r2 ∧ t2 < t + r ∧ l < l2 + c2 ∧ l2 < l + c)
def cntH (h : Nat → Int) : Nat → Int
  | 0 => 0
  | n + 1 => if h n = -1 then cntH h n else cntH h n + 1
def ltH (h : Nat → Int) (c : Int) : Nat → Int
  | 0 => 0
  | n + 1 => if h n = -1 then ltH h c n else ltH h c n + b2 (decide (h n < c))
def leH (h : Nat → Int) (c : Int) : Nat → Int
  | 0 => 0
  | n + 1 => if h n = -1 then leH h c n else leH h c n + b2 (decide (h n ≤ c))
theorem cntH_rg (h : Nat → Int) (n : Nat) : 0 ≤ cntH h n ∧ cntH h n ≤ n := by
  induction n with
  | zero => simp [cntH]
  | succ n ih => simp only [cntH]; split <;> omega
theorem ltH_rg (h : Nat → Int) (c : Int) (n : Nat) : 0 ≤ ltH h c n ∧ ltH h c n ≤ n := by
  induction n with
  | zero => simp [ltH]
  | succ n ih => have := b2_rg (decide (h n < c)); simp only [ltH]; split <;> omega
theorem leH_rg (h : Nat → Int) (c : Int) (n : Nat) : 0 ≤ leH h c n ∧ leH h c n ≤ n := by
  induction n with
  | zero => simp [leH]
  | succ n ih => have := b2_rg (decide (h n ≤ c)); simp only [leH]; split <;> omega
theorem cntH_pos {h : Nat → Int} {p n : Nat} (hp : p < n) (h1 : h p ≠ -1) : 1 ≤ cntH h n := by
  induction n with
  | zero => omega
  | succ n ih =>
    have h0 := (cntH_rg h n).1
    simp only [cntH]
    by_cases e : p = n
    · subst e; rw [if_neg h1]; omega
    · have := ih (by omega); split <;> omega
def midB (h : Nat → Int) (c : Int) : Bool := decide (ltH h c 8 ≤ (cntH h 8 - 1) / 2 ∧ (cntH h 8 - 1) / 2 < leH h c 8)
def midF (h : Nat → Int) (hour : Int) : Nat → Int
  | 0 => hour
  | n + 1 => if h n ≠ -1 ∧ midB h (h n) = true then h n else midF h hour n
def wntC (sh gv : Nat → Int) (w : Int) (p : Nat) : Int := sh p * w - 12 * gv p
theorem wntC_rg {sh gv : Nat → Int} {w : Int} (p : Nat) (h1 : ∀ p, 0 ≤ sh p ∧ sh p ≤ 12) (h2 : 0 ≤ w ∧ w ≤ 100000) (h3 : 0 ≤ gv p ∧ gv p ≤ 100000) : -1200000 ≤ wntC sh gv w p ∧ wntC sh gv w p ≤ 1200000 := by
  have := mul_rg (h1 p) h2; unfold wntC; omega
def mwC (sh gv : Nat → Int) (w : Int) (own : Nat) : Nat → Nat
  | 0 => own
  | n + 1 => if 0 < sh n ∧ (wntC sh gv w (mwC sh gv w own n) < wntC sh gv w n ∨ (wntC sh gv w n = wntC sh gv w (mwC sh gv w own n) ∧ n < mwC sh gv w own n)) then n else mwC sh gv w own n
theorem mwC_lt {sh gv : Nat → Int} {w : Int} {own : Nat} (ho : own < 8) (n : Nat) (hn : n ≤ 8) : mwC sh gv w own n < 8 := by
  induction n with
  | zero => exact ho
  | succ n ih => simp only [mwC]; have := ih (by omega); split <;> omega
def plcC (buyer person : Int) : Int := if buyer ≠ -1 then 2 else if person = -1 then 0 else 1
def inpB (claim buyer person c : Int) : Bool := decide (claim = c ∧ plcC buyer person = 0)
def lusC (rubs depth : Int) : Int := if rubs < depth then 0 else if rubs ≤ depth + 2 then 1 else 2
def valC (rubs depth carats : Int) : Int := if lusC rubs depth = 0 then carats * 2 else if lusC rubs depth = 1 then carats * 10 else 0
def ahdB (pr tu : Nat → Int) (i j : Nat) : Bool := decide (pr j < pr i ∨ (pr i = pr j ∧ tu i < tu j))
def bstC (pr tu pu : Nat → Int) : Nat → Int
  | 0 => -1
  | n + 1 => if 0 < pr n ∧ pr n ≤ pu n ∧ (bstC pr tu pu n = -1 ∨ ahdB pr tu n (bstC pr tu pu n).toNat = true) then n else bstC pr tu pu n
theorem bstC_rg (pr tu pu : Nat → Int) (n : Nat) : -1 ≤ bstC pr tu pu n ∧ bstC pr tu pu n < n := by
  induction n with
  | zero => simp [bstC]
  | succ n ih => simp only [bstC]; split <;> omega
section GL
theorem g_lsw {M : MD} {P : Pst} {kc ks pc : Nat} {ls : List (Nat × GV)} {st : List GV} {L : Nat → Nat} {A : Mem} {x dflt off : Int} {ps : Array (Int × Int)} {len tgt : Nat} (hd : decode M.cc pc = .ok (.lookupswitch dflt ps, len)) (hx : -2147483648 ≤ x ∧ x < 2147483648) (hp : (ps.toList.zip (ps.toList.drop 1)).all (fun (a, next) => a.1 < next.1) = true) (ho : Op.lookupswitch.offset ps.toList dflt x = off) (ht : (pc : Int) + off = (tgt : Int)) (k : GW M P kc ks tgt ls st L A) : GW M P kc ks pc ls (gi x :: st) L A := by
  intro p l e R s m args below meth c D a0 L0 a H locs lsr Q F E1 E3 S hl
  exact lv_lookup F.1 F.2.1 hd hp (by rw [ii_lo hx.1 hx.2]; exact ho) ht (k p l e R s m args below meth c D a0 L0 a H locs lsr Q F E1 E3 S hl)
end GL

set_option maxRecDepth 20000 in
theorem c_X0_isOfPeople {L : Nat → Nat} {A : Mem} {k : Nat} (hk : k < 12) (hK : L (100 + 3 * k) = 2 ∧ L (101 + 3 * k) = 2 ∧ L (102 + 3 * k) = 2) {p : Int} (hp : 0 ≤ p ∧ p < 8) : Ct mX0_isOfPeople [gr (100 + 3 * k), gi p] L A (pr (some (gi (b2 (decide (0 < A (101 + 3 * k) p.toNat))))) L A) := by
  refine Ct_of (ls := [(0, _), (1, _)]) rfl (by decide) (fun _ => rfl) (fun _ => Nat.le_of_ble_eq_true rfl) ?_
  refine g_aload_n 0 dX0_isOfPeople_0 rfl rfl ?_
  refine g_getfr2 (r := 101 + 3 * k) cf_1 8 (ly_c0 hk) (by decide) (by decide) rfl (by decide) wf_X0_9 dX0_isOfPeople_1 hK.1 (rfn_c8 k) ?_
  refine g_iload_n 1 dX0_isOfPeople_4 rfl rfl ?_
  refine g_ia (by omega) (by omega) (ly_c1 hk) (by decide) dX0_isOfPeople_5 (n2 hK.2.1) (fun h5_1 => ?_)
  refine g_if_le (tgt := 13) (by omega) dX0_isOfPeople_6 (by decide) (fun h6_2 => ?_) (fun h6_2 => ?_)
  · skip
    refine g_iconst dX0_isOfPeople_13 ?_
    exact g_zret dX0_isOfPeople_14 rfl (Or.inl rfl) (Nat.le_of_ble_eq_true rfl) (Nat.le_of_ble_eq_true rfl) (pr_i (b2_0 (by grind [b2])) (rfl))
  · skip
    refine g_iconst dX0_isOfPeople_9 ?_
    refine g_goto (tgt := 14) dX0_isOfPeople_10 (by decide) ?_
    exact g_zret dX0_isOfPeople_14 rfl (Or.inr rfl) (Nat.le_of_ble_eq_true rfl) (Nat.le_of_ble_eq_true rfl) (pr_i (b2_1 (by grind [b2])) (rfl))

set_option maxRecDepth 20000 in
theorem c_X0_hoursToLapse {L : Nat → Nat} {A : Mem} {k : Nat} (hk : k < 12) (hK : L (100 + 3 * k) = 2 ∧ L (101 + 3 * k) = 2 ∧ L (102 + 3 * k) = 2) {w : Int} (hw : 0 ≤ w ∧ w ≤ 6000) (h6 : 0 ≤ A (100 + 3 * k) 6 ∧ A (100 + 3 * k) 6 ≤ 6000) : Ct mX0_hoursToLapse [gr (100 + 3 * k), gi w] L A (pr (some (gi (lapC w (A (100 + 3 * k) 6)))) L A) := by
  refine Ct_of (ls := [(0, _), (1, _)]) rfl (by decide) (fun _ => rfl) (fun _ => Nat.le_of_ble_eq_true rfl) ?_
  refine g_iconst dX0_hoursToLapse_0 ?_
  refine g_bipush dX0_hoursToLapse_1 (by decide) ?_
  refine g_iload_n 1 dX0_hoursToLapse_3 rfl rfl ?_
  refine g_aload_n 0 dX0_hoursToLapse_4 rfl rfl ?_
  refine g_getfi cf_1 6 (ly_c0 hk) (by decide) (by decide) rfl (by decide) wf_X0_37 dX0_hoursToLapse_5 (n2 hK.1) (fun h5_1 => ?_)
  refine g_isub dX0_hoursToLapse_8 ?_
  refine g_isub dX0_hoursToLapse_9 ?_
  refine g_max (by omega) (by omega) wm_X0_50 wst_J9_max_7cf53 wn_J9 wo_J9_max_7cf53 (Nat.le_of_ble_eq_true rfl) (Nat.le_of_ble_eq_true rfl) (by decide) dX0_hoursToLapse_10 ?_
  exact g_iret dX0_hoursToLapse_13 rfl (Nat.le_of_ble_eq_true rfl) (Nat.le_of_ble_eq_true rfl) (pr_i (rfl) (rfl))

set_option maxRecDepth 20000 in
theorem c_X0_isLive {L : Nat → Nat} {A : Mem} {k : Nat} (hk : k < 12) (hK : L (100 + 3 * k) = 2 ∧ L (101 + 3 * k) = 2 ∧ L (102 + 3 * k) = 2) {w : Int} (hw : 0 ≤ w ∧ w ≤ 6000) (h6 : 0 ≤ A (100 + 3 * k) 6 ∧ A (100 + 3 * k) 6 ≤ 6000) : Ct mX0_isLive [gr (100 + 3 * k), gi w] L A (pr (some (gi (b2 (livB w (A (100 + 3 * k) 6))))) L A) := by
  refine Ct_of (ls := [(0, _), (1, _)]) rfl (by decide) (fun _ => rfl) (fun _ => Nat.le_of_ble_eq_true rfl) ?_
  refine g_aload_n 0 dX0_isLive_0 rfl rfl ?_
  refine g_iload_n 1 dX0_isLive_1 rfl rfl ?_
  refine g_cV_i (My := mX0_hoursToLapse) (gs := [_]) (c_X0_hoursToLapse hk hK hw h6) mfX0_hoursToLapse cf_1 wi_X0_hoursToLapse wsl_X0_hoursToLapse wm_X0_46 dX0_isLive_2 (Nat.le_of_ble_eq_true rfl) (ly_c0 hk) (by decide) (n2 hK.1) rfl (fun _ => Nat.le_of_ble_eq_true rfl) (Nat.le_of_ble_eq_true rfl) (Nat.le_of_ble_eq_true rfl) rfl rfl ?_
  have hlp : 0 ≤ lapC w (A (100 + 3 * k) 6) ∧ lapC w (A (100 + 3 * k) 6) ≤ 7000 := by unfold lapC; split <;> omega
  refine g_if_le (tgt := 12) (by omega) dX0_isLive_5 (by decide) (fun h5_1 => ?_) (fun h5_1 => ?_)
  · skip
    refine g_iconst dX0_isLive_12 ?_
    exact g_zret dX0_isLive_13 rfl (Or.inl rfl) (Nat.le_of_ble_eq_true rfl) (Nat.le_of_ble_eq_true rfl) (pr_i (b2_0 (by grind [b2, lapC, livB])) (rfl))
  · skip
    refine g_iconst dX0_isLive_8 ?_
    refine g_goto (tgt := 13) dX0_isLive_9 (by decide) ?_
    exact g_zret dX0_isLive_13 rfl (Or.inr rfl) (Nat.le_of_ble_eq_true rfl) (Nat.le_of_ble_eq_true rfl) (pr_i (b2_1 (by grind [b2, lapC, livB])) (rfl))

set_option maxRecDepth 20000 in
theorem c_X0_covers {L : Nat → Nat} {A : Mem} {k : Nat} (hk : k < 12) (hK : L (100 + 3 * k) = 2 ∧ L (101 + 3 * k) = 2 ∧ L (102 + 3 * k) = 2) (hg : 0 ≤ A (100 + 3 * k) 1 ∧ A (100 + 3 * k) 1 ≤ 9 ∧ 0 ≤ A (100 + 3 * k) 2 ∧ A (100 + 3 * k) 2 ≤ 9 ∧ 0 ≤ A (100 + 3 * k) 3 ∧ A (100 + 3 * k) 3 ≤ 4 ∧ 0 ≤ A (100 + 3 * k) 4 ∧ A (100 + 3 * k) 4 ≤ 4) {x : Int} (hx : 0 ≤ x ∧ x < 100) : Ct mX0_covers [gr (100 + 3 * k), gi x] L A (pr (some (gi (b2 (covB (A (100 + 3 * k) 1) (A (100 + 3 * k) 2) (A (100 + 3 * k) 3) (A (100 + 3 * k) 4) x)))) L A) := by
  refine Ct_of (ls := [(0, _), (1, _)]) rfl (by decide) (fun _ => rfl) (fun _ => Nat.le_of_ble_eq_true rfl) ?_
  refine g_iload_n 1 dX0_covers_0 rfl rfl ?_
  refine g_bipush dX0_covers_1 (by decide) ?_
  refine g_idiv (by omega) (by omega) dX0_covers_3 ?_
  refine g_st (ls2 := [(2, _), (0, _), (1, _)]) dX0_covers_4 rfl (by decide) (c1_cr (c1_ci c1_0)) rfl ?_
  refine g_iload_n 2 dX0_covers_5 rfl rfl ?_
  refine g_bipush dX0_covers_6 (by decide) ?_
  refine g_irem (by omega) (by omega) dX0_covers_8 ?_
  refine g_st (ls2 := [(3, _), (2, _), (0, _), (1, _)]) dX0_covers_9 rfl (by decide) (c1_ci (c1_cr (c1_ci c1_0))) rfl ?_
  refine g_iload_n 1 dX0_covers_10 rfl rfl ?_
  refine g_aload_n 2 dX0_covers_11 rfl rfl ?_
  refine g_getfi cf_1 1 (ly_c0 hk) (by decide) (by decide) rfl (by decide) wf_X0_22 dX0_covers_12 (n2 hK.1) (fun h12_1 => ?_)
  refine g_icmp_lt (tgt := 56) (by omega) (by omega) dX0_covers_15 (by decide) (fun h15_2 => ?_) (fun h15_2 => ?_)
  · skip
    refine g_iconst dX0_covers_56 ?_
    exact g_zret dX0_covers_57 rfl (Or.inl rfl) (Nat.le_of_ble_eq_true rfl) (Nat.le_of_ble_eq_true rfl) (pr_i (b2_0 (by grind [b2, covB])) (rfl))
  · skip
    refine g_iload_n 1 dX0_covers_18 rfl rfl ?_
    refine g_aload_n 2 dX0_covers_19 rfl rfl ?_
    refine g_getfi cf_1 1 (ly_c0 hk) (by decide) (by decide) rfl (by decide) wf_X0_22 dX0_covers_20 (n2 hK.1) (fun h20_3 => ?_)
    refine g_aload_n 2 dX0_covers_23 rfl rfl ?_
    refine g_getfi cf_1 3 (ly_c0 hk) (by decide) (by decide) rfl (by decide) wf_X0_28 dX0_covers_24 (n2 hK.1) (fun h24_4 => ?_)
    refine g_iadd dX0_covers_27 ?_
    refine g_icmp_ge (tgt := 56) (by omega) (by omega) dX0_covers_28 (by decide) (fun h28_5 => ?_) (fun h28_5 => ?_)
    · skip
      refine g_iconst dX0_covers_56 ?_
      exact g_zret dX0_covers_57 rfl (Or.inl rfl) (Nat.le_of_ble_eq_true rfl) (Nat.le_of_ble_eq_true rfl) (pr_i (b2_0 (by grind [b2, covB])) (rfl))
    · skip
      refine g_iload_n 0 dX0_covers_31 rfl rfl ?_
      refine g_aload_n 2 dX0_covers_32 rfl rfl ?_
      refine g_getfi cf_1 2 (ly_c0 hk) (by decide) (by decide) rfl (by decide) wf_X0_25 dX0_covers_33 (n2 hK.1) (fun h33_6 => ?_)
      refine g_icmp_lt (tgt := 56) (by omega) (by omega) dX0_covers_36 (by decide) (fun h36_7 => ?_) (fun h36_7 => ?_)
      · skip
        refine g_iconst dX0_covers_56 ?_
        exact g_zret dX0_covers_57 rfl (Or.inl rfl) (Nat.le_of_ble_eq_true rfl) (Nat.le_of_ble_eq_true rfl) (pr_i (b2_0 (by grind [b2, covB])) (rfl))
      · skip
        refine g_iload_n 0 dX0_covers_39 rfl rfl ?_
        refine g_aload_n 2 dX0_covers_40 rfl rfl ?_
        refine g_getfi cf_1 2 (ly_c0 hk) (by decide) (by decide) rfl (by decide) wf_X0_25 dX0_covers_41 (n2 hK.1) (fun h41_8 => ?_)
        refine g_aload_n 2 dX0_covers_44 rfl rfl ?_
        refine g_getfi cf_1 4 (ly_c0 hk) (by decide) (by decide) rfl (by decide) wf_X0_31 dX0_covers_45 (n2 hK.1) (fun h45_9 => ?_)
        refine g_iadd dX0_covers_48 ?_
        refine g_icmp_ge (tgt := 56) (by omega) (by omega) dX0_covers_49 (by decide) (fun h49_10 => ?_) (fun h49_10 => ?_)
        · skip
          refine g_iconst dX0_covers_56 ?_
          exact g_zret dX0_covers_57 rfl (Or.inl rfl) (Nat.le_of_ble_eq_true rfl) (Nat.le_of_ble_eq_true rfl) (pr_i (b2_0 (by grind [b2, covB])) (rfl))
        · skip
          refine g_iconst dX0_covers_52 ?_
          refine g_goto (tgt := 57) dX0_covers_53 (by decide) ?_
          exact g_zret dX0_covers_57 rfl (Or.inr rfl) (Nat.le_of_ble_eq_true rfl) (Nat.le_of_ble_eq_true rfl) (pr_i (b2_1 (by grind [b2, covB])) (rfl))

set_option maxRecDepth 20000 in
theorem c_X0_overlaps {L : Nat → Nat} {A : Mem} {k : Nat} (hk : k < 12) (hK : L (100 + 3 * k) = 2 ∧ L (101 + 3 * k) = 2 ∧ L (102 + 3 * k) = 2) (hg : 0 ≤ A (100 + 3 * k) 1 ∧ A (100 + 3 * k) 1 ≤ 9 ∧ 0 ≤ A (100 + 3 * k) 2 ∧ A (100 + 3 * k) 2 ≤ 9 ∧ 0 ≤ A (100 + 3 * k) 3 ∧ A (100 + 3 * k) 3 ≤ 4 ∧ 0 ≤ A (100 + 3 * k) 4 ∧ A (100 + 3 * k) 4 ≤ 4) {j : Nat} (hk2 : j < 12) (hK2 : L (100 + 3 * j) = 2 ∧ L (101 + 3 * j) = 2 ∧ L (102 + 3 * j) = 2) (hg2 : 0 ≤ A (100 + 3 * j) 1 ∧ A (100 + 3 * j) 1 ≤ 9 ∧ 0 ≤ A (100 + 3 * j) 2 ∧ A (100 + 3 * j) 2 ≤ 9 ∧ 0 ≤ A (100 + 3 * j) 3 ∧ A (100 + 3 * j) 3 ≤ 4 ∧ 0 ≤ A (100 + 3 * j) 4 ∧ A (100 + 3 * j) 4 ≤ 4) : Ct mX0_overlaps [gr (100 + 3 * k), gr (100 + 3 * j)] L A (pr (some (gi (b2 (ovB (A (100 + 3 * k) 1) (A (100 + 3 * k) 2) (A (100 + 3 * k) 3) (A (100 + 3 * k) 4) (A (100 + 3 * j) 1) (A (100 + 3 * j) 2) (A (100 + 3 * j) 3) (A (100 + 3 * j) 4))))) L A) := by
  refine Ct_of (ls := [(0, _), (1, _)]) rfl (by decide) (fun _ => rfl) (fun _ => Nat.le_of_ble_eq_true rfl) ?_
  refine g_aload_n 0 dX0_overlaps_0 rfl rfl ?_
  refine g_getfi cf_1 1 (ly_c0 hk) (by decide) (by decide) rfl (by decide) wf_X0_22 dX0_overlaps_1 (n2 hK.1) (fun h1_1 => ?_)
  refine g_aload_n 1 dX0_overlaps_4 rfl rfl ?_
  refine g_getfi cf_1 1 (ly_c0 hk2) (by decide) (by decide) rfl (by decide) wf_X0_22 dX0_overlaps_5 (n2 hK2.1) (fun h5_2 => ?_)
  refine g_aload_n 1 dX0_overlaps_8 rfl rfl ?_
  refine g_getfi cf_1 3 (ly_c0 hk2) (by decide) (by decide) rfl (by decide) wf_X0_28 dX0_overlaps_9 (n2 hK2.1) (fun h9_3 => ?_)
  refine g_iadd dX0_overlaps_12 ?_
  refine g_icmp_ge (tgt := 68) (by omega) (by omega) dX0_overlaps_13 (by decide) (fun h13_4 => ?_) (fun h13_4 => ?_)
  · skip
    refine g_iconst dX0_overlaps_68 ?_
    exact g_zret dX0_overlaps_69 rfl (Or.inl rfl) (Nat.le_of_ble_eq_true rfl) (Nat.le_of_ble_eq_true rfl) (pr_i (b2_0 (by grind [b2, ovB])) (rfl))
  · skip
    refine g_aload_n 1 dX0_overlaps_16 rfl rfl ?_
    refine g_getfi cf_1 1 (ly_c0 hk2) (by decide) (by decide) rfl (by decide) wf_X0_22 dX0_overlaps_17 (n2 hK2.1) (fun h17_5 => ?_)
    refine g_aload_n 0 dX0_overlaps_20 rfl rfl ?_
    refine g_getfi cf_1 1 (ly_c0 hk) (by decide) (by decide) rfl (by decide) wf_X0_22 dX0_overlaps_21 (n2 hK.1) (fun h21_6 => ?_)
    refine g_aload_n 0 dX0_overlaps_24 rfl rfl ?_
    refine g_getfi cf_1 3 (ly_c0 hk) (by decide) (by decide) rfl (by decide) wf_X0_28 dX0_overlaps_25 (n2 hK.1) (fun h25_7 => ?_)
    refine g_iadd dX0_overlaps_28 ?_
    refine g_icmp_ge (tgt := 68) (by omega) (by omega) dX0_overlaps_29 (by decide) (fun h29_8 => ?_) (fun h29_8 => ?_)
    · skip
      refine g_iconst dX0_overlaps_68 ?_
      exact g_zret dX0_overlaps_69 rfl (Or.inl rfl) (Nat.le_of_ble_eq_true rfl) (Nat.le_of_ble_eq_true rfl) (pr_i (b2_0 (by grind [b2, ovB])) (rfl))
    · skip
      refine g_aload_n 0 dX0_overlaps_32 rfl rfl ?_
      refine g_getfi cf_1 2 (ly_c0 hk) (by decide) (by decide) rfl (by decide) wf_X0_25 dX0_overlaps_33 (n2 hK.1) (fun h33_9 => ?_)
      refine g_aload_n 1 dX0_overlaps_36 rfl rfl ?_
      refine g_getfi cf_1 2 (ly_c0 hk2) (by decide) (by decide) rfl (by decide) wf_X0_25 dX0_overlaps_37 (n2 hK2.1) (fun h37_10 => ?_)
      refine g_aload_n 1 dX0_overlaps_40 rfl rfl ?_
      refine g_getfi cf_1 4 (ly_c0 hk2) (by decide) (by decide) rfl (by decide) wf_X0_31 dX0_overlaps_41 (n2 hK2.1) (fun h41_11 => ?_)
      refine g_iadd dX0_overlaps_44 ?_
      refine g_icmp_ge (tgt := 68) (by omega) (by omega) dX0_overlaps_45 (by decide) (fun h45_12 => ?_) (fun h45_12 => ?_)
      · skip
        refine g_iconst dX0_overlaps_68 ?_
        exact g_zret dX0_overlaps_69 rfl (Or.inl rfl) (Nat.le_of_ble_eq_true rfl) (Nat.le_of_ble_eq_true rfl) (pr_i (b2_0 (by grind [b2, ovB])) (rfl))
      · skip
        refine g_aload_n 1 dX0_overlaps_48 rfl rfl ?_
        refine g_getfi cf_1 2 (ly_c0 hk2) (by decide) (by decide) rfl (by decide) wf_X0_25 dX0_overlaps_49 (n2 hK2.1) (fun h49_13 => ?_)
        refine g_aload_n 0 dX0_overlaps_52 rfl rfl ?_
        refine g_getfi cf_1 2 (ly_c0 hk) (by decide) (by decide) rfl (by decide) wf_X0_25 dX0_overlaps_53 (n2 hK.1) (fun h53_14 => ?_)
        refine g_aload_n 0 dX0_overlaps_56 rfl rfl ?_
        refine g_getfi cf_1 4 (ly_c0 hk) (by decide) (by decide) rfl (by decide) wf_X0_31 dX0_overlaps_57 (n2 hK.1) (fun h57_15 => ?_)
        refine g_iadd dX0_overlaps_60 ?_
        refine g_icmp_ge (tgt := 68) (by omega) (by omega) dX0_overlaps_61 (by decide) (fun h61_16 => ?_) (fun h61_16 => ?_)
        · skip
          refine g_iconst dX0_overlaps_68 ?_
          exact g_zret dX0_overlaps_69 rfl (Or.inl rfl) (Nat.le_of_ble_eq_true rfl) (Nat.le_of_ble_eq_true rfl) (pr_i (b2_0 (by grind [b2, ovB])) (rfl))
        · skip
          refine g_iconst dX0_overlaps_64 ?_
          refine g_goto (tgt := 69) dX0_overlaps_65 (by decide) ?_
          exact g_zret dX0_overlaps_69 rfl (Or.inr rfl) (Nat.le_of_ble_eq_true rfl) (Nat.le_of_ble_eq_true rfl) (pr_i (b2_1 (by grind [b2, ovB])) (rfl))

set_option maxRecDepth 20000 in
theorem c_X0_isMiddle {L : Nat → Nat} {A : Mem} {k : Nat} (hk : k < 12) (hK : L (100 + 3 * k) = 2 ∧ L (101 + 3 * k) = 2 ∧ L (102 + 3 * k) = 2) {c : Int} (hc : -2147483648 ≤ c ∧ c < 2147483648) (h1 : 1 ≤ cntH (A (102 + 3 * k)) 8) : Ct mX0_isMiddle [gr (100 + 3 * k), gi c] L A (pr (some (gi (b2 (midB (A (102 + 3 * k)) c)))) L A) := by
  refine Ct_of (ls := [(0, _), (1, _)]) rfl (by decide) (fun _ => rfl) (fun _ => Nat.le_of_ble_eq_true rfl) ?_
  refine g_iconst dX0_isMiddle_0 ?_
  refine g_st (ls2 := [(2, _), (0, _), (1, _)]) dX0_isMiddle_1 rfl (by decide) (c1_cr (c1_ci c1_0)) rfl ?_
  refine g_iconst dX0_isMiddle_2 ?_
  refine g_st (ls2 := [(3, _), (2, _), (0, _), (1, _)]) dX0_isMiddle_3 rfl (by decide) (c1_ci (c1_cr (c1_ci c1_0))) rfl ?_
  refine g_iconst dX0_isMiddle_4 ?_
  refine g_st2 (ls2 := [(4, _), (3, _), (2, _), (0, _), (1, _)]) dX0_isMiddle_5 (by decide) (c1_ci (c1_ci (c1_cr (c1_ci c1_0)))) rfl ?_
  refine g_iconst dX0_isMiddle_7 ?_
  refine g_st2 (ls2 := [(5, _), (4, _), (3, _), (2, _), (0, _), (1, _)]) dX0_isMiddle_8 (by decide) (c1_ci (c1_ci (c1_ci (c1_cr (c1_ci c1_0))))) rfl ?_
  refine g_sub [4, 5, 3, 2, 1, 0] (ls2 := [(0, _), (1, _), (2, _), (3, _), (4, _), (5, _)]) rfl ?_
  have hQ10 : (fun i : Nat => GW mX0_isMiddle (pr (some (gi (b2 (midB (A (102 + 3 * k)) c)))) L A) 0 0 10 [(0, gr (100 + 3 * k)), (1, gi (c)), (2, gi (cntH (A (102 + 3 * k)) i)), (3, gi (ltH (A (102 + 3 * k)) c i)), (4, gi (leH (A (102 + 3 * k)) c i)), (5, gi ((i : Int)))] [] L (A)) 0 := by
    refine lp_up (Q := (fun i : Nat => GW mX0_isMiddle (pr (some (gi (b2 (midB (A (102 + 3 * k)) c)))) L A) 0 0 10 [(0, gr (100 + 3 * k)), (1, gi (c)), (2, gi (cntH (A (102 + 3 * k)) i)), (3, gi (ltH (A (102 + 3 * k)) c i)), (4, gi (leH (A (102 + 3 * k)) c i)), (5, gi ((i : Int)))] [] L (A))) (n := 8) ?_ (fun i hi10 ih10 => ?_)
    · skip
      have hc1 := cntH_rg (A (102 + 3 * k)) 8; have hc2 := ltH_rg (A (102 + 3 * k)) c 8; have hc3 := leH_rg (A (102 + 3 * k)) c 8
      refine g_iload 5 dX0_isMiddle_10 rfl ?_
      refine g_bipush dX0_isMiddle_12 (by decide) ?_
      refine g_icmp_ge (tgt := 77) (by omega) (by omega) dX0_isMiddle_14 (by decide) (fun h14_1 => ?_) (fun h14_1 => absurd h14_1 (by omega))
      refine g_iload_n 2 dX0_isMiddle_77 rfl rfl ?_
      refine g_iconst dX0_isMiddle_78 ?_
      refine g_isub dX0_isMiddle_79 ?_
      refine g_iconst dX0_isMiddle_80 ?_
      refine g_idiv (by omega) (by omega) dX0_isMiddle_81 ?_
      refine g_st2 (ls2 := [(5, _), (0, _), (1, _), (2, _), (3, _), (4, _)]) dX0_isMiddle_82 (by decide) (c1_cr (c1_ci (c1_ci (c1_ci (c1_ci (c1_ci c1_0)))))) rfl ?_
      refine g_iload_n 4 dX0_isMiddle_84 rfl rfl ?_
      refine g_iload 0 dX0_isMiddle_85 rfl ?_
      refine g_icmp_gt (tgt := 101) (by omega) (by omega) dX0_isMiddle_87 (by decide) (fun h87_2 => ?_) (fun h87_2 => ?_)
      · skip
        refine g_iconst dX0_isMiddle_101 ?_
        exact g_zret dX0_isMiddle_102 rfl (Or.inl rfl) (Nat.le_of_ble_eq_true rfl) (Nat.le_of_ble_eq_true rfl) (pr_i (b2_0 (by grind [b2, midB])) (rfl))
      · skip
        refine g_iload 0 dX0_isMiddle_90 rfl ?_
        refine g_iload 5 dX0_isMiddle_92 rfl ?_
        refine g_icmp_ge (tgt := 101) (by omega) (by omega) dX0_isMiddle_94 (by decide) (fun h94_3 => ?_) (fun h94_3 => ?_)
        · skip
          refine g_iconst dX0_isMiddle_101 ?_
          exact g_zret dX0_isMiddle_102 rfl (Or.inl rfl) (Nat.le_of_ble_eq_true rfl) (Nat.le_of_ble_eq_true rfl) (pr_i (b2_0 (by grind [b2, midB])) (rfl))
        · skip
          refine g_iconst dX0_isMiddle_97 ?_
          refine g_goto (tgt := 102) dX0_isMiddle_98 (by decide) ?_
          exact g_zret dX0_isMiddle_102 rfl (Or.inr rfl) (Nat.le_of_ble_eq_true rfl) (Nat.le_of_ble_eq_true rfl) (pr_i (b2_1 (by grind [b2, midB])) (rfl))
    · skip
      have hc1 := cntH_rg (A (102 + 3 * k)) i; have hc2 := ltH_rg (A (102 + 3 * k)) c i; have hc3 := leH_rg (A (102 + 3 * k)) c i
      refine g_iload 5 dX0_isMiddle_10 rfl ?_
      refine g_bipush dX0_isMiddle_12 (by decide) ?_
      refine g_icmp_ge (tgt := 77) (by omega) (by omega) dX0_isMiddle_14 (by decide) (fun h14_4 => absurd h14_4 (by omega)) (fun h14_4 => ?_)
      refine g_aload_n 0 dX0_isMiddle_17 rfl rfl ?_
      refine g_getfr2 (r := 102 + 3 * k) cf_1 9 (ly_c0 hk) (by decide) (by decide) rfl (by decide) wf_X0_15 dX0_isMiddle_18 hK.1 (rfn_c9 k) ?_
      refine g_iload 5 dX0_isMiddle_21 rfl ?_
      refine g_iald (i) (by omega) (by omega) (ly_c2 hk) (by decide) dX0_isMiddle_23 (n2 hK.2.2) (fun h23_5 => ?_)
      refine g_st2 (ls2 := [(6, _), (0, _), (1, _), (2, _), (3, _), (4, _), (5, _)]) dX0_isMiddle_24 (by decide) (c1_cr (c1_ci (c1_ci (c1_ci (c1_ci (c1_ci c1_0)))))) rfl ?_
      refine g_iload 0 dX0_isMiddle_26 rfl ?_
      refine g_iconst dX0_isMiddle_28 ?_
      refine g_icmp_eq (tgt := 71) (by omega) (by omega) dX0_isMiddle_29 (by decide) (fun h29_6 => ?_) (fun h29_6 => ?_)
      · skip
        refine g_inc (ls2 := [(5, _), (6, _), (0, _), (1, _), (2, _), (3, _), (4, _)]) 6 dX0_isMiddle_71 rfl (by decide) (c1_ci (c1_cr (c1_ci (c1_ci (c1_ci (c1_ci (c1_ci c1_0))))))) rfl ?_
        refine g_goto (tgt := 10) dX0_isMiddle_74 (by decide) ?_
        refine g_sub [2, 3, 4, 5, 6, 0] (ls2 := [(0, _), (1, _), (2, _), (3, _), (4, _), (5, _)]) rfl ?_
        exact g_ls (by simp only [cntH, ltH, leH]; simp_all) rfl rfl ih10
      · skip
        refine g_inc (ls2 := [(2, _), (6, _), (0, _), (1, _), (3, _), (4, _), (5, _)]) 3 dX0_isMiddle_32 rfl (by decide) (c1_ci (c1_cr (c1_ci (c1_ci (c1_ci (c1_ci (c1_ci c1_0))))))) rfl ?_
        refine g_iload_n 4 dX0_isMiddle_35 rfl rfl ?_
        refine g_iload 1 dX0_isMiddle_36 rfl ?_
        refine g_iload_n 3 dX0_isMiddle_38 rfl rfl ?_
        refine g_icmp_ge (tgt := 46) (by omega) (by omega) dX0_isMiddle_39 (by decide) (fun h39_7 => ?_) (fun h39_7 => ?_)
        · skip
          refine g_iconst dX0_isMiddle_46 ?_
          refine g_top (y := b2 (decide (A (102 + 3 * k) i < c))) (by grind [b2]) ?_
          refine g_cN_i (My := mX3_oneIf) (gs := [_]) (c_X3_oneIf (decide (A (102 + 3 * k) i < c))) mfX3_oneIf wst_X3_oneIf (by decide : Cond.methodLinkNest RX0 60 yX3_oneIf RX3 ∈ EVW) dX0_isMiddle_47 (Nat.le_of_ble_eq_true rfl) rfl (fun _ => Nat.le_of_ble_eq_true rfl) (Nat.le_of_ble_eq_true rfl) (Nat.le_of_ble_eq_true rfl) rfl rfl ?_
          refine g_iadd dX0_isMiddle_50 ?_
          refine g_st (ls2 := [(3, _), (2, _), (6, _), (0, _), (1, _), (4, _), (5, _)]) dX0_isMiddle_51 rfl (by decide) (c1_ci (c1_ci (c1_cr (c1_ci (c1_ci (c1_ci (c1_ci c1_0))))))) rfl ?_
          refine g_iload 5 dX0_isMiddle_52 rfl ?_
          refine g_iload 2 dX0_isMiddle_54 rfl ?_
          refine g_iload_n 4 dX0_isMiddle_56 rfl rfl ?_
          refine g_icmp_gt (tgt := 64) (by omega) (by omega) dX0_isMiddle_57 (by decide) (fun h57_8 => ?_) (fun h57_8 => ?_)
          · skip
            refine g_iconst dX0_isMiddle_64 ?_
            refine g_top (y := b2 (decide (A (102 + 3 * k) i ≤ c))) (by grind [b2]) ?_
            refine g_cN_i (My := mX3_oneIf) (gs := [_]) (c_X3_oneIf (decide (A (102 + 3 * k) i ≤ c))) mfX3_oneIf wst_X3_oneIf (by decide : Cond.methodLinkNest RX0 60 yX3_oneIf RX3 ∈ EVW) dX0_isMiddle_65 (Nat.le_of_ble_eq_true rfl) rfl (fun _ => Nat.le_of_ble_eq_true rfl) (Nat.le_of_ble_eq_true rfl) (Nat.le_of_ble_eq_true rfl) rfl rfl ?_
            refine g_iadd dX0_isMiddle_68 ?_
            refine g_st2 (ls2 := [(4, _), (3, _), (2, _), (6, _), (0, _), (1, _), (5, _)]) dX0_isMiddle_69 (by decide) (c1_ci (c1_ci (c1_ci (c1_cr (c1_ci (c1_ci (c1_ci c1_0))))))) rfl ?_
            refine g_inc (ls2 := [(5, _), (4, _), (3, _), (2, _), (6, _), (0, _), (1, _)]) 6 dX0_isMiddle_71 rfl (by decide) (c1_ci (c1_ci (c1_ci (c1_ci (c1_cr (c1_ci (c1_ci c1_0))))))) rfl ?_
            refine g_goto (tgt := 10) dX0_isMiddle_74 (by decide) ?_
            refine g_sub [5, 6, 3, 2, 1, 0] (ls2 := [(0, _), (1, _), (2, _), (3, _), (4, _), (5, _)]) rfl ?_
            exact g_ls (by simp only [cntH, ltH, leH]; simp_all) rfl rfl ih10
          · skip
            refine g_iconst dX0_isMiddle_60 ?_
            refine g_goto (tgt := 65) dX0_isMiddle_61 (by decide) ?_
            refine g_top (y := b2 (decide (A (102 + 3 * k) i ≤ c))) (by grind [b2]) ?_
            refine g_cN_i (My := mX3_oneIf) (gs := [_]) (c_X3_oneIf (decide (A (102 + 3 * k) i ≤ c))) mfX3_oneIf wst_X3_oneIf (by decide : Cond.methodLinkNest RX0 60 yX3_oneIf RX3 ∈ EVW) dX0_isMiddle_65 (Nat.le_of_ble_eq_true rfl) rfl (fun _ => Nat.le_of_ble_eq_true rfl) (Nat.le_of_ble_eq_true rfl) (Nat.le_of_ble_eq_true rfl) rfl rfl ?_
            refine g_iadd dX0_isMiddle_68 ?_
            refine g_st2 (ls2 := [(4, _), (3, _), (2, _), (6, _), (0, _), (1, _), (5, _)]) dX0_isMiddle_69 (by decide) (c1_ci (c1_ci (c1_ci (c1_cr (c1_ci (c1_ci (c1_ci c1_0))))))) rfl ?_
            refine g_inc (ls2 := [(5, _), (4, _), (3, _), (2, _), (6, _), (0, _), (1, _)]) 6 dX0_isMiddle_71 rfl (by decide) (c1_ci (c1_ci (c1_ci (c1_ci (c1_cr (c1_ci (c1_ci c1_0))))))) rfl ?_
            refine g_goto (tgt := 10) dX0_isMiddle_74 (by decide) ?_
            refine g_sub [5, 6, 3, 2, 1, 0] (ls2 := [(0, _), (1, _), (2, _), (3, _), (4, _), (5, _)]) rfl ?_
            exact g_ls (by simp only [cntH, ltH, leH]; simp_all) rfl rfl ih10
        · skip
          refine g_iconst dX0_isMiddle_42 ?_
          refine g_goto (tgt := 47) dX0_isMiddle_43 (by decide) ?_
          refine g_top (y := b2 (decide (A (102 + 3 * k) i < c))) (by grind [b2]) ?_
          refine g_cN_i (My := mX3_oneIf) (gs := [_]) (c_X3_oneIf (decide (A (102 + 3 * k) i < c))) mfX3_oneIf wst_X3_oneIf (by decide : Cond.methodLinkNest RX0 60 yX3_oneIf RX3 ∈ EVW) dX0_isMiddle_47 (Nat.le_of_ble_eq_true rfl) rfl (fun _ => Nat.le_of_ble_eq_true rfl) (Nat.le_of_ble_eq_true rfl) (Nat.le_of_ble_eq_true rfl) rfl rfl ?_
          refine g_iadd dX0_isMiddle_50 ?_
          refine g_st (ls2 := [(3, _), (2, _), (6, _), (0, _), (1, _), (4, _), (5, _)]) dX0_isMiddle_51 rfl (by decide) (c1_ci (c1_ci (c1_cr (c1_ci (c1_ci (c1_ci (c1_ci c1_0))))))) rfl ?_
          refine g_iload 5 dX0_isMiddle_52 rfl ?_
          refine g_iload 2 dX0_isMiddle_54 rfl ?_
          refine g_iload_n 4 dX0_isMiddle_56 rfl rfl ?_
          refine g_icmp_gt (tgt := 64) (by omega) (by omega) dX0_isMiddle_57 (by decide) (fun h57_9 => ?_) (fun h57_9 => ?_)
          · skip
            refine g_iconst dX0_isMiddle_64 ?_
            refine g_top (y := b2 (decide (A (102 + 3 * k) i ≤ c))) (by grind [b2]) ?_
            refine g_cN_i (My := mX3_oneIf) (gs := [_]) (c_X3_oneIf (decide (A (102 + 3 * k) i ≤ c))) mfX3_oneIf wst_X3_oneIf (by decide : Cond.methodLinkNest RX0 60 yX3_oneIf RX3 ∈ EVW) dX0_isMiddle_65 (Nat.le_of_ble_eq_true rfl) rfl (fun _ => Nat.le_of_ble_eq_true rfl) (Nat.le_of_ble_eq_true rfl) (Nat.le_of_ble_eq_true rfl) rfl rfl ?_
            refine g_iadd dX0_isMiddle_68 ?_
            refine g_st2 (ls2 := [(4, _), (3, _), (2, _), (6, _), (0, _), (1, _), (5, _)]) dX0_isMiddle_69 (by decide) (c1_ci (c1_ci (c1_ci (c1_cr (c1_ci (c1_ci (c1_ci c1_0))))))) rfl ?_
            refine g_inc (ls2 := [(5, _), (4, _), (3, _), (2, _), (6, _), (0, _), (1, _)]) 6 dX0_isMiddle_71 rfl (by decide) (c1_ci (c1_ci (c1_ci (c1_ci (c1_cr (c1_ci (c1_ci c1_0))))))) rfl ?_
            refine g_goto (tgt := 10) dX0_isMiddle_74 (by decide) ?_
            refine g_sub [5, 6, 3, 2, 1, 0] (ls2 := [(0, _), (1, _), (2, _), (3, _), (4, _), (5, _)]) rfl ?_
            exact g_ls (by simp only [cntH, ltH, leH]; simp_all) rfl rfl ih10
          · skip
            refine g_iconst dX0_isMiddle_60 ?_
            refine g_goto (tgt := 65) dX0_isMiddle_61 (by decide) ?_
            refine g_top (y := b2 (decide (A (102 + 3 * k) i ≤ c))) (by grind [b2]) ?_
            refine g_cN_i (My := mX3_oneIf) (gs := [_]) (c_X3_oneIf (decide (A (102 + 3 * k) i ≤ c))) mfX3_oneIf wst_X3_oneIf (by decide : Cond.methodLinkNest RX0 60 yX3_oneIf RX3 ∈ EVW) dX0_isMiddle_65 (Nat.le_of_ble_eq_true rfl) rfl (fun _ => Nat.le_of_ble_eq_true rfl) (Nat.le_of_ble_eq_true rfl) (Nat.le_of_ble_eq_true rfl) rfl rfl ?_
            refine g_iadd dX0_isMiddle_68 ?_
            refine g_st2 (ls2 := [(4, _), (3, _), (2, _), (6, _), (0, _), (1, _), (5, _)]) dX0_isMiddle_69 (by decide) (c1_ci (c1_ci (c1_ci (c1_cr (c1_ci (c1_ci (c1_ci c1_0))))))) rfl ?_
            refine g_inc (ls2 := [(5, _), (4, _), (3, _), (2, _), (6, _), (0, _), (1, _)]) 6 dX0_isMiddle_71 rfl (by decide) (c1_ci (c1_ci (c1_ci (c1_ci (c1_cr (c1_ci (c1_ci c1_0))))))) rfl ?_
            refine g_goto (tgt := 10) dX0_isMiddle_74 (by decide) ?_
            refine g_sub [5, 6, 3, 2, 1, 0] (ls2 := [(0, _), (1, _), (2, _), (3, _), (4, _), (5, _)]) rfl ?_
            exact g_ls (by simp only [cntH, ltH, leH]; simp_all) rfl rfl ih10
  exact g_ls (by rfl) rfl rfl hQ10

set_option maxRecDepth 20000 in
theorem c_X0_middleHourTold {L : Nat → Nat} {A : Mem} {k : Nat} (hk : k < 12) (hK : L (100 + 3 * k) = 2 ∧ L (101 + 3 * k) = 2 ∧ L (102 + 3 * k) = 2) : Ct mX0_middleHourTold [gr (100 + 3 * k)] L A (pr (some (gi (midF (A (102 + 3 * k)) (A (100 + 3 * k) 5) 8))) L A) := by
  refine Ct_of (ls := [(0, _)]) rfl (by decide) (fun _ => rfl) (fun _ => Nat.le_of_ble_eq_true rfl) ?_
  refine g_aload_n 0 dX0_middleHourTold_0 rfl rfl ?_
  refine g_getfi cf_1 5 (ly_c0 hk) (by decide) (by decide) rfl (by decide) wf_X0_34 dX0_middleHourTold_1 (n2 hK.1) (fun h1_1 => ?_)
  refine g_st (ls2 := [(1, _), (0, _)]) dX0_middleHourTold_4 rfl (by decide) (c1_cr c1_0) rfl ?_
  refine g_iconst dX0_middleHourTold_5 ?_
  refine g_st (ls2 := [(2, _), (1, _), (0, _)]) dX0_middleHourTold_6 rfl (by decide) (c1_ci (c1_cr c1_0)) rfl ?_
  refine g_sub [2, 1, 0] (ls2 := [(0, _), (1, _), (2, _)]) rfl ?_
  have hQ7 : (fun i : Nat => GW mX0_middleHourTold (pr (some (gi (midF (A (102 + 3 * k)) (A (100 + 3 * k) 5) 8))) L A) 0 0 7 [(0, gr (100 + 3 * k)), (1, gi (midF (A (102 + 3 * k)) (A (100 + 3 * k) 5) i)), (2, gi ((i : Int)))] [] L (A)) 0 := by
    refine lp_up (Q := (fun i : Nat => GW mX0_middleHourTold (pr (some (gi (midF (A (102 + 3 * k)) (A (100 + 3 * k) 5) 8))) L A) 0 0 7 [(0, gr (100 + 3 * k)), (1, gi (midF (A (102 + 3 * k)) (A (100 + 3 * k) 5) i)), (2, gi ((i : Int)))] [] L (A))) (n := 8) ?_ (fun i hi7 ih7 => ?_)
    · skip
      refine g_iload_n 2 dX0_middleHourTold_7 rfl rfl ?_
      refine g_bipush dX0_middleHourTold_8 (by decide) ?_
      refine g_icmp_ge (tgt := 49) (by omega) (by omega) dX0_middleHourTold_10 (by decide) (fun h10_2 => ?_) (fun h10_2 => absurd h10_2 (by omega))
      refine g_iload_n 1 dX0_middleHourTold_49 rfl rfl ?_
      exact g_iret dX0_middleHourTold_50 rfl (Nat.le_of_ble_eq_true rfl) (Nat.le_of_ble_eq_true rfl) (pr_i (rfl) (rfl))
    · skip
      refine g_iload_n 2 dX0_middleHourTold_7 rfl rfl ?_
      refine g_bipush dX0_middleHourTold_8 (by decide) ?_
      refine g_icmp_ge (tgt := 49) (by omega) (by omega) dX0_middleHourTold_10 (by decide) (fun h10_3 => absurd h10_3 (by omega)) (fun h10_3 => ?_)
      refine g_aload_n 0 dX0_middleHourTold_13 rfl rfl ?_
      refine g_getfr2 (r := 102 + 3 * k) cf_1 9 (ly_c0 hk) (by decide) (by decide) rfl (by decide) wf_X0_15 dX0_middleHourTold_14 hK.1 (rfn_c9 k) ?_
      refine g_iload_n 2 dX0_middleHourTold_17 rfl rfl ?_
      refine g_iald (i) (by omega) (by omega) (ly_c2 hk) (by decide) dX0_middleHourTold_18 (n2 hK.2.2) (fun h18_4 => ?_)
      refine g_iconst dX0_middleHourTold_19 ?_
      refine g_icmp_eq (tgt := 43) (by omega) (by omega) dX0_middleHourTold_20 (by decide) (fun h20_5 => ?_) (fun h20_5 => ?_)
      · skip
        refine g_inc (ls2 := [(2, _), (0, _), (1, _)]) 2 dX0_middleHourTold_43 rfl (by decide) (c1_cr (c1_ci (c1_ci c1_0))) rfl ?_
        refine g_goto (tgt := 7) dX0_middleHourTold_46 (by decide) ?_
        refine g_sub [1, 2, 0] (ls2 := [(0, _), (1, _), (2, _)]) rfl ?_
        exact g_ls (by simp only [midF]; simp_all) rfl rfl ih7
      · skip
        refine g_aload_n 0 dX0_middleHourTold_23 rfl rfl ?_
        refine g_aload_n 0 dX0_middleHourTold_24 rfl rfl ?_
        refine g_getfr2 (r := 102 + 3 * k) cf_1 9 (ly_c0 hk) (by decide) (by decide) rfl (by decide) wf_X0_15 dX0_middleHourTold_25 hK.1 (rfn_c9 k) ?_
        refine g_iload_n 2 dX0_middleHourTold_28 rfl rfl ?_
        refine g_iald (i) (by omega) (by omega) (ly_c2 hk) (by decide) dX0_middleHourTold_29 (n2 hK.2.2) (fun h29_6 => ?_)
        refine g_cV_i (My := mX0_isMiddle) (gs := [_]) (c_X0_isMiddle hk hK (by omega) (cntH_pos hi7 (by assumption))) mfX0_isMiddle cf_1 wi_X0_isMiddle wsl_X0_isMiddle wm_X0_56 dX0_middleHourTold_30 (Nat.le_of_ble_eq_true rfl) (ly_c0 hk) (by decide) (n2 hK.1) rfl (fun _ => Nat.le_of_ble_eq_true rfl) (Nat.le_of_ble_eq_true rfl) (Nat.le_of_ble_eq_true rfl) rfl rfl ?_
        refine g_ifb_eq (tgt := 43) dX0_middleHourTold_33 (by decide) (fun h33_7 => ?_) (fun h33_7 => ?_)
        · skip
          refine g_inc (ls2 := [(2, _), (0, _), (1, _)]) 2 dX0_middleHourTold_43 rfl (by decide) (c1_cr (c1_ci (c1_ci c1_0))) rfl ?_
          refine g_goto (tgt := 7) dX0_middleHourTold_46 (by decide) ?_
          refine g_sub [1, 2, 0] (ls2 := [(0, _), (1, _), (2, _)]) rfl ?_
          exact g_ls (by simp only [midF]; simp_all) rfl rfl ih7
        · skip
          refine g_aload_n 0 dX0_middleHourTold_36 rfl rfl ?_
          refine g_getfr2 (r := 102 + 3 * k) cf_1 9 (ly_c0 hk) (by decide) (by decide) rfl (by decide) wf_X0_15 dX0_middleHourTold_37 hK.1 (rfn_c9 k) ?_
          refine g_iload_n 2 dX0_middleHourTold_40 rfl rfl ?_
          refine g_iald (i) (by omega) (by omega) (ly_c2 hk) (by decide) dX0_middleHourTold_41 (n2 hK.2.2) (fun h41_8 => ?_)
          refine g_st (ls2 := [(1, _), (0, _), (2, _)]) dX0_middleHourTold_42 rfl (by decide) (c1_cr (c1_ci (c1_ci c1_0))) rfl ?_
          refine g_inc (ls2 := [(2, _), (1, _), (0, _)]) 2 dX0_middleHourTold_43 rfl (by decide) (c1_ci (c1_cr (c1_ci c1_0))) rfl ?_
          refine g_goto (tgt := 7) dX0_middleHourTold_46 (by decide) ?_
          refine g_sub [2, 1, 0] (ls2 := [(0, _), (1, _), (2, _)]) rfl ?_
          exact g_ls (by simp only [midF]; simp_all) rfl rfl ih7
  exact g_ls (by rfl) rfl rfl hQ7

set_option maxRecDepth 20000 in
theorem c_X0_wanting {L : Nat → Nat} {A : Mem} {k : Nat} (hk : k < 12) (hK : L (100 + 3 * k) = 2 ∧ L (101 + 3 * k) = 2 ∧ L (102 + 3 * k) = 2) (hL : LC L) {p w : Int} (hp : 0 ≤ p ∧ p < 8) : Ct mX0_wanting [gr (100 + 3 * k), gi p, gi w, gr 10] L A (pr (some (gi (wntC (A (101 + 3 * k)) (A 10) w p.toNat))) L A) := by
  refine Ct_of (ls := [(0, _), (1, _), (2, _), (3, _)]) rfl (by decide) (fun _ => rfl) (fun _ => Nat.le_of_ble_eq_true rfl) ?_
  refine g_aload_n 0 dX0_wanting_0 rfl rfl ?_
  refine g_getfr2 (r := 101 + 3 * k) cf_1 8 (ly_c0 hk) (by decide) (by decide) rfl (by decide) wf_X0_9 dX0_wanting_1 hK.1 (rfn_c8 k) ?_
  refine g_iload_n 1 dX0_wanting_4 rfl rfl ?_
  refine g_ia (by omega) (by omega) (ly_c1 hk) (by decide) dX0_wanting_5 (n2 hK.2.1) (fun h5_1 => ?_)
  refine g_iload_n 2 dX0_wanting_6 rfl rfl ?_
  refine g_imul dX0_wanting_7 ?_
  refine g_bipush dX0_wanting_8 (by decide) ?_
  refine g_aload_n 3 dX0_wanting_10 rfl rfl ?_
  refine g_iload_n 1 dX0_wanting_11 rfl rfl ?_
  refine g_ia (by omega) (by omega) rfl (by decide) dX0_wanting_12 (n2 (hL 10 rfl)) (fun h12_2 => ?_)
  refine g_imul dX0_wanting_13 ?_
  refine g_isub dX0_wanting_14 ?_
  exact g_iret dX0_wanting_15 rfl (Nat.le_of_ble_eq_true rfl) (Nat.le_of_ble_eq_true rfl) (pr_i (rfl) (rfl))

set_option maxRecDepth 20000 in
theorem c_X0_mostWanting {L : Nat → Nat} {A : Mem} {k : Nat} (hk : k < 12) (hK : L (100 + 3 * k) = 2 ∧ L (101 + 3 * k) = 2 ∧ L (102 + 3 * k) = 2) (hL : LC L) {w : Int} (ho : 0 ≤ A (100 + 3 * k) 0 ∧ A (100 + 3 * k) 0 < 8) (h1 : ∀ p, 0 ≤ A (101 + 3 * k) p ∧ A (101 + 3 * k) p ≤ 12) (h2 : 0 ≤ w ∧ w ≤ 100000) (h3 : ∀ p, p < 8 → 0 ≤ A 10 p ∧ A 10 p ≤ 100000) : Ct mX0_mostWanting [gr (100 + 3 * k), gi w, gr 10] L A (pr (some (gi ((mwC (A (101 + 3 * k)) (A 10) w (A (100 + 3 * k) 0).toNat 8 : Nat) : Int))) L A) := by
  refine Ct_of (ls := [(0, _), (1, _), (2, _)]) rfl (by decide) (fun _ => rfl) (fun _ => Nat.le_of_ble_eq_true rfl) ?_
  refine g_aload_n 0 dX0_mostWanting_0 rfl rfl ?_
  refine g_getfi cf_1 0 (ly_c0 hk) (by decide) (by decide) rfl (by decide) wf_X0_18 dX0_mostWanting_1 (n2 hK.1) (fun h1_1 => ?_)
  refine g_st (ls2 := [(3, _), (0, _), (1, _), (2, _)]) dX0_mostWanting_4 rfl (by decide) (c1_cr (c1_ci (c1_cr c1_0))) rfl ?_
  refine g_aload_n 1 dX0_mostWanting_5 rfl rfl ?_
  refine g_aload_n 1 dX0_mostWanting_6 rfl rfl ?_
  refine g_getfi cf_1 0 (ly_c0 hk) (by decide) (by decide) rfl (by decide) wf_X0_18 dX0_mostWanting_7 (n2 hK.1) (fun h7_2 => ?_)
  refine g_iload_n 2 dX0_mostWanting_10 rfl rfl ?_
  refine g_aload_n 3 dX0_mostWanting_11 rfl rfl ?_
  refine g_cV_i (My := mX0_wanting) (gs := [_, _, _]) (c_X0_wanting hk hK hL (by omega)) mfX0_wanting cf_1 wi_X0_wanting wsl_X0_wanting wm_X0_64 dX0_mostWanting_12 (Nat.le_of_ble_eq_true rfl) (ly_c0 hk) (by decide) (n2 hK.1) rfl (fun _ => Nat.le_of_ble_eq_true rfl) (Nat.le_of_ble_eq_true rfl) (Nat.le_of_ble_eq_true rfl) rfl rfl ?_
  refine g_st2 (ls2 := [(4, _), (3, _), (0, _), (1, _), (2, _)]) dX0_mostWanting_15 (by decide) (c1_ci (c1_cr (c1_ci (c1_cr c1_0)))) rfl ?_
  refine g_iconst dX0_mostWanting_17 ?_
  refine g_st2 (ls2 := [(5, _), (4, _), (3, _), (0, _), (1, _), (2, _)]) dX0_mostWanting_18 (by decide) (c1_ci (c1_ci (c1_cr (c1_ci (c1_cr c1_0))))) rfl ?_
  refine g_sub [3, 4, 5, 2, 1, 0] (ls2 := [(0, _), (1, _), (2, _), (3, _), (4, _), (5, _)]) rfl ?_
  have hQ20 : (fun i : Nat => GW mX0_mostWanting (pr (some (gi ((mwC (A (101 + 3 * k)) (A 10) w (A (100 + 3 * k) 0).toNat 8 : Nat) : Int))) L A) 0 0 20 [(0, gr (100 + 3 * k)), (1, gi (w)), (2, gr (10)), (3, gi (((mwC (A (101 + 3 * k)) (A 10) w (A (100 + 3 * k) 0).toNat i : Nat) : Int))), (4, gi (wntC (A (101 + 3 * k)) (A 10) w (mwC (A (101 + 3 * k)) (A 10) w (A (100 + 3 * k) 0).toNat i))), (5, gi ((i : Int)))] [] L (A)) 0 := by
    refine lp_up (Q := (fun i : Nat => GW mX0_mostWanting (pr (some (gi ((mwC (A (101 + 3 * k)) (A 10) w (A (100 + 3 * k) 0).toNat 8 : Nat) : Int))) L A) 0 0 20 [(0, gr (100 + 3 * k)), (1, gi (w)), (2, gr (10)), (3, gi (((mwC (A (101 + 3 * k)) (A 10) w (A (100 + 3 * k) 0).toNat i : Nat) : Int))), (4, gi (wntC (A (101 + 3 * k)) (A 10) w (mwC (A (101 + 3 * k)) (A 10) w (A (100 + 3 * k) 0).toNat i))), (5, gi ((i : Int)))] [] L (A))) (n := 8) ?_ (fun i hi20 ih20 => ?_)
    · skip
      refine g_iload 5 dX0_mostWanting_20 rfl ?_
      refine g_bipush dX0_mostWanting_22 (by decide) ?_
      refine g_icmp_ge (tgt := 79) (by omega) (by omega) dX0_mostWanting_24 (by decide) (fun h24_3 => ?_) (fun h24_3 => absurd h24_3 (by omega))
      refine g_iload_n 3 dX0_mostWanting_79 rfl rfl ?_
      exact g_iret dX0_mostWanting_80 rfl (Nat.le_of_ble_eq_true rfl) (Nat.le_of_ble_eq_true rfl) (pr_i (rfl) (rfl))
    · skip
      refine g_iload 5 dX0_mostWanting_20 rfl ?_
      refine g_bipush dX0_mostWanting_22 (by decide) ?_
      refine g_icmp_ge (tgt := 79) (by omega) (by omega) dX0_mostWanting_24 (by decide) (fun h24_4 => absurd h24_4 (by omega)) (fun h24_4 => ?_)
      refine g_aload_n 0 dX0_mostWanting_27 rfl rfl ?_
      refine g_iload 5 dX0_mostWanting_28 rfl ?_
      refine g_iload_n 1 dX0_mostWanting_30 rfl rfl ?_
      refine g_aload_n 2 dX0_mostWanting_31 rfl rfl ?_
      refine g_cV_i (My := mX0_wanting) (gs := [_, _, _]) (c_X0_wanting hk hK hL (p := (i : Int)) (by omega)) mfX0_wanting cf_1 wi_X0_wanting wsl_X0_wanting wm_X0_64 dX0_mostWanting_32 (Nat.le_of_ble_eq_true rfl) (ly_c0 hk) (by decide) (n2 hK.1) rfl (fun _ => Nat.le_of_ble_eq_true rfl) (Nat.le_of_ble_eq_true rfl) (Nat.le_of_ble_eq_true rfl) rfl rfl ?_
      refine g_st2 (ls2 := [(6, _), (0, _), (1, _), (2, _), (3, _), (4, _), (5, _)]) dX0_mostWanting_35 (by decide) (c1_cr (c1_ci (c1_cr (c1_ci (c1_ci (c1_ci c1_0)))))) rfl ?_
      refine g_aload_n 1 dX0_mostWanting_37 rfl rfl ?_
      refine g_iload 6 dX0_mostWanting_38 rfl ?_
      refine g_cV_i (My := mX0_isOfPeople) (gs := [_]) (c_X0_isOfPeople hk hK (p := (i : Int)) (by omega)) mfX0_isOfPeople cf_1 wi_X0_isOfPeople wsl_X0_isOfPeople wm_X0_68 dX0_mostWanting_40 (Nat.le_of_ble_eq_true rfl) (ly_c0 hk) (by decide) (n2 hK.1) rfl (fun _ => Nat.le_of_ble_eq_true rfl) (Nat.le_of_ble_eq_true rfl) (Nat.le_of_ble_eq_true rfl) rfl rfl ?_
      refine g_ifb_eq (tgt := 73) dX0_mostWanting_43 (by decide) (fun h43_5 => ?_) (fun h43_5 => ?_)
      · skip
        refine g_inc (ls2 := [(5, _), (6, _), (0, _), (1, _), (2, _), (3, _), (4, _)]) 6 dX0_mostWanting_73 rfl (by decide) (c1_ci (c1_cr (c1_ci (c1_cr (c1_ci (c1_ci (c1_ci c1_0))))))) rfl ?_
        refine g_goto (tgt := 20) dX0_mostWanting_76 (by decide) ?_
        refine g_sub [2, 3, 4, 5, 6, 0] (ls2 := [(0, _), (1, _), (2, _), (3, _), (4, _), (5, _)]) rfl ?_
        exact g_ls (by simp only [mwC]; grind) rfl rfl ih20
      · skip
        simp only [decide_eq_true_eq, Int.toNat_natCast] at *
        refine g_iload 0 dX0_mostWanting_46 rfl ?_
        refine g_iload 5 dX0_mostWanting_48 rfl ?_
        have hw3 : mwC (A (101 + 3 * k)) (A 10) w (A (100 + 3 * k) 0).toNat i < 8 := mwC_lt (by omega) i (by omega); have hw1 := wntC_rg i h1 h2 (h3 i (by omega)); have hw2 := wntC_rg (mwC (A (101 + 3 * k)) (A 10) w (A (100 + 3 * k) 0).toNat i) h1 h2 (h3 _ hw3)
        refine g_icmp_gt (tgt := 66) (by omega) (by omega) dX0_mostWanting_50 (by decide) (fun h50_6 => ?_) (fun h50_6 => ?_)
        · skip
          refine g_iload 6 dX0_mostWanting_66 rfl ?_
          refine g_st (ls2 := [(3, _), (6, _), (0, _), (1, _), (2, _), (4, _), (5, _)]) dX0_mostWanting_68 rfl (by decide) (c1_ci (c1_cr (c1_ci (c1_cr (c1_ci (c1_ci (c1_ci c1_0))))))) rfl ?_
          refine g_iload 1 dX0_mostWanting_69 rfl ?_
          refine g_st2 (ls2 := [(4, _), (3, _), (6, _), (0, _), (1, _), (2, _), (5, _)]) dX0_mostWanting_71 (by decide) (c1_ci (c1_ci (c1_cr (c1_ci (c1_cr (c1_ci (c1_ci c1_0))))))) rfl ?_
          refine g_inc (ls2 := [(5, _), (4, _), (3, _), (6, _), (0, _), (1, _), (2, _)]) 6 dX0_mostWanting_73 rfl (by decide) (c1_ci (c1_ci (c1_ci (c1_cr (c1_ci (c1_cr (c1_ci c1_0))))))) rfl ?_
          refine g_goto (tgt := 20) dX0_mostWanting_76 (by decide) ?_
          refine g_sub [4, 5, 6, 2, 1, 0] (ls2 := [(0, _), (1, _), (2, _), (3, _), (4, _), (5, _)]) rfl ?_
          exact g_ls (by simp only [mwC]; grind) rfl rfl ih20
        · skip
          refine g_iload 0 dX0_mostWanting_53 rfl ?_
          refine g_iload 5 dX0_mostWanting_55 rfl ?_
          refine g_icmp_ne (tgt := 73) (by omega) (by omega) dX0_mostWanting_57 (by decide) (fun h57_7 => ?_) (fun h57_7 => ?_)
          · skip
            refine g_inc (ls2 := [(5, _), (6, _), (0, _), (1, _), (2, _), (3, _), (4, _)]) 6 dX0_mostWanting_73 rfl (by decide) (c1_ci (c1_cr (c1_ci (c1_cr (c1_ci (c1_ci (c1_ci c1_0))))))) rfl ?_
            refine g_goto (tgt := 20) dX0_mostWanting_76 (by decide) ?_
            refine g_sub [2, 3, 4, 5, 6, 0] (ls2 := [(0, _), (1, _), (2, _), (3, _), (4, _), (5, _)]) rfl ?_
            exact g_ls (by simp only [mwC]; grind) rfl rfl ih20
          · skip
            refine g_iload 6 dX0_mostWanting_60 rfl ?_
            refine g_iload_n 4 dX0_mostWanting_62 rfl rfl ?_
            refine g_icmp_ge (tgt := 73) (by omega) (by omega) dX0_mostWanting_63 (by decide) (fun h63_8 => ?_) (fun h63_8 => ?_)
            · skip
              refine g_inc (ls2 := [(5, _), (6, _), (0, _), (1, _), (2, _), (3, _), (4, _)]) 6 dX0_mostWanting_73 rfl (by decide) (c1_ci (c1_cr (c1_ci (c1_cr (c1_ci (c1_ci (c1_ci c1_0))))))) rfl ?_
              refine g_goto (tgt := 20) dX0_mostWanting_76 (by decide) ?_
              refine g_sub [2, 3, 4, 5, 6, 0] (ls2 := [(0, _), (1, _), (2, _), (3, _), (4, _), (5, _)]) rfl ?_
              exact g_ls (by simp only [mwC]; grind) rfl rfl ih20
            · skip
              refine g_iload 6 dX0_mostWanting_66 rfl ?_
              refine g_st (ls2 := [(3, _), (6, _), (0, _), (1, _), (2, _), (4, _), (5, _)]) dX0_mostWanting_68 rfl (by decide) (c1_ci (c1_cr (c1_ci (c1_cr (c1_ci (c1_ci (c1_ci c1_0))))))) rfl ?_
              refine g_iload 1 dX0_mostWanting_69 rfl ?_
              refine g_st2 (ls2 := [(4, _), (3, _), (6, _), (0, _), (1, _), (2, _), (5, _)]) dX0_mostWanting_71 (by decide) (c1_ci (c1_ci (c1_cr (c1_ci (c1_cr (c1_ci (c1_ci c1_0))))))) rfl ?_
              refine g_inc (ls2 := [(5, _), (4, _), (3, _), (6, _), (0, _), (1, _), (2, _)]) 6 dX0_mostWanting_73 rfl (by decide) (c1_ci (c1_ci (c1_ci (c1_cr (c1_ci (c1_cr (c1_ci c1_0))))))) rfl ?_
              refine g_goto (tgt := 20) dX0_mostWanting_76 (by decide) ?_
              refine g_sub [4, 5, 6, 2, 1, 0] (ls2 := [(0, _), (1, _), (2, _), (3, _), (4, _), (5, _)]) rfl ?_
              exact g_ls (by simp only [mwC]; grind) rfl rfl ih20
  exact g_ls (by simp only [mwC]; rw [Int.toNat_of_nonneg ho.1]; rfl) rfl rfl hQ20

set_option maxRecDepth 20000 in
theorem c_X2_place {L : Nat → Nat} {A : Mem} {s : Nat} (hS : L (200 + 3 * s) = 2 ∧ L (201 + 3 * s) = 2 ∧ L (202 + 3 * s) = 2) : Ct mX2_place [gr (200 + 3 * s)] L A (pr (some (gi (plcC (A (200 + 3 * s) 7) (A (200 + 3 * s) 6)))) L A) := by
  refine Ct_of (ls := [(0, _)]) rfl (by decide) (fun _ => rfl) (fun _ => Nat.le_of_ble_eq_true rfl) ?_
  refine g_aload_n 0 dX2_place_0 rfl rfl ?_
  refine g_getfi cf_3 7 (ly_s0 s) (by decide) (by decide) rfl (by decide) wf_X2_9 dX2_place_1 (n2 hS.1) (fun h1_1 => ?_)
  refine g_iconst dX2_place_4 ?_
  refine g_icmp_eq (tgt := 10) (by omega) (by omega) dX2_place_5 (by decide) (fun h5_2 => ?_) (fun h5_2 => ?_)
  · skip
    refine g_aload_n 0 dX2_place_10 rfl rfl ?_
    refine g_getfi cf_3 6 (ly_s0 s) (by decide) (by decide) rfl (by decide) wf_X2_34 dX2_place_11 (n2 hS.1) (fun h11_3 => ?_)
    refine g_iconst dX2_place_14 ?_
    refine g_icmp_ne (tgt := 22) (by omega) (by omega) dX2_place_15 (by decide) (fun h15_4 => ?_) (fun h15_4 => ?_)
    · skip
      refine g_iconst dX2_place_22 ?_
      exact g_iret dX2_place_23 rfl (Nat.le_of_ble_eq_true rfl) (Nat.le_of_ble_eq_true rfl) (pr_i (by grind [plcC]) (rfl))
    · skip
      refine g_iconst dX2_place_18 ?_
      refine g_goto (tgt := 23) dX2_place_19 (by decide) ?_
      exact g_iret dX2_place_23 rfl (Nat.le_of_ble_eq_true rfl) (Nat.le_of_ble_eq_true rfl) (pr_i (by grind [plcC]) (rfl))
  · skip
    refine g_iconst dX2_place_8 ?_
    exact g_iret dX2_place_9 rfl (Nat.le_of_ble_eq_true rfl) (Nat.le_of_ble_eq_true rfl) (pr_i (by grind [plcC]) (rfl))

set_option maxRecDepth 20000 in
theorem c_X2_isInParcelOf {L : Nat → Nat} {A : Mem} {s : Nat} (hS : L (200 + 3 * s) = 2 ∧ L (201 + 3 * s) = 2 ∧ L (202 + 3 * s) = 2) {c : Int} (hc : -2147483648 ≤ c ∧ c < 2147483648) : Ct mX2_isInParcelOf [gr (200 + 3 * s), gi c] L A (pr (some (gi (b2 (inpB (A (200 + 3 * s) 2) (A (200 + 3 * s) 7) (A (200 + 3 * s) 6) c)))) L A) := by
  refine Ct_of (ls := [(0, _), (1, _)]) rfl (by decide) (fun _ => rfl) (fun _ => Nat.le_of_ble_eq_true rfl) ?_
  refine g_aload_n 0 dX2_isInParcelOf_0 rfl rfl ?_
  refine g_getfi cf_3 2 (ly_s0 s) (by decide) (by decide) rfl (by decide) wf_X2_31 dX2_isInParcelOf_1 (n2 hS.1) (fun h1_1 => ?_)
  refine g_iload_n 1 dX2_isInParcelOf_4 rfl rfl ?_
  refine g_icmp_ne (tgt := 19) (by omega) (by omega) dX2_isInParcelOf_5 (by decide) (fun h5_2 => ?_) (fun h5_2 => ?_)
  · skip
    refine g_iconst dX2_isInParcelOf_19 ?_
    exact g_zret dX2_isInParcelOf_20 rfl (Or.inl rfl) (Nat.le_of_ble_eq_true rfl) (Nat.le_of_ble_eq_true rfl) (pr_i (b2_0 (by grind [inpB, b2])) (rfl))
  · skip
    refine g_aload_n 0 dX2_isInParcelOf_8 rfl rfl ?_
    refine g_cV_i (My := mX2_place) (gs := []) (c_X2_place hS) mfX2_place cf_3 wi_X2_place wsl_X2_place wm_X2_37 dX2_isInParcelOf_9 (Nat.le_of_ble_eq_true rfl) (ly_s0 s) (by decide) (n2 hS.1) rfl (fun _ => Nat.le_of_ble_eq_true rfl) (Nat.le_of_ble_eq_true rfl) (Nat.le_of_ble_eq_true rfl) rfl rfl ?_
    have hpl : 0 ≤ plcC (A (200 + 3 * s) 7) (A (200 + 3 * s) 6) ∧ plcC (A (200 + 3 * s) 7) (A (200 + 3 * s) 6) ≤ 2 := by unfold plcC; split <;> (try split) <;> omega
    refine g_if_ne (tgt := 19) (by omega) dX2_isInParcelOf_12 (by decide) (fun h12_3 => ?_) (fun h12_3 => ?_)
    · skip
      refine g_iconst dX2_isInParcelOf_19 ?_
      exact g_zret dX2_isInParcelOf_20 rfl (Or.inl rfl) (Nat.le_of_ble_eq_true rfl) (Nat.le_of_ble_eq_true rfl) (pr_i (b2_0 (by grind [inpB, b2])) (rfl))
    · skip
      refine g_iconst dX2_isInParcelOf_15 ?_
      refine g_goto (tgt := 20) dX2_isInParcelOf_16 (by decide) ?_
      exact g_zret dX2_isInParcelOf_20 rfl (Or.inr rfl) (Nat.le_of_ble_eq_true rfl) (Nat.le_of_ble_eq_true rfl) (pr_i (b2_1 (by grind [inpB, b2])) (rfl))

set_option maxRecDepth 20000 in
theorem c_X2_lustre {L : Nat → Nat} {A : Mem} {s : Nat} (hS : L (200 + 3 * s) = 2 ∧ L (201 + 3 * s) = 2 ∧ L (202 + 3 * s) = 2) (h1 : 0 ≤ A (200 + 3 * s) 1 ∧ A (200 + 3 * s) 1 ≤ 100) : Ct mX2_lustre [gr (200 + 3 * s)] L A (pr (some (gi (lusC (A (200 + 3 * s) 5) (A (200 + 3 * s) 1)))) L A) := by
  refine Ct_of (ls := [(0, _)]) rfl (by decide) (fun _ => rfl) (fun _ => Nat.le_of_ble_eq_true rfl) ?_
  refine g_aload_n 0 dX2_lustre_0 rfl rfl ?_
  refine g_getfi cf_3 5 (ly_s0 s) (by decide) (by decide) rfl (by decide) wf_X2_41 dX2_lustre_1 (n2 hS.1) (fun h1_1 => ?_)
  refine g_aload_n 0 dX2_lustre_4 rfl rfl ?_
  refine g_getfi cf_3 1 (ly_s0 s) (by decide) (by decide) rfl (by decide) wf_X2_28 dX2_lustre_5 (n2 hS.1) (fun h5_2 => ?_)
  refine g_icmp_ge (tgt := 13) (by omega) (by omega) dX2_lustre_8 (by decide) (fun h8_3 => ?_) (fun h8_3 => ?_)
  · skip
    refine g_aload_n 0 dX2_lustre_13 rfl rfl ?_
    refine g_getfi cf_3 5 (ly_s0 s) (by decide) (by decide) rfl (by decide) wf_X2_41 dX2_lustre_14 (n2 hS.1) (fun h14_4 => ?_)
    refine g_aload_n 0 dX2_lustre_17 rfl rfl ?_
    refine g_getfi cf_3 1 (ly_s0 s) (by decide) (by decide) rfl (by decide) wf_X2_28 dX2_lustre_18 (n2 hS.1) (fun h18_5 => ?_)
    refine g_iconst dX2_lustre_21 ?_
    refine g_iadd dX2_lustre_22 ?_
    refine g_icmp_gt (tgt := 30) (by omega) (by omega) dX2_lustre_23 (by decide) (fun h23_6 => ?_) (fun h23_6 => ?_)
    · skip
      refine g_iconst dX2_lustre_30 ?_
      exact g_iret dX2_lustre_31 rfl (Nat.le_of_ble_eq_true rfl) (Nat.le_of_ble_eq_true rfl) (pr_i (by grind [lusC]) (rfl))
    · skip
      refine g_iconst dX2_lustre_26 ?_
      refine g_goto (tgt := 31) dX2_lustre_27 (by decide) ?_
      exact g_iret dX2_lustre_31 rfl (Nat.le_of_ble_eq_true rfl) (Nat.le_of_ble_eq_true rfl) (pr_i (by grind [lusC]) (rfl))
  · skip
    refine g_iconst dX2_lustre_11 ?_
    exact g_iret dX2_lustre_12 rfl (Nat.le_of_ble_eq_true rfl) (Nat.le_of_ble_eq_true rfl) (pr_i (by grind [lusC]) (rfl))

set_option maxRecDepth 20000 in
theorem c_X2_value {L : Nat → Nat} {A : Mem} {s : Nat} (hS : L (200 + 3 * s) = 2 ∧ L (201 + 3 * s) = 2 ∧ L (202 + 3 * s) = 2) (h1 : 0 ≤ A (200 + 3 * s) 1 ∧ A (200 + 3 * s) 1 ≤ 100) : Ct mX2_value [gr (200 + 3 * s)] L A (pr (some (gi (valC (A (200 + 3 * s) 5) (A (200 + 3 * s) 1) (A (200 + 3 * s) 3)))) L A) := by
  refine Ct_of (ls := [(0, _)]) rfl (by decide) (fun _ => rfl) (fun _ => Nat.le_of_ble_eq_true rfl) ?_
  refine g_aload_n 0 dX2_value_0 rfl rfl ?_
  refine g_cV_i (My := mX2_lustre) (gs := []) (c_X2_lustre hS h1) mfX2_lustre cf_3 wi_X2_lustre wsl_X2_lustre wm_X2_44 dX2_value_1 (Nat.le_of_ble_eq_true rfl) (ly_s0 s) (by decide) (n2 hS.1) rfl (fun _ => Nat.le_of_ble_eq_true rfl) (Nat.le_of_ble_eq_true rfl) (Nat.le_of_ble_eq_true rfl) rfl rfl ?_
  rcases (show lusC (A (200 + 3 * s) 5) (A (200 + 3 * s) 1) = 0 ∨ lusC (A (200 + 3 * s) 5) (A (200 + 3 * s) 1) = 1 ∨ lusC (A (200 + 3 * s) 5) (A (200 + 3 * s) 1) = 2 by unfold lusC; split <;> (try split) <;> omega) with el4 | el4 | el4
  · skip
    refine g_top el4 ?_
    refine g_lsw (tgt := 32) dX2_value_4 (by omega) (by decide) rfl (by decide) ?_
    refine g_aload_n 0 dX2_value_32 rfl rfl ?_
    refine g_getfi cf_3 3 (ly_s0 s) (by decide) (by decide) rfl (by decide) wf_X2_25 dX2_value_33 (n2 hS.1) (fun h33_1 => ?_)
    refine g_iconst dX2_value_36 ?_
    refine g_imul dX2_value_37 ?_
    exact g_iret dX2_value_38 rfl (Nat.le_of_ble_eq_true rfl) (Nat.le_of_ble_eq_true rfl) (pr_i (by unfold valC; simp only [el4]; rfl) (rfl))
  · skip
    refine g_top el4 ?_
    refine g_lsw (tgt := 39) dX2_value_4 (by omega) (by decide) rfl (by decide) ?_
    refine g_aload_n 0 dX2_value_39 rfl rfl ?_
    refine g_getfi cf_3 3 (ly_s0 s) (by decide) (by decide) rfl (by decide) wf_X2_25 dX2_value_40 (n2 hS.1) (fun h40_2 => ?_)
    refine g_bipush dX2_value_43 (by decide) ?_
    refine g_imul dX2_value_45 ?_
    exact g_iret dX2_value_46 rfl (Nat.le_of_ble_eq_true rfl) (Nat.le_of_ble_eq_true rfl) (pr_i (by unfold valC; simp only [el4]; rfl) (rfl))
  · skip
    refine g_top el4 ?_
    refine g_lsw (tgt := 47) dX2_value_4 (by omega) (by decide) rfl (by decide) ?_
    refine g_iconst dX2_value_47 ?_
    exact g_iret dX2_value_48 rfl (Nat.le_of_ble_eq_true rfl) (Nat.le_of_ble_eq_true rfl) (pr_i (by unfold valC; simp only [el4]; rfl) (rfl))

set_option maxRecDepth 20000 in
theorem c_X2_isAhead {L : Nat → Nat} {A : Mem} {s : Nat} (hS : L (200 + 3 * s) = 2 ∧ L (201 + 3 * s) = 2 ∧ L (202 + 3 * s) = 2) {i j : Int} (hi : 0 ≤ i ∧ i < 5) (hj : 0 ≤ j ∧ j < 5) : Ct mX2_isAhead [gr (200 + 3 * s), gi i, gi j] L A (pr (some (gi (b2 (ahdB (A (201 + 3 * s)) (A (202 + 3 * s)) i.toNat j.toNat)))) L A) := by
  refine Ct_of (ls := [(0, _), (1, _), (2, _)]) rfl (by decide) (fun _ => rfl) (fun _ => Nat.le_of_ble_eq_true rfl) ?_
  refine g_aload_n 0 dX2_isAhead_0 rfl rfl ?_
  refine g_getfr2 (r := 201 + 3 * s) cf_3 9 (ly_s0 s) (by decide) (by decide) rfl (by decide) wf_X2_15 dX2_isAhead_1 hS.1 (rfn_s9 s) ?_
  refine g_iload_n 1 dX2_isAhead_4 rfl rfl ?_
  refine g_ia (by omega) (by omega) (ly_s1 s) (by decide) dX2_isAhead_5 (n2 hS.2.1) (fun h5_1 => ?_)
  refine g_aload_n 0 dX2_isAhead_6 rfl rfl ?_
  refine g_getfr2 (r := 201 + 3 * s) cf_3 9 (ly_s0 s) (by decide) (by decide) rfl (by decide) wf_X2_15 dX2_isAhead_7 hS.1 (rfn_s9 s) ?_
  refine g_iload_n 2 dX2_isAhead_10 rfl rfl ?_
  refine g_ia (by omega) (by omega) (ly_s1 s) (by decide) dX2_isAhead_11 (n2 hS.2.1) (fun h11_2 => ?_)
  refine g_icmp_gt (tgt := 45) (by omega) (by omega) dX2_isAhead_12 (by decide) (fun h12_3 => ?_) (fun h12_3 => ?_)
  · skip
    refine g_iconst dX2_isAhead_45 ?_
    refine g_goto (tgt := 50) dX2_isAhead_46 (by decide) ?_
    exact g_zret dX2_isAhead_50 rfl (Or.inr rfl) (Nat.le_of_ble_eq_true rfl) (Nat.le_of_ble_eq_true rfl) (pr_i (b2_1 (by grind [ahdB, b2])) (rfl))
  · skip
    refine g_aload_n 0 dX2_isAhead_15 rfl rfl ?_
    refine g_getfr2 (r := 201 + 3 * s) cf_3 9 (ly_s0 s) (by decide) (by decide) rfl (by decide) wf_X2_15 dX2_isAhead_16 hS.1 (rfn_s9 s) ?_
    refine g_iload_n 1 dX2_isAhead_19 rfl rfl ?_
    refine g_ia (by omega) (by omega) (ly_s1 s) (by decide) dX2_isAhead_20 (n2 hS.2.1) (fun h20_4 => ?_)
    refine g_aload_n 0 dX2_isAhead_21 rfl rfl ?_
    refine g_getfr2 (r := 201 + 3 * s) cf_3 9 (ly_s0 s) (by decide) (by decide) rfl (by decide) wf_X2_15 dX2_isAhead_22 hS.1 (rfn_s9 s) ?_
    refine g_iload_n 2 dX2_isAhead_25 rfl rfl ?_
    refine g_ia (by omega) (by omega) (ly_s1 s) (by decide) dX2_isAhead_26 (n2 hS.2.1) (fun h26_5 => ?_)
    refine g_icmp_ne (tgt := 49) (by omega) (by omega) dX2_isAhead_27 (by decide) (fun h27_6 => ?_) (fun h27_6 => ?_)
    · skip
      refine g_iconst dX2_isAhead_49 ?_
      exact g_zret dX2_isAhead_50 rfl (Or.inl rfl) (Nat.le_of_ble_eq_true rfl) (Nat.le_of_ble_eq_true rfl) (pr_i (b2_0 (by grind [ahdB, b2])) (rfl))
    · skip
      refine g_aload_n 0 dX2_isAhead_30 rfl rfl ?_
      refine g_getfr2 (r := 202 + 3 * s) cf_3 10 (ly_s0 s) (by decide) (by decide) rfl (by decide) wf_X2_19 dX2_isAhead_31 hS.1 (rfn_s10 s) ?_
      refine g_iload_n 1 dX2_isAhead_34 rfl rfl ?_
      refine g_ia (by omega) (by omega) (ly_s2 s) (by decide) dX2_isAhead_35 (n2 hS.2.2) (fun h35_7 => ?_)
      refine g_aload_n 0 dX2_isAhead_36 rfl rfl ?_
      refine g_getfr2 (r := 202 + 3 * s) cf_3 10 (ly_s0 s) (by decide) (by decide) rfl (by decide) wf_X2_19 dX2_isAhead_37 hS.1 (rfn_s10 s) ?_
      refine g_iload_n 2 dX2_isAhead_40 rfl rfl ?_
      refine g_ia (by omega) (by omega) (ly_s2 s) (by decide) dX2_isAhead_41 (n2 hS.2.2) (fun h41_8 => ?_)
      refine g_icmp_ge (tgt := 49) (by omega) (by omega) dX2_isAhead_42 (by decide) (fun h42_9 => ?_) (fun h42_9 => ?_)
      · skip
        refine g_iconst dX2_isAhead_49 ?_
        exact g_zret dX2_isAhead_50 rfl (Or.inl rfl) (Nat.le_of_ble_eq_true rfl) (Nat.le_of_ble_eq_true rfl) (pr_i (b2_0 (by grind [ahdB, b2])) (rfl))
      · skip
        refine g_iconst dX2_isAhead_45 ?_
        refine g_goto (tgt := 50) dX2_isAhead_46 (by decide) ?_
        exact g_zret dX2_isAhead_50 rfl (Or.inr rfl) (Nat.le_of_ble_eq_true rfl) (Nat.le_of_ble_eq_true rfl) (pr_i (b2_1 (by grind [ahdB, b2])) (rfl))

set_option maxRecDepth 20000 in
theorem c_X2_bestBidder {L : Nat → Nat} {A : Mem} {s : Nat} (hS : L (200 + 3 * s) = 2 ∧ L (201 + 3 * s) = 2 ∧ L (202 + 3 * s) = 2) (hL : LC L) : Ct mX2_bestBidder [gr (200 + 3 * s), gr 9] L A (pr (some (gi (bstC (A (201 + 3 * s)) (A (202 + 3 * s)) (A 9) 5))) L A) := by
  refine Ct_of (ls := [(0, _), (1, _)]) rfl (by decide) (fun _ => rfl) (fun _ => Nat.le_of_ble_eq_true rfl) ?_
  refine g_iconst dX2_bestBidder_0 ?_
  refine g_st (ls2 := [(2, _), (0, _), (1, _)]) dX2_bestBidder_1 rfl (by decide) (c1_cr (c1_cr c1_0)) rfl ?_
  refine g_iconst dX2_bestBidder_2 ?_
  refine g_st (ls2 := [(3, _), (2, _), (0, _), (1, _)]) dX2_bestBidder_3 rfl (by decide) (c1_ci (c1_cr (c1_cr c1_0))) rfl ?_
  refine g_sub [2, 3, 1, 0] (ls2 := [(0, _), (1, _), (2, _), (3, _)]) rfl ?_
  have hQ4 : (fun i : Nat => GW mX2_bestBidder (pr (some (gi (bstC (A (201 + 3 * s)) (A (202 + 3 * s)) (A 9) 5))) L A) 0 0 4 [(0, gr (200 + 3 * s)), (1, gr (9)), (2, gi (bstC (A (201 + 3 * s)) (A (202 + 3 * s)) (A 9) i)), (3, gi ((i : Int)))] [] L (A)) 0 := by
    refine lp_up (Q := (fun i : Nat => GW mX2_bestBidder (pr (some (gi (bstC (A (201 + 3 * s)) (A (202 + 3 * s)) (A 9) 5))) L A) 0 0 4 [(0, gr (200 + 3 * s)), (1, gr (9)), (2, gi (bstC (A (201 + 3 * s)) (A (202 + 3 * s)) (A 9) i)), (3, gi ((i : Int)))] [] L (A))) (n := 5) ?_ (fun i hi4 ih4 => ?_)
    · skip
      refine g_iload_n 3 dX2_bestBidder_4 rfl rfl ?_
      refine g_iconst dX2_bestBidder_5 ?_
      refine g_icmp_ge (tgt := 58) (by omega) (by omega) dX2_bestBidder_6 (by decide) (fun h6_1 => ?_) (fun h6_1 => absurd h6_1 (by omega))
      refine g_iload_n 2 dX2_bestBidder_58 rfl rfl ?_
      exact g_iret dX2_bestBidder_59 rfl (Nat.le_of_ble_eq_true rfl) (Nat.le_of_ble_eq_true rfl) (pr_i (rfl) (rfl))
    · skip
      have hb := bstC_rg (A (201 + 3 * s)) (A (202 + 3 * s)) (A 9) i
      refine g_iload_n 3 dX2_bestBidder_4 rfl rfl ?_
      refine g_iconst dX2_bestBidder_5 ?_
      refine g_icmp_ge (tgt := 58) (by omega) (by omega) dX2_bestBidder_6 (by decide) (fun h6_2 => absurd h6_2 (by omega)) (fun h6_2 => ?_)
      refine g_iload_n 3 dX2_bestBidder_9 rfl rfl ?_
      refine g_aload_n 1 dX2_bestBidder_10 rfl rfl ?_
      refine g_alen rfl (by decide) dX2_bestBidder_11 (n2 (hL 9 rfl)) ?_
      refine g_icmp_ge (tgt := 58) (by omega) (by omega) dX2_bestBidder_12 (by decide) (fun h12_3 => absurd h12_3 (by omega)) (fun h12_3 => ?_)
      refine g_aload_n 0 dX2_bestBidder_15 rfl rfl ?_
      refine g_getfr2 (r := 201 + 3 * s) cf_3 9 (ly_s0 s) (by decide) (by decide) rfl (by decide) wf_X2_15 dX2_bestBidder_16 hS.1 (rfn_s9 s) ?_
      refine g_iload_n 3 dX2_bestBidder_19 rfl rfl ?_
      refine g_iald (i) (by omega) (by omega) (ly_s1 s) (by decide) dX2_bestBidder_20 (n2 hS.2.1) (fun h20_4 => ?_)
      refine g_if_le (tgt := 52) (by omega) dX2_bestBidder_21 (by decide) (fun h21_5 => ?_) (fun h21_5 => ?_)
      · skip
        refine g_inc (ls2 := [(3, _), (0, _), (1, _), (2, _)]) 3 dX2_bestBidder_52 rfl (by decide) (c1_cr (c1_cr (c1_ci (c1_ci c1_0)))) rfl ?_
        refine g_goto (tgt := 4) dX2_bestBidder_55 (by decide) ?_
        refine g_sub [1, 2, 3, 0] (ls2 := [(0, _), (1, _), (2, _), (3, _)]) rfl ?_
        exact g_ls (by simp only [bstC]; grind) rfl rfl ih4
      · skip
        refine g_aload_n 0 dX2_bestBidder_24 rfl rfl ?_
        refine g_getfr2 (r := 201 + 3 * s) cf_3 9 (ly_s0 s) (by decide) (by decide) rfl (by decide) wf_X2_15 dX2_bestBidder_25 hS.1 (rfn_s9 s) ?_
        refine g_iload_n 3 dX2_bestBidder_28 rfl rfl ?_
        refine g_iald (i) (by omega) (by omega) (ly_s1 s) (by decide) dX2_bestBidder_29 (n2 hS.2.1) (fun h29_6 => ?_)
        refine g_aload_n 1 dX2_bestBidder_30 rfl rfl ?_
        refine g_iload_n 3 dX2_bestBidder_31 rfl rfl ?_
        refine g_iald (i) (by omega) (by omega) rfl (by decide) dX2_bestBidder_32 (n2 (hL 9 rfl)) (fun h32_7 => ?_)
        refine g_icmp_gt (tgt := 52) (by omega) (by omega) dX2_bestBidder_33 (by decide) (fun h33_8 => ?_) (fun h33_8 => ?_)
        · skip
          refine g_inc (ls2 := [(3, _), (0, _), (1, _), (2, _)]) 3 dX2_bestBidder_52 rfl (by decide) (c1_cr (c1_cr (c1_ci (c1_ci c1_0)))) rfl ?_
          refine g_goto (tgt := 4) dX2_bestBidder_55 (by decide) ?_
          refine g_sub [1, 2, 3, 0] (ls2 := [(0, _), (1, _), (2, _), (3, _)]) rfl ?_
          exact g_ls (by simp only [bstC]; grind) rfl rfl ih4
        · skip
          refine g_iload_n 2 dX2_bestBidder_36 rfl rfl ?_
          refine g_iconst dX2_bestBidder_37 ?_
          refine g_icmp_eq (tgt := 50) (by omega) (by omega) dX2_bestBidder_38 (by decide) (fun h38_9 => ?_) (fun h38_9 => ?_)
          · skip
            refine g_iload_n 3 dX2_bestBidder_50 rfl rfl ?_
            refine g_st (ls2 := [(2, _), (0, _), (1, _), (3, _)]) dX2_bestBidder_51 rfl (by decide) (c1_cr (c1_cr (c1_ci (c1_ci c1_0)))) rfl ?_
            refine g_inc (ls2 := [(3, _), (2, _), (0, _), (1, _)]) 3 dX2_bestBidder_52 rfl (by decide) (c1_ci (c1_cr (c1_cr (c1_ci c1_0)))) rfl ?_
            refine g_goto (tgt := 4) dX2_bestBidder_55 (by decide) ?_
            refine g_sub [2, 3, 1, 0] (ls2 := [(0, _), (1, _), (2, _), (3, _)]) rfl ?_
            exact g_ls (by simp only [bstC]; grind) rfl rfl ih4
          · skip
            refine g_aload_n 0 dX2_bestBidder_41 rfl rfl ?_
            refine g_iload_n 3 dX2_bestBidder_42 rfl rfl ?_
            refine g_iload_n 2 dX2_bestBidder_43 rfl rfl ?_
            refine g_cV_i (My := mX2_isAhead) (gs := [_, _]) (c_X2_isAhead hS (i := (i : Int)) (j := bstC (A (201 + 3 * s)) (A (202 + 3 * s)) (A 9) i) (by omega) (by omega)) mfX2_isAhead cf_3 wi_X2_isAhead wsl_X2_isAhead wm_X2_47 dX2_bestBidder_44 (Nat.le_of_ble_eq_true rfl) (ly_s0 s) (by decide) (n2 hS.1) rfl (fun _ => Nat.le_of_ble_eq_true rfl) (Nat.le_of_ble_eq_true rfl) (Nat.le_of_ble_eq_true rfl) rfl rfl ?_
            refine g_ifb_eq (tgt := 52) dX2_bestBidder_47 (by decide) (fun h47_10 => ?_) (fun h47_10 => ?_)
            · skip
              refine g_inc (ls2 := [(3, _), (0, _), (1, _), (2, _)]) 3 dX2_bestBidder_52 rfl (by decide) (c1_cr (c1_cr (c1_ci (c1_ci c1_0)))) rfl ?_
              refine g_goto (tgt := 4) dX2_bestBidder_55 (by decide) ?_
              refine g_sub [1, 2, 3, 0] (ls2 := [(0, _), (1, _), (2, _), (3, _)]) rfl ?_
              exact g_ls (by simp only [bstC]; grind) rfl rfl ih4
            · skip
              refine g_iload_n 3 dX2_bestBidder_50 rfl rfl ?_
              refine g_st (ls2 := [(2, _), (0, _), (1, _), (3, _)]) dX2_bestBidder_51 rfl (by decide) (c1_cr (c1_cr (c1_ci (c1_ci c1_0)))) rfl ?_
              refine g_inc (ls2 := [(3, _), (2, _), (0, _), (1, _)]) 3 dX2_bestBidder_52 rfl (by decide) (c1_ci (c1_cr (c1_cr (c1_ci c1_0)))) rfl ?_
              refine g_goto (tgt := 4) dX2_bestBidder_55 (by decide) ?_
              refine g_sub [2, 3, 1, 0] (ls2 := [(0, _), (1, _), (2, _), (3, _)]) rfl ?_
              exact g_ls (by simp only [bstC]; grind) rfl rfl ih4
  exact g_ls (by rfl) rfl rfl hQ4

