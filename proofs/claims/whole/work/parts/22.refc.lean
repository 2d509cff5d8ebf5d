def mrk (A : Mem) (c st : Int) : Nat → Mem
  | 0 => A
  | n + 1 => gup (mrk A c st n) 29 (c + n * st).toNat 1
theorem mrk_ne (A : Mem) (c st : Int) (n : Nat) {m : Nat} (h : m ≠ 29) : mrk A c st n m = A m := by
  induction n with
  | zero => rfl
  | succ n ih => rw [mrk, gup_ne h, ih]
theorem vw_cg {A B : Mem} (h1 : A 23 = B 23) (h2 : A 27 = B 27) : vw A = vw B := by unfold vw; rw [h1, h2]
theorem vw_mrk (A : Mem) (c st : Int) (n : Nat) : vw (mrk A c st n) = vw A := vw_cg (mrk_ne A c st n (by decide)) (mrk_ne A c st n (by decide))
def mrkA (A : Mem) (c : Int) (s : Nat) : Mem := mrk (mrk A c (stS s) (lbC (vw A) c (stS s) (mxS c s) + 1)) c (stS (s + 1)) (lbC (vw A) c (stS (s + 1)) (mxS c (s + 1)) + 1)
theorem mrkA_ne (A : Mem) (c : Int) (s : Nat) {m : Nat} (h : m ≠ 29) : mrkA A c s m = A m := by unfold mrkA; rw [mrk_ne _ _ _ _ h, mrk_ne _ _ _ _ h]
def clrF (A : Mem) : Nat → Mem
  | 0 => A
  | i + 1 => gup (clrF A i) 29 i 0
theorem clrF_ne (A : Mem) (n : Nat) {m : Nat} (h : m ≠ 29) : clrF A n m = A m := by
  induction n with
  | zero => rfl
  | succ n ih => rw [clrF, gup_ne h, ih]
theorem clrF_v (A : Mem) (n j : Nat) : clrF A n 29 j = if j < n then 0 else A 29 j := by
  induction n with
  | zero => rfl
  | succ n ih => rw [clrF, gup_ap, ih]; grind
def falF (A : Mem) : Nat → Mem
  | 0 => A
  | i + 1 => gup (falF A i) 23 i (if A 29 i = 0 then A 23 i else 2)
theorem falF_ne (A : Mem) (n : Nat) {m : Nat} (h : m ≠ 23) : falF A n m = A m := by
  induction n with
  | zero => rfl
  | succ n ih => rw [falF, gup_ne h, ih]
theorem falF_v (A : Mem) (n j : Nat) : falF A n 23 j = if j < n then (if A 29 j = 0 then A 23 j else 2) else A 23 j := by
  induction n with
  | zero => rfl
  | succ n ih => rw [falF, gup_ap, ih]; grind
def mfA (A : Mem) (c : Int) : Mem := if 3 < rowC (vw A) c then mrkA A c 2 else A
def mfB (A : Mem) (c : Int) : Mem := if 3 < colC (vw A) c then mrkA A c 0 else A
theorem mfA_ne (A : Mem) (c : Int) {m : Nat} (h : m ≠ 29) : mfA A c m = A m := by unfold mfA; split; exact mrkA_ne _ _ _ h; rfl
theorem mfB_ne (A : Mem) (c : Int) {m : Nat} (h : m ≠ 29) : mfB A c m = A m := by unfold mfB; split; exact mrkA_ne _ _ _ h; rfl
theorem vw_clr (A : Mem) (n : Nat) : vw (clrF A n) = vw A := vw_cg (clrF_ne A n (by decide)) (clrF_ne A n (by decide))
theorem vw_mfA (A : Mem) (c : Int) : vw (mfA A c) = vw A := vw_cg (mfA_ne A c (by decide)) (mfA_ne A c (by decide))
def mayR (A : Mem) (c : Int) : Mem := falF (mfB (mfA (clrF A 100) c) c) 100
theorem mayR_ne (A : Mem) (c : Int) {m : Nat} (h : m ≠ 23) (h2 : m ≠ 29) : mayR A c m = A m := by unfold mayR; rw [falF_ne _ _ h, mfB_ne _ _ h2, mfA_ne _ _ h2, clrF_ne _ _ h2]
theorem mrk_in (A : Mem) (c st : Int) (n j : Nat) (h : ∃ i : Nat, i < n ∧ (c + i * st).toNat = j) : mrk A c st n 29 j = 1 := by
  induction n with
  | zero => obtain ⟨i, hi, _⟩ := h; omega
  | succ n ih =>
    rw [mrk, gup_ap]
    split
    · rfl
    · rename_i h9
      obtain ⟨i, hi, hj⟩ := h
      refine ih ⟨i, ?_, hj⟩
      rcases Nat.lt_or_ge i n with h8 | h8
      · exact h8
      · exact absurd ⟨rfl, by rw [← hj, show i = n by omega]⟩ h9
theorem mrk_out (A : Mem) (c st : Int) (n j : Nat) (h : ∀ i : Nat, i < n → (c + i * st).toNat ≠ j) : mrk A c st n 29 j = A 29 j := by
  induction n with
  | zero => rfl
  | succ n ih =>
    rw [mrk, gup_ap, if_neg (fun q => h n (by omega) q.2.symm), ih (fun i hi => h i (by omega))]
theorem bury_in (A : Mem) (c st : Int) (n j : Nat) (h : ∃ i : Nat, i < n ∧ (c + i * st).toNat = j) : bury A c st n 12 j = 2 := by
  induction n with
  | zero => obtain ⟨i, hi, _⟩ := h; omega
  | succ n ih =>
    rw [bury, gup_ap]
    split
    · rfl
    · rename_i h9
      obtain ⟨i, hi, hj⟩ := h
      refine ih ⟨i, ?_, hj⟩
      rcases Nat.lt_or_ge i n with h8 | h8
      · exact h8
      · exact absurd ⟨rfl, by rw [← hj, show i = n by omega]⟩ h9
theorem bury_out (A : Mem) (c st : Int) (n j : Nat) (h : ∀ i : Nat, i < n → (c + i * st).toNat ≠ j) : bury A c st n 12 j = A 12 j := by
  induction n with
  | zero => rfl
  | succ n ih =>
    rw [bury, gup_ap, if_neg (fun q => h n (by omega) q.2.symm), ih (fun i hi => h i (by omega))]
/-- what lies in a run of cells on both sides of c -/
def inR (c st : Int) (a b : Nat) (j : Nat) : Prop := ∃ z : Int, -(a : Int) ≤ z ∧ z ≤ b ∧ (c + z * st).toNat = j
theorem bury_r (A : Mem) (c st : Int) (a b j : Nat) : (inR c st a b j → bury A (c - a * st) st (a + 1 + b) 12 j = 2) ∧ (¬ inR c st a b j → bury A (c - a * st) st (a + 1 + b) 12 j = A 12 j) := by
  have e : ∀ i : Nat, c - a * st + i * st = c + ((i : Int) - a) * st := fun i => by rw [Int.sub_mul]; omega
  constructor
  · rintro ⟨z, h1, h2, h3⟩
    refine bury_in A _ st _ j ⟨(z + a).toNat, by omega, ?_⟩
    rw [e, show (((z + a).toNat : Nat) : Int) - a = z by omega]; exact h3
  · intro h
    refine bury_out A _ st _ j (fun i hi h9 => h ⟨(i : Int) - a, by omega, by omega, ?_⟩)
    rw [← e]; exact h9
theorem mrkA_r {A : Mem} {c st : Int} (a b j : Nat) : (inR c st b a j → mrk (mrk A c (-st) (b + 1)) c st (a + 1) 29 j = 1) ∧ (¬ inR c st b a j → mrk (mrk A c (-st) (b + 1)) c st (a + 1) 29 j = A 29 j) := by
  constructor
  · rintro ⟨z, h1, h2, h3⟩
    rcases Int.lt_or_le z 0 with h0 | h0
    · by_cases h9 : ∃ i : Nat, i < a + 1 ∧ (c + i * st).toNat = j
      · exact mrk_in _ _ _ _ _ h9
      · rw [mrk_out _ _ _ _ _ (fun i hi h8 => h9 ⟨i, hi, h8⟩)]
        refine mrk_in _ _ _ _ _ ⟨(-z).toNat, by omega, ?_⟩
        rw [show (((-z).toNat : Nat) : Int) = -z by omega, Int.neg_mul_neg]; exact h3
    · refine mrk_in _ _ _ _ _ ⟨z.toNat, by omega, ?_⟩
      rw [show ((z.toNat : Nat) : Int) = z by omega]; exact h3
  · intro h
    rw [mrk_out _ _ _ _ _ (fun i hi h8 => h ⟨i, by omega, by omega, h8⟩), mrk_out _ _ _ _ _ (fun i hi h8 => h ⟨-(i : Int), by omega, by omega, by rw [Int.neg_mul_comm]; exact h8⟩)]
theorem inR_lt {c st : Int} {a b j : Nat} (h : inR c st a b j) (hl : ∀ z : Int, -(a : Int) ≤ z → z ≤ b → 0 ≤ c + z * st ∧ c + z * st < 100) : j < 100 := by
  obtain ⟨z, h1, h2, h3⟩ := h
  have := hl z h1 h2
  omega
theorem mayR_st {A : Mem} {c : Int} (hc : 0 ≤ c ∧ c < 100) : mayR A c 23 = fallC (vw A) c 12 := by
  have hr1 := lbC_le (vw A) c (-1) (c % 10).toNat; have hr2 := lbC_le (vw A) c 1 (9 - c % 10).toNat; have hr3 := lbC_le (vw A) c (-10) (c / 10).toNat; have hr4 := lbC_le (vw A) c 10 (9 - c / 10).toNat
  have hrc : (rowC (vw A) c).toNat = lbC (vw A) c (-1) (c % 10).toNat + 1 + lbC (vw A) c 1 (9 - c % 10).toNat := by unfold rowC; omega
  have hcc : (colC (vw A) c).toNat = lbC (vw A) c (-10) (c / 10).toNat + 1 + lbC (vw A) c 10 (9 - c / 10).toNat := by unfold colC; omega
  have e2 : ∀ M : Mem, vw M = vw A → mrkA M c 2 = mrk (mrk M c (-1) (lbC (vw A) c (-1) (c % 10).toNat + 1)) c 1 (lbC (vw A) c 1 (9 - c % 10).toNat + 1) := fun M h => by unfold mrkA; rw [h]; rfl
  have e0 : ∀ M : Mem, vw M = vw A → mrkA M c 0 = mrk (mrk M c (-10) (lbC (vw A) c (-10) (c / 10).toNat + 1)) c 10 (lbC (vw A) c 10 (9 - c / 10).toNat + 1) := fun M h => by unfold mrkA; rw [h]; rfl
  have i2 : ∀ j, inR c 1 (lbC (vw A) c (-1) (c % 10).toNat) (lbC (vw A) c 1 (9 - c % 10).toNat) j → j < 100 := fun j h => inR_lt h (fun z h1 h2 => by omega)
  have i0 : ∀ j, inR c 10 (lbC (vw A) c (-10) (c / 10).toNat) (lbC (vw A) c 10 (9 - c / 10).toNat) j → j < 100 := fun j h => inR_lt h (fun z h1 h2 => by omega)
  funext j
  unfold mayR
  rw [falF_v, mfB_ne _ _ (by decide : 23 ≠ 29), mfA_ne _ _ (by decide : 23 ≠ 29), clrF_ne _ _ (by decide : 23 ≠ 29)]
  have v12 : vw A 12 j = A 23 j := rfl
  have cl : ∀ j, j < 100 → clrF A 100 29 j = 0 := fun j hj => by rw [clrF_v, if_pos hj]
  unfold fallC
  rw [hrc, hcc, show c - (lbC (vw A) c (-1) (c % 10).toNat : Int) = c - (lbC (vw A) c (-1) (c % 10).toNat : Int) * 1 by omega]
  unfold mfB
  rw [vw_mfA, vw_clr]
  by_cases h3 : 3 < colC (vw A) c
  · rw [if_pos h3, if_pos h3, e0 _ (by rw [vw_mfA, vw_clr])]
    have q0 := mrkA_r (A := mfA (clrF A 100) c) (c := c) (st := 10) (lbC (vw A) c 10 (9 - c / 10).toNat) (lbC (vw A) c (-10) (c / 10).toNat) j
    have q1 := bury_r (if 3 < rowC (vw A) c then bury (vw A) (c - (lbC (vw A) c (-1) (c % 10).toNat : Int) * 1) 1 (lbC (vw A) c (-1) (c % 10).toNat + 1 + lbC (vw A) c 1 (9 - c % 10).toNat) else vw A) c 10 (lbC (vw A) c (-10) (c / 10).toNat) (lbC (vw A) c 10 (9 - c / 10).toNat) j
    by_cases hj : inR c 10 (lbC (vw A) c (-10) (c / 10).toNat) (lbC (vw A) c 10 (9 - c / 10).toNat) j
    · rw [q0.1 hj, q1.1 hj, if_pos (i0 j hj), if_neg (by decide)]
    · rw [q0.2 hj, q1.2 hj]
      unfold mfA
      rw [vw_clr]
      by_cases h4 : 3 < rowC (vw A) c
      · rw [if_pos h4, if_pos h4, e2 _ (vw_clr _ _)]
        have q2 := mrkA_r (A := clrF A 100) (c := c) (st := 1) (lbC (vw A) c 1 (9 - c % 10).toNat) (lbC (vw A) c (-1) (c % 10).toNat) j
        have q3 := bury_r (vw A) c 1 (lbC (vw A) c (-1) (c % 10).toNat) (lbC (vw A) c 1 (9 - c % 10).toNat) j
        by_cases hk : inR c 1 (lbC (vw A) c (-1) (c % 10).toNat) (lbC (vw A) c 1 (9 - c % 10).toNat) j
        · rw [q2.1 hk, q3.1 hk, if_pos (i2 j hk), if_neg (by decide)]
        · rw [q2.2 hk, q3.2 hk, v12]
          split
          · rw [cl j (by assumption), if_pos rfl]
          · rfl
      · rw [if_neg h4, if_neg h4, v12]
        split
        · rw [cl j (by assumption), if_pos rfl]
        · rfl
  · rw [if_neg h3, if_neg h3]
    unfold mfA
    rw [vw_clr]
    by_cases h4 : 3 < rowC (vw A) c
    · rw [if_pos h4, if_pos h4, e2 _ (vw_clr _ _)]
      have q2 := mrkA_r (A := clrF A 100) (c := c) (st := 1) (lbC (vw A) c 1 (9 - c % 10).toNat) (lbC (vw A) c (-1) (c % 10).toNat) j
      have q3 := bury_r (vw A) c 1 (lbC (vw A) c (-1) (c % 10).toNat) (lbC (vw A) c 1 (9 - c % 10).toNat) j
      by_cases hk : inR c 1 (lbC (vw A) c (-1) (c % 10).toNat) (lbC (vw A) c 1 (9 - c % 10).toNat) j
      · rw [q2.1 hk, q3.1 hk, if_pos (i2 j hk), if_neg (by decide)]
      · rw [q2.2 hk, q3.2 hk, v12]
        split
        · rw [cl j (by assumption), if_pos rfl]
        · rfl
    · rw [if_neg h4, if_neg h4, v12]
      split
      · rw [cl j (by assumption), if_pos rfl]
      · rfl

set_option maxHeartbeats 1000000 in
set_option maxRecDepth 20000 in
theorem c_X4_marks {L : Nat → Nat} {A : Mem} (hM : LM L) (h27 : ∀ c, 0 ≤ A 27 c ∧ A 27 c ≤ 1) {c : Int} (hc : 0 ≤ c ∧ c < 100) (hlo : loB (vw A) c = true) {s : Nat} (hs : s = 0 ∨ s = 2) : Ct mX4_marks [gr 20, gi c, gi (s : Int)] L A (pr none L (mrkA A c s)) := by
  have hs1 : s = 0 ∨ s = 1 ∨ s = 2 ∨ s = 3 := by omega
  have hs2 : s + 1 = 0 ∨ s + 1 = 1 ∨ s + 1 = 2 ∨ s + 1 = 3 := by omega
  have hl1 := lbC_le (vw A) c (stS s) (mxS c s); have hl2 := lbC_le (vw A) c (stS (s + 1)) (mxS c (s + 1))
  refine Ct_of (ls := [(0, _), (1, _), (2, _)]) rfl (by decide) (fun _ => rfl) (fun _ => Nat.le_of_ble_eq_true rfl) ?_
  refine g_iload_n 1 dX4_marks_0 rfl rfl ?_
  refine g_st (ls2 := [(3, _), (0, _), (1, _), (2, _)]) dX4_marks_1 rfl (by decide) (c1_cr (c1_ci (c1_ci c1_0))) rfl ?_
  refine g_sub [1, 2, 3, 0] (ls2 := [(0, _), (1, _), (2, _), (3, _)]) rfl ?_
  have hQ2 : (fun i : Nat => GW mX4_marks (pr none L (mrkA A c s)) 0 0 2 [(0, gr (20)), (1, gi (c)), (2, gi ((s : Int))), (3, gi (itS c s i))] [] L (mrk A c (stS s) i)) 0 := by
    refine lp_up (Q := (fun i : Nat => GW mX4_marks (pr none L (mrkA A c s)) 0 0 2 [(0, gr (20)), (1, gi (c)), (2, gi ((s : Int))), (3, gi (itS c s i))] [] L (mrk A c (stS s) i))) (n := lbC (vw A) c (stS s) (mxS c s) + 1) ?_ (fun i hi2 ih2 => ?_)
    · skip
      refine g_aload_n 0 dX4_marks_2 rfl rfl ?_
      refine g_iload_n 3 dX4_marks_3 rfl rfl ?_
      refine g_cV_i (My := mX4_isLoose) (gs := [_]) (c_X4_isLoose_w hM (A := mrk _ c (stS s) _) (fun z => by simp only [mrk_ne _ _ _ _ (show 27 ≠ 29 by decide)]; exact h27 z) (itS_or hc hs1 _)) mfX4_isLoose cf_5 wi_X4_isLoose wsl_X4_isLoose wm_X4_161 dX4_marks_4 (Nat.le_of_ble_eq_true rfl) rfl (by decide) (n2 (hM 20 rfl)) rfl (fun _ => Nat.le_of_ble_eq_true rfl) (Nat.le_of_ble_eq_true rfl) (Nat.le_of_ble_eq_true rfl) rfl rfl ?_
      refine g_top (y := b2 (loB (vw A) (itS c (s) _))) (by simp only [vw_mrk]; rfl) ?_
      refine g_ifb_eq (tgt := 26) dX4_marks_7 (by decide) (fun h7_1 => ?_) (fun h7_1 => absurd h7_1 (by rw [lbS_end]; decide))
      refine g_iload_n 1 dX4_marks_26 rfl rfl ?_
      refine g_st (ls2 := [(3, _), (0, _), (1, _), (2, _)]) dX4_marks_27 rfl (by decide) (c1_cr (c1_ci (c1_ci (c1_ci c1_0)))) rfl ?_
      refine g_sub [1, 2, 3, 0] (ls2 := [(0, _), (1, _), (2, _), (3, _)]) rfl ?_
      have hQ28 : (fun i : Nat => GW mX4_marks (pr none L (mrkA A c s)) 0 0 28 [(0, gr (20)), (1, gi (c)), (2, gi ((s : Int))), (3, gi (itS c (s + 1) i))] [] L (mrk (mrk A c (stS s) (lbC (vw A) c (stS s) (mxS c s) + 1)) c (stS (s + 1)) i)) 0 := by
        refine lp_up (Q := (fun i : Nat => GW mX4_marks (pr none L (mrkA A c s)) 0 0 28 [(0, gr (20)), (1, gi (c)), (2, gi ((s : Int))), (3, gi (itS c (s + 1) i))] [] L (mrk (mrk A c (stS s) (lbC (vw A) c (stS s) (mxS c s) + 1)) c (stS (s + 1)) i))) (n := lbC (vw A) c (stS (s + 1)) (mxS c (s + 1)) + 1) ?_ (fun i hi28 ih28 => ?_)
        · skip
          refine g_aload_n 0 dX4_marks_28 rfl rfl ?_
          refine g_iload_n 3 dX4_marks_29 rfl rfl ?_
          refine g_cV_i (My := mX4_isLoose) (gs := [_]) (c_X4_isLoose_w hM (A := mrk _ c (stS (s + 1)) _) (fun z => by simp only [mrk_ne _ _ _ _ (show 27 ≠ 29 by decide)]; exact h27 z) (itS_or hc hs2 _)) mfX4_isLoose cf_5 wi_X4_isLoose wsl_X4_isLoose wm_X4_161 dX4_marks_30 (Nat.le_of_ble_eq_true rfl) rfl (by decide) (n2 (hM 20 rfl)) rfl (fun _ => Nat.le_of_ble_eq_true rfl) (Nat.le_of_ble_eq_true rfl) (Nat.le_of_ble_eq_true rfl) rfl rfl ?_
          refine g_top (y := b2 (loB (vw A) (itS c (s + 1) _))) (by simp only [vw_mrk]; rfl) ?_
          refine g_ifb_eq (tgt := 54) dX4_marks_33 (by decide) (fun h33_2 => ?_) (fun h33_2 => absurd h33_2 (by rw [lbS_end]; decide))
          exact g_vret dX4_marks_54 rfl (Nat.le_of_ble_eq_true rfl) (Nat.le_of_ble_eq_true rfl) (pr_v (rfl))
        · skip
          refine g_aload_n 0 dX4_marks_28 rfl rfl ?_
          refine g_iload_n 3 dX4_marks_29 rfl rfl ?_
          refine g_cV_i (My := mX4_isLoose) (gs := [_]) (c_X4_isLoose_w hM (A := mrk _ c (stS (s + 1)) _) (fun z => by simp only [mrk_ne _ _ _ _ (show 27 ≠ 29 by decide)]; exact h27 z) (itS_or hc hs2 _)) mfX4_isLoose cf_5 wi_X4_isLoose wsl_X4_isLoose wm_X4_161 dX4_marks_30 (Nat.le_of_ble_eq_true rfl) rfl (by decide) (n2 (hM 20 rfl)) rfl (fun _ => Nat.le_of_ble_eq_true rfl) (Nat.le_of_ble_eq_true rfl) (Nat.le_of_ble_eq_true rfl) rfl rfl ?_
          refine g_top (y := b2 (loB (vw A) (itS c (s + 1) _))) (by simp only [vw_mrk]; rfl) ?_
          refine g_ifb_eq (tgt := 54) dX4_marks_33 (by decide) (fun h33_3 => absurd h33_3 (by rw [lbS_in hlo hi28]; decide)) (fun h33_3 => ?_)
          refine g_aload_n 0 dX4_marks_36 rfl rfl ?_
          refine g_getfr2 (r := 29) cf_5 8 rfl (by decide) (by decide) rfl (by decide) wf_X4_29 dX4_marks_37 (hM 20 rfl) rfl ?_
          refine g_iload_n 3 dX4_marks_40 rfl rfl ?_
          refine g_iconst dX4_marks_41 ?_
          have hir := itS_rg hc hs2 (i := i) (by omega); have hie : itS c (s + 1) i = c + (i : Int) * stS (s + 1) := by (unfold itS; rw [if_pos (by omega)])
          refine g_zast ((c + (i : Int) * stS (s + 1)).toNat) (by omega) (by omega) (Or.inr rfl) rfl (by decide) dX4_marks_42 (n2 (hM 29 rfl)) ?_
          refine g_iload_n 3 dX4_marks_43 rfl rfl ?_
          refine g_iload_n 2 dX4_marks_44 rfl rfl ?_
          refine g_iconst dX4_marks_45 ?_
          refine g_iadd dX4_marks_46 ?_
          refine g_top (y := ((s + 1 : Nat) : Int)) (by omega) ?_
          refine g_cS_i (My := mX4_beside) (gs := [_, _]) (c_X4_beside (itS_rg hc hs2 (i := i) (by omega)) hs2) mfX4_beside rfl wst_X4_beside wm_X4_158 dX4_marks_47 (Nat.le_of_ble_eq_true rfl) rfl (fun _ => Nat.le_of_ble_eq_true rfl) (Nat.le_of_ble_eq_true rfl) (Nat.le_of_ble_eq_true rfl) rfl rfl ?_
          refine g_top (y := itS c (s + 1) (i + 1)) (itS_nx hc hs2 (by omega)) ?_
          refine g_st (ls2 := [(3, _), (0, _), (1, _), (2, _)]) dX4_marks_50 rfl (by decide) (c1_cr (c1_ci (c1_ci (c1_ci c1_0)))) rfl ?_
          refine g_goto (tgt := 28) dX4_marks_51 (by decide) ?_
          refine g_sub [1, 2, 3, 0] (ls2 := [(0, _), (1, _), (2, _), (3, _)]) rfl ?_
          exact g_ls (by rfl) rfl rfl ih28
      exact g_ls (by rw [itS_0]) rfl rfl hQ28
    · skip
      refine g_aload_n 0 dX4_marks_2 rfl rfl ?_
      refine g_iload_n 3 dX4_marks_3 rfl rfl ?_
      refine g_cV_i (My := mX4_isLoose) (gs := [_]) (c_X4_isLoose_w hM (A := mrk _ c (stS s) _) (fun z => by simp only [mrk_ne _ _ _ _ (show 27 ≠ 29 by decide)]; exact h27 z) (itS_or hc hs1 _)) mfX4_isLoose cf_5 wi_X4_isLoose wsl_X4_isLoose wm_X4_161 dX4_marks_4 (Nat.le_of_ble_eq_true rfl) rfl (by decide) (n2 (hM 20 rfl)) rfl (fun _ => Nat.le_of_ble_eq_true rfl) (Nat.le_of_ble_eq_true rfl) (Nat.le_of_ble_eq_true rfl) rfl rfl ?_
      refine g_top (y := b2 (loB (vw A) (itS c (s) _))) (by simp only [vw_mrk]; rfl) ?_
      refine g_ifb_eq (tgt := 26) dX4_marks_7 (by decide) (fun h7_4 => absurd h7_4 (by rw [lbS_in hlo hi2]; decide)) (fun h7_4 => ?_)
      refine g_aload_n 0 dX4_marks_10 rfl rfl ?_
      refine g_getfr2 (r := 29) cf_5 8 rfl (by decide) (by decide) rfl (by decide) wf_X4_29 dX4_marks_11 (hM 20 rfl) rfl ?_
      refine g_iload_n 3 dX4_marks_14 rfl rfl ?_
      refine g_iconst dX4_marks_15 ?_
      have hir := itS_rg hc hs1 (i := i) (by omega); have hie : itS c s i = c + (i : Int) * stS s := by (unfold itS; rw [if_pos (by omega)])
      refine g_zast ((c + (i : Int) * stS s).toNat) (by omega) (by omega) (Or.inr rfl) rfl (by decide) dX4_marks_16 (n2 (hM 29 rfl)) ?_
      refine g_iload_n 3 dX4_marks_17 rfl rfl ?_
      refine g_iload_n 2 dX4_marks_18 rfl rfl ?_
      refine g_cS_i (My := mX4_beside) (gs := [_, _]) (c_X4_beside (itS_rg hc hs1 (i := i) (by omega)) hs1) mfX4_beside rfl wst_X4_beside wm_X4_158 dX4_marks_19 (Nat.le_of_ble_eq_true rfl) rfl (fun _ => Nat.le_of_ble_eq_true rfl) (Nat.le_of_ble_eq_true rfl) (Nat.le_of_ble_eq_true rfl) rfl rfl ?_
      refine g_top (y := itS c s (i + 1)) (itS_nx hc hs1 (by omega)) ?_
      refine g_st (ls2 := [(3, _), (0, _), (1, _), (2, _)]) dX4_marks_22 rfl (by decide) (c1_cr (c1_ci (c1_ci (c1_ci c1_0)))) rfl ?_
      refine g_goto (tgt := 2) dX4_marks_23 (by decide) ?_
      refine g_sub [1, 2, 3, 0] (ls2 := [(0, _), (1, _), (2, _), (3, _)]) rfl ?_
      exact g_ls (by rfl) rfl rfl ih2
  exact g_ls (by rw [itS_0]; rfl) rfl rfl hQ2

set_option maxHeartbeats 1000000 in
set_option maxRecDepth 20000 in
theorem c_X4_mayFall {L : Nat → Nat} {A : Mem} (hM : LM L) (h27 : ∀ c, 0 ≤ A 27 c ∧ A 27 c ≤ 1) {c : Int} (hc : 0 ≤ c ∧ c < 100) (hlo : loB (vw A) c = true) : Ct mX4_mayFall [gr 20, gi c] L A (pr none L (mayR A c)) := by
  have hrc := rc_rg (vw A) hc
  refine Ct_of (ls := [(0, _), (1, _)]) rfl (by decide) (fun _ => rfl) (fun _ => Nat.le_of_ble_eq_true rfl) ?_
  refine g_iconst dX4_mayFall_0 ?_
  refine g_st (ls2 := [(2, _), (0, _), (1, _)]) dX4_mayFall_1 rfl (by decide) (c1_cr (c1_ci c1_0)) rfl ?_
  refine g_sub [1, 2, 0] (ls2 := [(0, _), (1, _), (2, _)]) rfl ?_
  have hC53 : GW mX4_mayFall (pr none L (mayR A c)) 0 0 53 [(0, gr (20)), (1, gi (c)), (2, gi (100))] [] L (mfB (mfA (clrF A 100) c) c) := by
    refine g_iconst dX4_mayFall_53 ?_
    refine g_st (ls2 := [(2, _), (0, _), (1, _)]) dX4_mayFall_54 rfl (by decide) (c1_cr (c1_ci (c1_ci c1_0))) rfl ?_
    refine g_sub [1, 2, 0] (ls2 := [(0, _), (1, _), (2, _)]) rfl ?_
    have hQ55 : (fun i : Nat => GW mX4_mayFall (pr none L (mayR A c)) 0 0 55 [(0, gr (20)), (1, gi (c)), (2, gi ((i : Int)))] [] L (falF (mfB (mfA (clrF A 100) c) c) i)) 0 := by
      refine lp_up (Q := (fun i : Nat => GW mX4_mayFall (pr none L (mayR A c)) 0 0 55 [(0, gr (20)), (1, gi (c)), (2, gi ((i : Int)))] [] L (falF (mfB (mfA (clrF A 100) c) c) i))) (n := 100) ?_ (fun i hi55 ih55 => ?_)
      · skip
        refine g_iload_n 2 dX4_mayFall_55 rfl rfl ?_
        refine g_bipush dX4_mayFall_56 (by decide) ?_
        refine g_icmp_ge (tgt := 92) (by omega) (by omega) dX4_mayFall_58 (by decide) (fun h58_1 => ?_) (fun h58_1 => absurd h58_1 (by omega))
        exact g_vret dX4_mayFall_92 rfl (Nat.le_of_ble_eq_true rfl) (Nat.le_of_ble_eq_true rfl) (pr_v (rfl))
      · skip
        refine g_iload_n 2 dX4_mayFall_55 rfl rfl ?_
        refine g_bipush dX4_mayFall_56 (by decide) ?_
        refine g_icmp_ge (tgt := 92) (by omega) (by omega) dX4_mayFall_58 (by decide) (fun h58_2 => absurd h58_2 (by omega)) (fun h58_2 => ?_)
        refine g_aload_n 0 dX4_mayFall_61 rfl rfl ?_
        refine g_getfr2 (r := 23) cf_5 2 rfl (by decide) (by decide) rfl (by decide) wf_X4_7 dX4_mayFall_62 (hM 20 rfl) rfl ?_
        refine g_iload_n 2 dX4_mayFall_65 rfl rfl ?_
        refine g_aload_n 0 dX4_mayFall_66 rfl rfl ?_
        refine g_getfr2 (r := 29) cf_5 8 rfl (by decide) (by decide) rfl (by decide) wf_X4_29 dX4_mayFall_67 (hM 20 rfl) rfl ?_
        refine g_iload_n 2 dX4_mayFall_70 rfl rfl ?_
        refine g_zald (i) (by omega) (by omega) rfl (by decide) dX4_mayFall_71 (n2 (hM 29 rfl)) (fun h71_3 => ?_)
        have e29 : falF (mfB (mfA (clrF A 100) c) c) i 29 i = (mfB (mfA (clrF A 100) c) c) 29 i := by rw [falF_ne _ _ (by decide)]
        refine g_if_eq (tgt := 79) (by omega) dX4_mayFall_72 (by decide) (fun h72_4 => ?_) (fun h72_4 => ?_)
        · skip
          refine g_aload_n 0 dX4_mayFall_79 rfl rfl ?_
          refine g_getfr2 (r := 23) cf_5 2 rfl (by decide) (by decide) rfl (by decide) wf_X4_7 dX4_mayFall_80 (hM 20 rfl) rfl ?_
          refine g_iload_n 2 dX4_mayFall_83 rfl rfl ?_
          refine g_iald (i) (by omega) (by omega) rfl (by decide) dX4_mayFall_84 (n2 (hM 23 rfl)) (fun h84_5 => ?_)
          refine g_iast (i) (by omega) (by omega) (by omega) rfl (by decide) dX4_mayFall_85 (n2 (hM 23 rfl)) ?_
          refine g_inc (ls2 := [(2, _), (0, _), (1, _)]) 2 dX4_mayFall_86 rfl (by decide) (c1_cr (c1_ci (c1_ci c1_0))) rfl ?_
          refine g_goto (tgt := 55) dX4_mayFall_89 (by decide) ?_
          refine g_sub [1, 2, 0] (ls2 := [(0, _), (1, _), (2, _)]) rfl ?_
          exact g_ls (by rfl) rfl (by simp only [falF, falF_v]; grind) ih55
        · skip
          refine g_iconst dX4_mayFall_75 ?_
          refine g_goto (tgt := 85) dX4_mayFall_76 (by decide) ?_
          refine g_iast (i) (by omega) (by omega) (by omega) rfl (by decide) dX4_mayFall_85 (n2 (hM 23 rfl)) ?_
          refine g_inc (ls2 := [(2, _), (0, _), (1, _)]) 2 dX4_mayFall_86 rfl (by decide) (c1_cr (c1_ci (c1_ci c1_0))) rfl ?_
          refine g_goto (tgt := 55) dX4_mayFall_89 (by decide) ?_
          refine g_sub [1, 2, 0] (ls2 := [(0, _), (1, _), (2, _)]) rfl ?_
          exact g_ls (by rfl) rfl (by simp only [falF, falF_v]; grind) ih55
    exact g_ls (by rfl) rfl rfl hQ55
  have hC37 : GW mX4_mayFall (pr none L (mayR A c)) 0 0 37 [(0, gr (20)), (1, gi (c)), (2, gi (100))] [] L (mfA (clrF A 100) c) := by
    refine g_aload_n 0 dX4_mayFall_37 rfl rfl ?_
    refine g_iload_n 1 dX4_mayFall_38 rfl rfl ?_
    refine g_iconst dX4_mayFall_39 ?_
    refine g_cV_i (My := mX4_run) (gs := [_, _]) (c_X4_run0 hM (A := mfA (clrF A 100) c) (fun z => by first | (rw [clrF_ne _ _ (by decide)]; exact h27 z) | (rw [mfA_ne _ _ (by decide), clrF_ne _ _ (by decide)]; exact h27 z)) hc) mfX4_run cf_5 wi_X4_run wsl_X4_run wm_X4_164 dX4_mayFall_40 (Nat.le_of_ble_eq_true rfl) rfl (by decide) (n2 (hM 20 rfl)) rfl (fun _ => Nat.le_of_ble_eq_true rfl) (Nat.le_of_ble_eq_true rfl) (Nat.le_of_ble_eq_true rfl) rfl rfl ?_
    refine g_top (y := colC (vw A) c) (by rw [vw_mfA, vw_clr]) ?_
    refine g_iconst dX4_mayFall_43 ?_
    refine g_icmp_le (tgt := 53) (by omega) (by omega) dX4_mayFall_44 (by decide) (fun h44_6 => ?_) (fun h44_6 => ?_)
    · skip
      refine g_sub [0, 1, 2] (ls2 := [(0, _), (1, _), (2, _)]) rfl ?_
      exact g_ls (by rfl) rfl (by unfold mfB; rw [vw_mfA, vw_clr]; first | rw [if_pos (by omega)] | rw [if_neg (by omega)]) hC53
    · skip
      refine g_aload_n 0 dX4_mayFall_47 rfl rfl ?_
      refine g_iload_n 1 dX4_mayFall_48 rfl rfl ?_
      refine g_iconst dX4_mayFall_49 ?_
      refine g_cV_v (My := mX4_marks) (gs := [_, _]) (c_X4_marks hM (A := mfA (clrF A 100) c) (fun z => by first | (rw [clrF_ne _ _ (by decide)]; exact h27 z) | (rw [mfA_ne _ _ (by decide), clrF_ne _ _ (by decide)]; exact h27 z)) hc (by rw [vw_mfA, vw_clr]; exact hlo) (s := 0) (Or.inl rfl)) mfX4_marks cf_5 wi_X4_marks wsl_X4_marks wm_X4_167 dX4_mayFall_50 (Nat.le_of_ble_eq_true rfl) rfl (by decide) (n2 (hM 20 rfl)) rfl (fun _ => Nat.le_of_ble_eq_true rfl) (Nat.le_of_ble_eq_true rfl) (Nat.le_of_ble_eq_true rfl) rfl rfl ?_
      refine g_sub [0, 1, 2] (ls2 := [(0, _), (1, _), (2, _)]) rfl ?_
      exact g_ls (by rfl) rfl (by unfold mfB; rw [vw_mfA, vw_clr]; first | rw [if_pos (by omega)] | rw [if_neg (by omega)]) hC53
  have hQ2 : (fun i : Nat => GW mX4_mayFall (pr none L (mayR A c)) 0 0 2 [(0, gr (20)), (1, gi (c)), (2, gi ((i : Int)))] [] L (clrF A i)) 0 := by
    refine lp_up (Q := (fun i : Nat => GW mX4_mayFall (pr none L (mayR A c)) 0 0 2 [(0, gr (20)), (1, gi (c)), (2, gi ((i : Int)))] [] L (clrF A i))) (n := 100) ?_ (fun i hi2 ih2 => ?_)
    · skip
      refine g_iload_n 2 dX4_mayFall_2 rfl rfl ?_
      refine g_bipush dX4_mayFall_3 (by decide) ?_
      refine g_icmp_ge (tgt := 21) (by omega) (by omega) dX4_mayFall_5 (by decide) (fun h5_7 => ?_) (fun h5_7 => absurd h5_7 (by omega))
      refine g_aload_n 0 dX4_mayFall_21 rfl rfl ?_
      refine g_iload_n 1 dX4_mayFall_22 rfl rfl ?_
      refine g_iconst dX4_mayFall_23 ?_
      refine g_cV_i (My := mX4_run) (gs := [_, _]) (c_X4_run2 hM (A := clrF A 100) (fun z => by first | (rw [clrF_ne _ _ (by decide)]; exact h27 z) | (rw [mfA_ne _ _ (by decide), clrF_ne _ _ (by decide)]; exact h27 z)) hc) mfX4_run cf_5 wi_X4_run wsl_X4_run wm_X4_164 dX4_mayFall_24 (Nat.le_of_ble_eq_true rfl) rfl (by decide) (n2 (hM 20 rfl)) rfl (fun _ => Nat.le_of_ble_eq_true rfl) (Nat.le_of_ble_eq_true rfl) (Nat.le_of_ble_eq_true rfl) rfl rfl ?_
      refine g_top (y := rowC (vw A) c) (by rw [vw_clr]) ?_
      refine g_iconst dX4_mayFall_27 ?_
      refine g_icmp_le (tgt := 37) (by omega) (by omega) dX4_mayFall_28 (by decide) (fun h28_8 => ?_) (fun h28_8 => ?_)
      · skip
        refine g_sub [0, 1, 2] (ls2 := [(0, _), (1, _), (2, _)]) rfl ?_
        exact g_ls (by rfl) rfl (by unfold mfA; rw [vw_clr]; first | rw [if_pos (by omega)] | rw [if_neg (by omega)]) hC37
      · skip
        refine g_aload_n 0 dX4_mayFall_31 rfl rfl ?_
        refine g_iload_n 1 dX4_mayFall_32 rfl rfl ?_
        refine g_iconst dX4_mayFall_33 ?_
        refine g_cV_v (My := mX4_marks) (gs := [_, _]) (c_X4_marks hM (A := clrF A 100) (fun z => by first | (rw [clrF_ne _ _ (by decide)]; exact h27 z) | (rw [mfA_ne _ _ (by decide), clrF_ne _ _ (by decide)]; exact h27 z)) hc (by rw [vw_clr]; exact hlo) (s := 2) (Or.inr rfl)) mfX4_marks cf_5 wi_X4_marks wsl_X4_marks wm_X4_167 dX4_mayFall_34 (Nat.le_of_ble_eq_true rfl) rfl (by decide) (n2 (hM 20 rfl)) rfl (fun _ => Nat.le_of_ble_eq_true rfl) (Nat.le_of_ble_eq_true rfl) (Nat.le_of_ble_eq_true rfl) rfl rfl ?_
        refine g_sub [0, 1, 2] (ls2 := [(0, _), (1, _), (2, _)]) rfl ?_
        exact g_ls (by rfl) rfl (by unfold mfA; rw [vw_clr]; first | rw [if_pos (by omega)] | rw [if_neg (by omega)]) hC37
    · skip
      refine g_iload_n 2 dX4_mayFall_2 rfl rfl ?_
      refine g_bipush dX4_mayFall_3 (by decide) ?_
      refine g_icmp_ge (tgt := 21) (by omega) (by omega) dX4_mayFall_5 (by decide) (fun h5_9 => absurd h5_9 (by omega)) (fun h5_9 => ?_)
      refine g_aload_n 0 dX4_mayFall_8 rfl rfl ?_
      refine g_getfr2 (r := 29) cf_5 8 rfl (by decide) (by decide) rfl (by decide) wf_X4_29 dX4_mayFall_9 (hM 20 rfl) rfl ?_
      refine g_iload_n 2 dX4_mayFall_12 rfl rfl ?_
      refine g_iconst dX4_mayFall_13 ?_
      refine g_zast (i) (by omega) (by omega) (Or.inl rfl) rfl (by decide) dX4_mayFall_14 (n2 (hM 29 rfl)) ?_
      refine g_inc (ls2 := [(2, _), (0, _), (1, _)]) 2 dX4_mayFall_15 rfl (by decide) (c1_cr (c1_ci (c1_ci c1_0))) rfl ?_
      refine g_goto (tgt := 2) dX4_mayFall_18 (by decide) ?_
      refine g_sub [1, 2, 0] (ls2 := [(0, _), (1, _), (2, _)]) rfl ?_
      exact g_ls (by rfl) rfl rfl ih2
  exact g_ls (by rfl) rfl rfl hQ2

/-- opens a cell in the reference's memory -/
def opnS (A : Mem) (c p k : Int) : Mem := if 0 < A 24 c.toNat then gup (gup (gup (gup (gup (gup (gup (gup (gup A 23 c.toNat 1) 28 c.toNat (-1)) 45 (A 20 23).toNat (A 24 c.toNat)) 46 (A 20 23).toNat (A 25 c.toNat)) 48 (A 20 23).toNat p) 49 (A 20 23).toNat k) 50 (A 20 23).toNat c) 51 (A 20 23).toNat (-1)) 20 23 (A 20 23 + 1) else gup (gup A 23 c.toNat 1) 28 c.toNat (-1)
def opnR (A : Mem) (c p k : Int) : Mem := mayR (gup (opnS A c p k) 24 c.toNat 0) c
theorem opnS_ne (A : Mem) (c p k : Int) (n : Nat) (h : n ≠ 23 ∧ n ≠ 28 ∧ n ≠ 45 ∧ n ≠ 46 ∧ n ≠ 48 ∧ n ≠ 49 ∧ n ≠ 50 ∧ n ≠ 51 ∧ n ≠ 20) : opnS A c p k n = A n := by
  funext j
  unfold opnS
  split <;> simp [gup_ap, h]
theorem opnS_23 (A : Mem) (c p k : Int) : opnS A c p k 23 = gup A 23 c.toNat 1 23 := by
  funext j
  unfold opnS
  split <;> simp [gup_ap]

set_option maxHeartbeats 1000000 in
set_option maxRecDepth 20000 in
theorem c_X4_opens {L : Nat → Nat} {A : Mem} (hM : LM L) (h27 : ∀ c, 0 ≤ A 27 c ∧ A 27 c ≤ 1) {c : Int} (hc : 0 ≤ c ∧ c < 100) {p k : Int} (hpr : -2147483648 ≤ p ∧ p < 2147483648) (hkr : -2147483648 ≤ k ∧ k < 2147483648) (hd : 0 ≤ A 24 c.toNat ∧ A 24 c.toNat ≤ 999) (hn : 0 < A 24 c.toNat → 0 ≤ A 20 23 ∧ A 20 23 < 100) (hp : A 27 c.toNat = 0) : Ct mX4_opens [gr 20, gi c, gi p, gi k] L A (pr (some (gi (A 24 c.toNat))) L (opnR A c p k)) := by
  refine Ct_of (ls := [(0, _), (1, _), (2, _), (3, _)]) rfl (by decide) (fun _ => rfl) (fun _ => Nat.le_of_ble_eq_true rfl) ?_
  refine g_aload_n 0 dX4_opens_0 rfl rfl ?_
  refine g_getfr2 (r := 24) cf_5 3 rfl (by decide) (by decide) rfl (by decide) wf_X4_13 dX4_opens_1 (hM 20 rfl) rfl ?_
  refine g_iload_n 1 dX4_opens_4 rfl rfl ?_
  refine g_ia (by omega) (by omega) rfl (by decide) dX4_opens_5 (n2 (hM 24 rfl)) (fun h5_1 => ?_)
  refine g_st2 (ls2 := [(4, _), (0, _), (1, _), (2, _), (3, _)]) dX4_opens_6 (by decide) (c1_cr (c1_ci (c1_ci (c1_ci c1_0)))) rfl ?_
  refine g_aload_n 1 dX4_opens_8 rfl rfl ?_
  refine g_getfr2 (r := 23) cf_5 2 rfl (by decide) (by decide) rfl (by decide) wf_X4_7 dX4_opens_9 (hM 20 rfl) rfl ?_
  refine g_iload_n 2 dX4_opens_12 rfl rfl ?_
  refine g_iconst dX4_opens_13 ?_
  refine g_iast (c.toNat) (by omega) (by omega) (by omega) rfl (by decide) dX4_opens_14 (n2 (hM 23 rfl)) ?_
  refine g_aload_n 1 dX4_opens_15 rfl rfl ?_
  refine g_getfr2 (r := 28) cf_5 7 rfl (by decide) (by decide) rfl (by decide) wf_X4_26 dX4_opens_16 (hM 20 rfl) rfl ?_
  refine g_iload_n 2 dX4_opens_19 rfl rfl ?_
  refine g_iconst dX4_opens_20 ?_
  refine g_is (by omega) (by omega) (by omega) rfl (by decide) dX4_opens_21 (n2 (hM 28 rfl)) ?_
  refine g_iload 0 dX4_opens_22 rfl ?_
  refine g_if_le (tgt := 103) (by omega) dX4_opens_24 (by decide) (fun h24_2 => ?_) (fun h24_2 => ?_)
  · skip
    refine g_ls (A2 := opnS A c p k) rfl rfl (by unfold opnS; first | (rw [if_pos (by omega)]) | (rw [if_neg (by omega)])) ?_
    refine g_aload_n 1 dX4_opens_103 rfl rfl ?_
    refine g_getfr2 (r := 24) cf_5 3 rfl (by decide) (by decide) rfl (by decide) wf_X4_13 dX4_opens_104 (hM 20 rfl) rfl ?_
    refine g_iload_n 2 dX4_opens_107 rfl rfl ?_
    refine g_iconst dX4_opens_108 ?_
    refine g_iast (c.toNat) (by omega) (by omega) (by omega) rfl (by decide) dX4_opens_109 (n2 (hM 24 rfl)) ?_
    refine g_aload_n 1 dX4_opens_110 rfl rfl ?_
    refine g_iload_n 2 dX4_opens_111 rfl rfl ?_
    refine g_cV_v (My := mX4_mayFall) (gs := [_]) (c_X4_mayFall hM (A := gup (opnS A c p k) 24 c.toNat 0) (fun z => by rw [gup_ne (by decide), opnS_ne _ _ _ _ _ (by decide)]; exact h27 z) hc (by unfold loB vw; simp only [gup_ne (show 23 ≠ 24 by decide), gup_ne (show 27 ≠ 24 by decide), opnS_23, opnS_ne A c p k 27 (by decide)]; simp [gup_ap, hc, hp])) mfX4_mayFall cf_5 wi_X4_mayFall wsl_X4_mayFall wm_X4_171 dX4_opens_112 (Nat.le_of_ble_eq_true rfl) rfl (by decide) (n2 (hM 20 rfl)) rfl (fun _ => Nat.le_of_ble_eq_true rfl) (Nat.le_of_ble_eq_true rfl) (Nat.le_of_ble_eq_true rfl) rfl rfl ?_
    refine g_iload 0 dX4_opens_115 rfl ?_
    exact g_iret dX4_opens_117 rfl (Nat.le_of_ble_eq_true rfl) (Nat.le_of_ble_eq_true rfl) (pr_i (rfl) (rfl))
  · skip
    refine g_aload_n 1 dX4_opens_27 rfl rfl ?_
    refine g_getfr2 (r := 45) cf_5 24 rfl (by decide) (by decide) rfl (by decide) wf_X4_71 dX4_opens_28 (hM 20 rfl) rfl ?_
    refine g_aload_n 1 dX4_opens_31 rfl rfl ?_
    refine g_getfi cf_5 23 rfl (by decide) (by decide) rfl (by decide) wf_X4_115 dX4_opens_32 (n2 (hM 20 rfl)) (fun h32_3 => ?_)
    refine g_top (y := A 20 23) (by simp [gup_ap]) ?_
    refine g_iload 0 dX4_opens_35 rfl ?_
    refine g_iast ((A 20 23).toNat) (by omega) (by omega) (by omega) rfl (by decide) dX4_opens_37 (n2 (hM 45 rfl)) ?_
    refine g_aload_n 1 dX4_opens_38 rfl rfl ?_
    refine g_getfr2 (r := 46) cf_5 25 rfl (by decide) (by decide) rfl (by decide) wf_X4_74 dX4_opens_39 (hM 20 rfl) rfl ?_
    refine g_aload_n 1 dX4_opens_42 rfl rfl ?_
    refine g_getfi cf_5 23 rfl (by decide) (by decide) rfl (by decide) wf_X4_115 dX4_opens_43 (n2 (hM 20 rfl)) (fun h43_4 => ?_)
    refine g_top (y := A 20 23) (by simp [gup_ap]) ?_
    refine g_aload_n 1 dX4_opens_46 rfl rfl ?_
    refine g_getfr2 (r := 25) cf_5 4 rfl (by decide) (by decide) rfl (by decide) wf_X4_16 dX4_opens_47 (hM 20 rfl) rfl ?_
    refine g_iload_n 2 dX4_opens_50 rfl rfl ?_
    refine g_iald (c.toNat) (by omega) (by omega) rfl (by decide) dX4_opens_51 (n2 (hM 25 rfl)) (fun h51_5 => ?_)
    have hb25 : -2147483648 ≤ A 25 c.toNat ∧ A 25 c.toNat < 2147483648 := by simpa [gup_ap] using (show -2147483648 ≤ gup (gup (gup A 23 c.toNat 1) 28 c.toNat (-1)) 45 (A 20 23).toNat (A 24 c.toNat) 25 c.toNat ∧ gup (gup (gup A 23 c.toNat 1) 28 c.toNat (-1)) 45 (A 20 23).toNat (A 24 c.toNat) 25 c.toNat < 2147483648 by omega)
    refine g_top (y := A 25 c.toNat) (by simp [gup_ap]) ?_
    refine g_iast ((A 20 23).toNat) (by omega) (by omega) (by omega) rfl (by decide) dX4_opens_52 (n2 (hM 46 rfl)) ?_
    refine g_aload_n 1 dX4_opens_53 rfl rfl ?_
    refine g_getfr2 (r := 48) cf_5 27 rfl (by decide) (by decide) rfl (by decide) wf_X4_80 dX4_opens_54 (hM 20 rfl) rfl ?_
    refine g_aload_n 1 dX4_opens_57 rfl rfl ?_
    refine g_getfi cf_5 23 rfl (by decide) (by decide) rfl (by decide) wf_X4_115 dX4_opens_58 (n2 (hM 20 rfl)) (fun h58_6 => ?_)
    refine g_top (y := A 20 23) (by simp [gup_ap]) ?_
    refine g_iload_n 3 dX4_opens_61 rfl rfl ?_
    refine g_iast ((A 20 23).toNat) (by omega) (by omega) (by omega) rfl (by decide) dX4_opens_62 (n2 (hM 48 rfl)) ?_
    refine g_aload_n 1 dX4_opens_63 rfl rfl ?_
    refine g_getfr2 (r := 49) cf_5 28 rfl (by decide) (by decide) rfl (by decide) wf_X4_83 dX4_opens_64 (hM 20 rfl) rfl ?_
    refine g_aload_n 1 dX4_opens_67 rfl rfl ?_
    refine g_getfi cf_5 23 rfl (by decide) (by decide) rfl (by decide) wf_X4_115 dX4_opens_68 (n2 (hM 20 rfl)) (fun h68_7 => ?_)
    refine g_top (y := A 20 23) (by simp [gup_ap]) ?_
    refine g_iload_n 4 dX4_opens_71 rfl rfl ?_
    refine g_iast ((A 20 23).toNat) (by omega) (by omega) (by omega) rfl (by decide) dX4_opens_72 (n2 (hM 49 rfl)) ?_
    refine g_aload_n 1 dX4_opens_73 rfl rfl ?_
    refine g_getfr2 (r := 50) cf_5 29 rfl (by decide) (by decide) rfl (by decide) wf_X4_86 dX4_opens_74 (hM 20 rfl) rfl ?_
    refine g_aload_n 1 dX4_opens_77 rfl rfl ?_
    refine g_getfi cf_5 23 rfl (by decide) (by decide) rfl (by decide) wf_X4_115 dX4_opens_78 (n2 (hM 20 rfl)) (fun h78_8 => ?_)
    refine g_top (y := A 20 23) (by simp [gup_ap]) ?_
    refine g_iload_n 2 dX4_opens_81 rfl rfl ?_
    refine g_iast ((A 20 23).toNat) (by omega) (by omega) (by omega) rfl (by decide) dX4_opens_82 (n2 (hM 50 rfl)) ?_
    refine g_aload_n 1 dX4_opens_83 rfl rfl ?_
    refine g_getfr2 (r := 51) cf_5 30 rfl (by decide) (by decide) rfl (by decide) wf_X4_89 dX4_opens_84 (hM 20 rfl) rfl ?_
    refine g_aload_n 1 dX4_opens_87 rfl rfl ?_
    refine g_getfi cf_5 23 rfl (by decide) (by decide) rfl (by decide) wf_X4_115 dX4_opens_88 (n2 (hM 20 rfl)) (fun h88_9 => ?_)
    refine g_top (y := A 20 23) (by simp [gup_ap]) ?_
    refine g_iconst dX4_opens_91 ?_
    refine g_iast ((A 20 23).toNat) (by omega) (by omega) (by omega) rfl (by decide) dX4_opens_92 (n2 (hM 51 rfl)) ?_
    refine g_aload_n 1 dX4_opens_93 rfl rfl ?_
    refine g_dup dX4_opens_94 (c1_r _) ?_
    refine g_getfi cf_5 23 rfl (by decide) (by decide) rfl (by decide) wf_X4_115 dX4_opens_95 (n2 (hM 20 rfl)) (fun h95_10 => ?_)
    refine g_top (y := A 20 23) (by simp [gup_ap]) ?_
    refine g_iconst dX4_opens_98 ?_
    refine g_iadd dX4_opens_99 ?_
    refine g_putfi cf_5 23 rfl (by decide) (by decide) rfl (by decide) wf_X4_115 (Or.inl rfl) rfl dX4_opens_100 (n2 (hM 20 rfl)) (by omega) ?_
    refine g_ls (A2 := opnS A c p k) rfl rfl (by unfold opnS; first | (rw [if_pos (by omega)]) | (rw [if_neg (by omega)])) ?_
    refine g_aload_n 1 dX4_opens_103 rfl rfl ?_
    refine g_getfr2 (r := 24) cf_5 3 rfl (by decide) (by decide) rfl (by decide) wf_X4_13 dX4_opens_104 (hM 20 rfl) rfl ?_
    refine g_iload_n 2 dX4_opens_107 rfl rfl ?_
    refine g_iconst dX4_opens_108 ?_
    refine g_iast (c.toNat) (by omega) (by omega) (by omega) rfl (by decide) dX4_opens_109 (n2 (hM 24 rfl)) ?_
    refine g_aload_n 1 dX4_opens_110 rfl rfl ?_
    refine g_iload_n 2 dX4_opens_111 rfl rfl ?_
    refine g_cV_v (My := mX4_mayFall) (gs := [_]) (c_X4_mayFall hM (A := gup (opnS A c p k) 24 c.toNat 0) (fun z => by rw [gup_ne (by decide), opnS_ne _ _ _ _ _ (by decide)]; exact h27 z) hc (by unfold loB vw; simp only [gup_ne (show 23 ≠ 24 by decide), gup_ne (show 27 ≠ 24 by decide), opnS_23, opnS_ne A c p k 27 (by decide)]; simp [gup_ap, hc, hp])) mfX4_mayFall cf_5 wi_X4_mayFall wsl_X4_mayFall wm_X4_171 dX4_opens_112 (Nat.le_of_ble_eq_true rfl) rfl (by decide) (n2 (hM 20 rfl)) rfl (fun _ => Nat.le_of_ble_eq_true rfl) (Nat.le_of_ble_eq_true rfl) (Nat.le_of_ble_eq_true rfl) rfl rfl ?_
    refine g_iload 0 dX4_opens_115 rfl ?_
    exact g_iret dX4_opens_117 rfl (Nat.le_of_ble_eq_true rfl) (Nat.le_of_ble_eq_true rfl) (pr_i (rfl) (rfl))

