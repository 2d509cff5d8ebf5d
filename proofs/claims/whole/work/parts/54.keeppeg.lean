/-- a new claim's fields -/
theorem clm_0 {B : Mem} {k : Nat} {p x r c w : Int} (hz : ∀ j, B (100 + 3 * k) j = 0) (j : Nat) : clmA B k p x r c w (100 + 3 * k) j = if j = 0 then p else if j = 1 then x / 10 else if j = 2 then x % 10 else if j = 3 then r else if j = 4 then c else if j = 5 then w else if j = 6 then w else if j = 8 then 1 else if j = 9 then 1 else 0 := by
  unfold clmA
  rw [filA_ne _ _ _ _ (by omega), gup_ne (by omega)]
  unfold clmB
  simp only [gup_ap, gz, true_and, show ¬ (100 + 3 * k = 101 + 3 * k) by omega, show ¬ (100 + 3 * k = 102 + 3 * k) by omega, if_false, hz]
  repeat' split
  all_goals first | rfl | omega
theorem clm_1 {B : Mem} {k : Nat} {p x r c w : Int} (j : Nat) : clmA B k p x r c w (101 + 3 * k) j = if j = p.toNat then 12 else 0 := by
  unfold clmA
  rw [filA_ne _ _ _ _ (by omega), gup_ap]
  unfold clmB
  simp only [gup_ap, gz, true_and, show ¬ (101 + 3 * k = 100 + 3 * k) by omega, show ¬ (101 + 3 * k = 102 + 3 * k) by omega, if_false, false_and, if_true]
theorem clm_2 {B : Mem} {k : Nat} {p x r c w : Int} (j : Nat) : clmA B k p x r c w (102 + 3 * k) j = if j < 8 then -1 else 0 := by
  unfold clmA
  rw [filA_v]
  by_cases h : j < 8
  · rw [if_pos h, if_pos h]
  · rw [if_neg h, if_neg h, gup_ne (by omega)]
    unfold clmB
    simp only [gup_ap, gz, true_and, show ¬ (102 + 3 * k = 100 + 3 * k) by omega, if_false, false_and, if_true]
theorem pegH_v (M : Mem) (n i j : Nat) : pegH M n i 39 j = if 8 * n ≤ j ∧ j < 8 * n + i then -1 else M 39 j := by
  induction i with
  | zero => rw [pegH, if_neg (by omega)]
  | succ i ih =>
    rw [pegH, gup_ap, ih]
    by_cases h : j = 8 * n + i
    · rw [if_pos ⟨rfl, h⟩, if_pos (by omega)]
    · rw [if_neg (by omega)]
      by_cases h2 : 8 * n ≤ j ∧ j < 8 * n + i
      · rw [if_pos h2, if_pos (by omega)]
      · rw [if_neg h2, if_neg (by omega)]
theorem cntH_0 (h : Nat → Int) (n : Nat) (e : ∀ p, p < n → h p = -1) : cntH h n = 0 := by
  induction n with
  | zero => rfl
  | succ n ih => rw [cntH, if_pos (e n (by omega)), ih (fun p q => e p (by omega))]
theorem sumF_0 (f : Nat → Int) (n : Nat) (e : ∀ i, i < n → f i = 0) : sumF f n = 0 := by
  induction n with
  | zero => rfl
  | succ n ih => rw [sumF, ih (fun i q => e i (by omega)), e n (by omega)]; rfl
theorem trapC_0 (B : Mem) (k : Int) (n : Nat) (e : ∀ c, B 17 c ≠ k) : trapC B k n = 0 := by
  induction n with
  | zero => rfl
  | succ n ih => rw [trapC, ih, decide_eq_false (e n)]; rfl
theorem vc_mono {L L' : Nat → Nat} {A : Mem} (hV : VC L A) (h : ∀ n, L n = 2 → L' n = 2) (h0 : ∀ n, L n ≠ 0 → L' n ≠ 0) : VC L' A := by
  obtain ⟨a1, a2, a3, a4, a5, a6, a7, a8⟩ := hV
  have ls : ∀ n, LST L A n → LST L' A n := fun n q => ⟨h _ q.1, h0 _ q.2.1, q.2.2⟩
  exact ⟨fun n q => h n (a1 n q), a2, a3, fun q => ls 2 (a4 q), fun q => ls 3 (a5 q), fun k q => ⟨⟨h _ (a6 k q).1.1, h _ (a6 k q).1.2.1, h _ (a6 k q).1.2.2⟩, (a6 k q).2⟩, fun s q => ⟨⟨h _ (a7 s q).1.1, h _ (a7 s q).1.2.1, h _ (a7 s q).1.2.2⟩, (a7 s q).2⟩, a8⟩
/-- every trap is a claim's -/
def JV (B : Mem) : Prop := ∀ c, B 17 c < B 2 2
section GPEG
variable {L : Nat → Nat} {A B : Mem}
theorem pegL_2 (hX : XC L B) {k : Nat} (hk : B 2 2 = k) (hk12 : k < 12) : (∀ n, L n = 2 → pegL L k n = 2) ∧ ∀ n, L n ≠ 0 → pegL L k n ≠ 0 := by
  refine ⟨fun n h => ?_, fun n h => ?_⟩ <;> unfold pegL <;> split
  · rfl
  · exact h
  · decide
  · exact h
set_option maxHeartbeats 1000000 in
theorem keep_peg {p x r c : Int} (hV : VC L B) (hX : XC L B) (hI : IV B) (hJ : JV B) (hR : Rel B A) (he : pegE B p x r c = 0) :
    VC (pegL L (B 2 2).toNat) (pegC B (B 2 2).toNat p x r c) ∧ XC (pegL L (B 2 2).toNat) (pegC B (B 2 2).toNat p x r c) ∧ IV (pegC B (B 2 2).toNat p x r c) ∧ JV (pegC B (B 2 2).toNat p x r c) ∧ Rel (pegC B (B 2 2).toNat p x r c) (pegR A p x r c) := by
  have hnc := vc_nc hV
  have hp : 0 ≤ p ∧ p < 8 := by unfold pegE at he; grind
  have hx : 0 ≤ x ∧ x < 100 := by unfold pegE at he; grind
  have hrc : (1 ≤ r ∧ r ≤ 4) ∧ (1 ≤ c ∧ c ≤ 4) ∧ x / 10 + r ≤ 10 ∧ x % 10 + c ≤ 10 := by unfold pegE at he; grind
  have h12 : B 2 2 ≠ 12 := by unfold pegE at he; grind
  have hw := (vc_p hV).1
  obtain ⟨k, hk⟩ : ∃ k : Nat, B 2 2 = k := ⟨(B 2 2).toNat, by omega⟩
  have hk12 : k < 12 := by omega
  have ek : (B 2 2).toNat = k := by omega
  rw [ek]
  have hz : ∀ n, 100 + 3 * k ≤ n → n < 200 → L n = 0 ∧ ∀ j, B n j = 0 := fun n q1 q2 => hX.1 n (by omega) q2
  have f : ∀ n, n ≠ 2 → n ≠ 4 → (n < 100 + 3 * k ∨ 102 + 3 * k < n) → pegC B k p x r c n = B n := fun n q1 q2 q3 => by unfold pegC; rw [addM_ne q1 q2, clmA_ne q3]
  have g0 : pegC B k p x r c (100 + 3 * k) = clmA B k p x r c (B 0 9) (100 + 3 * k) := addM_ne (by omega) (by omega)
  have g1 : pegC B k p x r c (101 + 3 * k) = clmA B k p x r c (B 0 9) (101 + 3 * k) := addM_ne (by omega) (by omega)
  have g2 : pegC B k p x r c (102 + 3 * k) = clmA B k p x r c (B 0 9) (102 + 3 * k) := addM_ne (by omega) (by omega)
  have z0 := fun j => clm_0 (p := p) (x := x) (r := r) (c := c) (w := B 0 9) (hz (100 + 3 * k) (by omega) (by omega)).2 j
  have b20 : pegC B k p x r c 2 0 = B 2 0 + 1 := by unfold pegC addM; simp only [gup_ap]; rw [clmA_ne (by omega)]; simp
  have b21 : pegC B k p x r c 2 1 = 2 := by unfold pegC addM; simp [gup_ap]
  have b22 : pegC B k p x r c 2 2 = (k : Int) + 1 := by unfold pegC addM; simp [gup_ap]
  have b41 : pegC B k p x r c 4 1 = (k : Int) + 1 := by unfold pegC addM; simp [gup_ap]
  have b40 : pegC B k p x r c 4 0 = capX B 2 k := by unfold pegC addM capX; simp only [gup_ap]; rw [clmA_ne (by omega)]; simp
  have hcap : (k : Int) + 1 ≤ capX B 2 k ∧ capX B 2 k ≤ 150 := by
    unfold capX
    by_cases h0 : k = 0
    · rw [if_pos h0]; omega
    · rw [if_neg h0]
      have h4 := hX.2.2.2.2.1 (by omega)
      have hl := hV.2.2.2.1 (by omega)
      have h5 : B 2 2 ≤ B (2 + 2) 0 := hl.2.2.2.2.1
      have h6 : B (2 + 2) 0 = B 4 0 := rfl
      have := capF_le (k := k) (c := (B (2 + 2) 0).toNat) (by omega) (by omega) (by omega)
      omega
  obtain ⟨m2, m0⟩ := pegL_2 hX hk hk12
  have hLd : ∀ n, n ≠ 4 → (n < 100 + 3 * k ∨ 102 + 3 * k < n) → pegL L k n = L n := fun n q1 q2 => by unfold pegL; rw [if_neg (by omega)]
  have hLk : pegL L k (100 + 3 * k) = 2 ∧ pegL L k (101 + 3 * k) = 2 ∧ pegL L k (102 + 3 * k) = 2 := ⟨by unfold pegL; rw [if_pos (by omega)], by unfold pegL; rw [if_pos (by omega)], by unfold pegL; rw [if_pos (by omega)]⟩
  have hL4 : pegL L k 4 = 2 := by unfold pegL; rw [if_pos (by omega)]
  have hM := vc_mono hV m2 m0
  refine ⟨⟨hM.1, ?_, ?_, ?_, ?_, ?_, ?_, ?_, ?_⟩, ?_, ?_, ?_, ?_⟩
  · rw [b22]; omega
  · rw [f 3 (by omega) (by omega) (by omega)]; exact hV.2.2.1
  · intro _
    refine ⟨hM.1 2 rfl, ?_, b21, ?_, ?_, ?_, ?_⟩
    · show pegL L k 4 ≠ 0; rw [hL4]; decide
    · show pegC B k p x r c 4 1 = _; rw [b41, b22]
    · show _ ≤ pegC B k p x r c 4 0; rw [b22, b40]; exact hcap.1
    · show pegC B k p x r c 4 0 ≤ _; rw [b40]; omega
    · rw [b22]; omega
  · rw [f 3 (by omega) (by omega) (by omega)]
    exact fun q => LST_cg (f 3 (by omega) (by omega) (by omega)) (f (3 + 2) (by omega) (by omega) (by omega)) (hM.2.2.2.2.1 q)
  · intro j hj
    rw [b22] at hj
    by_cases e : j = k
    · subst e
      refine ⟨hLk, ?_⟩
      unfold CV
      rw [g0, g1, g2]
      simp only [z0, clm_1, clm_2]
      simp only [if_true, show ¬ (1 : Nat) = 0 by decide, show ¬ (2 : Nat) = 0 by decide, show ¬ (2 : Nat) = 1 by decide, show ¬ (3 : Nat) = 0 by decide, show ¬ (3 : Nat) = 1 by decide, show ¬ (3 : Nat) = 2 by decide, show ¬ (4 : Nat) = 0 by decide, show ¬ (4 : Nat) = 1 by decide, show ¬ (4 : Nat) = 2 by decide, show ¬ (4 : Nat) = 3 by decide, show ¬ (5 : Nat) = 0 by decide, show ¬ (5 : Nat) = 1 by decide, show ¬ (5 : Nat) = 2 by decide, show ¬ (5 : Nat) = 3 by decide, show ¬ (5 : Nat) = 4 by decide, show ¬ (6 : Nat) = 0 by decide, show ¬ (6 : Nat) = 1 by decide, show ¬ (6 : Nat) = 2 by decide, show ¬ (6 : Nat) = 3 by decide, show ¬ (6 : Nat) = 4 by decide, show ¬ (6 : Nat) = 5 by decide, show ¬ (7 : Nat) = 0 by decide, show ¬ (7 : Nat) = 1 by decide, show ¬ (7 : Nat) = 2 by decide, show ¬ (7 : Nat) = 3 by decide, show ¬ (7 : Nat) = 4 by decide, show ¬ (7 : Nat) = 5 by decide, show ¬ (7 : Nat) = 6 by decide, show ¬ (7 : Nat) = 8 by decide, show ¬ (7 : Nat) = 9 by decide, if_false]
      refine ⟨hp, ⟨by omega, by omega, by omega, by omega, by omega, by omega, by omega, by omega⟩, hw, hw, by omega, fun j => by split <;> omega, fun j => by split <;> omega⟩
    · have hj2 : (j : Int) < B 2 2 := by omega
      have hq := hM.2.2.2.2.2.1 j hj2
      exact ⟨hq.1, CV_cg (f _ (by omega) (by omega) (by omega)) (f _ (by omega) (by omega) (by omega)) (f _ (by omega) (by omega) (by omega)) hq.2⟩
  · rw [f 3 (by omega) (by omega) (by omega)]
    intro s hs
    have hq := hM.2.2.2.2.2.2.1 s hs
    exact ⟨hq.1, SV_cg (f _ (by omega) (by omega) (by omega)) (f _ (by omega) (by omega) (by omega)) (f _ (by omega) (by omega) (by omega)) hq.2⟩
  · exact GVd_cg (fun n _ _ => f n (by omega) (by omega) (by omega)) (vc_g hV)
  · exact PVd_cg (f 0 (by omega) (by omega) (by omega)) (fun n _ _ => f n (by omega) (by omega) (by omega)) (vc_p hV)
  · unfold XC LsE
    rw [b22, b20, hLd 3 (by omega) (by omega), hLd (3 + 2) (by omega) (by omega), hL4, b40, f 3 (by omega) (by omega) (by omega), f (3 + 2) (by omega) (by omega) (by omega)]
    have e9 := hX.2.2.2.2.2.2.1
    refine ⟨fun n q1 q2 => ?_, fun n q1 => ?_, fun q => absurd q (by omega), hX.2.2.2.1, fun _ => ⟨rfl, hcap.2⟩, hX.2.2.2.2.2.1, by omega, hX.2.2.2.2.2.2.2⟩
    · rw [hLd n (by omega) (by omega), f n (by omega) (by omega) (by omega)]; exact hX.1 n (by omega) q2
    · rw [hLd n (by omega) (by omega), f n (by omega) (by omega) (by omega)]; exact hX.2.1 n q1
  · refine ⟨?_, ?_, ?_, ?_, fun j hj => ?_, ?_, ?_⟩
    · rw [f 12 (by omega) (by omega) (by omega), f 16 (by omega) (by omega) (by omega)]; exact iv_p hI
    · rw [f 13 (by omega) (by omega) (by omega), f 14 (by omega) (by omega) (by omega)]; exact iv_t hI
    · rw [f 13 (by omega) (by omega) (by omega), f 14 (by omega) (by omega) (by omega), f 3 (by omega) (by omega) (by omega)]; exact iv_n hI
    · rw [f 6 (by omega) (by omega) (by omega), f 9 (by omega) (by omega) (by omega)]; exact iv_m hI
    · rw [b22] at hj
      by_cases e : j = k
      · subst e
        unfold IVk
        rw [g0, g1, trapC_cg (f 17 (by omega) (by omega) (by omega)), trapC_0 B j 100 (fun c => by have := hJ c; omega)]
        simp only [z0, clm_1]
        simp
        omega
      · exact IVk_cg (f _ (by omega) (by omega) (by omega)) (f _ (by omega) (by omega) (by omega)) (f 17 (by omega) (by omega) (by omega)) (iv_k hI (by omega))
    · rw [f 3 (by omega) (by omega) (by omega)]
      exact fun s hs => IVs_cg (f _ (by omega) (by omega) (by omega)) (f _ (by omega) (by omega) (by omega)) (f _ (by omega) (by omega) (by omega)) (iv_s hI hs)
    · rw [f 14 (by omega) (by omega) (by omega), f 17 (by omega) (by omega) (by omega)]; exact iv_z hI
  · intro j
    rw [f 17 (by omega) (by omega) (by omega), b22]
    have := hJ j
    omega
  · have en : (A 20 9).toNat = k := by rw [rl_nc hR]; exact ek
    have e20 : ∀ j, j ≠ 0 → j ≠ 9 → pegR A p x r c 20 j = A 20 j := fun j q1 q2 => by unfold pegR; rw [gup_ap, if_neg (by omega), pegH_ne _ _ _ (by decide), pegS_20 _ _ _ _ _ _ _ q1]
    have e209 : pegR A p x r c 20 9 = (k : Int) + 1 := by unfold pegR; rw [gup_ap, if_pos ⟨rfl, rfl⟩, rl_nc hR, hk]
    have fA : ∀ n, n ≠ 20 → (n < 31 ∨ 36 < n) → n ≠ 39 → pegR A p x r c n = A n := fun n q1 q2 q3 => by
      unfold pegR pegS
      rw [gup_ne q1, pegH_ne _ _ _ q3, gup_ne (by omega), gup_ne (by omega), gup_ne (by omega), gup_ne (by omega), gup_ne (by omega), gup_ne (by omega), gup_ne q1]
    have fA3 : ∀ n j, 31 ≤ n → n ≤ 37 → j ≠ k → pegR A p x r c n j = A n j := fun n j q1 q2 q3 => by
      unfold pegR pegS
      rw [en, gup_ne (by omega), pegH_ne _ _ _ (by omega)]
      simp only [gup_ap, q3, and_false, if_false]
      rw [if_neg (by omega)]
    have v3 : pegR A p x r c 31 k = p ∧ pegR A p x r c 32 k = x ∧ pegR A p x r c 33 k = r ∧ pegR A p x r c 34 k = c ∧ pegR A p x r c 35 k = A 20 1 ∧ pegR A p x r c 36 k = A 20 1 := by
      unfold pegR pegS
      rw [en]
      refine ⟨?_, ?_, ?_, ?_, ?_, ?_⟩ <;> rw [gup_ne (by decide), pegH_ne _ _ _ (by decide)] <;> simp [gup_ap]
    have e39 : ∀ j, pegR A p x r c 39 j = if 8 * k ≤ j ∧ j < 8 * k + 8 then -1 else A 39 j := fun j => by
      unfold pegR
      rw [gup_ne (by decide), en, pegH_v]
      unfold pegS
      rw [gup_ne (by decide), gup_ne (by decide), gup_ne (by decide), gup_ne (by decide), gup_ne (by decide), gup_ne (by decide), gup_ne (by decide)]
    have e38 : pegR A p x r c 38 = A 38 := fA 38 (by omega) (by omega) (by omega)
    have hk0 := rl_k0 hR (k := k) (by omega)
    obtain ⟨b1, b2, b3, b4, b5, b6, b7, b8, b9, b10, b11, b12, b13, b14, b15⟩ := rb_of hR
    refine rel_mk ?_ ?_ ?_ ?_ ?_
    · have es : (fun s => pegC B k p x r c (200 + 3 * s) 4) = fun s => B (200 + 3 * s) 4 := by funext s; rw [f _ (by omega) (by omega) (by omega)]
      unfold RB
      rw [es, e20 1 (by omega) (by omega), e209, e20 23 (by omega) (by omega), e20 35 (by omega) (by omega), e20 36 (by omega) (by omega), fA 23 (by omega) (by omega) (by omega), fA 24 (by omega) (by omega) (by omega), fA 25 (by omega) (by omega) (by omega), fA 26 (by omega) (by omega) (by omega), fA 27 (by omega) (by omega) (by omega), fA 28 (by omega) (by omega) (by omega), fA 40 (by omega) (by omega) (by omega), fA 41 (by omega) (by omega) (by omega), fA 42 (by omega) (by omega) (by omega), fA 55 (by omega) (by omega) (by omega), b22,
        f 0 (by omega) (by omega) (by omega), f 3 (by omega) (by omega) (by omega), f 12 (by omega) (by omega) (by omega), f 13 (by omega) (by omega) (by omega), f 14 (by omega) (by omega) (by omega), f 15 (by omega) (by omega) (by omega), f 16 (by omega) (by omega) (by omega), f 17 (by omega) (by omega) (by omega), f 7 (by omega) (by omega) (by omega), f 6 (by omega) (by omega) (by omega), f 8 (by omega) (by omega) (by omega), f 9 (by omega) (by omega) (by omega)]
      exact ⟨b1, rfl, b3, b4, b5, b6, b7, b8, b9, b10, b11, b12, b13, b14, b15⟩
    · intro j hj
      rw [b22] at hj
      by_cases e : j = k
      · subst e
        unfold RelK
        rw [g0, g1, g2, v3.1, v3.2.1, v3.2.2.1, v3.2.2.2.1, v3.2.2.2.2.1, v3.2.2.2.2.2, fA 37 (by omega) (by omega) (by omega), hk0.1, e38]
        have ec : cntH (clmA B j p x r c (B 0 9) (102 + 3 * j)) 8 = 0 := cntH_0 _ _ (fun q hq => by rw [clm_2, if_pos hq])
        have es : sumF (fun q => A 38 (8 * j + q)) 8 = 0 := sumF_0 _ _ (fun i hi => hk0.2 i hi)
        refine ⟨?_, ?_, ?_, ?_, ?_, ?_, fun q hq => ?_, fun q hq => ?_, ?_, ?_⟩
        · rw [z0]; rfl
        · rw [z0, z0]; simp; omega
        · rw [z0]; rfl
        · rw [z0]; rfl
        · rw [z0, b1]; rfl
        · rw [z0]; rfl
        · rw [hk0.2 q hq, z0, clm_1]
          simp
          omega
        · rw [e39, if_pos (by omega), clm_2, if_pos hq]
        · rw [clm_1, z0, es]; simp
        · unfold hourM; rw [if_pos ec, z0, b1]; rfl
      · have hq := rl_k hR (k := j) (by omega)
        exact RelK_cg (f _ (by omega) (by omega) (by omega)) (f _ (by omega) (by omega) (by omega)) (f _ (by omega) (by omega) (by omega)) (fun n q1 q2 => fA3 n j q1 q2 e) (fun p _ => by rw [e38]) (fun q hq => by rw [e39, if_neg (by omega)]) hq
    · intro j hj
      rw [b22] at hj
      rw [e38, fA 37 (by omega) (by omega) (by omega)]
      exact rl_k0 hR (by omega)
    · rw [f 3 (by omega) (by omega) (by omega)]
      intro s hs
      exact RelS_cg (f _ (by omega) (by omega) (by omega)) (f _ (by omega) (by omega) (by omega)) (f _ (by omega) (by omega) (by omega)) (fun n q1 q2 => by rw [fA n (by omega) (by omega) (by omega)]) (fun p _ => by rw [fA 53 (by omega) (by omega) (by omega)]) (fun p _ => by rw [fA 54 (by omega) (by omega) (by omega)]) (rl_s hR hs)
    · rw [f 3 (by omega) (by omega) (by omega)]
      intro s hs
      rw [fA 47 (by omega) (by omega) (by omega), fA 52 (by omega) (by omega) (by omega), fA 53 (by omega) (by omega) (by omega), fA 54 (by omega) (by omega) (by omega)]
      exact rl_s0 hR hs
end GPEG

