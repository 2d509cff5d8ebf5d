section GUNC1
variable {L : Nat → Nat} {A B : Mem}
set_option maxHeartbeats 2000000 in
theorem keep_unc1 {c w p : Int} (hV : VC L B) (hX : XC L B) (hI : IV B) (hJ : JV B) (hR : Rel B A) (hc : 0 ≤ c ∧ c < 100) (hw : -1 ≤ w ∧ w < 12) (hp : -1 ≤ p ∧ p < 8) (h16 : B 16 c.toNat = 0) (h17 : B 17 c.toNat = -1) (h14 : 0 < B 14 c.toNat) :
    VC (stoL L (B 3 2).toNat) (uncA B c w p) ∧ XC (stoL L (B 3 2).toNat) (uncA B c w p) ∧ IV (uncA B c w p) ∧ JV (uncA B c w p) ∧ Rel (uncA B c w p) (opnR A c p w) := by
  have hg := vc_g hV
  have hns := vc_ns hV
  have hnc := vc_nc hV
  have hroom := iv_room hI hc h14
  obtain ⟨s, hs⟩ : ∃ s : Nat, B 3 2 = s := ⟨(B 3 2).toNat, by omega⟩
  have es : (B 3 2).toNat = s := by omega
  have hz : ∀ n, 200 + 3 * s ≤ n → L n = 0 ∧ ∀ j, B n j = 0 := fun n q1 => hX.2.1 n (by omega)
  have h14r := hg.2.2.1 c.toNat
  have h15r := hg.2.2.2.1 c.toNat
  have eu : uncA B c w p = fallC (addM (stnA (opnA B c) s c (B 14 c.toNat) (B 15 c.toNat) w p) 3 s) c := by unfold uncA unsC; rw [if_pos h14, es]
  rw [es]
  have hzo : ∀ n, 200 + 3 * s ≤ n → ∀ j, opnA B c n j = 0 := fun n q j => by rw [opnA_ne (by omega) (by omega)]; exact (hz n q).2 j
  have f : ∀ n, n ≠ 12 → n ≠ 14 → n ≠ 3 → n ≠ 5 → (n < 200 + 3 * s ∨ 202 + 3 * s < n) → uncA B c w p n = B n := fun n q1 q2 q3 q4 q5 => by
    rw [eu, fallC_ne _ _ q1, addM_ne q3 q4, stnA_ne q5, opnA_ne q2 q1]
  have g0 : uncA B c w p (200 + 3 * s) = stnA (opnA B c) s c (B 14 c.toNat) (B 15 c.toNat) w p (200 + 3 * s) := by rw [eu, fallC_ne _ _ (by omega), addM_ne (by omega) (by omega)]
  have g1 : uncA B c w p (201 + 3 * s) = stnA (opnA B c) s c (B 14 c.toNat) (B 15 c.toNat) w p (201 + 3 * s) := by rw [eu, fallC_ne _ _ (by omega), addM_ne (by omega) (by omega)]
  have g2 : uncA B c w p (202 + 3 * s) = stnA (opnA B c) s c (B 14 c.toNat) (B 15 c.toNat) w p (202 + 3 * s) := by rw [eu, fallC_ne _ _ (by omega), addM_ne (by omega) (by omega)]
  have z0 := fun j => stn_0 (c := c) (w := B 14 c.toNat) (d := B 15 c.toNat) (k := w) (p := p) (hzo (200 + 3 * s) (by omega)) j
  have e14 : uncA B c w p 14 = gup B 14 c.toNat 0 14 := by rw [eu, fallC_ne _ _ (by omega), addM_ne (by omega) (by omega), stnA_ne (by omega)]; unfold opnA; rw [gup_ne (by decide)]
  have b3 : uncA B c w p 3 = addM (stnA (opnA B c) s c (B 14 c.toNat) (B 15 c.toNat) w p) 3 s 3 := by rw [eu, fallC_ne _ _ (by omega)]
  have b5' : uncA B c w p 5 = addM (stnA (opnA B c) s c (B 14 c.toNat) (B 15 c.toNat) w p) 3 s 5 := by rw [eu, fallC_ne _ _ (by omega)]
  have b30 : uncA B c w p 3 0 = B 3 0 + 1 := by rw [b3]; unfold addM; simp only [gup_ap]; rw [stnA_ne (by omega), opnA_ne (by omega) (by omega)]; simp
  have b31 : uncA B c w p 3 1 = 2 := by rw [b3]; unfold addM; simp [gup_ap]
  have b32 : uncA B c w p 3 2 = (s : Int) + 1 := by rw [b3]; unfold addM; simp [gup_ap]
  have b51 : uncA B c w p 5 1 = (s : Int) + 1 := by rw [b5']; unfold addM; simp [gup_ap]
  have b50 : uncA B c w p 5 0 = capX B 3 s := by rw [b5']; unfold addM capX; simp only [gup_ap]; rw [stnA_ne (by omega), opnA_ne (by omega) (by omega)]; simp
  have hcap : (s : Int) + 1 ≤ capX B 3 s ∧ capX B 3 s ≤ 150 := by
    unfold capX
    by_cases h0 : s = 0
    · rw [if_pos h0]; omega
    · rw [if_neg h0]
      have h4 := hX.2.2.2.2.2.1 (by omega)
      have hl := hV.2.2.2.2.1 (by omega)
      have h5 : B 3 2 ≤ B (3 + 2) 0 := hl.2.2.2.2.1
      have h6 : B (3 + 2) 0 = B 5 0 := rfl
      have := capF_le (k := s) (c := (B (3 + 2) 0).toNat) (by omega) (by omega) (by omega)
      omega
  have e12 : ∀ j, addM (stnA (opnA B c) s c (B 14 c.toNat) (B 15 c.toNat) w p) 3 s 12 j = if j = c.toNat then 1 else B 12 j := fun j => by rw [addM_ne (by omega) (by omega), stnA_ne (by omega)]; unfold opnA; rw [gup_ap]; simp only [true_and]; rw [gup_ne (by decide)]
  have e16 : addM (stnA (opnA B c) s c (B 14 c.toNat) (B 15 c.toNat) w p) 3 s 16 = B 16 := by rw [addM_ne (by omega) (by omega), stnA_ne (by omega), opnA_ne (by decide) (by decide)]
  have hf := fun j => fallC_12 (A := addM (stnA (opnA B c) s c (B 14 c.toNat) (B 15 c.toNat) w p) 3 s) (c := c) (by rw [e16]; exact h16) j
  have m2 : ∀ n, L n = 2 → stoL L s n = 2 := fun n h => by unfold stoL; split; rfl; exact h
  have m0 : ∀ n, L n ≠ 0 → stoL L s n ≠ 0 := fun n h => by unfold stoL; split; decide; exact h
  have hLd : ∀ n, n ≠ 5 → (n < 200 + 3 * s ∨ 202 + 3 * s < n) → stoL L s n = L n := fun n q1 q2 => by unfold stoL; rw [if_neg (by omega)]
  have hLk : stoL L s (200 + 3 * s) = 2 ∧ stoL L s (201 + 3 * s) = 2 ∧ stoL L s (202 + 3 * s) = 2 := ⟨by unfold stoL; rw [if_pos (by omega)], by unfold stoL; rw [if_pos (by omega)], by unfold stoL; rw [if_pos (by omega)]⟩
  have hL5 : stoL L s 5 = 2 := by unfold stoL; rw [if_pos (by omega)]
  have hM := vc_mono hV m2 m0
  have hg12 : ∀ j, 0 ≤ uncA B c w p 12 j ∧ uncA B c w p 12 j ≤ 2 := fun j => by
    rw [eu]
    have := hg.1 j
    rcases hf j with h | ⟨h, _⟩
    · rw [h, e12]; split <;> omega
    · rw [h]; omega
  refine ⟨⟨hM.1, ?_, ?_, ?_, ?_, ?_, ?_, ?_, ?_⟩, ?_, ?_, ?_, ?_⟩
  · rw [f 2 (by omega) (by omega) (by omega) (by omega) (by omega)]; exact hnc
  · rw [b32]; omega
  · rw [f 2 (by omega) (by omega) (by omega) (by omega) (by omega)]
    exact fun q => LST_cg (f 2 (by omega) (by omega) (by omega) (by omega) (by omega)) (f (2 + 2) (by omega) (by omega) (by omega) (by omega) (by omega)) (hM.2.2.2.1 q)
  · intro _
    refine ⟨hM.1 3 rfl, ?_, b31, ?_, ?_, ?_, ?_⟩
    · show stoL L s 5 ≠ 0; rw [hL5]; decide
    · show uncA B c w p 5 1 = _; rw [b51, b32]
    · show _ ≤ uncA B c w p 5 0; rw [b32, b50]; exact hcap.1
    · show uncA B c w p 5 0 ≤ _; rw [b50]; omega
    · rw [b32]; omega
  · rw [f 2 (by omega) (by omega) (by omega) (by omega) (by omega)]
    intro k hk
    have hk12 := vc_k hV hk
    have hq := hM.2.2.2.2.2.1 k hk
    exact ⟨hq.1, CV_cg (f _ (by omega) (by omega) (by omega) (by omega) (by omega)) (f _ (by omega) (by omega) (by omega) (by omega) (by omega)) (f _ (by omega) (by omega) (by omega) (by omega) (by omega)) hq.2⟩
  · intro j hj
    rw [b32] at hj
    by_cases e : j = s
    · subst e
      refine ⟨hLk, ?_⟩
      unfold SV
      rw [g0, g1, g2]
      simp only [z0, stn_1, stn_2]
      simp only [if_true, show ¬ (0 : Nat) = 1 by decide, show ¬ (0 : Nat) = 2 by decide, show ¬ (0 : Nat) = 3 by decide, show ¬ (0 : Nat) = 4 by decide, show ¬ (0 : Nat) = 5 by decide, show ¬ (0 : Nat) = 6 by decide, show ¬ (0 : Nat) = 7 by decide, show ¬ (0 : Nat) = 8 by decide, show ¬ (0 : Nat) = 9 by decide, show ¬ (0 : Nat) = 10 by decide, show ¬ (1 : Nat) = 0 by decide, show ¬ (1 : Nat) = 2 by decide, show ¬ (1 : Nat) = 3 by decide, show ¬ (1 : Nat) = 4 by decide, show ¬ (1 : Nat) = 5 by decide, show ¬ (1 : Nat) = 6 by decide, show ¬ (1 : Nat) = 7 by decide, show ¬ (1 : Nat) = 8 by decide, show ¬ (1 : Nat) = 9 by decide, show ¬ (1 : Nat) = 10 by decide, show ¬ (2 : Nat) = 0 by decide, show ¬ (2 : Nat) = 1 by decide, show ¬ (2 : Nat) = 3 by decide, show ¬ (2 : Nat) = 4 by decide, show ¬ (2 : Nat) = 5 by decide, show ¬ (2 : Nat) = 6 by decide, show ¬ (2 : Nat) = 7 by decide, show ¬ (2 : Nat) = 8 by decide, show ¬ (2 : Nat) = 9 by decide, show ¬ (2 : Nat) = 10 by decide, show ¬ (3 : Nat) = 0 by decide, show ¬ (3 : Nat) = 1 by decide, show ¬ (3 : Nat) = 2 by decide, show ¬ (3 : Nat) = 4 by decide, show ¬ (3 : Nat) = 5 by decide, show ¬ (3 : Nat) = 6 by decide, show ¬ (3 : Nat) = 7 by decide, show ¬ (3 : Nat) = 8 by decide, show ¬ (3 : Nat) = 9 by decide, show ¬ (3 : Nat) = 10 by decide, show ¬ (4 : Nat) = 0 by decide, show ¬ (4 : Nat) = 1 by decide, show ¬ (4 : Nat) = 2 by decide, show ¬ (4 : Nat) = 3 by decide, show ¬ (4 : Nat) = 5 by decide, show ¬ (4 : Nat) = 6 by decide, show ¬ (4 : Nat) = 7 by decide, show ¬ (4 : Nat) = 8 by decide, show ¬ (4 : Nat) = 9 by decide, show ¬ (4 : Nat) = 10 by decide, show ¬ (5 : Nat) = 0 by decide, show ¬ (5 : Nat) = 1 by decide, show ¬ (5 : Nat) = 2 by decide, show ¬ (5 : Nat) = 3 by decide, show ¬ (5 : Nat) = 4 by decide, show ¬ (5 : Nat) = 6 by decide, show ¬ (5 : Nat) = 7 by decide, show ¬ (5 : Nat) = 8 by decide, show ¬ (5 : Nat) = 9 by decide, show ¬ (5 : Nat) = 10 by decide, show ¬ (6 : Nat) = 0 by decide, show ¬ (6 : Nat) = 1 by decide, show ¬ (6 : Nat) = 2 by decide, show ¬ (6 : Nat) = 3 by decide, show ¬ (6 : Nat) = 4 by decide, show ¬ (6 : Nat) = 5 by decide, show ¬ (6 : Nat) = 7 by decide, show ¬ (6 : Nat) = 8 by decide, show ¬ (6 : Nat) = 9 by decide, show ¬ (6 : Nat) = 10 by decide, show ¬ (7 : Nat) = 0 by decide, show ¬ (7 : Nat) = 1 by decide, show ¬ (7 : Nat) = 2 by decide, show ¬ (7 : Nat) = 3 by decide, show ¬ (7 : Nat) = 4 by decide, show ¬ (7 : Nat) = 5 by decide, show ¬ (7 : Nat) = 6 by decide, show ¬ (7 : Nat) = 8 by decide, show ¬ (7 : Nat) = 9 by decide, show ¬ (7 : Nat) = 10 by decide, show ¬ (8 : Nat) = 0 by decide, show ¬ (8 : Nat) = 1 by decide, show ¬ (8 : Nat) = 2 by decide, show ¬ (8 : Nat) = 3 by decide, show ¬ (8 : Nat) = 4 by decide, show ¬ (8 : Nat) = 5 by decide, show ¬ (8 : Nat) = 6 by decide, show ¬ (8 : Nat) = 7 by decide, show ¬ (8 : Nat) = 9 by decide, show ¬ (8 : Nat) = 10 by decide, show ¬ (9 : Nat) = 0 by decide, show ¬ (9 : Nat) = 1 by decide, show ¬ (9 : Nat) = 2 by decide, show ¬ (9 : Nat) = 3 by decide, show ¬ (9 : Nat) = 4 by decide, show ¬ (9 : Nat) = 5 by decide, show ¬ (9 : Nat) = 6 by decide, show ¬ (9 : Nat) = 7 by decide, show ¬ (9 : Nat) = 8 by decide, show ¬ (9 : Nat) = 10 by decide, show ¬ (10 : Nat) = 0 by decide, show ¬ (10 : Nat) = 1 by decide, show ¬ (10 : Nat) = 2 by decide, show ¬ (10 : Nat) = 3 by decide, show ¬ (10 : Nat) = 4 by decide, show ¬ (10 : Nat) = 5 by decide, show ¬ (10 : Nat) = 6 by decide, show ¬ (10 : Nat) = 7 by decide, show ¬ (10 : Nat) = 8 by decide, show ¬ (10 : Nat) = 9 by decide, if_false]
      refine ⟨hc, h15r, hw, ?_, by omega, by omega, hp, by omega, by omega, fun _ => by omega, fun _ => by omega⟩
      omega
    · have hj2 : (j : Int) < B 3 2 := by omega
      have hq := hM.2.2.2.2.2.2.1 j hj2
      exact ⟨hq.1, SV_cg (f _ (by omega) (by omega) (by omega) (by omega) (by omega)) (f _ (by omega) (by omega) (by omega) (by omega) (by omega)) (f _ (by omega) (by omega) (by omega) (by omega) (by omega)) hq.2⟩
  · obtain ⟨q1, q2, q3, q4, q5, q6⟩ := hg
    unfold GVd
    rw [e14, f 13 (by omega) (by omega) (by omega) (by omega) (by omega), f 15 (by omega) (by omega) (by omega) (by omega) (by omega), f 16 (by omega) (by omega) (by omega) (by omega) (by omega), f 17 (by omega) (by omega) (by omega) (by omega) (by omega)]
    refine ⟨hg12, q2, fun j => ?_, q4, q5, q6⟩
    rw [gup_ap]; have := q3 j; split <;> omega
  · exact PVd_cg (f 0 (by omega) (by omega) (by omega) (by omega) (by omega)) (fun n _ _ => f n (by omega) (by omega) (by omega) (by omega) (by omega)) (vc_p hV)
  · unfold XC LsE
    rw [b32, b30, hLd 2 (by omega) (by omega), hLd (2 + 2) (by omega) (by omega), hL5, b50, f 2 (by omega) (by omega) (by omega) (by omega) (by omega), f (2 + 2) (by omega) (by omega) (by omega) (by omega) (by omega)]
    have e9 := hX.2.2.2.2.2.2.2
    refine ⟨fun n q1 q2 => ?_, fun n q1 => ?_, hX.2.2.1, fun q => absurd q (by omega), hX.2.2.2.2.1, fun _ => ⟨rfl, hcap.2⟩, hX.2.2.2.2.2.2.1, by omega⟩
    · rw [hLd n (by omega) (by omega), f n (by omega) (by omega) (by omega) (by omega) (by omega)]; exact hX.1 n q1 q2
    · rw [hLd n (by omega) (by omega), f n (by omega) (by omega) (by omega) (by omega) (by omega)]; exact hX.2.1 n (by omega)
  · refine ⟨?_, ?_, ?_, ?_, fun j hj => ?_, fun j hj => ?_, ?_⟩
    · rw [f 16 (by omega) (by omega) (by omega) (by omega) (by omega), eu]
      intro j hj
      rcases hf j with h | ⟨_, h⟩
      · rw [h, e12] at hj
        by_cases e : j = c.toNat
        · rw [e]; exact h16
        · rw [if_neg e] at hj; exact iv_p hI j hj
      · rw [e16] at h; exact h
    · rw [f 13 (by omega) (by omega) (by omega) (by omega) (by omega), e14]
      intro j hj
      rw [gup_ap] at hj
      split at hj
      · exact absurd hj (by decide)
      · exact iv_t hI j hj
    · rw [f 13 (by omega) (by omega) (by omega) (by omega) (by omega), b32, e14, cntF_gup, if_pos (by omega), decide_eq_false (by decide), decide_eq_true h14, b2_f, b2_t]
      have := iv_n hI
      omega
    · rw [f 6 (by omega) (by omega) (by omega) (by omega) (by omega), f 9 (by omega) (by omega) (by omega) (by omega) (by omega)]; exact iv_m hI
    · rw [f 2 (by omega) (by omega) (by omega) (by omega) (by omega)] at hj
      have hk12 := vc_k hV hj
      exact IVk_cg (f _ (by omega) (by omega) (by omega) (by omega) (by omega)) (f _ (by omega) (by omega) (by omega) (by omega) (by omega)) (f 17 (by omega) (by omega) (by omega) (by omega) (by omega)) (iv_k hI hj)
    · rw [b32] at hj
      by_cases e : j = s
      · subst e
        unfold IVs
        rw [g0, g1, g2]
        simp only [z0, stn_1, stn_2]
        simp only [if_true, show ¬ (0 : Nat) = 1 by decide, show ¬ (0 : Nat) = 2 by decide, show ¬ (0 : Nat) = 3 by decide, show ¬ (0 : Nat) = 4 by decide, show ¬ (0 : Nat) = 5 by decide, show ¬ (0 : Nat) = 6 by decide, show ¬ (0 : Nat) = 7 by decide, show ¬ (0 : Nat) = 8 by decide, show ¬ (0 : Nat) = 9 by decide, show ¬ (0 : Nat) = 10 by decide, show ¬ (1 : Nat) = 0 by decide, show ¬ (1 : Nat) = 2 by decide, show ¬ (1 : Nat) = 3 by decide, show ¬ (1 : Nat) = 4 by decide, show ¬ (1 : Nat) = 5 by decide, show ¬ (1 : Nat) = 6 by decide, show ¬ (1 : Nat) = 7 by decide, show ¬ (1 : Nat) = 8 by decide, show ¬ (1 : Nat) = 9 by decide, show ¬ (1 : Nat) = 10 by decide, show ¬ (2 : Nat) = 0 by decide, show ¬ (2 : Nat) = 1 by decide, show ¬ (2 : Nat) = 3 by decide, show ¬ (2 : Nat) = 4 by decide, show ¬ (2 : Nat) = 5 by decide, show ¬ (2 : Nat) = 6 by decide, show ¬ (2 : Nat) = 7 by decide, show ¬ (2 : Nat) = 8 by decide, show ¬ (2 : Nat) = 9 by decide, show ¬ (2 : Nat) = 10 by decide, show ¬ (3 : Nat) = 0 by decide, show ¬ (3 : Nat) = 1 by decide, show ¬ (3 : Nat) = 2 by decide, show ¬ (3 : Nat) = 4 by decide, show ¬ (3 : Nat) = 5 by decide, show ¬ (3 : Nat) = 6 by decide, show ¬ (3 : Nat) = 7 by decide, show ¬ (3 : Nat) = 8 by decide, show ¬ (3 : Nat) = 9 by decide, show ¬ (3 : Nat) = 10 by decide, show ¬ (4 : Nat) = 0 by decide, show ¬ (4 : Nat) = 1 by decide, show ¬ (4 : Nat) = 2 by decide, show ¬ (4 : Nat) = 3 by decide, show ¬ (4 : Nat) = 5 by decide, show ¬ (4 : Nat) = 6 by decide, show ¬ (4 : Nat) = 7 by decide, show ¬ (4 : Nat) = 8 by decide, show ¬ (4 : Nat) = 9 by decide, show ¬ (4 : Nat) = 10 by decide, show ¬ (5 : Nat) = 0 by decide, show ¬ (5 : Nat) = 1 by decide, show ¬ (5 : Nat) = 2 by decide, show ¬ (5 : Nat) = 3 by decide, show ¬ (5 : Nat) = 4 by decide, show ¬ (5 : Nat) = 6 by decide, show ¬ (5 : Nat) = 7 by decide, show ¬ (5 : Nat) = 8 by decide, show ¬ (5 : Nat) = 9 by decide, show ¬ (5 : Nat) = 10 by decide, show ¬ (6 : Nat) = 0 by decide, show ¬ (6 : Nat) = 1 by decide, show ¬ (6 : Nat) = 2 by decide, show ¬ (6 : Nat) = 3 by decide, show ¬ (6 : Nat) = 4 by decide, show ¬ (6 : Nat) = 5 by decide, show ¬ (6 : Nat) = 7 by decide, show ¬ (6 : Nat) = 8 by decide, show ¬ (6 : Nat) = 9 by decide, show ¬ (6 : Nat) = 10 by decide, show ¬ (7 : Nat) = 0 by decide, show ¬ (7 : Nat) = 1 by decide, show ¬ (7 : Nat) = 2 by decide, show ¬ (7 : Nat) = 3 by decide, show ¬ (7 : Nat) = 4 by decide, show ¬ (7 : Nat) = 5 by decide, show ¬ (7 : Nat) = 6 by decide, show ¬ (7 : Nat) = 8 by decide, show ¬ (7 : Nat) = 9 by decide, show ¬ (7 : Nat) = 10 by decide, show ¬ (8 : Nat) = 0 by decide, show ¬ (8 : Nat) = 1 by decide, show ¬ (8 : Nat) = 2 by decide, show ¬ (8 : Nat) = 3 by decide, show ¬ (8 : Nat) = 4 by decide, show ¬ (8 : Nat) = 5 by decide, show ¬ (8 : Nat) = 6 by decide, show ¬ (8 : Nat) = 7 by decide, show ¬ (8 : Nat) = 9 by decide, show ¬ (8 : Nat) = 10 by decide, show ¬ (9 : Nat) = 0 by decide, show ¬ (9 : Nat) = 1 by decide, show ¬ (9 : Nat) = 2 by decide, show ¬ (9 : Nat) = 3 by decide, show ¬ (9 : Nat) = 4 by decide, show ¬ (9 : Nat) = 5 by decide, show ¬ (9 : Nat) = 6 by decide, show ¬ (9 : Nat) = 7 by decide, show ¬ (9 : Nat) = 8 by decide, show ¬ (9 : Nat) = 10 by decide, show ¬ (10 : Nat) = 0 by decide, show ¬ (10 : Nat) = 1 by decide, show ¬ (10 : Nat) = 2 by decide, show ¬ (10 : Nat) = 3 by decide, show ¬ (10 : Nat) = 4 by decide, show ¬ (10 : Nat) = 5 by decide, show ¬ (10 : Nat) = 6 by decide, show ¬ (10 : Nat) = 7 by decide, show ¬ (10 : Nat) = 8 by decide, show ¬ (10 : Nat) = 9 by decide, if_false]
        refine ⟨fun _ => ⟨trivial, trivial, by omega⟩, fun b _ h => absurd h (by omega), fun b d _ _ h => absurd h (by omega), ?_, by omega⟩
        exact (cntF_0 _ _ (fun _ _ => rfl)).symm
      · exact IVs_cg (f _ (by omega) (by omega) (by omega) (by omega) (by omega)) (f _ (by omega) (by omega) (by omega) (by omega) (by omega)) (f _ (by omega) (by omega) (by omega) (by omega) (by omega)) (iv_s hI (by omega))
    · rw [e14, f 17 (by omega) (by omega) (by omega) (by omega) (by omega)]
      intro j hj
      have := iv_z hI j hj
      exact ⟨by rw [gup_ap]; split; rfl; exact this.1, this.2⟩
  · intro j
    rw [f 17 (by omega) (by omega) (by omega) (by omega) (by omega), f 2 (by omega) (by omega) (by omega) (by omega) (by omega)]
    exact hJ j
  · obtain ⟨b1, b2, b3', b4, b5, b6, b7, b8, b9, b10, b11, b12, b13, b14, b15⟩ := rb_of hR
    have en : (A 20 23).toNat = s := by rw [b3']; exact es
    have eo : opnS A c p w = gup (gup (gup (gup (gup (gup (gup (gup (gup A 23 c.toNat 1) 28 c.toNat (-1)) 45 s (A 24 c.toNat)) 46 s (A 25 c.toNat)) 48 s p) 49 s w) 50 s c) 51 s (-1)) 20 23 (A 20 23 + 1) := by unfold opnS; rw [b5, if_pos h14, en]
    have fA : ∀ n, n ≠ 23 → n ≠ 29 → n ≠ 28 → n ≠ 24 → n ≠ 20 → (n < 45 ∨ n = 47 ∨ 51 < n) → opnR A c p w n = A n := fun n q1 q2 q3 q4 q5 q6 => by
      rw [opnR_ne _ _ _ _ q1 q2]; unfold opn1; rw [eo, gup_ne q4, gup_ne q5, gup_ne (by omega), gup_ne (by omega), gup_ne (by omega), gup_ne (by omega), gup_ne (by omega), gup_ne (by omega), gup_ne q3, gup_ne q1]
    have e20 : ∀ j, j ≠ 23 → opnR A c p w 20 j = A 20 j := fun j q => by
      rw [opnR_ne _ _ _ _ (by omega) (by omega)]; unfold opn1; rw [eo, gup_ne (by decide), gup_ap, if_neg (by omega), gup_ne (by decide), gup_ne (by decide), gup_ne (by decide), gup_ne (by decide), gup_ne (by decide), gup_ne (by decide), gup_ne (by decide), gup_ne (by decide)]
    have e2023 : opnR A c p w 20 23 = (s : Int) + 1 := by
      rw [opnR_ne _ _ _ _ (by omega) (by omega)]; unfold opn1; rw [eo, gup_ne (by decide), gup_ap, if_pos ⟨rfl, rfl⟩, b3', hs]
    have fS : ∀ n j, 45 ≤ n → n ≤ 52 → j ≠ s → opnR A c p w n j = A n j := fun n j q1 q2 q3 => by
      rw [opnR_ne _ _ _ _ (by omega) (by omega)]; unfold opn1; rw [eo, gup_ne (by omega), gup_ne (by omega)]
      simp only [gup_ap, q3, and_false, if_false]
      rw [if_neg (by omega), if_neg (by omega)]
    have vS : opnR A c p w 45 s = B 14 c.toNat ∧ opnR A c p w 46 s = B 15 c.toNat ∧ opnR A c p w 48 s = p ∧ opnR A c p w 49 s = w ∧ opnR A c p w 50 s = c ∧ opnR A c p w 51 s = -1 := by
      refine ⟨?_, ?_, ?_, ?_, ?_, ?_⟩ <;> rw [opnR_ne _ _ _ _ (by omega) (by omega)] <;> unfold opn1 <;> rw [eo, gup_ne (by decide), gup_ne (by decide)] <;> simp [gup_ap, b5, b6]
    have e24 : opnR A c p w 24 = uncA B c w p 14 := by
      rw [opnR_ne _ _ _ _ (by decide) (by decide), e14]; unfold opn1
      funext j; rw [gup_ap, gup_ap]
      by_cases h : j = c.toNat
      · rw [if_pos ⟨rfl, h⟩, if_pos ⟨rfl, h⟩]
      · rw [if_neg (by omega), if_neg (by omega), opnS_ne _ _ _ _ _ (by decide), b5]
    have e28 : opnR A c p w 28 = B 17 := by
      rw [opnR_ne _ _ _ _ (by decide) (by decide)]; unfold opn1; rw [eo, gup_ne (by decide), gup_ne (by decide), gup_ne (by decide), gup_ne (by decide), gup_ne (by decide), gup_ne (by decide), gup_ne (by decide), gup_ne (by decide)]
      funext j; rw [gup_ap]; split
      · next h => rw [h.2, h17]
      · rw [gup_ne (by decide), b9]
    have e23 : opnR A c p w 23 = uncA B c w p 12 := by
      rw [eu]
      refine opnR_23 hc ?_ ?_
      · funext j; rw [gup_ap, e12, b4]; simp
      · rw [b8, e16]
    have hs0 := rl_s0 hR (s := s) (by omega)
    refine rel_mk ?_ ?_ ?_ ?_ ?_
    · have esum : sumF (fun t => uncA B c w p (200 + 3 * t) 4) ((s : Int) + 1).toNat = sumF (fun t => B (200 + 3 * t) 4) s := by
        rw [show ((s : Int) + 1).toNat = s + 1 by omega, sumF, g0, z0]
        rw [sumF_cg (g := fun t => B (200 + 3 * t) 4) (fun i hi => by rw [f _ (by omega) (by omega) (by omega) (by omega) (by omega)])]
        simp
      unfold RB
      rw [b32, esum, e2023, e20 1 (by omega), e20 9 (by omega), e20 35 (by omega), e20 36 (by omega), e23, e24, e28, fA 25 (by omega) (by omega) (by omega) (by omega) (by omega) (by omega), fA 26 (by omega) (by omega) (by omega) (by omega) (by omega) (by omega), fA 27 (by omega) (by omega) (by omega) (by omega) (by omega) (by omega), fA 40 (by omega) (by omega) (by omega) (by omega) (by omega) (by omega), fA 41 (by omega) (by omega) (by omega) (by omega) (by omega) (by omega), fA 42 (by omega) (by omega) (by omega) (by omega) (by omega) (by omega), fA 55 (by omega) (by omega) (by omega) (by omega) (by omega) (by omega),
        f 0 (by omega) (by omega) (by omega) (by omega) (by omega), f 2 (by omega) (by omega) (by omega) (by omega) (by omega), f 13 (by omega) (by omega) (by omega) (by omega) (by omega), f 15 (by omega) (by omega) (by omega) (by omega) (by omega), f 16 (by omega) (by omega) (by omega) (by omega) (by omega), f 17 (by omega) (by omega) (by omega) (by omega) (by omega), f 7 (by omega) (by omega) (by omega) (by omega) (by omega), f 6 (by omega) (by omega) (by omega) (by omega) (by omega), f 8 (by omega) (by omega) (by omega) (by omega) (by omega), f 9 (by omega) (by omega) (by omega) (by omega) (by omega)]
      rw [es] at b15
      exact ⟨b1, b2, rfl, rfl, rfl, b6, b7, b8, rfl, b10, b11, b12, b13, b14, b15⟩
    · rw [f 2 (by omega) (by omega) (by omega) (by omega) (by omega)]
      intro k hk
      have hk12 := vc_k hV hk
      exact RelK_cg (f _ (by omega) (by omega) (by omega) (by omega) (by omega)) (f _ (by omega) (by omega) (by omega) (by omega) (by omega)) (f _ (by omega) (by omega) (by omega) (by omega) (by omega)) (fun n q1 q2 => by rw [fA n (by omega) (by omega) (by omega) (by omega) (by omega) (by omega)]) (fun p _ => by rw [fA 38 (by omega) (by omega) (by omega) (by omega) (by omega) (by omega)]) (fun p _ => by rw [fA 39 (by omega) (by omega) (by omega) (by omega) (by omega) (by omega)]) (rl_k hR hk)
    · rw [f 2 (by omega) (by omega) (by omega) (by omega) (by omega)]
      intro k hk
      rw [fA 37 (by omega) (by omega) (by omega) (by omega) (by omega) (by omega), fA 38 (by omega) (by omega) (by omega) (by omega) (by omega) (by omega)]
      exact rl_k0 hR hk
    · intro j hj
      rw [b32] at hj
      by_cases e : j = s
      · subst e
        unfold RelS
        rw [g0, g1, g2, vS.1, vS.2.1, vS.2.2.1, vS.2.2.2.1, vS.2.2.2.2.1, vS.2.2.2.2.2, fA 47 (by omega) (by omega) (by omega) (by omega) (by omega) (by omega), fA 52 (by omega) (by omega) (by omega) (by omega) (by omega) (by omega), hs0.1, hs0.2.1, fA 53 (by omega) (by omega) (by omega) (by omega) (by omega) (by omega), fA 54 (by omega) (by omega) (by omega) (by omega) (by omega) (by omega)]
        simp only [z0, stn_1, stn_2]
        simp only [if_true, show ¬ (0 : Nat) = 1 by decide, show ¬ (0 : Nat) = 2 by decide, show ¬ (0 : Nat) = 3 by decide, show ¬ (0 : Nat) = 4 by decide, show ¬ (0 : Nat) = 5 by decide, show ¬ (0 : Nat) = 6 by decide, show ¬ (0 : Nat) = 7 by decide, show ¬ (0 : Nat) = 8 by decide, show ¬ (0 : Nat) = 9 by decide, show ¬ (0 : Nat) = 10 by decide, show ¬ (1 : Nat) = 0 by decide, show ¬ (1 : Nat) = 2 by decide, show ¬ (1 : Nat) = 3 by decide, show ¬ (1 : Nat) = 4 by decide, show ¬ (1 : Nat) = 5 by decide, show ¬ (1 : Nat) = 6 by decide, show ¬ (1 : Nat) = 7 by decide, show ¬ (1 : Nat) = 8 by decide, show ¬ (1 : Nat) = 9 by decide, show ¬ (1 : Nat) = 10 by decide, show ¬ (2 : Nat) = 0 by decide, show ¬ (2 : Nat) = 1 by decide, show ¬ (2 : Nat) = 3 by decide, show ¬ (2 : Nat) = 4 by decide, show ¬ (2 : Nat) = 5 by decide, show ¬ (2 : Nat) = 6 by decide, show ¬ (2 : Nat) = 7 by decide, show ¬ (2 : Nat) = 8 by decide, show ¬ (2 : Nat) = 9 by decide, show ¬ (2 : Nat) = 10 by decide, show ¬ (3 : Nat) = 0 by decide, show ¬ (3 : Nat) = 1 by decide, show ¬ (3 : Nat) = 2 by decide, show ¬ (3 : Nat) = 4 by decide, show ¬ (3 : Nat) = 5 by decide, show ¬ (3 : Nat) = 6 by decide, show ¬ (3 : Nat) = 7 by decide, show ¬ (3 : Nat) = 8 by decide, show ¬ (3 : Nat) = 9 by decide, show ¬ (3 : Nat) = 10 by decide, show ¬ (4 : Nat) = 0 by decide, show ¬ (4 : Nat) = 1 by decide, show ¬ (4 : Nat) = 2 by decide, show ¬ (4 : Nat) = 3 by decide, show ¬ (4 : Nat) = 5 by decide, show ¬ (4 : Nat) = 6 by decide, show ¬ (4 : Nat) = 7 by decide, show ¬ (4 : Nat) = 8 by decide, show ¬ (4 : Nat) = 9 by decide, show ¬ (4 : Nat) = 10 by decide, show ¬ (5 : Nat) = 0 by decide, show ¬ (5 : Nat) = 1 by decide, show ¬ (5 : Nat) = 2 by decide, show ¬ (5 : Nat) = 3 by decide, show ¬ (5 : Nat) = 4 by decide, show ¬ (5 : Nat) = 6 by decide, show ¬ (5 : Nat) = 7 by decide, show ¬ (5 : Nat) = 8 by decide, show ¬ (5 : Nat) = 9 by decide, show ¬ (5 : Nat) = 10 by decide, show ¬ (6 : Nat) = 0 by decide, show ¬ (6 : Nat) = 1 by decide, show ¬ (6 : Nat) = 2 by decide, show ¬ (6 : Nat) = 3 by decide, show ¬ (6 : Nat) = 4 by decide, show ¬ (6 : Nat) = 5 by decide, show ¬ (6 : Nat) = 7 by decide, show ¬ (6 : Nat) = 8 by decide, show ¬ (6 : Nat) = 9 by decide, show ¬ (6 : Nat) = 10 by decide, show ¬ (7 : Nat) = 0 by decide, show ¬ (7 : Nat) = 1 by decide, show ¬ (7 : Nat) = 2 by decide, show ¬ (7 : Nat) = 3 by decide, show ¬ (7 : Nat) = 4 by decide, show ¬ (7 : Nat) = 5 by decide, show ¬ (7 : Nat) = 6 by decide, show ¬ (7 : Nat) = 8 by decide, show ¬ (7 : Nat) = 9 by decide, show ¬ (7 : Nat) = 10 by decide, show ¬ (8 : Nat) = 0 by decide, show ¬ (8 : Nat) = 1 by decide, show ¬ (8 : Nat) = 2 by decide, show ¬ (8 : Nat) = 3 by decide, show ¬ (8 : Nat) = 4 by decide, show ¬ (8 : Nat) = 5 by decide, show ¬ (8 : Nat) = 6 by decide, show ¬ (8 : Nat) = 7 by decide, show ¬ (8 : Nat) = 9 by decide, show ¬ (8 : Nat) = 10 by decide, show ¬ (9 : Nat) = 0 by decide, show ¬ (9 : Nat) = 1 by decide, show ¬ (9 : Nat) = 2 by decide, show ¬ (9 : Nat) = 3 by decide, show ¬ (9 : Nat) = 4 by decide, show ¬ (9 : Nat) = 5 by decide, show ¬ (9 : Nat) = 6 by decide, show ¬ (9 : Nat) = 7 by decide, show ¬ (9 : Nat) = 8 by decide, show ¬ (9 : Nat) = 10 by decide, show ¬ (10 : Nat) = 0 by decide, show ¬ (10 : Nat) = 1 by decide, show ¬ (10 : Nat) = 2 by decide, show ¬ (10 : Nat) = 3 by decide, show ¬ (10 : Nat) = 4 by decide, show ¬ (10 : Nat) = 5 by decide, show ¬ (10 : Nat) = 6 by decide, show ¬ (10 : Nat) = 7 by decide, show ¬ (10 : Nat) = 8 by decide, show ¬ (10 : Nat) = 9 by decide, if_false, true_and]
        exact ⟨fun b hb => (hs0.2.2 b hb).1, fun b hb => (hs0.2.2 b hb).2⟩
      · exact RelS_cg (f _ (by omega) (by omega) (by omega) (by omega) (by omega)) (f _ (by omega) (by omega) (by omega) (by omega) (by omega)) (f _ (by omega) (by omega) (by omega) (by omega) (by omega)) (fun n q1 q2 => fS n j q1 q2 e) (fun p _ => by rw [fA 53 (by omega) (by omega) (by omega) (by omega) (by omega) (by omega)]) (fun p _ => by rw [fA 54 (by omega) (by omega) (by omega) (by omega) (by omega) (by omega)]) (rl_s hR (by omega))
    · intro j hj
      rw [b32] at hj
      rw [fA 47 (by omega) (by omega) (by omega) (by omega) (by omega) (by omega), fA 52 (by omega) (by omega) (by omega) (by omega) (by omega) (by omega), fA 53 (by omega) (by omega) (by omega) (by omega) (by omega) (by omega), fA 54 (by omega) (by omega) (by omega) (by omega) (by omega) (by omega)]
      exact rl_s0 hR (by omega)
end GUNC1

