section GST
variable {L : Nat → Nat} {B B' A A' : Mem}
/-- only one stone has changed, and the purses and the money -/
theorem rel_stone {s : Nat} (hV : VC L B) (hR : Rel B A) (hf : ∀ n, n ≠ 6 → n ≠ 9 → n ≠ 200 + 3 * s → n ≠ 201 + 3 * s → n ≠ 202 + 3 * s → B' n = B n) (hA : ∀ n, 23 ≤ n → n ≤ 44 → n ≠ 41 → n ≠ 43 → A' n = A n) (hA0 : ∀ j, j ≠ 0 → j ≠ 36 → A' 20 j = A 20 j) (h41 : A' 41 = B' 6) (h55 : A' 55 = B' 9) (h36 : A' 20 36 = sumF (fun i => B' (200 + 3 * i) 4) (B 3 2).toNat) (hAs : ∀ n i, 45 ≤ n → n ≤ 52 → i ≠ s → A' n i = A n i) (h3 : ∀ i, i < 5 * s ∨ 5 * s + 5 ≤ i → A' 53 i = A 53 i) (h4 : ∀ i, i < 5 * s ∨ 5 * s + 5 ≤ i → A' 54 i = A 54 i) (hs : (s : Int) < B 3 2) (hS : RelS B' A' s) : Rel B' A' := by
  obtain ⟨b1, b2, b3, b4, b5, b6, b7, b8, b9, b10, b11, b12, b13, b14, b15⟩ := rb_of hR
  have e : ∀ n, n < 200 → n ≠ 6 → n ≠ 9 → B' n = B n := fun n q q1 q2 => hf n q1 q2 (by omega) (by omega) (by omega)
  refine rel_mk ?_ ?_ ?_ ?_ ?_
  · unfold RB
    rw [e 0 (by omega) (by omega) (by omega), e 2 (by omega) (by omega) (by omega), e 3 (by omega) (by omega) (by omega), e 12 (by omega) (by omega) (by omega), e 13 (by omega) (by omega) (by omega), e 14 (by omega) (by omega) (by omega), e 15 (by omega) (by omega) (by omega), e 16 (by omega) (by omega) (by omega), e 17 (by omega) (by omega) (by omega), e 7 (by omega) (by omega) (by omega), e 8 (by omega) (by omega) (by omega), hA0 1 (by omega) (by omega), hA0 9 (by omega) (by omega), hA0 23 (by omega) (by omega), hA0 35 (by omega) (by omega), hA 23 (by omega) (by omega) (by omega) (by omega), hA 24 (by omega) (by omega) (by omega) (by omega), hA 25 (by omega) (by omega) (by omega) (by omega), hA 26 (by omega) (by omega) (by omega) (by omega), hA 27 (by omega) (by omega) (by omega) (by omega), hA 28 (by omega) (by omega) (by omega) (by omega), hA 40 (by omega) (by omega) (by omega) (by omega), hA 42 (by omega) (by omega) (by omega) (by omega)]
    exact ⟨b1, b2, b3, b4, b5, b6, b7, b8, b9, b10, h41, b12, h55, b14, h36⟩
  · rw [e 2 (by omega) (by omega) (by omega)]
    intro k hk
    have hk2 := vc_k hV hk
    exact RelK_cg (e _ (by omega) (by omega) (by omega)) (e _ (by omega) (by omega) (by omega)) (e _ (by omega) (by omega) (by omega)) (fun n _ _ => by rw [hA n (by omega) (by omega) (by omega) (by omega)]) (fun p _ => by rw [hA 38 (by omega) (by omega) (by omega) (by omega)]) (fun p _ => by rw [hA 39 (by omega) (by omega) (by omega) (by omega)]) (rl_k hR hk)
  · rw [e 2 (by omega) (by omega) (by omega), hA 37 (by omega) (by omega) (by omega) (by omega), hA 38 (by omega) (by omega) (by omega) (by omega)]
    exact fun k hk => rl_k0 hR hk
  · rw [e 3 (by omega) (by omega) (by omega)]
    intro j hj
    by_cases hjk : j = s
    · rw [hjk]; exact hS
    · exact RelS_cg (hf _ (by omega) (by omega) (by omega) (by omega) (by omega)) (hf _ (by omega) (by omega) (by omega) (by omega) (by omega)) (hf _ (by omega) (by omega) (by omega) (by omega) (by omega)) (fun n h1 h2 => hAs n j h1 h2 hjk) (fun p hp => h3 _ (by omega)) (fun p hp => h4 _ (by omega)) (rl_s hR hj)
  · rw [e 3 (by omega) (by omega) (by omega)]
    intro j hj
    have := rl_s0 hR hj
    exact ⟨by rw [hAs 47 j (by omega) (by omega) (by omega)]; exact this.1, by rw [hAs 52 j (by omega) (by omega) (by omega)]; exact this.2.1, fun b hb => by rw [h3 _ (by omega), h4 _ (by omega)]; exact this.2.2 b hb⟩
theorem vc_stone {s : Nat} (hV : VC L B) (hf : ∀ n, n ≠ 6 → n ≠ 9 → n ≠ 200 + 3 * s → n ≠ 201 + 3 * s → n ≠ 202 + 3 * s → B' n = B n) (hp : PVd B') (hS : SV B' s) : VC L B' := by
  have e : ∀ n, n < 200 → n ≠ 6 → n ≠ 9 → B' n = B n := fun n q q1 q2 => hf n q1 q2 (by omega) (by omega) (by omega)
  refine vc_upd hV (e 2 (by omega) (by omega) (by omega)) (e 3 (by omega) (by omega) (by omega)) (e 4 (by omega) (by omega) (by omega)) (e 5 (by omega) (by omega) (by omega)) (fun k hk => ?_) (fun j hj => ?_) (GVd_cg (fun n _ _ => e n (by omega) (by omega) (by omega)) (vc_g hV)) hp
  · have hk2 := vc_k hV hk
    exact CV_cg (e _ (by omega) (by omega) (by omega)) (e _ (by omega) (by omega) (by omega)) (e _ (by omega) (by omega) (by omega)) (vc_cv hV hk)
  · by_cases hjk : j = s
    · rw [hjk]; exact hS
    · exact SV_cg (hf _ (by omega) (by omega) (by omega) (by omega) (by omega)) (hf _ (by omega) (by omega) (by omega) (by omega) (by omega)) (hf _ (by omega) (by omega) (by omega) (by omega) (by omega)) (vc_sv hV hj)
theorem iv_stone {s : Nat} (hV : VC L B) (hI : IV B) (hf : ∀ n, n ≠ 6 → n ≠ 9 → n ≠ 200 + 3 * s → n ≠ 201 + 3 * s → n ≠ 202 + 3 * s → B' n = B n) (hm : sumF (B' 6) 8 + sumF (B' 9) 5 = 100000) (hS : IVs B' s) : IV B' := by
  have e : ∀ n, n < 200 → n ≠ 6 → n ≠ 9 → B' n = B n := fun n q q1 q2 => hf n q1 q2 (by omega) (by omega) (by omega)
  refine iv_upd hI (e 2 (by omega) (by omega) (by omega)) (e 3 (by omega) (by omega) (by omega)) ?_ ?_ ?_ hm (fun k hk => ?_) (fun j hj => ?_) ?_
  · rw [e 12 (by omega) (by omega) (by omega), e 16 (by omega) (by omega) (by omega)]; exact iv_p hI
  · rw [e 14 (by omega) (by omega) (by omega), e 13 (by omega) (by omega) (by omega)]; exact iv_t hI
  · rw [e 14 (by omega) (by omega) (by omega), e 13 (by omega) (by omega) (by omega), e 3 (by omega) (by omega) (by omega)]; exact iv_n hI
  · have hk2 := vc_k hV hk
    exact IVk_cg (e _ (by omega) (by omega) (by omega)) (e _ (by omega) (by omega) (by omega)) (e 17 (by omega) (by omega) (by omega)) (iv_k hI hk)
  · by_cases hjk : j = s
    · rw [hjk]; exact hS
    · exact IVs_cg (hf _ (by omega) (by omega) (by omega) (by omega) (by omega)) (hf _ (by omega) (by omega) (by omega) (by omega) (by omega)) (hf _ (by omega) (by omega) (by omega) (by omega) (by omega)) (iv_s hI hj)
  · rw [e 14 (by omega) (by omega) (by omega), e 17 (by omega) (by omega) (by omega)]; exact iv_z hI
end GST
theorem sumF_one {f g : Nat → Int} {s n : Nat} (hs : s < n) (h : ∀ i, i ≠ s → f i = g i) : sumF f n = sumF g n + f s - g s := by
  induction n with
  | zero => omega
  | succ n ih =>
    simp only [sumF]
    by_cases h1 : s = n
    · rw [sumF_cg (f := f) (g := g) (n := n) (fun i hi => h i (by omega)), h1]; omega
    · rw [ih (by omega), h n (by omega)]; omega
section GKEEP3
variable {L : Nat → Nat} {B A : Mem}
theorem keep_rub {x : Int} (hV : VC L B) (hI : IV B) (hR : Rel B A) (he : rubE B x = 0) : VC L (rubA B x.toNat) ∧ IV (rubA B x.toNat) ∧ Rel (rubA B x.toNat) (rubR A x.toNat) := by
  have h0 : (0 ≤ x ∧ x < B 3 2) ∧ plC B x.toNat = 1 ∧ lusC (B (200 + 3 * x.toNat) 5) (B (200 + 3 * x.toNat) 1) ≠ 2 := by unfold rubE at he; grind
  obtain ⟨s, rfl⟩ : ∃ s : Nat, x = s := ⟨x.toNat, by omega⟩
  have e1 : ((s : Int)).toNat = s := by omega
  rw [e1] at h0 ⊢
  have hs : (s : Int) < B 3 2 := h0.1.2
  have hp1 := plC_1 hV hs h0.2.1
  have hr : B (200 + 3 * s) 5 ≤ B (200 + 3 * s) 1 + 2 := by have := h0.2.2; unfold lusC at this; grind
  have hsv := vc_sv hV hs
  have his := iv_s hI hs
  have rs := rl_s hR hs
  have f : ∀ n, n ≠ 200 + 3 * s → rubA B s n = B n := fun n q => by unfold rubA; rw [gup_ne q, gup_ne q, gup_ne q]
  have g : ∀ j, j ≠ 3 → j ≠ 4 → j ≠ 5 → rubA B s (200 + 3 * s) j = B (200 + 3 * s) j := fun j q1 q2 q3 => by unfold rubA; rw [gup_ap, if_neg (by omega), gup_ap, if_neg (by omega), gup_ap, if_neg (by omega)]
  have g3 : rubA B s (200 + 3 * s) 3 = B (200 + 3 * s) 3 - B (200 + 3 * s) 3 / 10 := by unfold rubA; rw [gup_ap, if_neg (by omega), gup_ap, if_neg (by omega), gup_at]
  have g4 : rubA B s (200 + 3 * s) 4 = B (200 + 3 * s) 4 + B (200 + 3 * s) 3 / 10 := by unfold rubA; rw [gup_ap, if_neg (by omega), gup_at]
  have g5 : rubA B s (200 + 3 * s) 5 = B (200 + 3 * s) 5 + 1 := by unfold rubA; rw [gup_at]
  have hf : ∀ n, n ≠ 6 → n ≠ 9 → n ≠ 200 + 3 * s → n ≠ 201 + 3 * s → n ≠ 202 + 3 * s → rubA B s n = B n := fun n _ _ q _ _ => f n q
  refine ⟨vc_stone hV hf ?_ ?_, iv_stone hV hI hf ?_ ?_, ?_⟩
  · exact PVd_cg (f 0 (by omega)) (fun n _ _ => f n (by omega)) (vc_p hV)
  · obtain ⟨a1, a2, a3, a4, a5, a6, a7, a8, a9, a10, a11⟩ := hsv
    have h9 := his.2.2.2.2
    unfold SV
    rw [g 0 (by omega) (by omega) (by omega), g 1 (by omega) (by omega) (by omega), g 2 (by omega) (by omega) (by omega), g 6 (by omega) (by omega) (by omega), g 7 (by omega) (by omega) (by omega), g 8 (by omega) (by omega) (by omega), g3, g4, g5, f (201 + 3 * s) (by omega), f (202 + 3 * s) (by omega)]
    exact ⟨a1, a2, a3, by omega, by omega, by omega, a7, a8, a9, a10, a11⟩
  · rw [f 6 (by omega), f 9 (by omega)]; exact iv_m hI
  · obtain ⟨a1, a2, a3, a4, a5⟩ := his
    unfold IVs
    rw [g 6 (by omega) (by omega) (by omega), g 7 (by omega) (by omega) (by omega), g 8 (by omega) (by omega) (by omega), g3, g4, g5, f (201 + 3 * s) (by omega), f (202 + 3 * s) (by omega)]
    exact ⟨fun q => by omega, a2, a3, a4, by omega⟩
  · have fA : ∀ n, n ≠ 20 → n ≠ 45 → n ≠ 47 → rubR A s n = A n := fun n q1 q2 q3 => by unfold rubR; rw [gup_ne q3, gup_ne q1, gup_ne q2, gup_ne q1]
    have f45 : ∀ i, rubR A s 45 i = if i = s then A 45 s - A 45 s / 10 else A 45 i := fun i => by unfold rubR; rw [gup_ne (by omega), gup_ne (by omega), gup_ap, gup_ne (by omega)]; simp
    have f47 : ∀ i, rubR A s 47 i = if i = s then A 47 s + 1 else A 47 i := fun i => by unfold rubR; rw [gup_ap, gup_ne (by omega), gup_ne (by omega), gup_ne (by omega)]; simp
    have f20 : ∀ j, j ≠ 0 → rubR A s 20 j = if j = 36 then A 20 36 + A 45 s / 10 else A 20 j := fun j q => by unfold rubR; rw [gup_ne (by omega), gup_ap, gup_ne (by omega), gup_ap, if_neg (show ¬ (20 = 20 ∧ j = 0) by omega)]; simp
    refine rel_stone hV hR hf (fun n _ _ _ _ => fA n (by omega) (by omega) (by omega)) (fun j q1 q2 => by rw [f20 j q1, if_neg q2]) (by rw [fA 41 (by omega) (by omega) (by omega), f 6 (by omega)]; exact rl_mo hR) (by rw [fA 55 (by omega) (by omega) (by omega), f 9 (by omega)]; exact rl_pu hR) ?_ (fun n i q1 q2 q3 => ?_) (fun i _ => by rw [fA 53 (by omega) (by omega) (by omega)]) (fun i _ => by rw [fA 54 (by omega) (by omega) (by omega)]) hs ?_
    · rw [f20 36 (by omega), if_pos rfl, sumF_one (f := fun i => rubA B s (200 + 3 * i) 4) (g := fun i => B (200 + 3 * i) 4) (s := s) (by omega) (fun i hi => by show rubA B s (200 + 3 * i) 4 = _; rw [f _ (by omega)])]
      show _ = _ + rubA B s (200 + 3 * s) 4 - B (200 + 3 * s) 4
      rw [g4, rl_lost hR, rs.1]; omega
    · by_cases q4 : n = 45
      · rw [q4, f45, if_neg q3]
      · by_cases q5 : n = 47
        · rw [q5, f47, if_neg q3]
        · rw [fA n (by omega) q4 q5]
    · unfold RelS at *
      obtain ⟨a1, a2, a3, a4, a5, a6, a7, a8, a9, a10⟩ := rs
      rw [f45, if_pos rfl, f47, if_pos rfl, fA 46 (by omega) (by omega) (by omega), fA 48 (by omega) (by omega) (by omega), fA 49 (by omega) (by omega) (by omega), fA 50 (by omega) (by omega) (by omega), fA 51 (by omega) (by omega) (by omega), fA 52 (by omega) (by omega) (by omega), fA 53 (by omega) (by omega) (by omega), fA 54 (by omega) (by omega) (by omega), g 0 (by omega) (by omega) (by omega), g 1 (by omega) (by omega) (by omega), g 2 (by omega) (by omega) (by omega), g 6 (by omega) (by omega) (by omega), g 7 (by omega) (by omega) (by omega), g 8 (by omega) (by omega) (by omega), g3, g5, f (201 + 3 * s) (by omega), f (202 + 3 * s) (by omega)]
      exact ⟨by rw [a1], a2, by rw [a3], a4, a5, a6, a7, a8, a9, a10⟩
def bidR (A : Mem) (b : Nat) (s : Nat) (y : Int) : Mem := gup (gup (gup (gup A 20 0 0) 53 (5 * s + b) y) 54 (5 * s + b) (A 52 s)) 52 s (A 52 s + 1)
theorem keep_bid {b x y : Int} (hV : VC L B) (hI : IV B) (hR : Rel B A) (he : bidE B b x y = 0) : VC L (bidA B b x.toNat y) ∧ IV (bidA B b x.toNat y) ∧ Rel (bidA B b x.toNat y) (bidR A b.toNat x.toNat y) := by
  have h0 : ((0 ≤ b ∧ b < 5) ∧ 0 ≤ x ∧ x < B 3 2) ∧ (1 ≤ y ∧ y ≤ 99999) ∧ plC B x.toNat = 1 ∧ ¬ 0 < B (201 + 3 * x.toNat) b.toNat := by unfold bidE at he; grind
  obtain ⟨s, rfl⟩ : ∃ s : Nat, x = s := ⟨x.toNat, by omega⟩
  obtain ⟨c, rfl⟩ : ∃ c : Nat, b = c := ⟨b.toNat, by omega⟩
  have e1 : ((s : Int)).toNat = s := by omega
  have e2 : ((c : Int)).toNat = c := by omega
  rw [e1, e2] at h0
  rw [e1, e2]
  obtain ⟨⟨⟨_, hc⟩, _, hs⟩, hy, hpl, hnb⟩ := h0
  have hp1 := plC_1 hV hs hpl
  have hsv := vc_sv hV hs
  have his := iv_s hI hs
  have rs := rl_s hR hs
  have f : ∀ n, n ≠ 200 + 3 * s → n ≠ 201 + 3 * s → n ≠ 202 + 3 * s → bidA B c s y n = B n := fun n q0 q1 q2 => by unfold bidA; rw [gup_ne q0, gup_ne q2, gup_ne q1]
  have g : ∀ j, bidA B c s y (200 + 3 * s) j = if j = 8 then B (200 + 3 * s) 8 + 1 else B (200 + 3 * s) j := fun j => by unfold bidA; rw [gup_ap, gup_ne (by omega), gup_ne (by omega)]; simp
  have g1 : ∀ j, bidA B c s y (201 + 3 * s) j = if j = c then y else B (201 + 3 * s) j := fun j => by unfold bidA; rw [e2, gup_ne (by omega), gup_ne (by omega), gup_ap]; simp
  have g2 : ∀ j, bidA B c s y (202 + 3 * s) j = if j = c then B (200 + 3 * s) 8 else B (202 + 3 * s) j := fun j => by unfold bidA; rw [e2, gup_ne (by omega), gup_ap, gup_ne (by omega)]; simp
  have hf : ∀ n, n ≠ 6 → n ≠ 9 → n ≠ 200 + 3 * s → n ≠ 201 + 3 * s → n ≠ 202 + 3 * s → bidA B c s y n = B n := fun n _ _ q0 q1 q2 => f n q0 q1 q2
  have hc8 : cntF (fun b => decide (0 < bidA B c s y (201 + 3 * s) b)) 5 = B (200 + 3 * s) 8 + 1 := by
    have e3 : bidA B c s y (201 + 3 * s) = gup B (201 + 3 * s) c y (201 + 3 * s) := by funext j; rw [g1, gup_ap]; simp
    rw [e3, cntF_gup, if_pos (by omega), decide_eq_true (by omega), decide_eq_false hnb, his.2.2.2.1, b2_t, b2_f]; omega
  have hc5 := cntF_rg (fun b => decide (0 < bidA B c s y (201 + 3 * s) b)) 5
  refine ⟨vc_stone hV hf ?_ ?_, iv_stone hV hI hf ?_ ?_, ?_⟩
  · exact PVd_cg (f 0 (by omega) (by omega) (by omega)) (fun n _ _ => f n (by omega) (by omega) (by omega)) (vc_p hV)
  · obtain ⟨a1, a2, a3, a4, a5, a6, a7, a8, a9, a10, a11⟩ := hsv
    unfold SV
    simp only [g, g1, g2]
    simp
    refine ⟨a1, a2, a3, a4, a5, a6, a7, a8, by omega, fun j => ?_, fun j => ?_⟩
    · have := a10 j; split <;> omega
    · have := a11 j; split <;> omega
  · rw [f 6 (by omega) (by omega) (by omega), f 9 (by omega) (by omega) (by omega)]; exact iv_m hI
  · obtain ⟨a1, a2, a3, a4, a5⟩ := his
    unfold IVs
    rw [hc8]
    simp only [g, g1, g2]
    simp
    refine ⟨by simpa using a1, fun j hj h9 => ?_, fun j i hj hi h8 h9 h7 => ?_, a5⟩
    · by_cases q : j = c
      · rw [if_pos q]; omega
      · rw [if_neg q] at h9 ⊢; have := a2 j hj h9; omega
    · by_cases q : j = c
      · by_cases q2 : i = c
        · omega
        · rw [if_pos q, if_neg q2] at h7; rw [if_neg q2] at h9; have := a2 i hi h9; omega
      · by_cases q2 : i = c
        · rw [if_neg q, if_pos q2] at h7; rw [if_neg q] at h8; have := a2 j hj h8; omega
        · rw [if_neg q, if_neg q2] at h7; rw [if_neg q] at h8; rw [if_neg q2] at h9; exact a3 j i hj hi h8 h9 h7
  · have r8 := rs.2.2.2.2.2.2.2.1
    have fA : ∀ n, n ≠ 20 → n ≠ 52 → n ≠ 53 → n ≠ 54 → bidR A c s y n = A n := fun n q1 q2 q3 q4 => by unfold bidR; rw [gup_ne q2, gup_ne q4, gup_ne q3, gup_ne q1]
    have f20 : ∀ j, j ≠ 0 → bidR A c s y 20 j = A 20 j := fun j q => by unfold bidR; rw [gup_ne (by omega), gup_ne (by omega), gup_ne (by omega), gup_ap, if_neg (by omega)]
    have f52 : ∀ i, bidR A c s y 52 i = if i = s then A 52 s + 1 else A 52 i := fun i => by unfold bidR; rw [gup_ap, gup_ne (by omega), gup_ne (by omega), gup_ne (by omega)]; simp
    have f53 : ∀ i, bidR A c s y 53 i = if i = 5 * s + c then y else A 53 i := fun i => by unfold bidR; rw [gup_ne (by omega), gup_ne (by omega), gup_ap, gup_ne (by omega)]; simp
    have f54 : ∀ i, bidR A c s y 54 i = if i = 5 * s + c then A 52 s else A 54 i := fun i => by unfold bidR; rw [gup_ne (by omega), gup_ap, gup_ne (by omega), gup_ne (by omega)]; simp
    refine rel_stone hV hR hf (fun n _ _ _ _ => fA n (by omega) (by omega) (by omega) (by omega)) (fun j q1 q2 => f20 j q1) (by rw [fA 41 (by omega) (by omega) (by omega) (by omega), f 6 (by omega) (by omega) (by omega)]; exact rl_mo hR) (by rw [fA 55 (by omega) (by omega) (by omega) (by omega), f 9 (by omega) (by omega) (by omega)]; exact rl_pu hR) ?_ (fun n i q1 q2 q3 => ?_) (fun i _ => by rw [f53, if_neg (by omega)]) (fun i _ => by rw [f54, if_neg (by omega)]) hs ?_
    · rw [f20 36 (by omega), rl_lost hR]
      refine sumF_cg (fun i hi => ?_)
      by_cases q : i = s
      · rw [q, g, if_neg (by omega)]
      · rw [f _ (by omega) (by omega) (by omega)]
    · by_cases q4 : n = 52
      · rw [q4, f52, if_neg q3]
      · rw [fA n (by omega) q4 (by omega) (by omega)]
    · unfold RelS at *
      obtain ⟨a1, a2, a3, a4, a5, a6, a7, a8, a9, a10⟩ := rs
      rw [f52, if_pos rfl, fA 45 (by omega) (by omega) (by omega) (by omega), fA 46 (by omega) (by omega) (by omega) (by omega), fA 47 (by omega) (by omega) (by omega) (by omega), fA 48 (by omega) (by omega) (by omega) (by omega), fA 49 (by omega) (by omega) (by omega) (by omega), fA 50 (by omega) (by omega) (by omega) (by omega), fA 51 (by omega) (by omega) (by omega) (by omega)]
      simp only [g, g1, g2]
      simp
      refine ⟨a1, a2, a3, a4, a5, a6, a7, by rw [a8], fun j hj => ?_, fun j hj => ?_⟩
      · rw [f53]
        by_cases q : j = c
        · rw [if_pos q, if_pos (by omega)]
        · rw [if_neg q, if_neg (by omega)]; exact a9 j hj
      · rw [f54]
        by_cases q : j = c
        · rw [if_pos q, if_pos (by omega), r8]
        · rw [if_neg q, if_neg (by omega)]; exact a10 j hj
def selR (A : Mem) (s : Nat) (w : Nat) : Mem := gup (gup (gup (gup A 20 0 0) 55 w (A 55 w - A 53 (5 * s + w))) 41 (A 48 s).toNat (A 41 (A 48 s).toNat + A 53 (5 * s + w))) 51 s w
end GKEEP3

set_option maxHeartbeats 1000000 in
set_option maxRecDepth 20000 in
theorem c_X4_witness {L : Nat → Nat} {A B : Mem} (hM : LM L) (hV : VC L B) (hR : Rel B A) (hI : IV B) {x p h : Int} (hx : -2147483648 ≤ x ∧ x < 2147483648) (hp : -2147483648 ≤ p ∧ p < 2147483648) (hh : -2147483648 ≤ h ∧ h < 2147483648) : Ct mX4_witness [gr 20, gi x, gi p, gi h] L A (pr (some (gi (if witE B x p h = 0 then witV B x p h else 0))) L (if witE B x p h = 0 then gup (gup A 20 0 0) 39 (8 * x.toNat + p.toNat) h else gup A 20 0 (witE B x p h : Nat))) := by
  have hnc := vc_nc hV; have hns := vc_ns hV; have hp0 := (vc_p hV).1
  have rnow := rl_now hR; have rnc := rl_nc hR; have rns := rl_ns hR
  have hp0 := (vc_p hV).1
  refine Ct_of (ls := [(0, _), (1, _), (2, _), (3, _)]) rfl (by decide) (fun _ => rfl) (fun _ => Nat.le_of_ble_eq_true rfl) ?_
  refine g_aload_n 0 dX4_witness_0 rfl rfl ?_
  refine g_aload_n 0 dX4_witness_1 rfl rfl ?_
  refine g_iload_n 1 dX4_witness_2 rfl rfl ?_
  by_cases hs3 : 0 ≤ x ∧ x < B 2 2
  · skip
    obtain ⟨k, rfl⟩ : ∃ k : Nat, x = k := ⟨x.toNat, by omega⟩
    have hk : (k : Int) < B 2 2 := by omega
    have rk := rl_k hR hk; have hcv := vc_cv hV hk; have hk12 := vc_k hV hk
    refine g_cV_i (My := mX4_isClaim) (gs := [_]) (c_X4_isClaim hM hV hR (by omega)) mfX4_isClaim cf_5 wi_X4_isClaim wsl_X4_isClaim wm_X4_142 dX4_witness_3 (Nat.le_of_ble_eq_true rfl) rfl (by decide) (n2 (hM 20 rfl)) rfl (fun _ => Nat.le_of_ble_eq_true rfl) (Nat.le_of_ble_eq_true rfl) (Nat.le_of_ble_eq_true rfl) rfl rfl ?_
    refine g_top (y := 1) (by rw [decide_eq_true hs3]; rfl) ?_
    refine g_if_eq (tgt := 16) (by omega) dX4_witness_6 (by decide) (fun h6_1 => absurd h6_1 (by omega)) (fun h6_1 => ?_)
    refine g_iload_n 2 dX4_witness_9 rfl rfl ?_
    by_cases hs10 : 0 ≤ p ∧ p < 8
    · skip
      refine g_cS_i (My := mX4_isPerson) (gs := [_]) (c_X4_isPerson (by omega)) mfX4_isPerson rfl wst_X4_isPerson wm_X4_128 dX4_witness_10 (Nat.le_of_ble_eq_true rfl) rfl (fun _ => Nat.le_of_ble_eq_true rfl) (Nat.le_of_ble_eq_true rfl) (Nat.le_of_ble_eq_true rfl) rfl rfl ?_
      refine g_top (y := 1) (by first | (rw [decide_eq_true hs10]; rfl) | (rw [cellB, decide_eq_true hs10]; rfl)) ?_
      refine g_if_ne (tgt := 20) (by omega) dX4_witness_13 (by decide) (fun h13_2 => ?_) (fun h13_2 => absurd h13_2 (by omega))
      refine g_iload_n 3 dX4_witness_20 rfl rfl ?_
      refine g_iconst dX4_witness_21 ?_
      refine g_aload_n 0 dX4_witness_22 rfl rfl ?_
      refine g_getfi cf_5 1 rfl (by decide) (by decide) rfl (by decide) wf_X4_118 dX4_witness_23 (n2 (hM 20 rfl)) (fun h23_3 => ?_)
      by_cases hs26 : 0 ≤ h ∧ h ≤ A 20 1
      · skip
        refine g_cS_i (My := mX4_in) (gs := [_, _, _]) (c_X4_in (by omega) (by omega) (by omega)) mfX4_in rfl wst_X4_in wm_X4_108 dX4_witness_26 (Nat.le_of_ble_eq_true rfl) rfl (fun _ => Nat.le_of_ble_eq_true rfl) (Nat.le_of_ble_eq_true rfl) (Nat.le_of_ble_eq_true rfl) rfl rfl ?_
        refine g_top (y := 1) (by first | (rw [decide_eq_true hs26]; rfl) | (rw [inB, decide_eq_true hs26]; rfl)) ?_
        refine g_if_ne (tgt := 36) (by omega) dX4_witness_29 (by decide) (fun h29_4 => ?_) (fun h29_4 => absurd h29_4 (by omega))
        refine g_iconst dX4_witness_36 ?_
        refine g_putfi cf_5 0 rfl (by decide) (by decide) rfl (by decide) wf_X4_104 (Or.inl rfl) rfl dX4_witness_37 (n2 (hM 20 rfl)) (by omega) ?_
        refine g_aload_n 0 dX4_witness_40 rfl rfl ?_
        refine g_getfi cf_5 0 rfl (by decide) (by decide) rfl (by decide) wf_X4_104 dX4_witness_41 (n2 (hM 20 rfl)) (fun h41_5 => ?_)
        refine g_top (y := 0) (gup_at _ _ _ _) ?_
        refine g_if_ne (tgt := 76) (by omega) dX4_witness_44 (by decide) (fun h44_6 => absurd h44_6 (by omega)) (fun h44_6 => ?_)
        refine g_aload_n 0 dX4_witness_47 rfl rfl ?_
        refine g_iload_n 1 dX4_witness_48 rfl rfl ?_
        refine g_iload_n 2 dX4_witness_49 rfl rfl ?_
        refine g_cV_i (My := mX4_shareOf) (gs := [_, _]) (c_X4_shareOf hM hV (rl_th hR _) hk hs10) mfX4_shareOf cf_5 wi_X4_shareOf wsl_X4_shareOf wm_X4_145 dX4_witness_50 (Nat.le_of_ble_eq_true rfl) rfl (by decide) (n2 (hM 20 rfl)) rfl (fun _ => Nat.le_of_ble_eq_true rfl) (Nat.le_of_ble_eq_true rfl) (Nat.le_of_ble_eq_true rfl) rfl rfl ?_
        have hsr := hcv.2.2.2.2.2.1 p.toNat
        refine g_if_gt (tgt := 71) (by omega) dX4_witness_53 (by decide) (fun h53_7 => ?_) (fun h53_7 => ?_)
        · skip
          refine g_aload_n 0 dX4_witness_71 rfl rfl ?_
          refine g_iconst dX4_witness_72 ?_
          refine g_putfi cf_5 0 rfl (by decide) (by decide) rfl (by decide) wf_X4_104 (Or.inl rfl) rfl dX4_witness_73 (n2 (hM 20 rfl)) (by omega) ?_
          refine g_ls (A2 := gup A 20 0 3) rfl rfl (gup_tw _ _ _ _ _) ?_
          refine g_aload_n 0 dX4_witness_76 rfl rfl ?_
          refine g_getfi cf_5 0 rfl (by decide) (by decide) rfl (by decide) wf_X4_104 dX4_witness_77 (n2 (hM 20 rfl)) (fun h77_8 => ?_)
          refine g_top (y := 3) (gup_at _ _ _ _) ?_
          refine g_if_le (tgt := 85) (by omega) dX4_witness_80 (by decide) (fun h80_9 => absurd h80_9 (by omega)) (fun h80_9 => ?_)
          refine g_iconst dX4_witness_83 ?_
          exact g_iret dX4_witness_84 rfl (Nat.le_of_ble_eq_true rfl) (Nat.le_of_ble_eq_true rfl) (pr_i (by first | (rw [show witE B x p h = 0 from by unfold witE; grind, if_pos rfl]; (try unfold id); (first | done | (unfold witA; rw [hkt, gup_at]))) | (rw [show witE B x p h = 1 from by unfold witE; grind]; rfl) | (rw [show witE B x p h = 2 from by unfold witE; grind]; rfl) | (rw [show witE B x p h = 3 from by unfold witE; grind]; rfl) | (rw [show witE B (k : Int) p h = 0 from by unfold witE; grind, if_pos rfl]; (try unfold id); (first | done | (unfold witA; rw [hkt, gup_at]))) | (rw [show witE B (k : Int) p h = 1 from by unfold witE; grind]; rfl) | (rw [show witE B (k : Int) p h = 2 from by unfold witE; grind]; rfl) | (rw [show witE B (k : Int) p h = 3 from by unfold witE; grind]; rfl)) (by first | (rw [show witE B x p h = 0 from by unfold witE; grind]; (first | rfl | (rw [if_pos rfl, hkt]))) | (rw [show witE B x p h = 1 from by unfold witE; grind]; (first | rfl | (rw [if_pos rfl, hkt]))) | (rw [show witE B x p h = 2 from by unfold witE; grind]; (first | rfl | (rw [if_pos rfl, hkt]))) | (rw [show witE B x p h = 3 from by unfold witE; grind]; (first | rfl | (rw [if_pos rfl, hkt]))) | (rw [show witE B (k : Int) p h = 0 from by unfold witE; grind]; (first | rfl | (rw [if_pos rfl, hkt]))) | (rw [show witE B (k : Int) p h = 1 from by unfold witE; grind]; (first | rfl | (rw [if_pos rfl, hkt]))) | (rw [show witE B (k : Int) p h = 2 from by unfold witE; grind]; (first | rfl | (rw [if_pos rfl, hkt]))) | (rw [show witE B (k : Int) p h = 3 from by unfold witE; grind]; (first | rfl | (rw [if_pos rfl, hkt])))))
        · skip
          refine g_aload_n 0 dX4_witness_56 rfl rfl ?_
          refine g_getfr2 (r := 39) cf_5 18 rfl (by decide) (by decide) rfl (by decide) wf_X4_56 dX4_witness_57 (hM 20 rfl) rfl ?_
          refine g_bipush dX4_witness_60 (by decide) ?_
          refine g_iload_n 1 dX4_witness_62 rfl rfl ?_
          refine g_imul dX4_witness_63 ?_
          refine g_iload_n 2 dX4_witness_64 rfl rfl ?_
          refine g_iadd dX4_witness_65 ?_
          refine g_iald (8 * k + p.toNat) (by omega) (by omega) rfl (by decide) dX4_witness_66 (n2 (hM 39 rfl)) (fun h66_10 => ?_)
          have h39 := (rl_k (rl_th hR 0) hk).2.2.2.2.2.2.2.1 p.toNat (by omega)
          have hhr := hcv.2.2.2.2.2.2 p.toNat
          refine g_iconst dX4_witness_67 ?_
          refine g_icmp_eq (tgt := 76) (by omega) (by omega) dX4_witness_68 (by decide) (fun h68_11 => ?_) (fun h68_11 => ?_)
          · skip
            refine g_aload_n 0 dX4_witness_76 rfl rfl ?_
            refine g_getfi cf_5 0 rfl (by decide) (by decide) rfl (by decide) wf_X4_104 dX4_witness_77 (n2 (hM 20 rfl)) (fun h77_12 => ?_)
            refine g_top (y := 0) (gup_at _ _ _ _) ?_
            refine g_if_le (tgt := 85) (by omega) dX4_witness_80 (by decide) (fun h80_13 => ?_) (fun h80_13 => absurd h80_13 (by omega))
            refine g_aload_n 0 dX4_witness_85 rfl rfl ?_
            refine g_getfr2 (r := 39) cf_5 18 rfl (by decide) (by decide) rfl (by decide) wf_X4_56 dX4_witness_86 (hM 20 rfl) rfl ?_
            refine g_bipush dX4_witness_89 (by decide) ?_
            refine g_iload_n 1 dX4_witness_91 rfl rfl ?_
            refine g_imul dX4_witness_92 ?_
            refine g_iload_n 2 dX4_witness_93 rfl rfl ?_
            refine g_iadd dX4_witness_94 ?_
            refine g_iload_n 3 dX4_witness_95 rfl rfl ?_
            refine g_iast (8 * k + p.toNat) (by omega) (by omega) (by omega) rfl (by decide) dX4_witness_96 (n2 (hM 39 rfl)) ?_
            refine g_aload_n 0 dX4_witness_97 rfl rfl ?_
            refine g_iload_n 1 dX4_witness_98 rfl rfl ?_
            have hwe : witE B k p h = 0 := by unfold witE; grind
            have hkv := keep_wit hV hI hR hwe
            have hk2 : (k : Int) < witA B k p h 2 2 := by (unfold witA; rw [gup_ne (by omega), gup_ne (by omega)]; exact hk)
            have hkt : ((k : Int)).toNat = k := by omega
            rw [hkt] at hkv
            refine g_cV_i (My := mX4_hourOf) (gs := [_]) (by first | exact c_X4_hourOf hM hkv.1 hkv.2.2 hk2) mfX4_hourOf cf_5 wi_X4_hourOf wsl_X4_hourOf wm_X4_148 dX4_witness_99 (Nat.le_of_ble_eq_true rfl) rfl (by decide) (n2 (hM 20 rfl)) rfl (fun _ => Nat.le_of_ble_eq_true rfl) (Nat.le_of_ble_eq_true rfl) (Nat.le_of_ble_eq_true rfl) rfl rfl ?_
            exact g_iret dX4_witness_102 rfl (Nat.le_of_ble_eq_true rfl) (Nat.le_of_ble_eq_true rfl) (pr_i (by first | (rw [show witE B x p h = 0 from by unfold witE; grind, if_pos rfl]; (try unfold id); (first | done | (unfold witA; rw [hkt, gup_at]))) | (rw [show witE B x p h = 1 from by unfold witE; grind]; rfl) | (rw [show witE B x p h = 2 from by unfold witE; grind]; rfl) | (rw [show witE B x p h = 3 from by unfold witE; grind]; rfl) | (rw [show witE B (k : Int) p h = 0 from by unfold witE; grind, if_pos rfl]; (try unfold id); (first | done | (unfold witA; rw [hkt, gup_at]))) | (rw [show witE B (k : Int) p h = 1 from by unfold witE; grind]; rfl) | (rw [show witE B (k : Int) p h = 2 from by unfold witE; grind]; rfl) | (rw [show witE B (k : Int) p h = 3 from by unfold witE; grind]; rfl)) (by first | (rw [show witE B x p h = 0 from by unfold witE; grind]; (first | rfl | (rw [if_pos rfl, hkt]))) | (rw [show witE B x p h = 1 from by unfold witE; grind]; (first | rfl | (rw [if_pos rfl, hkt]))) | (rw [show witE B x p h = 2 from by unfold witE; grind]; (first | rfl | (rw [if_pos rfl, hkt]))) | (rw [show witE B x p h = 3 from by unfold witE; grind]; (first | rfl | (rw [if_pos rfl, hkt]))) | (rw [show witE B (k : Int) p h = 0 from by unfold witE; grind]; (first | rfl | (rw [if_pos rfl, hkt]))) | (rw [show witE B (k : Int) p h = 1 from by unfold witE; grind]; (first | rfl | (rw [if_pos rfl, hkt]))) | (rw [show witE B (k : Int) p h = 2 from by unfold witE; grind]; (first | rfl | (rw [if_pos rfl, hkt]))) | (rw [show witE B (k : Int) p h = 3 from by unfold witE; grind]; (first | rfl | (rw [if_pos rfl, hkt])))))
          · skip
            refine g_aload_n 0 dX4_witness_71 rfl rfl ?_
            refine g_iconst dX4_witness_72 ?_
            refine g_putfi cf_5 0 rfl (by decide) (by decide) rfl (by decide) wf_X4_104 (Or.inl rfl) rfl dX4_witness_73 (n2 (hM 20 rfl)) (by omega) ?_
            refine g_ls (A2 := gup A 20 0 3) rfl rfl (gup_tw _ _ _ _ _) ?_
            refine g_aload_n 0 dX4_witness_76 rfl rfl ?_
            refine g_getfi cf_5 0 rfl (by decide) (by decide) rfl (by decide) wf_X4_104 dX4_witness_77 (n2 (hM 20 rfl)) (fun h77_14 => ?_)
            refine g_top (y := 3) (gup_at _ _ _ _) ?_
            refine g_if_le (tgt := 85) (by omega) dX4_witness_80 (by decide) (fun h80_15 => absurd h80_15 (by omega)) (fun h80_15 => ?_)
            refine g_iconst dX4_witness_83 ?_
            exact g_iret dX4_witness_84 rfl (Nat.le_of_ble_eq_true rfl) (Nat.le_of_ble_eq_true rfl) (pr_i (by first | (rw [show witE B x p h = 0 from by unfold witE; grind, if_pos rfl]; (try unfold id); (first | done | (unfold witA; rw [hkt, gup_at]))) | (rw [show witE B x p h = 1 from by unfold witE; grind]; rfl) | (rw [show witE B x p h = 2 from by unfold witE; grind]; rfl) | (rw [show witE B x p h = 3 from by unfold witE; grind]; rfl) | (rw [show witE B (k : Int) p h = 0 from by unfold witE; grind, if_pos rfl]; (try unfold id); (first | done | (unfold witA; rw [hkt, gup_at]))) | (rw [show witE B (k : Int) p h = 1 from by unfold witE; grind]; rfl) | (rw [show witE B (k : Int) p h = 2 from by unfold witE; grind]; rfl) | (rw [show witE B (k : Int) p h = 3 from by unfold witE; grind]; rfl)) (by first | (rw [show witE B x p h = 0 from by unfold witE; grind]; (first | rfl | (rw [if_pos rfl, hkt]))) | (rw [show witE B x p h = 1 from by unfold witE; grind]; (first | rfl | (rw [if_pos rfl, hkt]))) | (rw [show witE B x p h = 2 from by unfold witE; grind]; (first | rfl | (rw [if_pos rfl, hkt]))) | (rw [show witE B x p h = 3 from by unfold witE; grind]; (first | rfl | (rw [if_pos rfl, hkt]))) | (rw [show witE B (k : Int) p h = 0 from by unfold witE; grind]; (first | rfl | (rw [if_pos rfl, hkt]))) | (rw [show witE B (k : Int) p h = 1 from by unfold witE; grind]; (first | rfl | (rw [if_pos rfl, hkt]))) | (rw [show witE B (k : Int) p h = 2 from by unfold witE; grind]; (first | rfl | (rw [if_pos rfl, hkt]))) | (rw [show witE B (k : Int) p h = 3 from by unfold witE; grind]; (first | rfl | (rw [if_pos rfl, hkt])))))
      · skip
        refine g_cS_i (My := mX4_in) (gs := [_, _, _]) (c_X4_in (by omega) (by omega) (by omega)) mfX4_in rfl wst_X4_in wm_X4_108 dX4_witness_26 (Nat.le_of_ble_eq_true rfl) rfl (fun _ => Nat.le_of_ble_eq_true rfl) (Nat.le_of_ble_eq_true rfl) (Nat.le_of_ble_eq_true rfl) rfl rfl ?_
        refine g_top (y := 0) (by first | (rw [decide_eq_false hs26]; rfl) | (rw [inB, decide_eq_false hs26]; rfl)) ?_
        refine g_if_ne (tgt := 36) (by omega) dX4_witness_29 (by decide) (fun h29_16 => absurd h29_16 (by omega)) (fun h29_16 => ?_)
        refine g_iconst dX4_witness_32 ?_
        refine g_goto (tgt := 37) dX4_witness_33 (by decide) ?_
        refine g_putfi cf_5 0 rfl (by decide) (by decide) rfl (by decide) wf_X4_104 (Or.inl rfl) rfl dX4_witness_37 (n2 (hM 20 rfl)) (by omega) ?_
        refine g_aload_n 0 dX4_witness_40 rfl rfl ?_
        refine g_getfi cf_5 0 rfl (by decide) (by decide) rfl (by decide) wf_X4_104 dX4_witness_41 (n2 (hM 20 rfl)) (fun h41_17 => ?_)
        refine g_top (y := 2) (gup_at _ _ _ _) ?_
        refine g_if_ne (tgt := 76) (by omega) dX4_witness_44 (by decide) (fun h44_18 => ?_) (fun h44_18 => absurd h44_18 (by omega))
        refine g_aload_n 0 dX4_witness_76 rfl rfl ?_
        refine g_getfi cf_5 0 rfl (by decide) (by decide) rfl (by decide) wf_X4_104 dX4_witness_77 (n2 (hM 20 rfl)) (fun h77_19 => ?_)
        refine g_top (y := 2) (gup_at _ _ _ _) ?_
        refine g_if_le (tgt := 85) (by omega) dX4_witness_80 (by decide) (fun h80_20 => absurd h80_20 (by omega)) (fun h80_20 => ?_)
        refine g_iconst dX4_witness_83 ?_
        exact g_iret dX4_witness_84 rfl (Nat.le_of_ble_eq_true rfl) (Nat.le_of_ble_eq_true rfl) (pr_i (by first | (rw [show witE B x p h = 0 from by unfold witE; grind, if_pos rfl]; (try unfold id); (first | done | (unfold witA; rw [hkt, gup_at]))) | (rw [show witE B x p h = 1 from by unfold witE; grind]; rfl) | (rw [show witE B x p h = 2 from by unfold witE; grind]; rfl) | (rw [show witE B x p h = 3 from by unfold witE; grind]; rfl) | (rw [show witE B (k : Int) p h = 0 from by unfold witE; grind, if_pos rfl]; (try unfold id); (first | done | (unfold witA; rw [hkt, gup_at]))) | (rw [show witE B (k : Int) p h = 1 from by unfold witE; grind]; rfl) | (rw [show witE B (k : Int) p h = 2 from by unfold witE; grind]; rfl) | (rw [show witE B (k : Int) p h = 3 from by unfold witE; grind]; rfl)) (by first | (rw [show witE B x p h = 0 from by unfold witE; grind]; (first | rfl | (rw [if_pos rfl, hkt]))) | (rw [show witE B x p h = 1 from by unfold witE; grind]; (first | rfl | (rw [if_pos rfl, hkt]))) | (rw [show witE B x p h = 2 from by unfold witE; grind]; (first | rfl | (rw [if_pos rfl, hkt]))) | (rw [show witE B x p h = 3 from by unfold witE; grind]; (first | rfl | (rw [if_pos rfl, hkt]))) | (rw [show witE B (k : Int) p h = 0 from by unfold witE; grind]; (first | rfl | (rw [if_pos rfl, hkt]))) | (rw [show witE B (k : Int) p h = 1 from by unfold witE; grind]; (first | rfl | (rw [if_pos rfl, hkt]))) | (rw [show witE B (k : Int) p h = 2 from by unfold witE; grind]; (first | rfl | (rw [if_pos rfl, hkt]))) | (rw [show witE B (k : Int) p h = 3 from by unfold witE; grind]; (first | rfl | (rw [if_pos rfl, hkt])))))
    · skip
      refine g_cS_i (My := mX4_isPerson) (gs := [_]) (c_X4_isPerson (by omega)) mfX4_isPerson rfl wst_X4_isPerson wm_X4_128 dX4_witness_10 (Nat.le_of_ble_eq_true rfl) rfl (fun _ => Nat.le_of_ble_eq_true rfl) (Nat.le_of_ble_eq_true rfl) (Nat.le_of_ble_eq_true rfl) rfl rfl ?_
      refine g_top (y := 0) (by first | (rw [decide_eq_false hs10]; rfl) | (rw [cellB, decide_eq_false hs10]; rfl)) ?_
      refine g_if_ne (tgt := 20) (by omega) dX4_witness_13 (by decide) (fun h13_21 => absurd h13_21 (by omega)) (fun h13_21 => ?_)
      refine g_iconst dX4_witness_16 ?_
      refine g_goto (tgt := 37) dX4_witness_17 (by decide) ?_
      refine g_putfi cf_5 0 rfl (by decide) (by decide) rfl (by decide) wf_X4_104 (Or.inl rfl) rfl dX4_witness_37 (n2 (hM 20 rfl)) (by omega) ?_
      refine g_aload_n 0 dX4_witness_40 rfl rfl ?_
      refine g_getfi cf_5 0 rfl (by decide) (by decide) rfl (by decide) wf_X4_104 dX4_witness_41 (n2 (hM 20 rfl)) (fun h41_22 => ?_)
      refine g_top (y := 1) (gup_at _ _ _ _) ?_
      refine g_if_ne (tgt := 76) (by omega) dX4_witness_44 (by decide) (fun h44_23 => ?_) (fun h44_23 => absurd h44_23 (by omega))
      refine g_aload_n 0 dX4_witness_76 rfl rfl ?_
      refine g_getfi cf_5 0 rfl (by decide) (by decide) rfl (by decide) wf_X4_104 dX4_witness_77 (n2 (hM 20 rfl)) (fun h77_24 => ?_)
      refine g_top (y := 1) (gup_at _ _ _ _) ?_
      refine g_if_le (tgt := 85) (by omega) dX4_witness_80 (by decide) (fun h80_25 => absurd h80_25 (by omega)) (fun h80_25 => ?_)
      refine g_iconst dX4_witness_83 ?_
      exact g_iret dX4_witness_84 rfl (Nat.le_of_ble_eq_true rfl) (Nat.le_of_ble_eq_true rfl) (pr_i (by first | (rw [show witE B x p h = 0 from by unfold witE; grind, if_pos rfl]; (try unfold id); (first | done | (unfold witA; rw [hkt, gup_at]))) | (rw [show witE B x p h = 1 from by unfold witE; grind]; rfl) | (rw [show witE B x p h = 2 from by unfold witE; grind]; rfl) | (rw [show witE B x p h = 3 from by unfold witE; grind]; rfl) | (rw [show witE B (k : Int) p h = 0 from by unfold witE; grind, if_pos rfl]; (try unfold id); (first | done | (unfold witA; rw [hkt, gup_at]))) | (rw [show witE B (k : Int) p h = 1 from by unfold witE; grind]; rfl) | (rw [show witE B (k : Int) p h = 2 from by unfold witE; grind]; rfl) | (rw [show witE B (k : Int) p h = 3 from by unfold witE; grind]; rfl)) (by first | (rw [show witE B x p h = 0 from by unfold witE; grind]; (first | rfl | (rw [if_pos rfl, hkt]))) | (rw [show witE B x p h = 1 from by unfold witE; grind]; (first | rfl | (rw [if_pos rfl, hkt]))) | (rw [show witE B x p h = 2 from by unfold witE; grind]; (first | rfl | (rw [if_pos rfl, hkt]))) | (rw [show witE B x p h = 3 from by unfold witE; grind]; (first | rfl | (rw [if_pos rfl, hkt]))) | (rw [show witE B (k : Int) p h = 0 from by unfold witE; grind]; (first | rfl | (rw [if_pos rfl, hkt]))) | (rw [show witE B (k : Int) p h = 1 from by unfold witE; grind]; (first | rfl | (rw [if_pos rfl, hkt]))) | (rw [show witE B (k : Int) p h = 2 from by unfold witE; grind]; (first | rfl | (rw [if_pos rfl, hkt]))) | (rw [show witE B (k : Int) p h = 3 from by unfold witE; grind]; (first | rfl | (rw [if_pos rfl, hkt])))))
  · skip
    refine g_cV_i (My := mX4_isClaim) (gs := [_]) (c_X4_isClaim hM hV hR (by omega)) mfX4_isClaim cf_5 wi_X4_isClaim wsl_X4_isClaim wm_X4_142 dX4_witness_3 (Nat.le_of_ble_eq_true rfl) rfl (by decide) (n2 (hM 20 rfl)) rfl (fun _ => Nat.le_of_ble_eq_true rfl) (Nat.le_of_ble_eq_true rfl) (Nat.le_of_ble_eq_true rfl) rfl rfl ?_
    refine g_top (y := 0) (by rw [decide_eq_false hs3]; rfl) ?_
    refine g_if_eq (tgt := 16) (by omega) dX4_witness_6 (by decide) (fun h6_26 => ?_) (fun h6_26 => absurd h6_26 (by omega))
    refine g_iconst dX4_witness_16 ?_
    refine g_goto (tgt := 37) dX4_witness_17 (by decide) ?_
    refine g_putfi cf_5 0 rfl (by decide) (by decide) rfl (by decide) wf_X4_104 (Or.inl rfl) rfl dX4_witness_37 (n2 (hM 20 rfl)) (by omega) ?_
    refine g_aload_n 0 dX4_witness_40 rfl rfl ?_
    refine g_getfi cf_5 0 rfl (by decide) (by decide) rfl (by decide) wf_X4_104 dX4_witness_41 (n2 (hM 20 rfl)) (fun h41_27 => ?_)
    refine g_top (y := 1) (gup_at _ _ _ _) ?_
    refine g_if_ne (tgt := 76) (by omega) dX4_witness_44 (by decide) (fun h44_28 => ?_) (fun h44_28 => absurd h44_28 (by omega))
    refine g_aload_n 0 dX4_witness_76 rfl rfl ?_
    refine g_getfi cf_5 0 rfl (by decide) (by decide) rfl (by decide) wf_X4_104 dX4_witness_77 (n2 (hM 20 rfl)) (fun h77_29 => ?_)
    refine g_top (y := 1) (gup_at _ _ _ _) ?_
    refine g_if_le (tgt := 85) (by omega) dX4_witness_80 (by decide) (fun h80_30 => absurd h80_30 (by omega)) (fun h80_30 => ?_)
    refine g_iconst dX4_witness_83 ?_
    exact g_iret dX4_witness_84 rfl (Nat.le_of_ble_eq_true rfl) (Nat.le_of_ble_eq_true rfl) (pr_i (by first | (rw [show witE B x p h = 0 from by unfold witE; grind, if_pos rfl]; (try unfold id); (first | done | (unfold witA; rw [hkt, gup_at]))) | (rw [show witE B x p h = 1 from by unfold witE; grind]; rfl) | (rw [show witE B x p h = 2 from by unfold witE; grind]; rfl) | (rw [show witE B x p h = 3 from by unfold witE; grind]; rfl) | (rw [show witE B (k : Int) p h = 0 from by unfold witE; grind, if_pos rfl]; (try unfold id); (first | done | (unfold witA; rw [hkt, gup_at]))) | (rw [show witE B (k : Int) p h = 1 from by unfold witE; grind]; rfl) | (rw [show witE B (k : Int) p h = 2 from by unfold witE; grind]; rfl) | (rw [show witE B (k : Int) p h = 3 from by unfold witE; grind]; rfl)) (by first | (rw [show witE B x p h = 0 from by unfold witE; grind]; (first | rfl | (rw [if_pos rfl, hkt]))) | (rw [show witE B x p h = 1 from by unfold witE; grind]; (first | rfl | (rw [if_pos rfl, hkt]))) | (rw [show witE B x p h = 2 from by unfold witE; grind]; (first | rfl | (rw [if_pos rfl, hkt]))) | (rw [show witE B x p h = 3 from by unfold witE; grind]; (first | rfl | (rw [if_pos rfl, hkt]))) | (rw [show witE B (k : Int) p h = 0 from by unfold witE; grind]; (first | rfl | (rw [if_pos rfl, hkt]))) | (rw [show witE B (k : Int) p h = 1 from by unfold witE; grind]; (first | rfl | (rw [if_pos rfl, hkt]))) | (rw [show witE B (k : Int) p h = 2 from by unfold witE; grind]; (first | rfl | (rw [if_pos rfl, hkt]))) | (rw [show witE B (k : Int) p h = 3 from by unfold witE; grind]; (first | rfl | (rw [if_pos rfl, hkt])))))

set_option maxHeartbeats 1000000 in
set_option maxRecDepth 20000 in
theorem c_X4_partner {L : Nat → Nat} {A B : Mem} (hM : LM L) (hV : VC L B) (hR : Rel B A) (hI : IV B) {x p t : Int} (hx : -2147483648 ≤ x ∧ x < 2147483648) (hp : -2147483648 ≤ p ∧ p < 2147483648) (ht : -2147483648 ≤ t ∧ t < 2147483648) : Ct mX4_partner [gr 20, gi x, gi p, gi t] L A (pr (some (gi (if parE B x p t = 0 then parA B x p t (101 + 3 * x.toNat) (B (100 + 3 * x.toNat) 0).toNat else 0))) L (if parE B x p t = 0 then gup (gup A 20 0 0) 38 (8 * x.toNat + p.toNat) t else gup A 20 0 (parE B x p t : Nat))) := by
  have hnc := vc_nc hV; have hns := vc_ns hV; have hp0 := (vc_p hV).1
  have rnow := rl_now hR; have rnc := rl_nc hR; have rns := rl_ns hR
  refine Ct_of (ls := [(0, _), (1, _), (2, _), (3, _)]) rfl (by decide) (fun _ => rfl) (fun _ => Nat.le_of_ble_eq_true rfl) ?_
  refine g_aload_n 0 dX4_partner_0 rfl rfl ?_
  refine g_aload_n 0 dX4_partner_1 rfl rfl ?_
  refine g_iload_n 1 dX4_partner_2 rfl rfl ?_
  by_cases hs3 : 0 ≤ x ∧ x < B 2 2
  · skip
    obtain ⟨k, rfl⟩ : ∃ k : Nat, x = k := ⟨x.toNat, by omega⟩
    have hk : (k : Int) < B 2 2 := by omega
    have rk := rl_k hR hk; have hcv := vc_cv hV hk; have hk12 := vc_k hV hk
    refine g_cV_i (My := mX4_isClaim) (gs := [_]) (c_X4_isClaim hM hV hR (by omega)) mfX4_isClaim cf_5 wi_X4_isClaim wsl_X4_isClaim wm_X4_142 dX4_partner_3 (Nat.le_of_ble_eq_true rfl) rfl (by decide) (n2 (hM 20 rfl)) rfl (fun _ => Nat.le_of_ble_eq_true rfl) (Nat.le_of_ble_eq_true rfl) (Nat.le_of_ble_eq_true rfl) rfl rfl ?_
    refine g_top (y := 1) (by rw [decide_eq_true hs3]; rfl) ?_
    refine g_if_eq (tgt := 16) (by omega) dX4_partner_6 (by decide) (fun h6_1 => absurd h6_1 (by omega)) (fun h6_1 => ?_)
    refine g_iload_n 2 dX4_partner_9 rfl rfl ?_
    by_cases hs10 : 0 ≤ p ∧ p < 8
    · skip
      refine g_cS_i (My := mX4_isPerson) (gs := [_]) (c_X4_isPerson (by omega)) mfX4_isPerson rfl wst_X4_isPerson wm_X4_128 dX4_partner_10 (Nat.le_of_ble_eq_true rfl) rfl (fun _ => Nat.le_of_ble_eq_true rfl) (Nat.le_of_ble_eq_true rfl) (Nat.le_of_ble_eq_true rfl) rfl rfl ?_
      refine g_top (y := 1) (by first | (rw [decide_eq_true hs10]; rfl) | (rw [cellB, decide_eq_true hs10]; rfl)) ?_
      refine g_if_ne (tgt := 20) (by omega) dX4_partner_13 (by decide) (fun h13_2 => ?_) (fun h13_2 => absurd h13_2 (by omega))
      refine g_iload_n 3 dX4_partner_20 rfl rfl ?_
      refine g_iconst dX4_partner_21 ?_
      refine g_bipush dX4_partner_22 (by decide) ?_
      by_cases hs24 : 1 ≤ t ∧ t ≤ 11
      · skip
        refine g_cS_i (My := mX4_in) (gs := [_, _, _]) (c_X4_in (by omega) (by omega) (by omega)) mfX4_in rfl wst_X4_in wm_X4_108 dX4_partner_24 (Nat.le_of_ble_eq_true rfl) rfl (fun _ => Nat.le_of_ble_eq_true rfl) (Nat.le_of_ble_eq_true rfl) (Nat.le_of_ble_eq_true rfl) rfl rfl ?_
        refine g_top (y := 1) (by first | (rw [decide_eq_true hs24]; rfl) | (rw [inB, decide_eq_true hs24]; rfl)) ?_
        refine g_if_ne (tgt := 34) (by omega) dX4_partner_27 (by decide) (fun h27_3 => ?_) (fun h27_3 => absurd h27_3 (by omega))
        refine g_iconst dX4_partner_34 ?_
        refine g_putfi cf_5 0 rfl (by decide) (by decide) rfl (by decide) wf_X4_104 (Or.inl rfl) rfl dX4_partner_35 (n2 (hM 20 rfl)) (by omega) ?_
        refine g_aload_n 0 dX4_partner_38 rfl rfl ?_
        refine g_getfi cf_5 0 rfl (by decide) (by decide) rfl (by decide) wf_X4_104 dX4_partner_39 (n2 (hM 20 rfl)) (fun h39_4 => ?_)
        refine g_top (y := 0) (gup_at _ _ _ _) ?_
        refine g_if_ne (tgt := 70) (by omega) dX4_partner_42 (by decide) (fun h42_5 => absurd h42_5 (by omega)) (fun h42_5 => ?_)
        refine g_aload_n 0 dX4_partner_45 rfl rfl ?_
        refine g_iload_n 1 dX4_partner_46 rfl rfl ?_
        refine g_iload_n 2 dX4_partner_47 rfl rfl ?_
        refine g_cV_i (My := mX4_shareOf) (gs := [_, _]) (c_X4_shareOf hM hV (rl_th hR _) hk hs10) mfX4_shareOf cf_5 wi_X4_shareOf wsl_X4_shareOf wm_X4_145 dX4_partner_48 (Nat.le_of_ble_eq_true rfl) rfl (by decide) (n2 (hM 20 rfl)) rfl (fun _ => Nat.le_of_ble_eq_true rfl) (Nat.le_of_ble_eq_true rfl) (Nat.le_of_ble_eq_true rfl) rfl rfl ?_
        have hsr := hcv.2.2.2.2.2.1 p.toNat; have hso := hcv.2.2.2.2.2.1 (B (100 + 3 * k) 0).toNat
        refine g_if_gt (tgt := 65) (by omega) dX4_partner_51 (by decide) (fun h51_6 => ?_) (fun h51_6 => ?_)
        · skip
          refine g_aload_n 0 dX4_partner_65 rfl rfl ?_
          refine g_iconst dX4_partner_66 ?_
          refine g_putfi cf_5 0 rfl (by decide) (by decide) rfl (by decide) wf_X4_104 (Or.inl rfl) rfl dX4_partner_67 (n2 (hM 20 rfl)) (by omega) ?_
          refine g_ls (A2 := gup A 20 0 3) rfl rfl (gup_tw _ _ _ _ _) ?_
          refine g_aload_n 0 dX4_partner_70 rfl rfl ?_
          refine g_getfi cf_5 0 rfl (by decide) (by decide) rfl (by decide) wf_X4_104 dX4_partner_71 (n2 (hM 20 rfl)) (fun h71_7 => ?_)
          refine g_top (y := 3) (gup_at _ _ _ _) ?_
          refine g_if_le (tgt := 79) (by omega) dX4_partner_74 (by decide) (fun h74_8 => absurd h74_8 (by omega)) (fun h74_8 => ?_)
          refine g_iconst dX4_partner_77 ?_
          exact g_iret dX4_partner_78 rfl (Nat.le_of_ble_eq_true rfl) (Nat.le_of_ble_eq_true rfl) (pr_i (by first | (rw [show parE B x p t = 0 from by unfold parE; grind, if_pos rfl]; (try unfold id); (first | done | ((rw [hkt]; unfold parA; rw [hkt, gup_ne (show 100 + 3 * k ≠ 101 + 3 * k by omega), gup_ne (show 100 + 3 * k ≠ 101 + 3 * k by omega)])))) | (rw [show parE B x p t = 1 from by unfold parE; grind]; rfl) | (rw [show parE B x p t = 2 from by unfold parE; grind]; rfl) | (rw [show parE B x p t = 3 from by unfold parE; grind]; rfl) | (rw [show parE B (k : Int) p t = 0 from by unfold parE; grind, if_pos rfl]; (try unfold id); (first | done | ((rw [hkt]; unfold parA; rw [hkt, gup_ne (show 100 + 3 * k ≠ 101 + 3 * k by omega), gup_ne (show 100 + 3 * k ≠ 101 + 3 * k by omega)])))) | (rw [show parE B (k : Int) p t = 1 from by unfold parE; grind]; rfl) | (rw [show parE B (k : Int) p t = 2 from by unfold parE; grind]; rfl) | (rw [show parE B (k : Int) p t = 3 from by unfold parE; grind]; rfl)) (by first | (rw [show parE B x p t = 0 from by unfold parE; grind]; (first | rfl | (rw [if_pos rfl, hkt]))) | (rw [show parE B x p t = 1 from by unfold parE; grind]; (first | rfl | (rw [if_pos rfl, hkt]))) | (rw [show parE B x p t = 2 from by unfold parE; grind]; (first | rfl | (rw [if_pos rfl, hkt]))) | (rw [show parE B x p t = 3 from by unfold parE; grind]; (first | rfl | (rw [if_pos rfl, hkt]))) | (rw [show parE B (k : Int) p t = 0 from by unfold parE; grind]; (first | rfl | (rw [if_pos rfl, hkt]))) | (rw [show parE B (k : Int) p t = 1 from by unfold parE; grind]; (first | rfl | (rw [if_pos rfl, hkt]))) | (rw [show parE B (k : Int) p t = 2 from by unfold parE; grind]; (first | rfl | (rw [if_pos rfl, hkt]))) | (rw [show parE B (k : Int) p t = 3 from by unfold parE; grind]; (first | rfl | (rw [if_pos rfl, hkt])))))
        · skip
          refine g_aload_n 0 dX4_partner_54 rfl rfl ?_
          refine g_iload_n 1 dX4_partner_55 rfl rfl ?_
          refine g_cV_i (My := mX4_ownersShare) (gs := [_]) (c_X4_ownersShare hM hV (rl_th hR _) hk) mfX4_ownersShare cf_5 wi_X4_ownersShare wsl_X4_ownersShare wm_X4_134 dX4_partner_56 (Nat.le_of_ble_eq_true rfl) rfl (by decide) (n2 (hM 20 rfl)) rfl (fun _ => Nat.le_of_ble_eq_true rfl) (Nat.le_of_ble_eq_true rfl) (Nat.le_of_ble_eq_true rfl) rfl rfl ?_
          refine g_iload_n 3 dX4_partner_59 rfl rfl ?_
          refine g_isub dX4_partner_60 ?_
          refine g_iconst dX4_partner_61 ?_
          refine g_icmp_ge (tgt := 70) (by omega) (by omega) dX4_partner_62 (by decide) (fun h62_9 => ?_) (fun h62_9 => ?_)
          · skip
            refine g_aload_n 0 dX4_partner_70 rfl rfl ?_
            refine g_getfi cf_5 0 rfl (by decide) (by decide) rfl (by decide) wf_X4_104 dX4_partner_71 (n2 (hM 20 rfl)) (fun h71_10 => ?_)
            refine g_top (y := 0) (gup_at _ _ _ _) ?_
            refine g_if_le (tgt := 79) (by omega) dX4_partner_74 (by decide) (fun h74_11 => ?_) (fun h74_11 => absurd h74_11 (by omega))
            refine g_aload_n 0 dX4_partner_79 rfl rfl ?_
            refine g_getfr2 (r := 38) cf_5 17 rfl (by decide) (by decide) rfl (by decide) wf_X4_53 dX4_partner_80 (hM 20 rfl) rfl ?_
            refine g_bipush dX4_partner_83 (by decide) ?_
            refine g_iload_n 1 dX4_partner_85 rfl rfl ?_
            refine g_imul dX4_partner_86 ?_
            refine g_iload_n 2 dX4_partner_87 rfl rfl ?_
            refine g_iadd dX4_partner_88 ?_
            refine g_iload_n 3 dX4_partner_89 rfl rfl ?_
            refine g_iast (8 * k + p.toNat) (by omega) (by omega) (by omega) rfl (by decide) dX4_partner_90 (n2 (hM 38 rfl)) ?_
            refine g_aload_n 0 dX4_partner_91 rfl rfl ?_
            refine g_iload_n 1 dX4_partner_92 rfl rfl ?_
            have hwe : parE B k p t = 0 := by unfold parE; grind
            have hkv := keep_par hV hI hR hwe
            have hk2 : (k : Int) < parA B k p t 2 2 := by (unfold parA; rw [gup_ne (by omega), gup_ne (by omega)]; exact hk)
            have hkt : ((k : Int)).toNat = k := by omega
            rw [hkt] at hkv
            refine g_cV_i (My := mX4_ownersShare) (gs := [_]) (by first | exact c_X4_ownersShare hM hkv.1 hkv.2.2 hk2) mfX4_ownersShare cf_5 wi_X4_ownersShare wsl_X4_ownersShare wm_X4_134 dX4_partner_93 (Nat.le_of_ble_eq_true rfl) rfl (by decide) (n2 (hM 20 rfl)) rfl (fun _ => Nat.le_of_ble_eq_true rfl) (Nat.le_of_ble_eq_true rfl) (Nat.le_of_ble_eq_true rfl) rfl rfl ?_
            exact g_iret dX4_partner_96 rfl (Nat.le_of_ble_eq_true rfl) (Nat.le_of_ble_eq_true rfl) (pr_i (by first | (rw [show parE B x p t = 0 from by unfold parE; grind, if_pos rfl]; (try unfold id); (first | done | ((rw [hkt]; unfold parA; rw [hkt, gup_ne (show 100 + 3 * k ≠ 101 + 3 * k by omega), gup_ne (show 100 + 3 * k ≠ 101 + 3 * k by omega)])))) | (rw [show parE B x p t = 1 from by unfold parE; grind]; rfl) | (rw [show parE B x p t = 2 from by unfold parE; grind]; rfl) | (rw [show parE B x p t = 3 from by unfold parE; grind]; rfl) | (rw [show parE B (k : Int) p t = 0 from by unfold parE; grind, if_pos rfl]; (try unfold id); (first | done | ((rw [hkt]; unfold parA; rw [hkt, gup_ne (show 100 + 3 * k ≠ 101 + 3 * k by omega), gup_ne (show 100 + 3 * k ≠ 101 + 3 * k by omega)])))) | (rw [show parE B (k : Int) p t = 1 from by unfold parE; grind]; rfl) | (rw [show parE B (k : Int) p t = 2 from by unfold parE; grind]; rfl) | (rw [show parE B (k : Int) p t = 3 from by unfold parE; grind]; rfl)) (by first | (rw [show parE B x p t = 0 from by unfold parE; grind]; (first | rfl | (rw [if_pos rfl, hkt]))) | (rw [show parE B x p t = 1 from by unfold parE; grind]; (first | rfl | (rw [if_pos rfl, hkt]))) | (rw [show parE B x p t = 2 from by unfold parE; grind]; (first | rfl | (rw [if_pos rfl, hkt]))) | (rw [show parE B x p t = 3 from by unfold parE; grind]; (first | rfl | (rw [if_pos rfl, hkt]))) | (rw [show parE B (k : Int) p t = 0 from by unfold parE; grind]; (first | rfl | (rw [if_pos rfl, hkt]))) | (rw [show parE B (k : Int) p t = 1 from by unfold parE; grind]; (first | rfl | (rw [if_pos rfl, hkt]))) | (rw [show parE B (k : Int) p t = 2 from by unfold parE; grind]; (first | rfl | (rw [if_pos rfl, hkt]))) | (rw [show parE B (k : Int) p t = 3 from by unfold parE; grind]; (first | rfl | (rw [if_pos rfl, hkt])))))
          · skip
            refine g_aload_n 0 dX4_partner_65 rfl rfl ?_
            refine g_iconst dX4_partner_66 ?_
            refine g_putfi cf_5 0 rfl (by decide) (by decide) rfl (by decide) wf_X4_104 (Or.inl rfl) rfl dX4_partner_67 (n2 (hM 20 rfl)) (by omega) ?_
            refine g_ls (A2 := gup A 20 0 3) rfl rfl (gup_tw _ _ _ _ _) ?_
            refine g_aload_n 0 dX4_partner_70 rfl rfl ?_
            refine g_getfi cf_5 0 rfl (by decide) (by decide) rfl (by decide) wf_X4_104 dX4_partner_71 (n2 (hM 20 rfl)) (fun h71_12 => ?_)
            refine g_top (y := 3) (gup_at _ _ _ _) ?_
            refine g_if_le (tgt := 79) (by omega) dX4_partner_74 (by decide) (fun h74_13 => absurd h74_13 (by omega)) (fun h74_13 => ?_)
            refine g_iconst dX4_partner_77 ?_
            exact g_iret dX4_partner_78 rfl (Nat.le_of_ble_eq_true rfl) (Nat.le_of_ble_eq_true rfl) (pr_i (by first | (rw [show parE B x p t = 0 from by unfold parE; grind, if_pos rfl]; (try unfold id); (first | done | ((rw [hkt]; unfold parA; rw [hkt, gup_ne (show 100 + 3 * k ≠ 101 + 3 * k by omega), gup_ne (show 100 + 3 * k ≠ 101 + 3 * k by omega)])))) | (rw [show parE B x p t = 1 from by unfold parE; grind]; rfl) | (rw [show parE B x p t = 2 from by unfold parE; grind]; rfl) | (rw [show parE B x p t = 3 from by unfold parE; grind]; rfl) | (rw [show parE B (k : Int) p t = 0 from by unfold parE; grind, if_pos rfl]; (try unfold id); (first | done | ((rw [hkt]; unfold parA; rw [hkt, gup_ne (show 100 + 3 * k ≠ 101 + 3 * k by omega), gup_ne (show 100 + 3 * k ≠ 101 + 3 * k by omega)])))) | (rw [show parE B (k : Int) p t = 1 from by unfold parE; grind]; rfl) | (rw [show parE B (k : Int) p t = 2 from by unfold parE; grind]; rfl) | (rw [show parE B (k : Int) p t = 3 from by unfold parE; grind]; rfl)) (by first | (rw [show parE B x p t = 0 from by unfold parE; grind]; (first | rfl | (rw [if_pos rfl, hkt]))) | (rw [show parE B x p t = 1 from by unfold parE; grind]; (first | rfl | (rw [if_pos rfl, hkt]))) | (rw [show parE B x p t = 2 from by unfold parE; grind]; (first | rfl | (rw [if_pos rfl, hkt]))) | (rw [show parE B x p t = 3 from by unfold parE; grind]; (first | rfl | (rw [if_pos rfl, hkt]))) | (rw [show parE B (k : Int) p t = 0 from by unfold parE; grind]; (first | rfl | (rw [if_pos rfl, hkt]))) | (rw [show parE B (k : Int) p t = 1 from by unfold parE; grind]; (first | rfl | (rw [if_pos rfl, hkt]))) | (rw [show parE B (k : Int) p t = 2 from by unfold parE; grind]; (first | rfl | (rw [if_pos rfl, hkt]))) | (rw [show parE B (k : Int) p t = 3 from by unfold parE; grind]; (first | rfl | (rw [if_pos rfl, hkt])))))
      · skip
        refine g_cS_i (My := mX4_in) (gs := [_, _, _]) (c_X4_in (by omega) (by omega) (by omega)) mfX4_in rfl wst_X4_in wm_X4_108 dX4_partner_24 (Nat.le_of_ble_eq_true rfl) rfl (fun _ => Nat.le_of_ble_eq_true rfl) (Nat.le_of_ble_eq_true rfl) (Nat.le_of_ble_eq_true rfl) rfl rfl ?_
        refine g_top (y := 0) (by first | (rw [decide_eq_false hs24]; rfl) | (rw [inB, decide_eq_false hs24]; rfl)) ?_
        refine g_if_ne (tgt := 34) (by omega) dX4_partner_27 (by decide) (fun h27_14 => absurd h27_14 (by omega)) (fun h27_14 => ?_)
        refine g_iconst dX4_partner_30 ?_
        refine g_goto (tgt := 35) dX4_partner_31 (by decide) ?_
        refine g_putfi cf_5 0 rfl (by decide) (by decide) rfl (by decide) wf_X4_104 (Or.inl rfl) rfl dX4_partner_35 (n2 (hM 20 rfl)) (by omega) ?_
        refine g_aload_n 0 dX4_partner_38 rfl rfl ?_
        refine g_getfi cf_5 0 rfl (by decide) (by decide) rfl (by decide) wf_X4_104 dX4_partner_39 (n2 (hM 20 rfl)) (fun h39_15 => ?_)
        refine g_top (y := 2) (gup_at _ _ _ _) ?_
        refine g_if_ne (tgt := 70) (by omega) dX4_partner_42 (by decide) (fun h42_16 => ?_) (fun h42_16 => absurd h42_16 (by omega))
        refine g_aload_n 0 dX4_partner_70 rfl rfl ?_
        refine g_getfi cf_5 0 rfl (by decide) (by decide) rfl (by decide) wf_X4_104 dX4_partner_71 (n2 (hM 20 rfl)) (fun h71_17 => ?_)
        refine g_top (y := 2) (gup_at _ _ _ _) ?_
        refine g_if_le (tgt := 79) (by omega) dX4_partner_74 (by decide) (fun h74_18 => absurd h74_18 (by omega)) (fun h74_18 => ?_)
        refine g_iconst dX4_partner_77 ?_
        exact g_iret dX4_partner_78 rfl (Nat.le_of_ble_eq_true rfl) (Nat.le_of_ble_eq_true rfl) (pr_i (by first | (rw [show parE B x p t = 0 from by unfold parE; grind, if_pos rfl]; (try unfold id); (first | done | ((rw [hkt]; unfold parA; rw [hkt, gup_ne (show 100 + 3 * k ≠ 101 + 3 * k by omega), gup_ne (show 100 + 3 * k ≠ 101 + 3 * k by omega)])))) | (rw [show parE B x p t = 1 from by unfold parE; grind]; rfl) | (rw [show parE B x p t = 2 from by unfold parE; grind]; rfl) | (rw [show parE B x p t = 3 from by unfold parE; grind]; rfl) | (rw [show parE B (k : Int) p t = 0 from by unfold parE; grind, if_pos rfl]; (try unfold id); (first | done | ((rw [hkt]; unfold parA; rw [hkt, gup_ne (show 100 + 3 * k ≠ 101 + 3 * k by omega), gup_ne (show 100 + 3 * k ≠ 101 + 3 * k by omega)])))) | (rw [show parE B (k : Int) p t = 1 from by unfold parE; grind]; rfl) | (rw [show parE B (k : Int) p t = 2 from by unfold parE; grind]; rfl) | (rw [show parE B (k : Int) p t = 3 from by unfold parE; grind]; rfl)) (by first | (rw [show parE B x p t = 0 from by unfold parE; grind]; (first | rfl | (rw [if_pos rfl, hkt]))) | (rw [show parE B x p t = 1 from by unfold parE; grind]; (first | rfl | (rw [if_pos rfl, hkt]))) | (rw [show parE B x p t = 2 from by unfold parE; grind]; (first | rfl | (rw [if_pos rfl, hkt]))) | (rw [show parE B x p t = 3 from by unfold parE; grind]; (first | rfl | (rw [if_pos rfl, hkt]))) | (rw [show parE B (k : Int) p t = 0 from by unfold parE; grind]; (first | rfl | (rw [if_pos rfl, hkt]))) | (rw [show parE B (k : Int) p t = 1 from by unfold parE; grind]; (first | rfl | (rw [if_pos rfl, hkt]))) | (rw [show parE B (k : Int) p t = 2 from by unfold parE; grind]; (first | rfl | (rw [if_pos rfl, hkt]))) | (rw [show parE B (k : Int) p t = 3 from by unfold parE; grind]; (first | rfl | (rw [if_pos rfl, hkt])))))
    · skip
      refine g_cS_i (My := mX4_isPerson) (gs := [_]) (c_X4_isPerson (by omega)) mfX4_isPerson rfl wst_X4_isPerson wm_X4_128 dX4_partner_10 (Nat.le_of_ble_eq_true rfl) rfl (fun _ => Nat.le_of_ble_eq_true rfl) (Nat.le_of_ble_eq_true rfl) (Nat.le_of_ble_eq_true rfl) rfl rfl ?_
      refine g_top (y := 0) (by first | (rw [decide_eq_false hs10]; rfl) | (rw [cellB, decide_eq_false hs10]; rfl)) ?_
      refine g_if_ne (tgt := 20) (by omega) dX4_partner_13 (by decide) (fun h13_19 => absurd h13_19 (by omega)) (fun h13_19 => ?_)
      refine g_iconst dX4_partner_16 ?_
      refine g_goto (tgt := 35) dX4_partner_17 (by decide) ?_
      refine g_putfi cf_5 0 rfl (by decide) (by decide) rfl (by decide) wf_X4_104 (Or.inl rfl) rfl dX4_partner_35 (n2 (hM 20 rfl)) (by omega) ?_
      refine g_aload_n 0 dX4_partner_38 rfl rfl ?_
      refine g_getfi cf_5 0 rfl (by decide) (by decide) rfl (by decide) wf_X4_104 dX4_partner_39 (n2 (hM 20 rfl)) (fun h39_20 => ?_)
      refine g_top (y := 1) (gup_at _ _ _ _) ?_
      refine g_if_ne (tgt := 70) (by omega) dX4_partner_42 (by decide) (fun h42_21 => ?_) (fun h42_21 => absurd h42_21 (by omega))
      refine g_aload_n 0 dX4_partner_70 rfl rfl ?_
      refine g_getfi cf_5 0 rfl (by decide) (by decide) rfl (by decide) wf_X4_104 dX4_partner_71 (n2 (hM 20 rfl)) (fun h71_22 => ?_)
      refine g_top (y := 1) (gup_at _ _ _ _) ?_
      refine g_if_le (tgt := 79) (by omega) dX4_partner_74 (by decide) (fun h74_23 => absurd h74_23 (by omega)) (fun h74_23 => ?_)
      refine g_iconst dX4_partner_77 ?_
      exact g_iret dX4_partner_78 rfl (Nat.le_of_ble_eq_true rfl) (Nat.le_of_ble_eq_true rfl) (pr_i (by first | (rw [show parE B x p t = 0 from by unfold parE; grind, if_pos rfl]; (try unfold id); (first | done | ((rw [hkt]; unfold parA; rw [hkt, gup_ne (show 100 + 3 * k ≠ 101 + 3 * k by omega), gup_ne (show 100 + 3 * k ≠ 101 + 3 * k by omega)])))) | (rw [show parE B x p t = 1 from by unfold parE; grind]; rfl) | (rw [show parE B x p t = 2 from by unfold parE; grind]; rfl) | (rw [show parE B x p t = 3 from by unfold parE; grind]; rfl) | (rw [show parE B (k : Int) p t = 0 from by unfold parE; grind, if_pos rfl]; (try unfold id); (first | done | ((rw [hkt]; unfold parA; rw [hkt, gup_ne (show 100 + 3 * k ≠ 101 + 3 * k by omega), gup_ne (show 100 + 3 * k ≠ 101 + 3 * k by omega)])))) | (rw [show parE B (k : Int) p t = 1 from by unfold parE; grind]; rfl) | (rw [show parE B (k : Int) p t = 2 from by unfold parE; grind]; rfl) | (rw [show parE B (k : Int) p t = 3 from by unfold parE; grind]; rfl)) (by first | (rw [show parE B x p t = 0 from by unfold parE; grind]; (first | rfl | (rw [if_pos rfl, hkt]))) | (rw [show parE B x p t = 1 from by unfold parE; grind]; (first | rfl | (rw [if_pos rfl, hkt]))) | (rw [show parE B x p t = 2 from by unfold parE; grind]; (first | rfl | (rw [if_pos rfl, hkt]))) | (rw [show parE B x p t = 3 from by unfold parE; grind]; (first | rfl | (rw [if_pos rfl, hkt]))) | (rw [show parE B (k : Int) p t = 0 from by unfold parE; grind]; (first | rfl | (rw [if_pos rfl, hkt]))) | (rw [show parE B (k : Int) p t = 1 from by unfold parE; grind]; (first | rfl | (rw [if_pos rfl, hkt]))) | (rw [show parE B (k : Int) p t = 2 from by unfold parE; grind]; (first | rfl | (rw [if_pos rfl, hkt]))) | (rw [show parE B (k : Int) p t = 3 from by unfold parE; grind]; (first | rfl | (rw [if_pos rfl, hkt])))))
  · skip
    refine g_cV_i (My := mX4_isClaim) (gs := [_]) (c_X4_isClaim hM hV hR (by omega)) mfX4_isClaim cf_5 wi_X4_isClaim wsl_X4_isClaim wm_X4_142 dX4_partner_3 (Nat.le_of_ble_eq_true rfl) rfl (by decide) (n2 (hM 20 rfl)) rfl (fun _ => Nat.le_of_ble_eq_true rfl) (Nat.le_of_ble_eq_true rfl) (Nat.le_of_ble_eq_true rfl) rfl rfl ?_
    refine g_top (y := 0) (by rw [decide_eq_false hs3]; rfl) ?_
    refine g_if_eq (tgt := 16) (by omega) dX4_partner_6 (by decide) (fun h6_24 => ?_) (fun h6_24 => absurd h6_24 (by omega))
    refine g_iconst dX4_partner_16 ?_
    refine g_goto (tgt := 35) dX4_partner_17 (by decide) ?_
    refine g_putfi cf_5 0 rfl (by decide) (by decide) rfl (by decide) wf_X4_104 (Or.inl rfl) rfl dX4_partner_35 (n2 (hM 20 rfl)) (by omega) ?_
    refine g_aload_n 0 dX4_partner_38 rfl rfl ?_
    refine g_getfi cf_5 0 rfl (by decide) (by decide) rfl (by decide) wf_X4_104 dX4_partner_39 (n2 (hM 20 rfl)) (fun h39_25 => ?_)
    refine g_top (y := 1) (gup_at _ _ _ _) ?_
    refine g_if_ne (tgt := 70) (by omega) dX4_partner_42 (by decide) (fun h42_26 => ?_) (fun h42_26 => absurd h42_26 (by omega))
    refine g_aload_n 0 dX4_partner_70 rfl rfl ?_
    refine g_getfi cf_5 0 rfl (by decide) (by decide) rfl (by decide) wf_X4_104 dX4_partner_71 (n2 (hM 20 rfl)) (fun h71_27 => ?_)
    refine g_top (y := 1) (gup_at _ _ _ _) ?_
    refine g_if_le (tgt := 79) (by omega) dX4_partner_74 (by decide) (fun h74_28 => absurd h74_28 (by omega)) (fun h74_28 => ?_)
    refine g_iconst dX4_partner_77 ?_
    exact g_iret dX4_partner_78 rfl (Nat.le_of_ble_eq_true rfl) (Nat.le_of_ble_eq_true rfl) (pr_i (by first | (rw [show parE B x p t = 0 from by unfold parE; grind, if_pos rfl]; (try unfold id); (first | done | ((rw [hkt]; unfold parA; rw [hkt, gup_ne (show 100 + 3 * k ≠ 101 + 3 * k by omega), gup_ne (show 100 + 3 * k ≠ 101 + 3 * k by omega)])))) | (rw [show parE B x p t = 1 from by unfold parE; grind]; rfl) | (rw [show parE B x p t = 2 from by unfold parE; grind]; rfl) | (rw [show parE B x p t = 3 from by unfold parE; grind]; rfl) | (rw [show parE B (k : Int) p t = 0 from by unfold parE; grind, if_pos rfl]; (try unfold id); (first | done | ((rw [hkt]; unfold parA; rw [hkt, gup_ne (show 100 + 3 * k ≠ 101 + 3 * k by omega), gup_ne (show 100 + 3 * k ≠ 101 + 3 * k by omega)])))) | (rw [show parE B (k : Int) p t = 1 from by unfold parE; grind]; rfl) | (rw [show parE B (k : Int) p t = 2 from by unfold parE; grind]; rfl) | (rw [show parE B (k : Int) p t = 3 from by unfold parE; grind]; rfl)) (by first | (rw [show parE B x p t = 0 from by unfold parE; grind]; (first | rfl | (rw [if_pos rfl, hkt]))) | (rw [show parE B x p t = 1 from by unfold parE; grind]; (first | rfl | (rw [if_pos rfl, hkt]))) | (rw [show parE B x p t = 2 from by unfold parE; grind]; (first | rfl | (rw [if_pos rfl, hkt]))) | (rw [show parE B x p t = 3 from by unfold parE; grind]; (first | rfl | (rw [if_pos rfl, hkt]))) | (rw [show parE B (k : Int) p t = 0 from by unfold parE; grind]; (first | rfl | (rw [if_pos rfl, hkt]))) | (rw [show parE B (k : Int) p t = 1 from by unfold parE; grind]; (first | rfl | (rw [if_pos rfl, hkt]))) | (rw [show parE B (k : Int) p t = 2 from by unfold parE; grind]; (first | rfl | (rw [if_pos rfl, hkt]))) | (rw [show parE B (k : Int) p t = 3 from by unfold parE; grind]; (first | rfl | (rw [if_pos rfl, hkt])))))

