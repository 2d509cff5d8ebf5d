section GLOW
variable {L : Nat → Nat} {B B' A A' : Mem}
theorem rel_low (hR : Rel B A) (hf : ∀ n, n = 2 ∨ n = 3 ∨ 100 ≤ n → B' n = B n) (hA : ∀ n, (31 ≤ n ∧ n ≤ 39) ∨ (45 ≤ n ∧ n ≤ 54) → A' n = A n) (hb : RB B' A') : Rel B' A' := by
  refine rel_mk hb ?_ ?_ ?_ ?_
  · rw [hf 2 (by omega)]
    exact fun k hk => RelK_cg (hf _ (by omega)) (hf _ (by omega)) (hf _ (by omega)) (fun n _ _ => by rw [hA n (by omega)]) (fun p _ => by rw [hA 38 (by omega)]) (fun p _ => by rw [hA 39 (by omega)]) (rl_k hR hk)
  · rw [hf 2 (by omega), hA 37 (by omega), hA 38 (by omega)]
    exact fun k hk => rl_k0 hR hk
  · rw [hf 3 (by omega)]
    exact fun k hk => RelS_cg (hf _ (by omega)) (hf _ (by omega)) (hf _ (by omega)) (fun n _ _ => by rw [hA n (by omega)]) (fun p _ => by rw [hA 53 (by omega)]) (fun p _ => by rw [hA 54 (by omega)]) (rl_s hR hk)
  · rw [hf 3 (by omega), hA 47 (by omega), hA 52 (by omega), hA 53 (by omega), hA 54 (by omega)]
    exact fun k hk => rl_s0 hR hk
theorem vc_low (hV : VC L B) (hf : ∀ n, (2 ≤ n ∧ n ≤ 5) ∨ 100 ≤ n → B' n = B n) (hg : GVd B') (hp : PVd B') : VC L B' :=
  vc_upd hV (hf 2 (by omega)) (hf 3 (by omega)) (hf 4 (by omega)) (hf 5 (by omega)) (fun k hk => CV_cg (hf _ (by omega)) (hf _ (by omega)) (hf _ (by omega)) (vc_cv hV hk)) (fun s hs => SV_cg (hf _ (by omega)) (hf _ (by omega)) (hf _ (by omega)) (vc_sv hV hs)) hg hp
theorem iv_low (hI : IV B) (hf : ∀ n, n = 2 ∨ n = 3 ∨ 100 ≤ n → B' n = B n) (h12 : ∀ c, B' 12 c ≠ 1 → B' 16 c = 0) (h13 : ∀ c, 0 < B' 14 c → 0 < B' 13 c) (hn : B' 3 2 + cntF (fun c => decide (0 < B' 14 c)) 100 ≤ cntF (fun c => decide (0 < B' 13 c)) 100) (hm : sumF (B' 6) 8 + sumF (B' 9) 5 = 100000) (ht : ∀ k : Nat, (k : Int) < B 2 2 → trapC B' k 100 ≤ 3) (hz : ∀ c : Nat, ¬ c < 100 → B' 14 c = 0 ∧ B' 17 c = -1) : IV B' := by
  refine iv_upd hI (hf 2 (by omega)) (hf 3 (by omega)) h12 h13 hn hm (fun k hk => ?_) (fun s hs => IVs_cg (hf _ (by omega)) (hf _ (by omega)) (hf _ (by omega)) (iv_s hI hs)) hz
  have := iv_k hI hk
  unfold IVk at *
  rw [hf (100 + 3 * k) (by omega), hf (101 + 3 * k) (by omega)]
  exact ⟨this.1, this.2.1, ht k hk⟩
end GLOW
theorem gup_cg {A B : Mem} {n m k : Nat} {v : Int} (h : A n = B m) : gup A n k v n = gup B m k v m := by funext j; simp only [gup_ap, true_and, h]
theorem sumF_gup (B : Mem) (m x : Nat) (v : Int) (n : Nat) : sumF (gup B m x v m) n = if x < n then sumF (B m) n + v - B m x else sumF (B m) n := by
  induction n with
  | zero => rfl
  | succ n ih =>
    simp only [sumF, gup_ap, true_and]
    rw [ih]
    by_cases h1 : n = x
    · rw [if_pos h1, if_neg (by omega), if_pos (by omega), h1]; omega
    · rw [if_neg h1]
      by_cases h2 : x < n
      · rw [if_pos h2, if_pos (by omega)]; omega
      · rw [if_neg h2, if_neg (by omega)]
theorem cntF_gup (B : Mem) (m x : Nat) (v : Int) (n : Nat) : cntF (fun c => decide (0 < gup B m x v m c)) n = if x < n then cntF (fun c => decide (0 < B m c)) n + b2 (decide (0 < v)) - b2 (decide (0 < B m x)) else cntF (fun c => decide (0 < B m c)) n := by
  induction n with
  | zero => rfl
  | succ n ih =>
    simp only [cntF]
    rw [ih, show gup B m x v m n = if n = x then v else B m n from by rw [gup_ap]; simp]
    by_cases h1 : n = x
    · rw [if_pos h1, if_neg (by omega), if_pos (by omega), h1]; omega
    · rw [if_neg h1]
      by_cases h2 : x < n
      · rw [if_pos h2, if_pos (by omega)]; omega
      · rw [if_neg h2, if_neg (by omega)]
theorem trapC_gup (B : Mem) (x : Nat) (v k : Int) (n : Nat) : trapC (gup B 17 x v) k n = if x < n then trapC B k n + b2 (decide (v = k)) - b2 (decide (B 17 x = k)) else trapC B k n := by
  induction n with
  | zero => rfl
  | succ n ih =>
    simp only [trapC]
    rw [ih, show gup B 17 x v 17 n = if n = x then v else B 17 n from by rw [gup_ap]; simp]
    by_cases h1 : n = x
    · rw [if_pos h1, if_neg (by omega), if_pos (by omega), h1]; omega
    · rw [if_neg h1]
      by_cases h2 : x < n
      · rw [if_pos h2, if_pos (by omega)]; omega
      · rw [if_neg h2, if_neg (by omega)]
section GKEEP2
variable {L : Nat → Nat} {B A : Mem}
theorem keep_seam {x y z : Int} (hV : VC L B) (hI : IV B) (hR : Rel B A) (he : seamE B x y z = 0) : VC L (seamA B x y z) ∧ IV (seamA B x y z) ∧ Rel (seamA B x y z) (gup (gup (gup (gup (gup A 20 0 0) 26 x.toNat 1) 24 x.toNat y) 25 x.toNat z) 20 35 (A 20 35 + y)) := by
  have hx : 0 ≤ x ∧ x < 100 := by unfold seamE at he; grind
  have hy : (1 ≤ y ∧ y ≤ 999) ∧ 0 ≤ z ∧ z ≤ 9 := by unfold seamE at he; grind
  have hg := vc_g hV
  have h13 : B 13 x.toNat = 0 := by have := hg.2.1 x.toNat; unfold seamE at he; grind
  have h14 : B 14 x.toNat = 0 := by have := iv_t hI x.toNat; have := hg.2.2.1 x.toNat; omega
  obtain ⟨b1, b2, b3, b4, b5, b6, b7, b8, b9, b10, b11, b12, b13, b14, b15⟩ := rb_of hR
  have f : ∀ n, n ≠ 13 → n ≠ 14 → n ≠ 15 → seamA B x y z n = B n := fun n q1 q2 q3 => by unfold seamA; rw [gup_ne q3, gup_ne q2, gup_ne q1]
  have f13 : seamA B x y z 13 = gup B 13 x.toNat y 13 := by unfold seamA; rw [gup_ne (by omega), gup_ne (by omega)]
  have f14 : seamA B x y z 14 = gup B 14 x.toNat y 14 := by unfold seamA; rw [gup_ne (by omega)]; exact gup_cg (gup_ne (by omega))
  have f15 : seamA B x y z 15 = gup B 15 x.toNat z 15 := by unfold seamA; exact gup_cg (by rw [gup_ne (by omega), gup_ne (by omega)])
  refine ⟨vc_low hV (fun n q => f n (by omega) (by omega) (by omega)) ?_ (PVd_cg (f 0 (by omega) (by omega) (by omega)) (fun n _ _ => f n (by omega) (by omega) (by omega)) (vc_p hV)), iv_low hI (fun n q => f n (by omega) (by omega) (by omega)) ?_ ?_ ?_ ?_ ?_ ?_, rel_low hR (fun n q => f n (by omega) (by omega) (by omega)) ?_ ?_⟩
  · obtain ⟨g1, g2, g3, g4, g5, g6⟩ := hg
    unfold GVd
    rw [f 12 (by omega) (by omega) (by omega), f 16 (by omega) (by omega) (by omega), f 17 (by omega) (by omega) (by omega), f13, f14, f15]
    simp only [gup_ap, true_and]
    exact ⟨g1, fun c => by have := g2 c; split <;> omega, fun c => by have := g3 c; split <;> omega, fun c => by have := g4 c; split <;> omega, g5, g6⟩
  · rw [f 12 (by omega) (by omega) (by omega), f 16 (by omega) (by omega) (by omega)]; exact iv_p hI
  · rw [f13, f14]; intro c; simp only [gup_ap, true_and]; have := iv_t hI c; split <;> omega
  · rw [f13, f14, cntF_gup, cntF_gup, h13, h14, f 3 (by omega) (by omega) (by omega)]; have := iv_n hI; rw [if_pos (by omega), if_pos (by omega)]; omega
  · rw [f 6 (by omega) (by omega) (by omega), f 9 (by omega) (by omega) (by omega)]; exact iv_m hI
  · intro k hk; rw [trapC_cg (f 17 (by omega) (by omega) (by omega))]; exact (iv_k hI hk).2.2
  · rw [f14, f 17 (by omega) (by omega) (by omega)]; intro c hc; rw [gup_ap, if_neg (by omega)]; exact iv_z hI c hc
  · intro n q; rw [gup_ne (by omega), gup_ne (by omega), gup_ne (by omega), gup_ne (by omega), gup_ne (by omega)]
  · have fA : ∀ n, n ≠ 20 → n ≠ 24 → n ≠ 25 → n ≠ 26 → gup (gup (gup (gup (gup A 20 0 0) 26 x.toNat 1) 24 x.toNat y) 25 x.toNat z) 20 35 (A 20 35 + y) n = A n := fun n q1 q2 q3 q4 => by rw [gup_ne q1, gup_ne q3, gup_ne q2, gup_ne q4, gup_ne q1]
    have fA0 : ∀ j, j ≠ 0 → j ≠ 35 → gup (gup (gup (gup (gup A 20 0 0) 26 x.toNat 1) 24 x.toNat y) 25 x.toNat z) 20 35 (A 20 35 + y) 20 j = A 20 j := fun j q1 q2 => by rw [gup_ap, if_neg (by omega), gup_ne (by omega), gup_ne (by omega), gup_ne (by omega), gup_ap, if_neg (by omega)]
    have es : (fun s => seamA B x y z (200 + 3 * s) 4) = fun s => B (200 + 3 * s) 4 := by funext s; rw [f _ (by omega) (by omega) (by omega)]
    unfold RB
    rw [es, fA0 1 (by omega) (by omega), fA0 9 (by omega) (by omega), fA0 23 (by omega) (by omega), fA0 36 (by omega) (by omega), gup_at, fA 23 (by omega) (by omega) (by omega) (by omega), fA 27 (by omega) (by omega) (by omega) (by omega), fA 28 (by omega) (by omega) (by omega) (by omega), fA 40 (by omega) (by omega) (by omega) (by omega), fA 41 (by omega) (by omega) (by omega) (by omega), fA 42 (by omega) (by omega) (by omega) (by omega), fA 55 (by omega) (by omega) (by omega) (by omega),
      f 0 (by omega) (by omega) (by omega), f 2 (by omega) (by omega) (by omega), f 3 (by omega) (by omega) (by omega), f 12 (by omega) (by omega) (by omega), f 16 (by omega) (by omega) (by omega), f 17 (by omega) (by omega) (by omega), f 7 (by omega) (by omega) (by omega), f 6 (by omega) (by omega) (by omega), f 8 (by omega) (by omega) (by omega), f 9 (by omega) (by omega) (by omega), f13, f14, f15]
    refine ⟨b1, b2, b3, b4, ?_, ?_, ?_, b8, b9, b10, b11, b12, b13, ?_, b15⟩
    · rw [gup_ne (by omega), gup_ne (by omega)]; exact gup_cg (by rw [gup_ne (by omega), gup_ne (by omega)]; exact b5)
    · rw [gup_ne (by omega)]; exact gup_cg (by rw [gup_ne (by omega), gup_ne (by omega), gup_ne (by omega)]; exact b6)
    · intro c
      rw [gup_ne (by omega), gup_ne (by omega), gup_ne (by omega), show gup (gup A 20 0 0) 26 x.toNat 1 26 c = if c = x.toNat then 1 else A 26 c from by rw [gup_ap, gup_ne (by omega)]; simp, show gup B 13 x.toNat y 13 c = if c = x.toNat then y else B 13 c from by rw [gup_ap]; simp]
      by_cases q : c = x.toNat
      · rw [if_pos q, if_pos q, if_pos (by omega)]
      · rw [if_neg q, if_neg q]; exact b7 c
    · rw [sumF_gup, if_pos (by omega), h13, b14]; omega
theorem keep_pass {x : Int} (hV : VC L B) (hI : IV B) (hR : Rel B A) (he : passE B x = 0) : VC L (gup B 0 9 (B 0 9 + x)) ∧ IV (gup B 0 9 (B 0 9 + x)) ∧ Rel (gup B 0 9 (B 0 9 + x)) (gup (gup A 20 0 0) 20 1 (A 20 1 + x)) := by
  have hx : (1 ≤ x ∧ x ≤ 99) ∧ B 0 9 + x ≤ 5000 := by unfold passE at he; grind
  obtain ⟨b1, b2, b3, b4, b5, b6, b7, b8, b9, b10, b11, b12, b13, b14, b15⟩ := rb_of hR
  have f : ∀ n, n ≠ 0 → gup B 0 9 (B 0 9 + x) n = B n := fun n q => gup_ne q
  refine ⟨vc_low hV (fun n q => f n (by omega)) (GVd_cg (fun n _ _ => f n (by omega)) (vc_g hV)) ?_, iv_low hI (fun n q => f n (by omega)) ?_ ?_ ?_ ?_ ?_ ?_, rel_low hR (fun n q => f n (by omega)) ?_ ?_⟩
  · obtain ⟨p1, p2, p3, p4, p5⟩ := vc_p hV
    unfold PVd
    rw [gup_at, f 6 (by omega), f 7 (by omega), f 8 (by omega), f 9 (by omega)]
    exact ⟨by omega, p2, p3, p4, p5⟩
  · rw [f 12 (by omega), f 16 (by omega)]; exact iv_p hI
  · rw [f 13 (by omega), f 14 (by omega)]; exact iv_t hI
  · rw [f 13 (by omega), f 14 (by omega), f 3 (by omega)]; exact iv_n hI
  · rw [f 6 (by omega), f 9 (by omega)]; exact iv_m hI
  · intro k hk; rw [trapC_cg (f 17 (by omega))]; exact (iv_k hI hk).2.2
  · rw [f 14 (by omega), f 17 (by omega)]; exact iv_z hI
  · intro n q; rw [gup_ne (by omega), gup_ne (by omega)]
  · have fA : ∀ n, n ≠ 20 → gup (gup A 20 0 0) 20 1 (A 20 1 + x) n = A n := fun n q1 => by rw [gup_ne q1, gup_ne q1]
    have fA0 : ∀ j, j ≠ 0 → j ≠ 1 → gup (gup A 20 0 0) 20 1 (A 20 1 + x) 20 j = A 20 j := fun j q1 q2 => by rw [gup_ap, if_neg (by omega), gup_ap, if_neg (by omega)]
    have es : (fun s => gup B 0 9 (B 0 9 + x) (200 + 3 * s) 4) = fun s => B (200 + 3 * s) 4 := by funext s; rw [f _ (by omega)]
    unfold RB
    rw [es, gup_at, gup_at, fA0 9 (by omega) (by omega), fA0 23 (by omega) (by omega), fA0 35 (by omega) (by omega), fA0 36 (by omega) (by omega), fA 23 (by omega), fA 24 (by omega), fA 25 (by omega), fA 26 (by omega), fA 27 (by omega), fA 28 (by omega), fA 40 (by omega), fA 41 (by omega), fA 42 (by omega), fA 55 (by omega),
      f 2 (by omega), f 3 (by omega), f 12 (by omega), f 13 (by omega), f 14 (by omega), f 15 (by omega), f 16 (by omega), f 17 (by omega), f 7 (by omega), f 6 (by omega), f 8 (by omega), f 9 (by omega)]
    exact ⟨by omega, b2, b3, b4, b5, b6, b7, b8, b9, b10, b11, b12, b13, b14, b15⟩
theorem keep_prop {x p c : Int} (hV : VC L B) (hI : IV B) (hR : Rel B A) (he : proE B x p c = 0) : VC L (gup B 16 c.toNat 1) ∧ IV (gup B 16 c.toNat 1) ∧ Rel (gup B 16 c.toNat 1) (gup (gup A 20 0 0) 27 c.toNat 1) := by
  have hc : B 12 c.toNat = 1 := by unfold proE at he; grind
  obtain ⟨b1, b2, b3, b4, b5, b6, b7, b8, b9, b10, b11, b12, b13, b14, b15⟩ := rb_of hR
  have f : ∀ n, n ≠ 16 → gup B 16 c.toNat 1 n = B n := fun n q => gup_ne q
  refine ⟨vc_low hV (fun n q => f n (by omega)) ?_ (PVd_cg (f 0 (by omega)) (fun n _ _ => f n (by omega)) (vc_p hV)), iv_low hI (fun n q => f n (by omega)) ?_ ?_ ?_ ?_ ?_ ?_, rel_low hR (fun n q => f n (by omega)) ?_ ?_⟩
  · obtain ⟨g1, g2, g3, g4, g5, g6⟩ := vc_g hV
    unfold GVd
    rw [f 12 (by omega), f 13 (by omega), f 14 (by omega), f 15 (by omega), f 17 (by omega)]
    exact ⟨g1, g2, g3, g4, fun j => by rw [gup_ap]; have := g5 j; split <;> omega, g6⟩
  · rw [f 12 (by omega)]; intro j hj; rw [gup_ap, if_neg (fun q => hj (by rw [q.2]; exact hc))]; exact iv_p hI j hj
  · rw [f 13 (by omega), f 14 (by omega)]; exact iv_t hI
  · rw [f 13 (by omega), f 14 (by omega), f 3 (by omega)]; exact iv_n hI
  · rw [f 6 (by omega), f 9 (by omega)]; exact iv_m hI
  · intro k hk; rw [trapC_cg (f 17 (by omega))]; exact (iv_k hI hk).2.2
  · rw [f 14 (by omega), f 17 (by omega)]; exact iv_z hI
  · intro n q; rw [gup_ne (by omega), gup_ne (by omega)]
  · have fA : ∀ n, n ≠ 20 → n ≠ 27 → gup (gup A 20 0 0) 27 c.toNat 1 n = A n := fun n q1 q2 => by rw [gup_ne q2, gup_ne q1]
    have fA0 : ∀ j, j ≠ 0 → gup (gup A 20 0 0) 27 c.toNat 1 20 j = A 20 j := fun j q1 => by rw [gup_ne (by omega), gup_ap, if_neg (by omega)]
    have es : (fun s => gup B 16 c.toNat 1 (200 + 3 * s) 4) = fun s => B (200 + 3 * s) 4 := by funext s; rw [f _ (by omega)]
    unfold RB
    rw [es, fA0 1 (by omega), fA0 9 (by omega), fA0 23 (by omega), fA0 35 (by omega), fA0 36 (by omega), fA 23 (by omega) (by omega), fA 24 (by omega) (by omega), fA 25 (by omega) (by omega), fA 26 (by omega) (by omega), fA 28 (by omega) (by omega), fA 40 (by omega) (by omega), fA 41 (by omega) (by omega), fA 42 (by omega) (by omega), fA 55 (by omega) (by omega),
      f 0 (by omega), f 2 (by omega), f 3 (by omega), f 12 (by omega), f 13 (by omega), f 14 (by omega), f 15 (by omega), f 17 (by omega), f 7 (by omega), f 6 (by omega), f 8 (by omega), f 9 (by omega)]
    exact ⟨b1, b2, b3, b4, b5, b6, b7, gup_cg (by rw [gup_ne (by omega)]; exact b8), b9, b10, b11, b12, b13, b14, b15⟩
theorem keep_trap {x p c : Int} (hV : VC L B) (hI : IV B) (hR : Rel B A) (he : trpE B x p c = 0) : VC L (gup B 17 c.toNat x) ∧ IV (gup B 17 c.toNat x) ∧ Rel (gup B 17 c.toNat x) (gup (gup A 20 0 0) 28 c.toNat x) := by
  have ha : ahE B x p c = 0 := by unfold trpE at he; grind
  have hc : B 17 c.toNat = -1 ∧ trapC B x 100 < 3 := by unfold trpE at he; grind
  obtain ⟨k, rfl, hk, hp1, hc1, hk1, hk2, hk3⟩ := ahE_0 ha
  have hk12 := vc_k hV hk
  obtain ⟨b1, b2, b3, b4, b5, b6, b7, b8, b9, b10, b11, b12, b13, b14, b15⟩ := rb_of hR
  have f : ∀ n, n ≠ 17 → gup B 17 c.toNat (k : Int) n = B n := fun n q => gup_ne q
  refine ⟨vc_low hV (fun n q => f n (by omega)) ?_ (PVd_cg (f 0 (by omega)) (fun n _ _ => f n (by omega)) (vc_p hV)), iv_low hI (fun n q => f n (by omega)) ?_ ?_ ?_ ?_ ?_ ?_, rel_low hR (fun n q => f n (by omega)) ?_ ?_⟩
  · obtain ⟨g1, g2, g3, g4, g5, g6⟩ := vc_g hV
    unfold GVd
    rw [f 12 (by omega), f 13 (by omega), f 14 (by omega), f 15 (by omega), f 16 (by omega)]
    exact ⟨g1, g2, g3, g4, g5, fun j => by rw [gup_ap]; have := g6 j; split <;> omega⟩
  · rw [f 12 (by omega), f 16 (by omega)]; exact iv_p hI
  · rw [f 13 (by omega), f 14 (by omega)]; exact iv_t hI
  · rw [f 13 (by omega), f 14 (by omega), f 3 (by omega)]; exact iv_n hI
  · rw [f 6 (by omega), f 9 (by omega)]; exact iv_m hI
  · intro j hj
    rw [trapC_gup, if_pos (by omega), hc.1]
    have h1 := (iv_k hI hj).2.2
    by_cases q : (k : Int) = j
    · rw [← q, decide_eq_true rfl, decide_eq_false (by omega), b2_t, b2_f]; omega
    · rw [decide_eq_false q, b2_f]; have := b2_rg (decide (-1 = (j : Int))); omega
  · rw [f 14 (by omega)]; intro j hj; have := iv_z hI j hj; exact ⟨this.1, by rw [gup_ap, if_neg (by omega)]; exact this.2⟩
  · intro n q; rw [gup_ne (by omega), gup_ne (by omega)]
  · have fA : ∀ n, n ≠ 20 → n ≠ 28 → gup (gup A 20 0 0) 28 c.toNat (k : Int) n = A n := fun n q1 q2 => by rw [gup_ne q2, gup_ne q1]
    have fA0 : ∀ j, j ≠ 0 → gup (gup A 20 0 0) 28 c.toNat (k : Int) 20 j = A 20 j := fun j q1 => by rw [gup_ne (by omega), gup_ap, if_neg (by omega)]
    have es : (fun s => gup B 17 c.toNat (k : Int) (200 + 3 * s) 4) = fun s => B (200 + 3 * s) 4 := by funext s; rw [f _ (by omega)]
    unfold RB
    rw [es, fA0 1 (by omega), fA0 9 (by omega), fA0 23 (by omega), fA0 35 (by omega), fA0 36 (by omega), fA 23 (by omega) (by omega), fA 24 (by omega) (by omega), fA 25 (by omega) (by omega), fA 26 (by omega) (by omega), fA 27 (by omega) (by omega), fA 40 (by omega) (by omega), fA 41 (by omega) (by omega), fA 42 (by omega) (by omega), fA 55 (by omega) (by omega),
      f 0 (by omega), f 2 (by omega), f 3 (by omega), f 12 (by omega), f 13 (by omega), f 14 (by omega), f 15 (by omega), f 16 (by omega), f 7 (by omega), f 6 (by omega), f 8 (by omega), f 9 (by omega)]
    exact ⟨b1, b2, b3, b4, b5, b6, b7, b8, gup_cg (by rw [gup_ne (by omega)]; exact b9), b10, b11, b12, b13, b14, b15⟩
end GKEEP2

