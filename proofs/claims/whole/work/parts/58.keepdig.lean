section GDIG
variable {L : Nat → Nat} {A B : Mem}
theorem keep_unc {c w p : Int} (hV : VC L B) (hX : XC L B) (hI : IV B) (hJ : JV B) (hR : Rel B A) (hc : 0 ≤ c ∧ c < 100) (hw : -1 ≤ w ∧ w < 12) (hp : -1 ≤ p ∧ p < 8) (h16 : B 16 c.toNat = 0) (h17 : B 17 c.toNat = -1) :
    VC (uncL L B c) (uncA B c w p) ∧ XC (uncL L B c) (uncA B c w p) ∧ IV (uncA B c w p) ∧ JV (uncA B c w p) ∧ Rel (uncA B c w p) (opnR A c p w) := by
  unfold uncL
  by_cases h : 0 < B 14 c.toNat
  · rw [if_pos h]; exact keep_unc1 hV hX hI hJ hR hc hw hp h16 h17 h
  · rw [if_neg h]; exact keep_unc0 hV hX hI hJ hR hc h16 h17 h
theorem opnR_28 (A : Mem) (c p k : Int) : opnR (gup A 28 c.toNat (-1)) c p k = opnR A c p k := by
  have e : opnS (gup A 28 c.toNat (-1)) c p k = opnS A c p k := by
    have e23 : ∀ v, gup (gup (gup A 28 c.toNat (-1)) 23 c.toNat v) 28 c.toNat (-1) = gup (gup A 23 c.toNat v) 28 c.toNat (-1) := fun v => by
      funext m j; simp only [gup_ap]; by_cases h : m = 28 ∧ j = c.toNat
      · rw [if_pos h, if_pos h]
      · rw [if_neg h, if_neg h, if_neg h]
    unfold opnS
    rw [e23, gup_ne (show 24 ≠ 28 by decide), gup_ne (show 20 ≠ 28 by decide), gup_ne (show 25 ≠ 28 by decide)]
  unfold opnR; rw [e]
theorem keep_clr {c : Int} (hV : VC L B) (hX : XC L B) (hI : IV B) (hJ : JV B) (hR : Rel B A) (hc : 0 ≤ c ∧ c < 100) :
    VC L (gup B 17 c.toNat (-1)) ∧ XC L (gup B 17 c.toNat (-1)) ∧ IV (gup B 17 c.toNat (-1)) ∧ JV (gup B 17 c.toNat (-1)) ∧ Rel (gup B 17 c.toNat (-1)) (gup A 28 c.toNat (-1)) := by
  obtain ⟨b1, b2, b3, b4, b5, b6, b7, b8, b9, b10, b11, b12, b13, b14, b15⟩ := rb_of hR
  have hnc := vc_nc hV
  have f : ∀ n, n ≠ 17 → gup B 17 c.toNat (-1) n = B n := fun n q => gup_ne q
  refine ⟨vc_low hV (fun n q => f n (by omega)) ?_ (PVd_cg (f 0 (by omega)) (fun n _ _ => f n (by omega)) (vc_p hV)), xc_cg hX (fun n q => f n (by omega)) (fun n q => f n (by omega)), iv_low hI (fun n q => f n (by omega)) ?_ ?_ ?_ ?_ ?_ ?_, ?_, rel_low hR (fun n q => f n (by omega)) ?_ ?_⟩
  · obtain ⟨g1, g2, g3, g4, g5, g6⟩ := vc_g hV
    unfold GVd
    rw [f 12 (by omega), f 13 (by omega), f 14 (by omega), f 15 (by omega), f 16 (by omega)]
    exact ⟨g1, g2, g3, g4, g5, fun j => by rw [gup_ap]; have := g6 j; split <;> omega⟩
  · rw [f 12 (by omega), f 16 (by omega)]; exact iv_p hI
  · rw [f 13 (by omega), f 14 (by omega)]; exact iv_t hI
  · rw [f 13 (by omega), f 14 (by omega), f 3 (by omega)]; exact iv_n hI
  · rw [f 6 (by omega), f 9 (by omega)]; exact iv_m hI
  · intro j hj
    rw [trapC_gup, if_pos (by omega), decide_eq_false (by omega), b2_f]
    have h1 := (iv_k hI hj).2.2
    have := b2_rg (decide (B 17 c.toNat = (j : Int)))
    omega
  · rw [f 14 (by omega)]; intro j hj; have := iv_z hI j hj; exact ⟨this.1, by rw [gup_ap, if_neg (by omega)]; exact this.2⟩
  · intro j; rw [f 2 (by omega), gup_ap]; have := hJ j; split <;> omega
  · intro n q; rw [gup_ne (by omega)]
  · have fA : ∀ n, n ≠ 28 → gup A 28 c.toNat (-1) n = A n := fun n q2 => gup_ne q2
    have es : (fun s => gup B 17 c.toNat (-1) (200 + 3 * s) 4) = fun s => B (200 + 3 * s) 4 := by funext s; rw [f _ (by omega)]
    unfold RB
    rw [es, fA 20 (by omega), fA 23 (by omega), fA 24 (by omega), fA 25 (by omega), fA 26 (by omega), fA 27 (by omega), fA 40 (by omega), fA 41 (by omega), fA 42 (by omega), fA 55 (by omega),
      f 0 (by omega), f 2 (by omega), f 3 (by omega), f 12 (by omega), f 13 (by omega), f 14 (by omega), f 15 (by omega), f 16 (by omega), f 7 (by omega), f 6 (by omega), f 8 (by omega), f 9 (by omega)]
    exact ⟨b1, b2, b3, b4, b5, b6, b7, b8, gup_cg b9, b10, b11, b12, b13, b14, b15⟩
/-- a field of a claim that the relation reads one to one -/
theorem keep_clf {k j n : Nat} {v : Int} (hV : VC L B) (hX : XC L B) (hI : IV B) (hJ : JV B) (hR : Rel B A) (hk : (k : Int) < B 2 2) (hj : (j = 6 ∧ n = 36 ∧ 0 ≤ v ∧ v ≤ 5000) ∨ (j = 7 ∧ n = 37 ∧ 0 ≤ v ∧ v ≤ 2)) :
    VC L (gup B (100 + 3 * k) j v) ∧ XC L (gup B (100 + 3 * k) j v) ∧ IV (gup B (100 + 3 * k) j v) ∧ JV (gup B (100 + 3 * k) j v) ∧ Rel (gup B (100 + 3 * k) j v) (gup A n k v) := by
  have hk12 := vc_k hV hk
  have hnc := vc_nc hV
  have f : ∀ m, m ≠ 100 + 3 * k → gup B (100 + 3 * k) j v m = B m := fun m q => gup_ne q
  have g0 : ∀ i, i ≠ j → gup B (100 + 3 * k) j v (100 + 3 * k) i = B (100 + 3 * k) i := fun i q => by rw [gup_ap, if_neg (by omega)]
  have gj : gup B (100 + 3 * k) j v (100 + 3 * k) j = v := by rw [gup_ap, if_pos ⟨rfl, rfl⟩]
  obtain ⟨v1, v2, v3, v4, v5, v6, v7⟩ := vc_cv hV hk
  refine ⟨vc_claim hV hk (fun n q1 _ _ => f n q1) ?_, xc_cg hX (fun n q => f n (by omega)) (fun n q => f n (by omega)), iv_claim hV hI hk (fun n q1 _ _ => f n q1) ?_, ?_, ?_⟩
  · unfold CV
    rw [f (101 + 3 * k) (by omega), f (102 + 3 * k) (by omega)]
    rcases hj with ⟨rfl, rfl, hv⟩ | ⟨rfl, rfl, hv⟩
    · rw [gj, g0 0 (by omega), g0 1 (by omega), g0 2 (by omega), g0 3 (by omega), g0 4 (by omega), g0 5 (by omega), g0 7 (by omega)]
      exact ⟨v1, v2, v3, hv, v5, v6, v7⟩
    · rw [gj, g0 0 (by omega), g0 1 (by omega), g0 2 (by omega), g0 3 (by omega), g0 4 (by omega), g0 5 (by omega), g0 6 (by omega)]
      exact ⟨v1, v2, v3, v4, hv, v6, v7⟩
  · have := iv_k hI hk
    unfold IVk at *
    rw [f (101 + 3 * k) (by omega), g0 0 (by omega), g0 1 (by omega), g0 2 (by omega), g0 3 (by omega), g0 4 (by omega), trapC_cg (f 17 (by omega))]
    exact this
  · intro i; rw [f 17 (by omega), f 2 (by omega)]; exact hJ i
  · refine rel_claim hV hR hk (fun n q1 _ _ => f n q1) (fun m q1 q2 q3 => gup_ne (by omega)) (fun i _ => by rw [gup_ne (by omega)]) (fun m i q1 q2 q3 => by rw [gup_ap, if_neg (by omega)]) (fun i _ => by rw [gup_ne (by omega)]) (fun i _ => by rw [gup_ne (by omega)]) ?_
    have rk := rl_k hR hk
    obtain ⟨r1, r2, r3, r4, r5, r6, r7, r8, r9, r10⟩ := rk
    have fA : ∀ m, m ≠ n → gup A n k v m = A m := fun m q => gup_ne q
    unfold RelK
    rw [f (101 + 3 * k) (by omega), f (102 + 3 * k) (by omega), g0 0 (by omega), g0 1 (by omega), g0 2 (by omega), g0 3 (by omega), g0 4 (by omega), g0 5 (by omega), fA 31 (by omega), fA 32 (by omega), fA 33 (by omega), fA 34 (by omega), fA 35 (by omega), fA 38 (by omega), fA 39 (by omega)]
    rcases hj with ⟨rfl, rfl, hv⟩ | ⟨rfl, rfl, hv⟩
    · rw [gj, g0 7 (by omega), fA 37 (by omega)]
      exact ⟨r1, r2, r3, r4, by simp [gup_ap], r6, r7, r8, r9, r10⟩
    · rw [gj, g0 6 (by omega), fA 36 (by omega)]
      exact ⟨r1, r2, r3, r4, r5, by simp [gup_ap], r7, r8, r9, r10⟩
theorem keep_work {k : Nat} {c : Int} (hV : VC L B) (hX : XC L B) (hI : IV B) (hJ : JV B) (hR : Rel B A) (hk : (k : Int) < B 2 2) (hc : 0 ≤ c ∧ c < 100) (h16 : B 16 c.toNat = 0) :
    VC (uncL L B c) (uncA (workC B k c) c k (-1)) ∧ XC (uncL L B c) (uncA (workC B k c) c k (-1)) ∧ IV (uncA (workC B k c) c k (-1)) ∧ JV (uncA (workC B k c) c k (-1)) ∧ Rel (uncA (workC B k c) c k (-1)) (opnR (gup A 36 k (A 20 1)) c (-1) k) := by
  have hk12 := vc_k hV hk
  obtain ⟨a1, a2, a3, a4, a5⟩ := keep_clf (j := 6) (n := 36) (v := B 0 9) hV hX hI hJ hR hk (Or.inl ⟨rfl, rfl, (vc_p hV).1⟩)
  obtain ⟨d1, d2, d3, d4, d5⟩ := keep_clr a1 a2 a3 a4 a5 hc
  have e16 : workC B k c 16 = B 16 := workC_ne (by omega) (by omega)
  have e17 : workC B k c 17 c.toNat = -1 := by unfold workC; rw [gup_ap, if_pos ⟨rfl, rfl⟩]
  have h := keep_unc (B := workC B k c) (c := c) (w := (k : Int)) (p := -1) d1 d2 d3 d4 d5 hc (by omega) (by omega) (by rw [e16]; exact h16) e17
  rw [opnR_28, ← rl_now hR] at h
  have eL : uncL L (workC B k c) c = uncL L B c := by unfold uncL; rw [workC_ne (by omega) (by omega), workC_ne (by omega) (by omega)]
  rw [eL] at h
  exact h
theorem digB_16 {c : Int} (hI : IV B) (hc : 0 ≤ c ∧ c < 100) (h : digB B c = true) : B 16 c.toNat = 0 := by
  refine iv_p hI _ (fun e => ?_)
  unfold digB at h
  simp only [decide_eq_true_eq] at h
  rw [opB_in hc, e] at h
  exact absurd h.1 (by decide)
theorem keep_dig {x p c : Int} (hV : VC L B) (hX : XC L B) (hI : IV B) (hJ : JV B) (hR : Rel B A) (he : digE B x p c = 0) :
    VC (uncL L B c) (uncA (workC B x.toNat c) c x (-1)) ∧ XC (uncL L B c) (uncA (workC B x.toNat c) c x (-1)) ∧ IV (uncA (workC B x.toNat c) c x (-1)) ∧ JV (uncA (workC B x.toNat c) c x (-1)) ∧ Rel (uncA (workC B x.toNat c) c x (-1)) (opnR (gup (gup A 20 0 0) 36 x.toNat (A 20 1)) c (-1) x) := by
  have ha : ahE B x p c = 0 := by unfold digE at he; grind
  have hd : digB B c = true := by unfold digE at he; grind
  obtain ⟨k, rfl, hk, hp1, hc1, hk1, hk2, hk3⟩ := ahE_0 ha
  exact keep_work hV hX hI hJ (rl_th hR 0) hk hc1 (digB_16 hI hc1 hd)
theorem keep_sink {x p c : Int} (hV : VC L B) (hX : XC L B) (hI : IV B) (hJ : JV B) (hR : Rel B A) (he : sinE B x p c = 0) :
    VC (uncL L B c) (uncA (workC (shaC B x.toNat) x.toNat c) c x (-1)) ∧ XC (uncL L B c) (uncA (workC (shaC B x.toNat) x.toNat c) c x (-1)) ∧ IV (uncA (workC (shaC B x.toNat) x.toNat c) c x (-1)) ∧ JV (uncA (workC (shaC B x.toNat) x.toNat c) c x (-1)) ∧ Rel (uncA (workC (shaC B x.toNat) x.toNat c) c x (-1)) (opnR (gup (gup (gup A 20 0 0) 36 x.toNat (A 20 1)) 37 x.toNat (A 37 x.toNat + 1)) c (-1) x) := by
  have ha : ahE B x p c = 0 := by unfold sinE at he; grind
  have hd : B 12 c.toNat ≠ 1 ∧ ¬ 2 ≤ B (100 + 3 * x.toNat) 7 := by unfold sinE at he; grind
  obtain ⟨k, rfl, hk, hp1, hc1, hk1, hk2, hk3⟩ := ahE_0 ha
  have hk12 := vc_k hV hk
  have e1 : ((k : Int)).toNat = k := by omega
  rw [e1]
  have hd2 : ¬ 2 ≤ B (100 + 3 * k) 7 := by have := hd.2; rwa [e1] at this
  have h7 := (vc_cv hV hk).2.2.2.2.1
  obtain ⟨a1, a2, a3, a4, a5⟩ := keep_clf (j := 7) (n := 37) (v := B (100 + 3 * k) 7 + 1) hV hX hI hJ (rl_th hR 0) hk (Or.inr ⟨rfl, rfl, by omega⟩)
  have h := keep_work (k := k) (c := c) a1 a2 a3 a4 a5 (by rw [gup_ne (by omega)]; exact hk) hc1 (by rw [gup_ne (by omega)]; exact iv_p hI _ hd.1)
  have eL : uncL L (gup B (100 + 3 * k) 7 (B (100 + 3 * k) 7 + 1)) c = uncL L B c := by unfold uncL; rw [gup_ne (by omega), gup_ne (by omega)]
  rw [eL] at h
  have r37 := (rl_k hR hk).2.2.2.2.2.1
  have eA : gup (gup (gup A 20 0 0) 37 k (B (100 + 3 * k) 7 + 1)) 36 k (gup (gup A 20 0 0) 37 k (B (100 + 3 * k) 7 + 1) 20 1) = gup (gup (gup A 20 0 0) 36 k (A 20 1)) 37 k (A 37 k + 1) := by
    rw [r37, gup_ne (show 20 ≠ 37 by decide), gup_ap, if_neg (by omega)]
    funext m j
    simp only [gup_ap]
    by_cases h1 : m = 36 ∧ j = k
    · rw [if_pos h1, if_neg (by omega), if_pos h1]
    · rw [if_neg h1, if_neg h1]
  rw [eA] at h
  exact h
theorem keep_rat {p c : Int} (hV : VC L B) (hX : XC L B) (hI : IV B) (hJ : JV B) (hR : Rel B A) (he : ratE B p c = 0) (h8 : B 8 p.toNat < 100000) :
    VC (if B 17 c.toNat = -1 then uncL L B c else L) (ratC B p c) ∧ XC (if B 17 c.toNat = -1 then uncL L B c else L) (ratC B p c) ∧ IV (ratC B p c) ∧ JV (ratC B p c) ∧ Rel (ratC B p c) (ratR A p c) := by
  have hp : 0 ≤ p ∧ p < 8 := by unfold ratE at he; grind
  have hc : 0 ≤ c ∧ c < 100 := by unfold ratE at he; grind
  have hd : digB B c = true := by unfold ratE at he; grind
  unfold ratC ratR
  rw [rl_tr hR]
  by_cases h : B 17 c.toNat = -1
  · rw [if_pos h, if_pos h, if_pos h]
    exact keep_unc hV hX hI hJ (rl_th hR 0) hc (by omega) (by omega) (digB_16 hI hc hd) h
  · rw [if_neg h, if_neg h, if_neg h]
    obtain ⟨a1, a2, a3, a4, a5⟩ := keep_clr (c := c) hV hX hI hJ (rl_th hR 0) hc
    obtain ⟨b1, b2, b3, b4, b5, b6, b7, b8, b9, b10, b11, b12, b13, b14, b15⟩ := rb_of a5
    generalize hG : gup B 17 c.toNat (-1) = G at a1 a2 a3 a4 a5 b1 b2 b3 b4 b5 b6 b7 b8 b9 b10 b11 b12 b13 b14 b15
    have hG9 : B 0 9 = G 0 9 := by rw [← hG, gup_ne (by decide)]
    have hG8 : B 8 = G 8 := by rw [← hG, gup_ne (by decide)]
    rw [hG9, hG8]
    rw [hG8] at h8
    have f : ∀ n, n ≠ 7 → n ≠ 8 → gup (gup G 7 p.toNat (G 0 9 + 168)) 8 p.toNat (G 8 p.toNat + 1) n = G n := fun n q1 q2 => by rw [gup_ne q2, gup_ne q1]
    have f7 : gup (gup G 7 p.toNat (G 0 9 + 168)) 8 p.toNat (G 8 p.toNat + 1) 7 = gup G 7 p.toNat (G 0 9 + 168) 7 := gup_ne (by decide)
    have f8 : gup (gup G 7 p.toNat (G 0 9 + 168)) 8 p.toNat (G 8 p.toNat + 1) 8 = gup G 8 p.toNat (G 8 p.toNat + 1) 8 := gup_cg (gup_ne (by decide))
    refine ⟨vc_low a1 (fun n q => f n (by omega) (by omega)) (GVd_cg (fun n _ _ => f n (by omega) (by omega)) (vc_g a1)) ?_, xc_cg a2 (fun n q => f n (by omega) (by omega)) (fun n q => f n (by omega) (by omega)), iv_low a3 (fun n q => f n (by omega) (by omega)) ?_ ?_ ?_ ?_ ?_ ?_, ?_, rel_low a5 (fun n q => f n (by omega) (by omega)) ?_ ?_⟩
    · obtain ⟨q1, q2, q3, q4, q5⟩ := vc_p a1
      unfold PVd
      rw [f 0 (by omega) (by omega), f 6 (by omega) (by omega), f 9 (by omega) (by omega), f7, f8]
      refine ⟨q1, q2, fun j => ?_, fun j => ?_, q5⟩
      · rw [gup_ap]; have := q3 j; split <;> omega
      · rw [gup_ap]; have := q4 j; have := q4 p.toNat; split <;> omega
    · rw [f 12 (by omega) (by omega), f 16 (by omega) (by omega)]; exact iv_p a3
    · rw [f 13 (by omega) (by omega), f 14 (by omega) (by omega)]; exact iv_t a3
    · rw [f 13 (by omega) (by omega), f 14 (by omega) (by omega), f 3 (by omega) (by omega)]; exact iv_n a3
    · rw [f 6 (by omega) (by omega), f 9 (by omega) (by omega)]; exact iv_m a3
    · intro j hj; rw [trapC_cg (f 17 (by omega) (by omega))]; exact (iv_k a3 hj).2.2
    · rw [f 14 (by omega) (by omega), f 17 (by omega) (by omega)]; exact iv_z a3
    · intro j; rw [f 17 (by omega) (by omega), f 2 (by omega) (by omega)]; exact a4 j
    · intro n q; rw [gup_ne (by omega), gup_ne (by omega)]
    · generalize hK : gup (gup A 20 0 0) 28 c.toNat (-1) = K at a5 b1 b2 b3 b4 b5 b6 b7 b8 b9 b10 b11 b12 b13 b14 b15
      have k20 : A 20 1 = K 20 1 := by rw [← hK, gup_ne (by decide), gup_ap, if_neg (by omega)]
      have k42 : A 42 = K 42 := by rw [← hK, gup_ne (by decide), gup_ne (by decide)]
      rw [k20, k42]
      have fA : ∀ n, n ≠ 40 → n ≠ 42 → gup (gup K 40 p.toNat (K 20 1 + 168)) 42 p.toNat (K 42 p.toNat + 1) n = K n := fun n q1 q2 => by rw [gup_ne q2, gup_ne q1]
      have es : (fun s => gup (gup G 7 p.toNat (G 0 9 + 168)) 8 p.toNat (G 8 p.toNat + 1) (200 + 3 * s) 4) = fun s => G (200 + 3 * s) 4 := by funext s; rw [f _ (by omega) (by omega)]
      have h40 : gup (gup K 40 p.toNat (K 20 1 + 168)) 42 p.toNat (K 42 p.toNat + 1) 40 = gup G 7 p.toNat (G 0 9 + 168) 7 := by rw [gup_ne (by decide), b1]; exact gup_cg b10
      have h42 : gup (gup K 40 p.toNat (K 20 1 + 168)) 42 p.toNat (K 42 p.toNat + 1) 42 = gup G 8 p.toNat (G 8 p.toNat + 1) 8 := by rw [b12]; exact gup_cg (by rw [gup_ne (by decide)]; exact b12)
      unfold RB
      rw [es, fA 20 (by omega) (by omega), fA 23 (by omega) (by omega), fA 24 (by omega) (by omega), fA 25 (by omega) (by omega), fA 26 (by omega) (by omega), fA 27 (by omega) (by omega), fA 28 (by omega) (by omega), h40, fA 41 (by omega) (by omega), h42, fA 55 (by omega) (by omega), f7, f8,
        f 0 (by omega) (by omega), f 2 (by omega) (by omega), f 3 (by omega) (by omega), f 12 (by omega) (by omega), f 13 (by omega) (by omega), f 14 (by omega) (by omega), f 15 (by omega) (by omega), f 16 (by omega) (by omega), f 17 (by omega) (by omega), f 6 (by omega) (by omega), f 9 (by omega) (by omega)]
      exact ⟨b1, b2, b3, b4, b5, b6, b7, b8, b9, rfl, b11, rfl, b13, b14, b15⟩
end GDIG

