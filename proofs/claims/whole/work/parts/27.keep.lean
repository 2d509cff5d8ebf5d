section GCG
variable {L : Nat → Nat} {B B' A A' : Mem}
theorem CV_cg {k : Nat} (h0 : B' (100 + 3 * k) = B (100 + 3 * k)) (h1 : B' (101 + 3 * k) = B (101 + 3 * k)) (h2 : B' (102 + 3 * k) = B (102 + 3 * k)) (h : CV B k) : CV B' k := by unfold CV at *; rw [h0, h1, h2]; exact h
theorem SV_cg {s : Nat} (h0 : B' (200 + 3 * s) = B (200 + 3 * s)) (h1 : B' (201 + 3 * s) = B (201 + 3 * s)) (h2 : B' (202 + 3 * s) = B (202 + 3 * s)) (h : SV B s) : SV B' s := by unfold SV at *; rw [h0, h1, h2]; exact h
theorem IVs_cg {s : Nat} (h0 : B' (200 + 3 * s) = B (200 + 3 * s)) (h1 : B' (201 + 3 * s) = B (201 + 3 * s)) (h2 : B' (202 + 3 * s) = B (202 + 3 * s)) (h : IVs B s) : IVs B' s := by unfold IVs at *; rw [h0, h1, h2]; exact h
theorem IVk_cg {k : Nat} (h0 : B' (100 + 3 * k) = B (100 + 3 * k)) (h1 : B' (101 + 3 * k) = B (101 + 3 * k)) (h17 : B' 17 = B 17) (h : IVk B k) : IVk B' k := by unfold IVk at *; rw [h0, h1, trapC_cg h17]; exact h
theorem LST_cg {n : Nat} (h0 : B' n = B n) (h1 : B' (n + 2) = B (n + 2)) (h : LST L B n) : LST L B' n := by unfold LST at *; rw [h0, h1]; exact h
theorem RelK_cg {k : Nat} (h0 : B' (100 + 3 * k) = B (100 + 3 * k)) (h1 : B' (101 + 3 * k) = B (101 + 3 * k)) (h2 : B' (102 + 3 * k) = B (102 + 3 * k)) (hA : ∀ n, 31 ≤ n → n ≤ 37 → A' n k = A n k) (h8 : ∀ p, p < 8 → A' 38 (8 * k + p) = A 38 (8 * k + p)) (h9 : ∀ p, p < 8 → A' 39 (8 * k + p) = A 39 (8 * k + p)) (h : RelK B A k) : RelK B' A' k := by
  unfold RelK at *
  obtain ⟨a1, a2, a3, a4, a5, a6, a7, a8, a9, a10⟩ := h
  rw [h0, h1, h2, hA 31 (by omega) (by omega), hA 32 (by omega) (by omega), hA 33 (by omega) (by omega), hA 34 (by omega) (by omega), hA 35 (by omega) (by omega), hA 36 (by omega) (by omega), hA 37 (by omega) (by omega)]
  refine ⟨a1, a2, a3, a4, a5, a6, fun p hp => by rw [h8 p hp]; exact a7 p hp, fun p hp => by rw [h9 p hp]; exact a8 p hp, ?_, a10⟩
  rw [a9, sumF_cg (f := fun p => A' 38 (8 * k + p)) (g := fun p => A 38 (8 * k + p)) h8]
theorem RelS_cg {s : Nat} (h0 : B' (200 + 3 * s) = B (200 + 3 * s)) (h1 : B' (201 + 3 * s) = B (201 + 3 * s)) (h2 : B' (202 + 3 * s) = B (202 + 3 * s)) (hA : ∀ n, 45 ≤ n → n ≤ 52 → A' n s = A n s) (h8 : ∀ p, p < 5 → A' 53 (5 * s + p) = A 53 (5 * s + p)) (h9 : ∀ p, p < 5 → A' 54 (5 * s + p) = A 54 (5 * s + p)) (h : RelS B A s) : RelS B' A' s := by
  unfold RelS at *
  obtain ⟨a1, a2, a3, a4, a5, a6, a7, a8, a9, a10⟩ := h
  rw [h0, h1, h2, hA 45 (by omega) (by omega), hA 46 (by omega) (by omega), hA 47 (by omega) (by omega), hA 48 (by omega) (by omega), hA 49 (by omega) (by omega), hA 50 (by omega) (by omega), hA 51 (by omega) (by omega), hA 52 (by omega) (by omega)]
  exact ⟨a1, a2, a3, a4, a5, a6, a7, a8, fun p hp => by rw [h8 p hp]; exact a9 p hp, fun p hp => by rw [h9 p hp]; exact a10 p hp⟩
/-- what is related beside the claims and the stones -/
def RB (B A : Mem) : Prop := A 20 1 = B 0 9 ∧ A 20 9 = B 2 2 ∧ A 20 23 = B 3 2 ∧ A 23 = B 12 ∧ A 24 = B 14 ∧ A 25 = B 15 ∧ (∀ c, A 26 c = if 0 < B 13 c then 1 else 0) ∧ A 27 = B 16 ∧ A 28 = B 17 ∧ A 40 = B 7 ∧ A 41 = B 6 ∧ A 42 = B 8 ∧ A 55 = B 9 ∧ A 20 35 = sumF (B 13) 100 ∧ A 20 36 = sumF (fun s => B (200 + 3 * s) 4) (B 3 2).toNat
theorem rb_of (h : Rel B A) : RB B A := ⟨rl_now h, rl_nc h, rl_ns h, rl_st h, rl_ca h, rl_de h, rl_to h, rl_pr h, rl_tr h, rl_ba h, rl_mo h, rl_cg h, rl_pu h, rl_told h, rl_lost h⟩
theorem rel_mk (hb : RB B A) (hk : ∀ k : Nat, (k : Int) < B 2 2 → RelK B A k) (hk0 : ∀ k : Nat, ¬ (k : Int) < B 2 2 → A 37 k = 0 ∧ ∀ p : Nat, p < 8 → A 38 (8 * k + p) = 0) (hs : ∀ s : Nat, (s : Int) < B 3 2 → RelS B A s) (hs0 : ∀ s : Nat, ¬ (s : Int) < B 3 2 → A 47 s = 0 ∧ A 52 s = 0 ∧ ∀ b : Nat, b < 5 → A 53 (5 * s + b) = 0 ∧ A 54 (5 * s + b) = 0) : Rel B A := by
  obtain ⟨b1, b2, b3, b4, b5, b6, b7, b8, b9, b10, b11, b12, b13, b14, b15⟩ := hb
  exact ⟨b1, b2, b3, b4, b5, b6, b7, b8, b9, b10, b11, b12, b13, b14, b15, hk, hk0, hs, hs0⟩
theorem vc_upd (hV : VC L B) (h2 : B' 2 = B 2) (h3 : B' 3 = B 3) (h4 : B' 4 = B 4) (h5 : B' 5 = B 5) (hk : ∀ k : Nat, (k : Int) < B 2 2 → CV B' k) (hs : ∀ s : Nat, (s : Int) < B 3 2 → SV B' s) (hg : GVd B') (hp : PVd B') : VC L B' := by
  obtain ⟨a1, a2, a3, a4, a5, a6, a7, a8, a9⟩ := hV
  refine ⟨a1, by rw [h2]; exact a2, by rw [h3]; exact a3, ?_, ?_, ?_, ?_, hg, hp⟩
  · rw [h2]; exact fun q => LST_cg h2 h4 (a4 q)
  · rw [h3]; exact fun q => LST_cg h3 h5 (a5 q)
  · rw [h2]; exact fun k q => ⟨(a6 k q).1, hk k q⟩
  · rw [h3]; exact fun k q => ⟨(a7 k q).1, hs k q⟩
theorem GVd_cg (h : ∀ n, 12 ≤ n → n ≤ 17 → B' n = B n) (hg : GVd B) : GVd B' := by
  unfold GVd at *
  rw [h 12 (by omega) (by omega), h 13 (by omega) (by omega), h 14 (by omega) (by omega), h 15 (by omega) (by omega), h 16 (by omega) (by omega), h 17 (by omega) (by omega)]
  exact hg
theorem PVd_cg (h0 : B' 0 = B 0) (h : ∀ n, 6 ≤ n → n ≤ 9 → B' n = B n) (hg : PVd B) : PVd B' := by
  unfold PVd at *
  rw [h0, h 6 (by omega) (by omega), h 7 (by omega) (by omega), h 8 (by omega) (by omega), h 9 (by omega) (by omega)]
  exact hg
/-- the class's names -/
theorem vc_cg (h : ∀ n, (n < 18 ∧ n ≠ 10 ∧ n ≠ 11) ∨ 100 ≤ n → B' n = B n) (hV : VC L B) : VC L B' :=
  vc_upd hV (h 2 (by omega)) (h 3 (by omega)) (h 4 (by omega)) (h 5 (by omega)) (fun k hk => CV_cg (h _ (by omega)) (h _ (by omega)) (h _ (by omega)) (vc_cv hV hk)) (fun k hk => SV_cg (h _ (by omega)) (h _ (by omega)) (h _ (by omega)) (vc_sv hV hk)) (GVd_cg (fun n _ _ => h n (by omega)) (vc_g hV)) (PVd_cg (h 0 (by omega)) (fun n _ _ => h n (by omega)) (vc_p hV))
theorem iv_upd (hI : IV B) (h2 : B' 2 = B 2) (h3 : B' 3 = B 3) (h12 : ∀ c, B' 12 c ≠ 1 → B' 16 c = 0) (h13 : ∀ c, 0 < B' 14 c → 0 < B' 13 c) (hn : B' 3 2 + cntF (fun c => decide (0 < B' 14 c)) 100 ≤ cntF (fun c => decide (0 < B' 13 c)) 100) (hm : sumF (B' 6) 8 + sumF (B' 9) 5 = 100000) (hk : ∀ k : Nat, (k : Int) < B 2 2 → IVk B' k) (hs : ∀ s : Nat, (s : Int) < B 3 2 → IVs B' s) (hz : ∀ c : Nat, ¬ c < 100 → B' 14 c = 0 ∧ B' 17 c = -1) : IV B' :=
  ⟨h12, h13, hn, hm, by rw [h2]; exact hk, by rw [h3]; exact hs, hz⟩
theorem iv_cg (h : ∀ n, (n < 18 ∧ n ≠ 10 ∧ n ≠ 11) ∨ 100 ≤ n → B' n = B n) (hI : IV B) : IV B' := by
  have e := fun n q => h n q
  refine iv_upd hI (h 2 (by omega)) (h 3 (by omega)) ?_ ?_ ?_ ?_ (fun k hk => IVk_cg (h _ (by omega)) (h _ (by omega)) (h _ (by omega)) (iv_k hI hk)) (fun k hk => IVs_cg (h _ (by omega)) (h _ (by omega)) (h _ (by omega)) (iv_s hI hk)) ?_
  · rw [h 12 (by omega), h 16 (by omega)]; exact iv_p hI
  · rw [h 14 (by omega), h 13 (by omega)]; exact iv_t hI
  · rw [h 14 (by omega), h 3 (by omega), h 13 (by omega)]; exact iv_n hI
  · rw [h 6 (by omega), h 9 (by omega)]; exact iv_m hI
  · rw [h 14 (by omega), h 17 (by omega)]; exact iv_z hI
theorem rb_cg (h : ∀ n, (n < 18 ∧ n ≠ 10 ∧ n ≠ 11) ∨ 100 ≤ n → B' n = B n) (hA : ∀ n, (23 ≤ n ∧ n ≤ 55 ∧ n ≠ 29 ∧ n ≠ 43) → A' n = A n) (hA0 : ∀ j, j ≠ 0 → A' 20 j = A 20 j) (hb : RB B A) : RB B' A' := by
  obtain ⟨b1, b2, b3, b4, b5, b6, b7, b8, b9, b10, b11, b12, b13, b14, b15⟩ := hb
  unfold RB
  have es : (fun s => B' (200 + 3 * s) 4) = fun s => B (200 + 3 * s) 4 := by funext s; rw [h _ (by omega)]
  rw [es, h 0 (by omega), h 2 (by omega), h 3 (by omega), h 12 (by omega), h 13 (by omega), h 14 (by omega), h 15 (by omega), h 16 (by omega), h 17 (by omega), h 7 (by omega), h 6 (by omega), h 8 (by omega), h 9 (by omega), hA0 1 (by omega), hA0 9 (by omega), hA0 23 (by omega), hA0 35 (by omega), hA0 36 (by omega), hA 23 (by omega), hA 24 (by omega), hA 25 (by omega), hA 26 (by omega), hA 27 (by omega), hA 28 (by omega), hA 40 (by omega), hA 41 (by omega), hA 42 (by omega), hA 55 (by omega)]
  exact ⟨b1, b2, b3, b4, b5, b6, b7, b8, b9, b10, b11, b12, b13, b14, b15⟩
/-- neither side has changed -/
theorem rel_cg (h : ∀ n, (n < 18 ∧ n ≠ 10 ∧ n ≠ 11) ∨ 100 ≤ n → B' n = B n) (hA : ∀ n, (23 ≤ n ∧ n ≤ 55 ∧ n ≠ 29 ∧ n ≠ 43) → A' n = A n) (hA0 : ∀ j, j ≠ 0 → A' 20 j = A 20 j) (hR : Rel B A) : Rel B' A' := by
  refine rel_mk (rb_cg h hA hA0 (rb_of hR)) ?_ ?_ ?_ ?_
  · rw [h 2 (by omega)]
    exact fun k hk => RelK_cg (h _ (by omega)) (h _ (by omega)) (h _ (by omega)) (fun n _ _ => by rw [hA n (by omega)]) (fun p _ => by rw [hA 38 (by omega)]) (fun p _ => by rw [hA 39 (by omega)]) (rl_k hR hk)
  · rw [h 2 (by omega), hA 37 (by omega), hA 38 (by omega)]
    exact fun k hk => rl_k0 hR hk
  · rw [h 3 (by omega)]
    exact fun k hk => RelS_cg (h _ (by omega)) (h _ (by omega)) (h _ (by omega)) (fun n _ _ => by rw [hA n (by omega)]) (fun p _ => by rw [hA 53 (by omega)]) (fun p _ => by rw [hA 54 (by omega)]) (rl_s hR hk)
  · rw [h 3 (by omega), hA 47 (by omega), hA 52 (by omega), hA 53 (by omega), hA 54 (by omega)]
    exact fun k hk => rl_s0 hR hk
/-- only one claim has changed, on both sides -/
theorem rel_claim {k : Nat} (hV : VC L B) (hR : Rel B A) (hk : (k : Int) < B 2 2) (hf : ∀ n, n ≠ 100 + 3 * k → n ≠ 101 + 3 * k → n ≠ 102 + 3 * k → B' n = B n) (hA : ∀ n, 23 ≤ n → n ≤ 55 → n < 31 ∨ 39 < n → A' n = A n) (hA0 : ∀ j, j ≠ 0 → A' 20 j = A 20 j) (hAk : ∀ n i, 31 ≤ n → n ≤ 37 → i ≠ k → A' n i = A n i) (h8 : ∀ i, i < 8 * k ∨ 8 * k + 8 ≤ i → A' 38 i = A 38 i) (h9 : ∀ i, i < 8 * k ∨ 8 * k + 8 ≤ i → A' 39 i = A 39 i) (hK : RelK B' A' k) : Rel B' A' := by
  have hk12 := vc_k hV hk
  obtain ⟨b1, b2, b3, b4, b5, b6, b7, b8, b9, b10, b11, b12, b13, b14, b15⟩ := rb_of hR
  have e : ∀ n, n < 100 ∨ 136 ≤ n → B' n = B n := fun n q => hf n (by omega) (by omega) (by omega)
  have es : (fun s => B' (200 + 3 * s) 4) = fun s => B (200 + 3 * s) 4 := by funext s; rw [e _ (by omega)]
  refine rel_mk ?_ ?_ ?_ ?_ ?_
  · unfold RB
    rw [es, e 0 (by omega), e 2 (by omega), e 3 (by omega), e 12 (by omega), e 13 (by omega), e 14 (by omega), e 15 (by omega), e 16 (by omega), e 17 (by omega), e 7 (by omega), e 6 (by omega), e 8 (by omega), e 9 (by omega), hA0 1 (by omega), hA0 9 (by omega), hA0 23 (by omega), hA0 35 (by omega), hA0 36 (by omega), hA 23 (by omega) (by omega) (by omega), hA 24 (by omega) (by omega) (by omega), hA 25 (by omega) (by omega) (by omega), hA 26 (by omega) (by omega) (by omega), hA 27 (by omega) (by omega) (by omega), hA 28 (by omega) (by omega) (by omega), hA 40 (by omega) (by omega) (by omega), hA 41 (by omega) (by omega) (by omega), hA 42 (by omega) (by omega) (by omega), hA 55 (by omega) (by omega) (by omega)]
    exact ⟨b1, b2, b3, b4, b5, b6, b7, b8, b9, b10, b11, b12, b13, b14, b15⟩
  · rw [e 2 (by omega)]
    intro j hj
    by_cases hjk : j = k
    · rw [hjk]; exact hK
    · exact RelK_cg (hf _ (by omega) (by omega) (by omega)) (hf _ (by omega) (by omega) (by omega)) (hf _ (by omega) (by omega) (by omega)) (fun n h1 h2 => hAk n j h1 h2 hjk) (fun p hp => h8 _ (by omega)) (fun p hp => h9 _ (by omega)) (rl_k hR hj)
  · rw [e 2 (by omega)]
    intro j hj
    have := rl_k0 hR hj
    exact ⟨by rw [hAk 37 j (by omega) (by omega) (by omega)]; exact this.1, fun p hp => by rw [h8 _ (by omega)]; exact this.2 p hp⟩
  · rw [e 3 (by omega)]
    exact fun s hs => RelS_cg (e _ (by omega)) (e _ (by omega)) (e _ (by omega)) (fun n _ _ => by rw [hA n (by omega) (by omega) (by omega)]) (fun p _ => by rw [hA 53 (by omega) (by omega) (by omega)]) (fun p _ => by rw [hA 54 (by omega) (by omega) (by omega)]) (rl_s hR hs)
  · rw [e 3 (by omega), hA 47 (by omega) (by omega) (by omega), hA 52 (by omega) (by omega) (by omega), hA 53 (by omega) (by omega) (by omega), hA 54 (by omega) (by omega) (by omega)]
    exact fun s hs => rl_s0 hR hs
theorem vc_claim {k : Nat} (hV : VC L B) (hk : (k : Int) < B 2 2) (hf : ∀ n, n ≠ 100 + 3 * k → n ≠ 101 + 3 * k → n ≠ 102 + 3 * k → B' n = B n) (hK : CV B' k) : VC L B' := by
  have hk12 := vc_k hV hk
  have e : ∀ n, n < 100 ∨ 136 ≤ n → B' n = B n := fun n q => hf n (by omega) (by omega) (by omega)
  refine vc_upd hV (e 2 (by omega)) (e 3 (by omega)) (e 4 (by omega)) (e 5 (by omega)) (fun j hj => ?_) (fun s hs => SV_cg (e _ (by omega)) (e _ (by omega)) (e _ (by omega)) (vc_sv hV hs)) (GVd_cg (fun n _ _ => e n (by omega)) (vc_g hV)) (PVd_cg (e 0 (by omega)) (fun n _ _ => e n (by omega)) (vc_p hV))
  by_cases hjk : j = k
  · rw [hjk]; exact hK
  · exact CV_cg (hf _ (by omega) (by omega) (by omega)) (hf _ (by omega) (by omega) (by omega)) (hf _ (by omega) (by omega) (by omega)) (vc_cv hV hj)
theorem iv_claim {k : Nat} (hV : VC L B) (hI : IV B) (hk : (k : Int) < B 2 2) (hf : ∀ n, n ≠ 100 + 3 * k → n ≠ 101 + 3 * k → n ≠ 102 + 3 * k → B' n = B n) (hK : IVk B' k) : IV B' := by
  have hk12 := vc_k hV hk
  have e : ∀ n, n < 100 ∨ 136 ≤ n → B' n = B n := fun n q => hf n (by omega) (by omega) (by omega)
  refine iv_upd hI (e 2 (by omega)) (e 3 (by omega)) ?_ ?_ ?_ ?_ (fun j hj => ?_) (fun s hs => IVs_cg (e _ (by omega)) (e _ (by omega)) (e _ (by omega)) (iv_s hI hs)) ?_
  · rw [e 12 (by omega), e 16 (by omega)]; exact iv_p hI
  · rw [e 14 (by omega), e 13 (by omega)]; exact iv_t hI
  · rw [e 14 (by omega), e 3 (by omega), e 13 (by omega)]; exact iv_n hI
  · rw [e 6 (by omega), e 9 (by omega)]; exact iv_m hI
  · by_cases hjk : j = k
    · rw [hjk]; exact hK
    · exact IVk_cg (hf _ (by omega) (by omega) (by omega)) (hf _ (by omega) (by omega) (by omega)) (e 17 (by omega)) (iv_k hI hj)
  · rw [e 14 (by omega), e 17 (by omega)]; exact iv_z hI
end GCG

theorem leH_cg {h g : Nat → Int} {x : Int} {n : Nat} (e : ∀ p, p < n → h p = g p) : leH h x n = leH g x n := by
  induction n with
  | zero => rfl
  | succ n ih => simp only [leH]; rw [ih (fun p hp => e p (by omega)), e n (by omega)]
theorem cntH_cg {h g : Nat → Int} {n : Nat} (e : ∀ p, p < n → h p = g p) : cntH h n = cntH g n := by
  induction n with
  | zero => rfl
  | succ n ih => simp only [cntH]; rw [ih (fun p hp => e p (by omega)), e n (by omega)]
theorem leH_mono (h : Nat → Int) {x y : Int} (hxy : x ≤ y) (n : Nat) : leH h x n ≤ leH h y n := by
  induction n with
  | zero => exact Int.le_refl _
  | succ n ih =>
    simp only [leH]
    by_cases h1 : h n ≤ x
    · rw [show decide (h n ≤ x) = true from decide_eq_true h1, show decide (h n ≤ y) = true from decide_eq_true (by omega)]; split <;> omega
    · rw [show decide (h n ≤ x) = false from decide_eq_false h1]
      have := b2_rg (decide (h n ≤ y))
      rw [b2_f]
      split <;> omega
theorem leH_lt (h : Nat → Int) {x y : Int} (hxy : y < x) (n : Nat) : leH h y n ≤ ltH h x n := by
  induction n with
  | zero => exact Int.le_refl _
  | succ n ih =>
    simp only [leH, ltH]
    by_cases h1 : h n ≤ y
    · rw [show decide (h n ≤ y) = true from decide_eq_true h1, show decide (h n < x) = true from decide_eq_true (by omega)]; split <;> omega
    · rw [show decide (h n ≤ y) = false from decide_eq_false h1]
      have := b2_rg (decide (h n < x))
      rw [b2_f]
      split <;> omega
/-- the least value of those that stand high enough -/
theorem minF_spec (h : Nat → Int) (n : Nat) : (minF h n = -1 ∧ ∀ p, p < n → ¬ (h p ≠ -1 ∧ (cntH h 8 - 1) / 2 < leH h (h p) 8)) ∨ ∃ p, p < n ∧ minF h n = h p ∧ h p ≠ -1 ∧ (cntH h 8 - 1) / 2 < leH h (h p) 8 ∧ ∀ q, q < n → h q ≠ -1 → (cntH h 8 - 1) / 2 < leH h (h q) 8 → h p ≤ h q := by
  induction n with
  | zero => exact Or.inl ⟨rfl, fun p hp => by omega⟩
  | succ n ih =>
    simp only [minF]
    rcases ih with ⟨e, ih⟩ | ⟨p, hp, e, h1, h2, ih⟩
    · by_cases hc : h n ≠ -1 ∧ (cntH h 8 - 1) / 2 < leH h (h n) 8
      · rw [if_pos ⟨hc.1, hc.2, Or.inl e⟩]
        refine Or.inr ⟨n, by omega, rfl, hc.1, hc.2, fun q hq a b => ?_⟩
        rcases Nat.lt_or_ge q n with hqn | hqn
        · exact absurd ⟨a, b⟩ (ih q hqn)
        · rw [show q = n by omega]; exact Int.le_refl _
      · rw [if_neg (fun q => hc ⟨q.1, q.2.1⟩)]
        refine Or.inl ⟨e, fun q hq => ?_⟩
        rcases Nat.lt_or_ge q n with hqn | hqn
        · exact ih q hqn
        · rw [show q = n by omega]; exact hc
    · by_cases hc : h n ≠ -1 ∧ (cntH h 8 - 1) / 2 < leH h (h n) 8 ∧ (minF h n = -1 ∨ h n < minF h n)
      · rw [if_pos hc]
        refine Or.inr ⟨n, by omega, rfl, hc.1, hc.2.1, fun q hq a b => ?_⟩
        rcases Nat.lt_or_ge q n with hqn | hqn
        · have := ih q hqn a b
          rcases hc.2.2 with h9 | h9 <;> omega
        · rw [show q = n by omega]; exact Int.le_refl _
      · rw [if_neg hc]
        refine Or.inr ⟨p, by omega, e, h1, h2, fun q hq a b => ?_⟩
        rcases Nat.lt_or_ge q n with hqn | hqn
        · exact ih q hqn a b
        · rw [show q = n by omega] at a b ⊢
          by_cases h9 : h p ≤ h n
          · exact h9
          · exact absurd ⟨a, b, Or.inr (by omega)⟩ hc
theorem midF_spec (h : Nat → Int) (z : Int) (n : Nat) : (midF h z n = z ∧ ∀ p, p < n → ¬ (h p ≠ -1 ∧ midB h (h p) = true)) ∨ ∃ p, p < n ∧ midF h z n = h p ∧ h p ≠ -1 ∧ midB h (h p) = true := by
  induction n with
  | zero => exact Or.inl ⟨rfl, fun p hp => by omega⟩
  | succ n ih =>
    simp only [midF]
    by_cases hc : h n ≠ -1 ∧ midB h (h n) = true
    · rw [if_pos hc]; exact Or.inr ⟨n, by omega, rfl, hc.1, hc.2⟩
    · rw [if_neg hc]
      rcases ih with ⟨e, ih⟩ | ⟨p, hp, e⟩
      · refine Or.inl ⟨e, fun q hq => ?_⟩
        rcases Nat.lt_or_ge q n with hqn | hqn
        · exact ih q hqn
        · rw [show q = n by omega]; exact hc
      · exact Or.inr ⟨p, by omega, e⟩
theorem leH_top {h : Nat → Int} {x : Int} {n : Nat} (hb : ∀ p, p < n → h p ≤ x) : leH h x n = cntH h n := by
  induction n with
  | zero => rfl
  | succ n ih =>
    simp only [leH, cntH]
    rw [ih (fun p hp => hb p (by omega)), show decide (h n ≤ x) = true from decide_eq_true (hb n (by omega))]
    rfl
theorem ltH_none {h : Nat → Int} {x : Int} {n : Nat} (hb : ∀ p, p < n → h p ≠ -1 → x ≤ h p) : ltH h x n = 0 := by
  induction n with
  | zero => rfl
  | succ n ih =>
    simp only [ltH]
    rw [ih (fun p hp => hb p (by omega))]
    split
    · rfl
    · rename_i h1
      rw [show decide (h n < x) = false from decide_eq_false (by have := hb n (by omega) h1; omega)]; rfl
theorem ltH_le {h : Nat → Int} {x y : Int} {n : Nat} (hb : ∀ p, p < n → h p ≠ -1 → h p < x → h p ≤ y) : ltH h x n ≤ leH h y n := by
  induction n with
  | zero => exact Int.le_refl _
  | succ n ih =>
    have i1 := ih (fun p hp => hb p (by omega))
    simp only [ltH, leH]
    by_cases h0 : h n = -1
    · rw [if_pos h0, if_pos h0]; exact i1
    · rw [if_neg h0, if_neg h0]
      by_cases h1 : h n < x
      · rw [show decide (h n < x) = true from decide_eq_true h1, show decide (h n ≤ y) = true from decide_eq_true (hb n (by omega) h0 h1)]; omega
      · rw [show decide (h n < x) = false from decide_eq_false h1]
        have := b2_rg (decide (h n ≤ y))
        rw [b2_f]; omega
theorem max_ex (P : Nat → Prop) (h : Nat → Int) (n : Nat) : (∀ p, p < n → ¬ P p) ∨ ∃ p, p < n ∧ P p ∧ ∀ q, q < n → P q → h q ≤ h p := by
  induction n with
  | zero => exact Or.inl (fun p hp => by omega)
  | succ n ih =>
    rcases ih with ih | ⟨p, hp, h1, h2⟩
    · by_cases hn : P n
      · refine Or.inr ⟨n, by omega, hn, fun q hq hP => ?_⟩
        rcases Nat.lt_or_ge q n with hqn | hqn
        · exact absurd hP (ih q hqn)
        · rw [show q = n by omega]; exact Int.le_refl _
      · refine Or.inl (fun q hq => ?_)
        rcases Nat.lt_or_ge q n with hqn | hqn
        · exact ih q hqn
        · rw [show q = n by omega]; exact hn
    · by_cases hn : P n ∧ h p < h n
      · refine Or.inr ⟨n, by omega, hn.1, fun q hq hP => ?_⟩
        rcases Nat.lt_or_ge q n with hqn | hqn
        · have := h2 q hqn hP; omega
        · rw [show q = n by omega]; exact Int.le_refl _
      · refine Or.inr ⟨p, by omega, h1, fun q hq hP => ?_⟩
        rcases Nat.lt_or_ge q n with hqn | hqn
        · exact h2 q hqn hP
        · rw [show q = n by omega] at hP ⊢
          by_cases h9 : h n ≤ h p
          · exact h9
          · exact absurd ⟨hP, by omega⟩ hn
/-- once an hour was told, the class's middle hour and the reference's are the same -/
theorem mid_min {h : Nat → Int} {z : Int} (h1 : 1 ≤ cntH h 8) : midF h z 8 = minF h 8 := by
  have hsome : ∃ p, p < 8 ∧ h p ≠ -1 := by
    rcases max_ex (fun p => h p ≠ -1) h 8 with q | ⟨p, hp, h2, _⟩
    · have : cntH h 8 = 0 := by
        have e : ∀ n, n ≤ 8 → cntH h n = 0 := by
          intro n
          induction n with
          | zero => intro _; rfl
          | succ n ih =>
            intro hn
            have q2 := q n (by omega)
            simp only [cntH]
            rw [if_pos (by omega), ih (by omega)]
        exact e 8 (by omega)
      omega
    · exact ⟨p, hp, h2⟩
  have hmid : ∃ p, p < 8 ∧ minF h 8 = h p ∧ h p ≠ -1 ∧ midB h (h p) = true := by
    rcases minF_spec h 8 with ⟨_, q⟩ | ⟨p, hp, e, a, b, c⟩
    · exfalso
      rcases max_ex (fun p => h p ≠ -1) h 8 with q2 | ⟨p, hp, h2, h3⟩
      · obtain ⟨p, hp, h2⟩ := hsome; exact q2 p hp h2
      · refine q p hp ⟨h2, ?_⟩
        have e : ∀ n, n ≤ 8 → leH h (h p) n = cntH h n := by
          intro n
          induction n with
          | zero => intro _; rfl
          | succ n ih =>
            intro hn
            simp only [leH, cntH]
            by_cases h0 : h n = -1
            · rw [if_pos h0, if_pos h0, ih (by omega)]
            · rw [if_neg h0, if_neg h0, ih (by omega), show decide (h n ≤ h p) = true from decide_eq_true (h3 n (by omega) h0)]; rfl
        rw [e 8 (by omega)]; omega
    · refine ⟨p, hp, e, a, ?_⟩
      unfold midB
      rw [decide_eq_true_eq]
      refine ⟨?_, b⟩
      rcases max_ex (fun p9 => h p9 ≠ -1 ∧ h p9 < h p) h 8 with q2 | ⟨p9, hp9, h2, h3⟩
      · rw [ltH_none (fun q hq h0 => by have := q2 q hq; by_cases h9 : h q < h p; exact absurd ⟨h0, h9⟩ this; omega)]
        omega
      · have h4 := ltH_le (h := h) (x := h p) (y := h p9) (n := 8) (fun q hq h0 h9 => h3 q hq ⟨h0, h9⟩)
        by_cases h5 : (cntH h 8 - 1) / 2 < leH h (h p9) 8
        · have := c p9 hp9 h2.1 h5
          omega
        · omega
  obtain ⟨p, hp, e, a, b⟩ := hmid
  rcases midF_spec h z 8 with ⟨_, q⟩ | ⟨p9, hp9, e9, a9, b9⟩
  · exact absurd ⟨a, b⟩ (q p hp)
  · rw [e, e9]
    unfold midB at b b9
    rw [decide_eq_true_eq] at b b9
    by_cases h5 : h p < h p9
    · have := leH_lt h h5 8; omega
    · by_cases h6 : h p9 < h p
      · have := leH_lt h h6 8; omega
      · omega

theorem gnx (A : Mem) {n k : Nat} {v : Int} {m : Nat} (h : m ≠ n) : gup A n k v m = A m := gup_ne h
section GKEEP
variable {L : Nat → Nat} {B A : Mem}
theorem keep_wit {x p h : Int} (hV : VC L B) (hI : IV B) (hR : Rel B A) (he : witE B x p h = 0) : VC L (witA B x p h) ∧ IV (witA B x p h) ∧ Rel (witA B x p h) (gup (gup A 20 0 0) 39 (8 * x.toNat + p.toNat) h) := by
  unfold witE at he
  by_cases c1 : (0 ≤ x ∧ x < B 2 2) ∧ 0 ≤ p ∧ p < 8
  · rw [if_neg (fun q => q c1)] at he
    by_cases c2 : 0 ≤ h ∧ h ≤ B 0 9
    · rw [if_neg (fun q => q c2)] at he
      obtain ⟨k, rfl⟩ : ∃ k : Nat, x = k := ⟨x.toNat, by omega⟩
      have hk : (k : Int) < B 2 2 := by omega
      have hk12 := vc_k hV hk
      have hp0 := (vc_p hV).1
      have hcv := vc_cv hV hk
      have rk := rl_k hR hk
      have e1 : ((k : Int)).toNat = k := by omega
      have hf : ∀ n, n ≠ 100 + 3 * k → n ≠ 101 + 3 * k → n ≠ 102 + 3 * k → witA B k p h n = B n := fun n q0 q1 q2 => by unfold witA; rw [e1, gup_ne q0, gup_ne q2]
      have g1 : witA B k p h (101 + 3 * k) = B (101 + 3 * k) := by unfold witA; rw [e1, gup_ne (by omega), gup_ne (by omega)]
      have g2 : witA B k p h (102 + 3 * k) = gup B (102 + 3 * k) p.toNat h (102 + 3 * k) := by unfold witA; rw [e1, gup_ne (by omega)]
      have g0 : ∀ j, j ≠ 5 → witA B k p h (100 + 3 * k) j = B (100 + 3 * k) j := fun j hj => by unfold witA; rw [e1, gup_ap, if_neg (by omega), gup_ne (by omega)]
      have g5 : witA B k p h (100 + 3 * k) 5 = witV B k p h := by unfold witA; rw [e1, gup_at]
      have gh : ∀ q, gup B (102 + 3 * k) p.toNat h (102 + 3 * k) q = if q = p.toNat then h else B (102 + 3 * k) q := fun q => by rw [gup_ap]; simp
      have hcnt : 1 ≤ cntH (gup B (102 + 3 * k) p.toNat h (102 + 3 * k)) 8 := cntH_pos (p := p.toNat) (by omega) (by rw [gh, if_pos rfl]; omega)
      have hmv : witV B k p h = minF (gup B (102 + 3 * k) p.toNat h (102 + 3 * k)) 8 := by unfold witV; rw [e1]; exact mid_min hcnt
      have hvr : 0 ≤ witV B k p h ∧ witV B k p h ≤ 5000 := by
        unfold witV
        rw [e1]
        rcases midF_mem (gup B (102 + 3 * k) p.toNat h (102 + 3 * k)) (B (100 + 3 * k) 5) 8 with e | ⟨q, _, e, e9⟩
        · rw [e]; exact hcv.2.2.1
        · rw [e]
          rw [gh] at e9 ⊢
          have := hcv.2.2.2.2.2.2 q
          split at e9 <;> rename_i z9 <;> simp only [z9] <;> simp <;> omega
      have hcv2 : CV (witA B k p h) k := by
        obtain ⟨a1, a2, a3, a4, a5, a6, a7⟩ := hcv
        unfold CV
        rw [g1, g2, g5, g0 0 (by omega), g0 1 (by omega), g0 2 (by omega), g0 3 (by omega), g0 4 (by omega), g0 6 (by omega), g0 7 (by omega)]
        exact ⟨a1, a2, hvr, a4, a5, a6, fun q => by rw [gh]; have := a7 q; split <;> omega⟩
      refine ⟨vc_claim hV hk hf hcv2, iv_claim hV hI hk hf ?_, ?_⟩
      · have := iv_k hI hk
        unfold IVk at *
        rw [g1, g0 0 (by omega), g0 1 (by omega), g0 2 (by omega), g0 3 (by omega), g0 4 (by omega), trapC_cg (hf 17 (by omega) (by omega) (by omega))]
        exact this
      · refine rel_claim hV hR hk hf (fun n _ _ _ => by rw [gup_ne (by omega), gup_ne (by omega)]) (fun j hj => by rw [gup_ne (by omega), gup_ap, if_neg (by omega)]) (fun n i _ _ _ => by rw [gup_ne (by omega), gup_ne (by omega)]) (fun i _ => by rw [gup_ne (by omega), gup_ne (by omega)]) (fun i _ => by rw [gup_ap, if_neg (by omega), gup_ne (by omega)]) ?_
        unfold RelK at *
        obtain ⟨a1, a2, a3, a4, a5, a6, a7, a8, a9, a10⟩ := rk
        have hA : ∀ n, n ≠ 39 → n ≠ 20 → gup (gup A 20 0 0) 39 (8 * ((k : Int)).toNat + p.toNat) h n = A n := fun n q1 q2 => by rw [gup_ne q1, gup_ne q2]
        rw [hA 31 (by omega) (by omega), hA 32 (by omega) (by omega), hA 33 (by omega) (by omega), hA 34 (by omega) (by omega), hA 35 (by omega) (by omega), hA 36 (by omega) (by omega), hA 37 (by omega) (by omega), hA 38 (by omega) (by omega), g1, g2, g0 0 (by omega), g0 1 (by omega), g0 2 (by omega), g0 3 (by omega), g0 4 (by omega), g0 6 (by omega), g0 7 (by omega), g5]
        refine ⟨a1, a2, a3, a4, a5, a6, a7, fun q hq => ?_, a9, ?_⟩
        · rw [gh, gup_ap, e1]
          by_cases e9 : q = p.toNat
          · rw [if_pos e9, if_pos ⟨rfl, by omega⟩]
          · rw [if_neg e9, if_neg (by omega), gup_ne (by omega)]; exact a8 q hq
        · unfold hourM; rw [if_neg (by omega)]; exact hmv
    · rw [if_pos c2] at he; omega
  · rw [if_pos c1] at he; omega
theorem keep_par {x p t : Int} (hV : VC L B) (hI : IV B) (hR : Rel B A) (he : parE B x p t = 0) : VC L (parA B x p t) ∧ IV (parA B x p t) ∧ Rel (parA B x p t) (gup (gup A 20 0 0) 38 (8 * x.toNat + p.toNat) t) := by
  unfold parE at he
  by_cases c1 : (0 ≤ x ∧ x < B 2 2) ∧ 0 ≤ p ∧ p < 8
  · rw [if_neg (fun q => q c1)] at he
    by_cases c2 : 1 ≤ t ∧ t ≤ 11
    · rw [if_neg (fun q => q c2)] at he
      by_cases c3 : 0 < B (101 + 3 * x.toNat) p.toNat ∨ B (101 + 3 * x.toNat) (B (100 + 3 * x.toNat) 0).toNat ≤ t
      · rw [if_pos c3] at he; omega
      obtain ⟨k, rfl⟩ : ∃ k : Nat, x = k := ⟨x.toNat, by omega⟩
      have hk : (k : Int) < B 2 2 := by omega
      have hk12 := vc_k hV hk
      have hcv := vc_cv hV hk
      have rk := rl_k hR hk
      have e1 : ((k : Int)).toNat = k := by omega
      rw [e1] at c3
      have how := hcv.1
      have hpo : ¬ p.toNat = (B (100 + 3 * k) 0).toNat := fun q => c3 (by rw [q]; have := iv_k hI hk; unfold IVk at this; omega)
      have hp0 : B (101 + 3 * k) p.toNat = 0 := by have := (hcv.2.2.2.2.2.1 p.toNat).1; omega
      have hf : ∀ n, n ≠ 100 + 3 * k → n ≠ 101 + 3 * k → n ≠ 102 + 3 * k → parA B k p t n = B n := fun n q0 q1 q2 => by unfold parA; rw [e1, gup_ne q1, gup_ne q1]
      have g0 : parA B k p t (100 + 3 * k) = B (100 + 3 * k) := by unfold parA; rw [e1, gup_ne (by omega), gup_ne (by omega)]
      have g2 : parA B k p t (102 + 3 * k) = B (102 + 3 * k) := by unfold parA; rw [e1, gup_ne (by omega), gup_ne (by omega)]
      have g1 : ∀ q, parA B k p t (101 + 3 * k) q = if q = p.toNat then t else if q = (B (100 + 3 * k) 0).toNat then B (101 + 3 * k) (B (100 + 3 * k) 0).toNat - t else B (101 + 3 * k) q := fun q => by unfold parA; rw [e1, gup_ap, gup_ap]; simp
      have hcv2 : CV (parA B k p t) k := by
        obtain ⟨a1, a2, a3, a4, a5, a6, a7⟩ := hcv
        unfold CV
        rw [g0, g2]
        refine ⟨a1, a2, a3, a4, a5, fun q => ?_, a7⟩
        rw [g1]
        have h1 := a6 q; have h2 := a6 (B (100 + 3 * k) 0).toNat
        split
        · omega
        · split <;> omega
      refine ⟨vc_claim hV hk hf hcv2, iv_claim hV hI hk hf ?_, ?_⟩
      · have := iv_k hI hk
        unfold IVk at *
        rw [g0, g1, if_neg (fun q => hpo q.symm), if_pos rfl, trapC_cg (hf 17 (by omega) (by omega) (by omega))]
        exact ⟨by omega, this.2⟩
      · refine rel_claim hV hR hk hf (fun n _ _ _ => by rw [gup_ne (by omega), gup_ne (by omega)]) (fun j hj => by rw [gup_ne (by omega), gup_ap, if_neg (by omega)]) (fun n i _ _ _ => by rw [gup_ne (by omega), gup_ne (by omega)]) (fun i _ => by rw [gup_ap, if_neg (by omega), gup_ne (by omega)]) (fun i _ => by rw [gup_ne (by omega), gup_ne (by omega)]) ?_
        unfold RelK at *
        obtain ⟨a1, a2, a3, a4, a5, a6, a7, a8, a9, a10⟩ := rk
        have hA : ∀ n, n ≠ 38 → n ≠ 20 → gup (gup A 20 0 0) 38 (8 * ((k : Int)).toNat + p.toNat) t n = A n := fun n q1 q2 => by rw [gup_ne q1, gup_ne q2]
        have h38 : ∀ q, q < 8 → gup (gup A 20 0 0) 38 (8 * ((k : Int)).toNat + p.toNat) t 38 (8 * k + q) = if q = p.toNat then t else A 38 (8 * k + q) := fun q hq => by
          rw [gup_ap, e1]
          by_cases e9 : q = p.toNat
          · rw [if_pos ⟨rfl, by omega⟩, if_pos e9]
          · rw [if_neg (by omega), if_neg e9, gup_ne (by omega)]
        rw [hA 31 (by omega) (by omega), hA 32 (by omega) (by omega), hA 33 (by omega) (by omega), hA 34 (by omega) (by omega), hA 35 (by omega) (by omega), hA 36 (by omega) (by omega), hA 37 (by omega) (by omega), hA 39 (by omega) (by omega), g0, g2]
        refine ⟨a1, a2, a3, a4, a5, a6, fun q hq => ?_, a8, ?_, a10⟩
        · rw [h38 q hq, g1, a7 q hq]
          by_cases e9 : q = p.toNat
          · rw [if_pos e9, if_neg (by omega), if_pos e9]
          · rw [if_neg e9, if_neg e9]
            by_cases e8 : (q : Int) = B (100 + 3 * k) 0
            · rw [if_pos e8, if_pos e8]
            · rw [if_neg e8, if_neg e8, if_neg (by omega)]
        · rw [g1, if_neg (fun q => hpo q.symm), if_pos rfl, a9, sumF_cg h38]
          have h9 : A 38 (8 * k + p.toNat) = 0 := by rw [a7 p.toNat (by omega), if_neg (by omega), hp0]
          have : ∀ n, n ≤ 8 → sumF (fun q => if q = p.toNat then t else A 38 (8 * k + q)) n = sumF (fun q => A 38 (8 * k + q)) n + if p.toNat < n then t else 0 := by
            intro n
            induction n with
            | zero => intro _; simp [sumF]
            | succ n ih =>
              intro hn
              simp only [sumF]
              rw [ih (by omega)]
              by_cases e9 : n = p.toNat
              · rw [if_pos e9, if_neg (by omega), if_pos (by omega), e9, h9, Int.add_zero]
              · rw [if_neg e9]
                by_cases e8 : p.toNat < n
                · rw [if_pos e8, if_pos (by omega)]; omega
                · rw [if_neg e8, if_neg (by omega)]; omega
          rw [this 8 (by omega), if_pos (by omega)]
          omega
    · rw [if_pos c2] at he; omega
  · rw [if_pos c1] at he; omega
end GKEEP

