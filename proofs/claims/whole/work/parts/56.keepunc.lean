/-- a new stone's fields -/
theorem stn_0 {B : Mem} {s : Nat} {c w d k p : Int} (hz : ∀ j, B (200 + 3 * s) j = 0) (j : Nat) : stnA B s c w d k p (200 + 3 * s) j = if j = 0 then c else if j = 1 then d else if j = 2 then k else if j = 3 then w else if j = 6 then p else if j = 7 then -1 else if j = 9 then 1 else if j = 10 then 1 else 0 := by
  unfold stnA
  simp only [gup_ap, gz, true_and, show ¬ (200 + 3 * s = 201 + 3 * s) by omega, show ¬ (200 + 3 * s = 202 + 3 * s) by omega, if_false, hz]
  repeat' split
  all_goals first | rfl | omega
theorem stn_1 {B : Mem} {s : Nat} {c w d k p : Int} (j : Nat) : stnA B s c w d k p (201 + 3 * s) j = 0 := by
  unfold stnA
  simp only [gup_ap, gz, true_and, show ¬ (201 + 3 * s = 200 + 3 * s) by omega, show ¬ (201 + 3 * s = 202 + 3 * s) by omega, if_false, false_and, if_true]
theorem stn_2 {B : Mem} {s : Nat} {c w d k p : Int} (j : Nat) : stnA B s c w d k p (202 + 3 * s) j = 0 := by
  unfold stnA
  simp only [gup_ap, gz, true_and, show ¬ (202 + 3 * s = 200 + 3 * s) by omega, if_false, false_and, if_true]
theorem cntF_0 (f : Nat → Bool) (n : Nat) (e : ∀ i, i < n → f i = false) : cntF f n = 0 := by
  induction n with
  | zero => rfl
  | succ n ih => rw [cntF, ih (fun i q => e i (by omega)), e n (by omega)]; rfl
/-- the reference's opened cell -/
def opn1 (A : Mem) (c p k : Int) : Mem := gup (opnS A c p k) 24 c.toNat 0
theorem opnR_ne (A : Mem) (c p k : Int) {n : Nat} (h : n ≠ 23) (h2 : n ≠ 29) : opnR A c p k n = opn1 A c p k n := by unfold opnR opn1; rw [mayR_ne _ _ h h2]
theorem opnR_23 {A B1 : Mem} {c p k : Int} (hc : 0 ≤ c ∧ c < 100) (h12 : gup A 23 c.toNat 1 23 = B1 12) (h16 : A 27 = B1 16) : opnR A c p k 23 = fallC B1 c 12 := by
  unfold opnR
  rw [mayR_st hc]
  refine fallC_cg ?_ ?_ _
  · show gup (opnS A c p k) 24 c.toNat 0 23 = _
    rw [gup_ne (by decide), opnS_23]; exact h12
  · show gup (opnS A c p k) 24 c.toNat 0 27 = _
    rw [gup_ne (by decide), opnS_ne _ _ _ _ _ (by decide)]; exact h16
section GUNC
variable {L : Nat → Nat} {A B : Mem}
set_option maxHeartbeats 1000000 in
theorem keep_unc0 {c w p : Int} (hV : VC L B) (hX : XC L B) (hI : IV B) (hJ : JV B) (hR : Rel B A) (hc : 0 ≤ c ∧ c < 100) (h16 : B 16 c.toNat = 0) (h17 : B 17 c.toNat = -1) (h14 : ¬ 0 < B 14 c.toNat) :
    VC L (uncA B c w p) ∧ XC L (uncA B c w p) ∧ IV (uncA B c w p) ∧ JV (uncA B c w p) ∧ Rel (uncA B c w p) (opnR A c p w) := by
  have hg := vc_g hV
  have e14 : B 14 c.toNat = 0 := by have := hg.2.2.1 c.toNat; omega
  have eu : uncA B c w p = fallC (opnA B c) c := by unfold uncA unsC; rw [if_neg h14]
  have f : ∀ n, n ≠ 12 → uncA B c w p n = B n := fun n q => by
    rw [eu, fallC_ne _ _ q]
    by_cases e : n = 14
    · rw [e]; funext j; unfold opnA; rw [gup_ne (by decide), gup_ap]; split
      · next h => rw [h.2, e14]
      · rfl
    · exact opnA_ne e q
  have e12 : ∀ j, opnA B c 12 j = if j = c.toNat then 1 else B 12 j := fun j => by unfold opnA; rw [gup_ap]; simp only [true_and]; rw [gup_ne (by decide)]
  have e16 : opnA B c 16 = B 16 := opnA_ne (by decide) (by decide)
  have hf := fun j => fallC_12 (A := opnA B c) (c := c) (by rw [e16]; exact h16) j
  refine ⟨vc_low hV (fun n q => f n (by omega)) ?_ (PVd_cg (f 0 (by omega)) (fun n _ _ => f n (by omega)) (vc_p hV)), xc_cg hX (fun n q => f n (by omega)) (fun n q => f n (by omega)), iv_low hI (fun n q => f n (by omega)) ?_ ?_ ?_ ?_ ?_ ?_, ?_, rel_low hR (fun n q => f n (by omega)) ?_ ?_⟩
  · obtain ⟨g1, g2, g3, g4, g5, g6⟩ := hg
    unfold GVd
    rw [f 13 (by omega), f 14 (by omega), f 15 (by omega), f 16 (by omega), f 17 (by omega)]
    refine ⟨fun j => ?_, g2, g3, g4, g5, g6⟩
    rw [eu]
    have := g1 j
    rcases hf j with h | ⟨h, _⟩
    · rw [h, e12]; split <;> omega
    · rw [h]; omega
  · rw [f 16 (by omega), eu]
    intro j hj
    rcases hf j with h | ⟨_, h⟩
    · rw [h, e12] at hj
      by_cases e : j = c.toNat
      · rw [e]; exact h16
      · rw [if_neg e] at hj; exact iv_p hI j hj
    · rw [e16] at h; exact h
  · rw [f 13 (by omega), f 14 (by omega)]; exact iv_t hI
  · rw [f 13 (by omega), f 14 (by omega), f 3 (by omega)]; exact iv_n hI
  · rw [f 6 (by omega), f 9 (by omega)]; exact iv_m hI
  · intro j hj; rw [trapC_cg (f 17 (by omega))]; exact (iv_k hI hj).2.2
  · rw [f 14 (by omega), f 17 (by omega)]; exact iv_z hI
  · intro j; rw [f 17 (by omega), f 2 (by omega)]; exact hJ j
  · intro n q; rw [opnR_ne _ _ _ _ (by omega) (by omega)]; unfold opn1 opnS; rw [rl_ca hR, if_neg h14, gup_ne (by omega), gup_ne (by omega), gup_ne (by omega)]
  · obtain ⟨b1, b2, b3, b4, b5, b6, b7, b8, b9, b10, b11, b12, b13, b14, b15⟩ := rb_of hR
    have fA : ∀ n, n ≠ 23 → n ≠ 29 → n ≠ 28 → n ≠ 24 → opnR A c p w n = A n := fun n q1 q2 q3 q4 => by rw [opnR_ne _ _ _ _ q1 q2]; unfold opn1 opnS; rw [b5, if_neg h14, gup_ne q4, gup_ne q3, gup_ne q1]
    have es : (fun s => uncA B c w p (200 + 3 * s) 4) = fun s => B (200 + 3 * s) 4 := by funext s; rw [f _ (by omega)]
    have e24 : opnR A c p w 24 = B 14 := by
      rw [opnR_ne _ _ _ _ (by decide) (by decide)]; unfold opn1 opnS; rw [b5, if_neg h14]
      funext j; rw [gup_ap]; split
      · next h => rw [h.2, e14]
      · rw [gup_ne (by decide), gup_ne (by decide), b5]
    have e28 : opnR A c p w 28 = B 17 := by
      rw [opnR_ne _ _ _ _ (by decide) (by decide)]; unfold opn1 opnS; rw [b5, if_neg h14, gup_ne (by decide)]
      funext j; rw [gup_ap]; split
      · next h => rw [h.2, h17]
      · rw [gup_ne (by decide), b9]
    have e23 : opnR A c p w 23 = uncA B c w p 12 := by
      rw [eu]
      refine opnR_23 hc ?_ ?_
      · funext j; rw [gup_ap, e12, b4]; simp
      · rw [b8, e16]
    unfold RB
    rw [es, fA 20 (by omega) (by omega) (by omega) (by omega), e23, e24, fA 25 (by omega) (by omega) (by omega) (by omega), fA 26 (by omega) (by omega) (by omega) (by omega), fA 27 (by omega) (by omega) (by omega) (by omega), e28, fA 40 (by omega) (by omega) (by omega) (by omega), fA 41 (by omega) (by omega) (by omega) (by omega), fA 42 (by omega) (by omega) (by omega) (by omega), fA 55 (by omega) (by omega) (by omega) (by omega),
      f 0 (by omega), f 2 (by omega), f 3 (by omega), f 13 (by omega), f 14 (by omega), f 15 (by omega), f 16 (by omega), f 17 (by omega), f 7 (by omega), f 6 (by omega), f 8 (by omega), f 9 (by omega)]
    exact ⟨b1, b2, b3, rfl, rfl, b6, b7, b8, rfl, b10, b11, b12, b13, b14, b15⟩
end GUNC

