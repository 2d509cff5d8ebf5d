theorem plR_ge {f : Nat → Int} {ok : Nat → Bool} {n i : Nat} (hi : i < n) (h : ok i = true) : f i ≤ plR f ok n := by
  induction n with
  | zero => omega
  | succ n ih =>
    simp only [plR]
    by_cases e : i = n
    · subst e
      by_cases h2 : plR f ok i < f i
      · rw [if_pos ⟨h, h2⟩]; omega
      · rw [if_neg (fun q => h2 q.2)]; omega
    · have := ih (by omega)
      by_cases h2 : ok n = true ∧ plR f ok n < f n
      · rw [if_pos h2]; omega
      · rw [if_neg h2]; exact this
theorem plR_nn {f : Nat → Int} {ok : Nat → Bool} (n : Nat) : 0 ≤ plR f ok n := by
  induction n with
  | zero => exact Int.le_refl _
  | succ n ih =>
    simp only [plR]
    by_cases h2 : ok n = true ∧ plR f ok n < f n
    · rw [if_pos h2]; omega
    · rw [if_neg h2]; exact ih
theorem plR_at (f : Nat → Int) (ok : Nat → Bool) (n : Nat) : plR f ok n = 0 ∨ ∃ i, i < n ∧ ok i = true ∧ plR f ok n = f i := by
  induction n with
  | zero => exact Or.inl rfl
  | succ n ih =>
    simp only [plR]
    by_cases h2 : ok n = true ∧ plR f ok n < f n
    · rw [if_pos h2]; exact Or.inr ⟨n, by omega, h2.1, rfl⟩
    · rw [if_neg h2]
      rcases ih with ih | ⟨i, hi, h3, h4⟩
      · exact Or.inl ih
      · exact Or.inr ⟨i, by omega, h3, h4⟩
theorem plR_le {f g : Nat → Int} {ok og : Nat → Bool} {n m : Nat} (h : ∀ i, i < n → ok i = true → ∃ j, j < m ∧ og j = true ∧ f i ≤ g j) : plR f ok n ≤ plR g og m := by
  rcases plR_at f ok n with e | ⟨i, hi, h1, e⟩
  · rw [e]; exact plR_nn m
  · obtain ⟨j, hj, h2, h3⟩ := h i hi h1
    have := plR_ge (f := g) hj h2
    omega
theorem hldC_12 {B : Mem} {c : Nat} {v x : Int} : hldC (gup B 12 c v) x = hldC B x := by
  unfold hldC
  rw [show covC (gup B 12 c v) x = covC B x from funext (fun k => by unfold covC; rw [gup_ne (by omega)]), show livC (gup B 12 c v) = livC B from funext (fun k => by unfold livC; rw [gup_ne (show 0 ≠ 12 by decide), gup_ne (show 100 + 3 * k ≠ 12 by omega)]), show (fun k => gup B 12 c v (100 + 3 * k) 5) = fun k => B (100 + 3 * k) 5 from funext (fun k => by rw [gup_ne (by omega)]), gup_ne (show 2 ≠ 12 by decide)]
theorem safe_op {B : Mem} {x : Int} (h : safeB B x = true) : opB B x = false := by
  unfold safeB at h
  rw [decide_eq_true_eq] at h
  have := h.1
  unfold digB at this
  rw [decide_eq_true_eq] at this
  exact this.1
/-- rows of listed cells bring what rows of all cells bring, when all that may be dug is listed -/
theorem mbR_pl {lst : Nat → Int} {n : Nat} {k : Int} (d : Nat) (B : Mem) (hl : ∀ i, i < n → 0 ≤ lst i ∧ lst i < 100 ∧ hldC B (lst i) = k) (ha : ∀ c : Nat, c < 100 → opB B c = false → hldC B c = k → ∃ i, i < n ∧ lst i = c) : mbR lst n d B = plN d B k := by
  induction d generalizing B with
  | zero => rfl
  | succ d ih =>
    have hs : ∀ c : Nat, mbR lst n d (gup B 12 c 1) = plN d (gup B 12 c 1) k := fun c => by
      refine ih _ (fun i hi => by rw [hldC_12]; exact hl i hi) (fun c2 h1 h2 h3 => ha c2 h1 ?_ (by rw [hldC_12] at h3; exact h3))
      unfold opB at h2 ⊢
      rw [decide_eq_false_iff_not, gup_ap] at h2
      rw [decide_eq_false_iff_not]
      intro q
      refine h2 ⟨q.1, q.2.1, ?_⟩
      split
      · rfl
      · exact q.2.2
    simp only [mbR, plN]
    apply Int.le_antisymm
    · refine plR_le (fun i hi h1 => ?_)
      have h2 := hl i hi
      refine ⟨(lst i).toNat, by omega, ?_, ?_⟩
      · unfold plOk
        rw [show (((lst i).toNat : Nat) : Int) = lst i by omega, decide_eq_true_eq]
        exact ⟨h1, h2.2.2⟩
      · show B 14 _ + mbR lst n d _ ≤ B 14 _ + plN d _ k
        rw [hs]; exact Int.le_refl _
    · refine plR_le (fun c hc h1 => ?_)
      unfold plOk at h1
      rw [decide_eq_true_eq] at h1
      obtain ⟨i, hi, e⟩ := ha c hc (safe_op h1.1) h1.2
      refine ⟨i, hi, by show safeB B (lst i) = true; rw [e]; exact h1.1, ?_⟩
      show B 14 c + plN d _ k ≤ B 14 _ + mbR lst n d _
      rw [e, show ((c : Int)).toNat = c by omega, hs]; exact Int.le_refl _

