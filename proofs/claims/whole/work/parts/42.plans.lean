theorem plR_ge {f : Nat → Int} {ok : Nat → Bool} {n i : Nat} (hi : i < n) (h : ok i = true) : f i ≤ plR f ok n := by
  induction n with
  | zero => omega
  | succ n ih =>
    simp only [plR]
    by_cases e : i = n
    · subst e
      by_cases h2 : plR f ok i < f i
      · rw [if_pos ⟨h, h2⟩]; omega
      · rw [if_neg (fun q => h2 q.2)]; omega
    · have := ih (by omega)
      by_cases h2 : ok n = true ∧ plR f ok n < f n
      · rw [if_pos h2]; omega
      · rw [if_neg h2]; exact this
theorem plR_nn {f : Nat → Int} {ok : Nat → Bool} (n : Nat) : 0 ≤ plR f ok n := by
  induction n with
  | zero => exact Int.le_refl _
  | succ n ih =>
    simp only [plR]
    by_cases h2 : ok n = true ∧ plR f ok n < f n
    · rw [if_pos h2]; omega
    · rw [if_neg h2]; exact ih
theorem plR_at (f : Nat → Int) (ok : Nat → Bool) (n : Nat) : plR f ok n = 0 ∨ ∃ i, i < n ∧ ok i = true ∧ plR f ok n = f i := by
  induction n with
  | zero => exact Or.inl rfl
  | succ n ih =>
    simp only [plR]
    by_cases h2 : ok n = true ∧ plR f ok n < f n
    · rw [if_pos h2]; exact Or.inr ⟨n, by omega, h2.1, rfl⟩
    · rw [if_neg h2]
      rcases ih with ih | ⟨i, hi, h3, h4⟩
      · exact Or.inl ih
      · exact Or.inr ⟨i, by omega, h3, h4⟩
theorem plR_le {f g : Nat → Int} {ok og : Nat → Bool} {n m : Nat} (h : ∀ i, i < n → ok i = true → ∃ j, j < m ∧ og j = true ∧ f i ≤ g j) : plR f ok n ≤ plR g og m := by
  rcases plR_at f ok n with e | ⟨i, hi, h1, e⟩
  · rw [e]; exact plR_nn m
  · obtain ⟨j, hj, h2, h3⟩ := h i hi h1
    have := plR_ge (f := g) hj h2
    omega
theorem hldC_12 {B : Mem} {c : Nat} {v x : Int} : hldC (gup B 12 c v) x = hldC B x := by
  unfold hldC
  rw [show covC (gup B 12 c v) x = covC B x from funext (fun k => by unfold covC; rw [gup_ne (by omega)]), show livC (gup B 12 c v) = livC B from funext (fun k => by unfold livC; rw [gup_ne (show 0 ≠ 12 by decide), gup_ne (show 100 + 3 * k ≠ 12 by omega)]), show (fun k => gup B 12 c v (100 + 3 * k) 5) = fun k => B (100 + 3 * k) 5 from funext (fun k => by rw [gup_ne (by omega)]), gup_ne (show 2 ≠ 12 by decide)]
theorem safe_op {B : Mem} {x : Int} (h : safeB B x = true) : opB B x = false := by
  unfold safeB at h
  rw [decide_eq_true_eq] at h
  have := h.1
  unfold digB at this
  rw [decide_eq_true_eq] at this
  exact this.1
/-- rows of listed cells bring what rows of all cells bring, when all that may be dug is listed -/
theorem mbR_pl {lst : Nat → Int} {n : Nat} {k : Int} (d : Nat) (B : Mem) (hl : ∀ i, i < n → 0 ≤ lst i ∧ lst i < 100 ∧ hldC B (lst i) = k) (ha : ∀ c : Nat, c < 100 → opB B c = false → hldC B c = k → ∃ i, i < n ∧ lst i = c) : mbR lst n d B = plN d B k := by
  induction d generalizing B with
  | zero => rfl
  | succ d ih =>
    have hs : ∀ c : Nat, mbR lst n d (gup B 12 c 1) = plN d (gup B 12 c 1) k := fun c => by
      refine ih _ (fun i hi => by rw [hldC_12]; exact hl i hi) (fun c2 h1 h2 h3 => ha c2 h1 ?_ (by rw [hldC_12] at h3; exact h3))
      unfold opB at h2 ⊢
      rw [decide_eq_false_iff_not, gup_ap] at h2
      rw [decide_eq_false_iff_not]
      intro q
      refine h2 ⟨q.1, q.2.1, ?_⟩
      split
      · rfl
      · exact q.2.2
    simp only [mbR, plN]
    apply Int.le_antisymm
    · refine plR_le (fun i hi h1 => ?_)
      have h2 := hl i hi
      refine ⟨(lst i).toNat, by omega, ?_, ?_⟩
      · unfold plOk
        rw [show (((lst i).toNat : Nat) : Int) = lst i by omega, decide_eq_true_eq]
        exact ⟨h1, h2.2.2⟩
      · show B 14 _ + mbR lst n d _ ≤ B 14 _ + plN d _ k
        rw [hs]; exact Int.le_refl _
    · refine plR_le (fun c hc h1 => ?_)
      unfold plOk at h1
      rw [decide_eq_true_eq] at h1
      obtain ⟨i, hi, e⟩ := ha c hc (safe_op h1.1) h1.2
      refine ⟨i, hi, by show safeB B (lst i) = true; rw [e]; exact h1.1, ?_⟩
      show B 14 c + plN d _ k ≤ B 14 _ + mbR lst n d _
      rw [e, show ((c : Int)).toNat = c by omega, hs]; exact Int.le_refl _

theorem cntF_mono {f g : Nat → Bool} {n : Nat} (h : ∀ i, i < n → f i = true → g i = true) : cntF f n ≤ cntF g n := by
  induction n with
  | zero => exact Int.le_refl _
  | succ n ih =>
    have := ih (fun i hi => h i (by omega))
    simp only [cntF]
    by_cases h1 : f n = true
    · rw [h1, h n (by omega) h1]; omega
    · rw [show f n = false by simpa using h1, b2_f]
      have := b2_rg (g n)
      omega
set_option maxRecDepth 100000 in
theorem cov16 : ∀ t : Nat, t < 10 → ∀ l : Nat, l < 10 → cntF (fun c => covB (t : Int) (l : Int) 4 4 (c : Int)) 100 ≤ 16 := by decide +kernel
theorem cov_le {L : Nat → Nat} {A : Mem} (hV : VC L A) {k : Nat} (hk : (k : Int) < A 2 2) : cntF (ldF A k) 100 ≤ 16 := by
  have h := (vc_cv hV hk).2.1
  refine Int.le_trans (cntF_mono (g := fun c => covB (((A (100 + 3 * k) 1).toNat : Nat) : Int) (((A (100 + 3 * k) 2).toNat : Nat) : Int) 4 4 (c : Int)) (fun i _ q => ?_)) (cov16 (A (100 + 3 * k) 1).toNat (by omega) (A (100 + 3 * k) 2).toNat (by omega))
  unfold ldF covC covB at q
  unfold covB
  rw [decide_eq_true_eq] at q ⊢
  have q1 := q.1
  rw [decide_eq_true_eq] at q1
  omega
theorem ldN_cnt (f : Nat → Bool) (n : Nat) : (ldN f n : Int) ≤ cntF f n := by
  induction n with
  | zero => exact Int.le_refl _
  | succ n ih =>
    simp only [ldN, cntF]
    by_cases h : ldN f n < 16 ∧ f n = true
    · rw [if_pos h, h.2, b2_t]; omega
    · rw [if_neg h]; have := b2_rg (f n); omega
theorem ld_all {A : Mem} {f : Nat → Bool} {n c : Nat} (hc : c < n) (h : f c = true) (h16 : cntF f n ≤ 16) : ∃ i, i < ldN f n ∧ ldM A f n 11 i = c := by
  induction n with
  | zero => omega
  | succ n ih =>
    have hcn := ldN_cnt f n
    have h17 : cntF f n ≤ 16 := by have := b2_rg (f n); simp only [cntF] at h16; omega
    simp only [ldN, ldM]
    by_cases e : c = n
    · have h3 : ldN f n < 16 := by
        rw [← e] at hcn ⊢
        simp only [cntF] at h16
        rw [← e, h, b2_t] at h16
        omega
      rw [if_pos ⟨h3, by rw [← e]; exact h⟩, if_pos ⟨h3, by rw [← e]; exact h⟩]
      exact ⟨ldN f n, by omega, by rw [gup_ap, if_pos ⟨rfl, rfl⟩, e]⟩
    · obtain ⟨i, hi, h2⟩ := ih (by omega) h17
      by_cases h3 : ldN f n < 16 ∧ f n = true
      · rw [if_pos h3, if_pos h3]
        exact ⟨i, by omega, by rw [gup_ap, if_neg (by omega)]; exact h2⟩
      · rw [if_neg h3, if_neg h3]
        exact ⟨i, hi, h2⟩
theorem ld_in {A : Mem} {f : Nat → Bool} {n i : Nat} (hi : i < ldN f n) : ∃ c, c < n ∧ f c = true ∧ ldM A f n 11 i = c := by
  induction n with
  | zero => exact absurd hi (by simp [ldN])
  | succ n ih =>
    simp only [ldN] at hi
    simp only [ldM]
    by_cases h3 : ldN f n < 16 ∧ f n = true
    · rw [if_pos h3] at hi ⊢
      by_cases e : i = ldN f n
      · exact ⟨n, by omega, h3.2, by rw [gup_ap, if_pos ⟨rfl, e⟩]⟩
      · obtain ⟨c, h1, h2, h4⟩ := ih (by omega)
        exact ⟨c, by omega, h2, by rw [gup_ap, if_neg (fun q => e q.2)]; exact h4⟩
    · rw [if_neg h3] at hi ⊢
      obtain ⟨c, h1, h2, h4⟩ := ih hi
      exact ⟨c, by omega, h2, h4⟩
theorem plN_cg {B B' : Mem} (h : ∀ n, n ≠ 11 → B' n = B n) (k : Int) (d : Nat) : plN d B' k = plN d B k := by
  have hs : ∀ x, safeB B' x = safeB B x := fun x => by
    unfold safeB digB
    rw [rowC_cg (h 12 (by omega)) (h 16 (by omega)), colC_cg (h 12 (by omega)) (h 16 (by omega))]
    simp only [opB_cg h]
  induction d generalizing B B' with
  | zero => rfl
  | succ d ih =>
    have e1 : plOk B' k = plOk B k := by funext c; unfold plOk; rw [hs, hldC_cg h]
    have e2 : (fun c => B' 14 c + plN d (gup B' 12 c 1) k) = fun c => B 14 c + plN d (gup B 12 c 1) k := by
      funext c
      have h2 : ∀ n, n ≠ 11 → gup B' 12 c 1 n = gup B 12 c 1 n := fun n q => by
        by_cases e : n = 12
        · rw [e]; exact gup_cg (h 12 (by omega))
        · rw [gup_ne e, gup_ne e, h n q]
      rw [h 14 (by omega), ih h2 (fun x => by
        unfold safeB digB
        rw [rowC_cg (h2 12 (by omega)) (h2 16 (by omega)), colC_cg (h2 12 (by omega)) (h2 16 (by omega))]
        simp only [opB_cg h2])]
    simp only [plN]
    rw [e1, e2]
/-- planAnew of the class brings what the reference's plan brings -/
theorem anew_pl {L : Nat → Nat} {A : Mem} (hV : VC L A) {k : Nat} (hk : (k : Int) < A 2 2) (d : Nat) : mbR (ldM A (ldF A k) 100 11) (ldN (ldF A k) 100) d (ldM A (ldF A k) 100) = plN d A k := by
  have hne : ∀ n, n ≠ 11 → ldM A (ldF A k) 100 n = A n := fun n h => ldM_ne A _ 100 h
  rw [mbR_pl (k := (k : Int)) d _ (fun i hi => ?_) (fun c hc h1 h2 => ?_), plN_cg hne]
  · obtain ⟨c, h1, h2, h3⟩ := ld_in (A := A) hi
    rw [h3, hldC_cg hne]
    unfold ldF at h2
    rw [decide_eq_true_eq] at h2
    exact ⟨by omega, by omega, h2.2.2⟩
  · rw [opB_cg hne] at h1
    rw [hldC_cg hne] at h2
    refine ld_all hc ?_ (cov_le hV hk)
    unfold ldF
    rw [decide_eq_true_eq]
    exact ⟨hldF_cov (show hldF (covC A c) (livC A) (fun k => A (100 + 3 * k) 5) (A 2 2).toNat = k from h2), h1, h2⟩

