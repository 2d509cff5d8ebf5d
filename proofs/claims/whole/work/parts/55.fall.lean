theorem bury_ne (A : Mem) (c st : Int) (n : Nat) {m : Nat} (h : m ≠ 12) : bury A c st n m = A m := by
  induction n with
  | zero => rfl
  | succ n ih => rw [bury, gup_ne h, ih]
theorem bury_cg {A A' : Mem} (h : A 12 = A' 12) (c st : Int) (n : Nat) : bury A c st n 12 = bury A' c st n 12 := by
  induction n with
  | zero => exact h
  | succ n ih => funext j; rw [bury, bury, gup_ap, gup_ap, ih]
theorem fallC_ne (A : Mem) (x : Int) {m : Nat} (h : m ≠ 12) : fallC A x m = A m := by
  unfold fallC
  split <;> split <;> simp only [bury_ne _ _ _ _ h]
theorem fallC_cg {A A' : Mem} (h : A 12 = A' 12) (h2 : A 16 = A' 16) (x : Int) : fallC A x 12 = fallC A' x 12 := by
  unfold fallC
  rw [rowC_cg h h2, colC_cg h h2, lbC_cg h h2, lbC_cg h h2]
  by_cases h1 : 3 < colC A' x
  · rw [if_pos h1, if_pos h1]
    refine bury_cg ?_ _ _ _
    by_cases h3 : 3 < rowC A' x
    · rw [if_pos h3, if_pos h3]; exact bury_cg h _ _ _
    · rw [if_neg h3, if_neg h3]; exact h
  · rw [if_neg h1, if_neg h1]
    by_cases h3 : 3 < rowC A' x
    · rw [if_pos h3, if_pos h3]; exact bury_cg h _ _ _
    · rw [if_neg h3, if_neg h3]; exact h
theorem lb_16 {A : Mem} {c st : Int} {a b n1 n2 : Nat} (h16 : A 16 c.toNat = 0) (ha : a = lbC A c (-st) n1) (hb : b = lbC A c st n2) {j : Nat} (h : inR c st a b j) : A 16 j = 0 := by
  obtain ⟨z, h1, h2, h3⟩ := h
  have hlo : ∀ x : Int, loB A x = true → A 16 x.toNat = 0 := fun x hx => by unfold loB at hx; simp only [decide_eq_true_eq] at hx; exact hx.2.2.2
  rcases Int.lt_trichotomy z 0 with hz | hz | hz
  · have := rlen_in (f := fun i : Nat => loB A (c + ((i : Int) + 1) * (-st))) (n := n1) (j := (-z - 1).toNat) (by show _ < lbC A c (-st) n1; omega)
    have e : c + ((((-z - 1).toNat : Nat) : Int) + 1) * (-st) = c + z * st := by
      rw [show (((-z - 1).toNat : Nat) : Int) + 1 = -z by omega, Int.neg_mul_neg]
    simp only [e] at this
    rw [← h3]; exact hlo _ this
  · rw [← h3, hz]; simpa using h16
  · have := rlen_in (f := fun i : Nat => loB A (c + ((i : Int) + 1) * st)) (n := n2) (j := (z - 1).toNat) (by show _ < lbC A c st n2; omega)
    have e : c + ((((z - 1).toNat : Nat) : Int) + 1) * st = c + z * st := by rw [show (((z - 1).toNat : Nat) : Int) + 1 = z by omega]
    simp only [e] at this
    rw [← h3]; exact hlo _ this
/-- what falls was not propped -/
theorem fallC_12 {A : Mem} {c : Int} (h16 : A 16 c.toNat = 0) (j : Nat) : fallC A c 12 j = A 12 j ∨ (fallC A c 12 j = 2 ∧ A 16 j = 0) := by
  have hrc : (rowC A c).toNat = lbC A c (-1) (c % 10).toNat + 1 + lbC A c 1 (9 - c % 10).toNat := by unfold rowC; omega
  have hcc : (colC A c).toNat = lbC A c (-10) (c / 10).toNat + 1 + lbC A c 10 (9 - c / 10).toNat := by unfold colC; omega
  have b1 : ∀ B : Mem, bury B (c - lbC A c (-1) (c % 10).toNat) 1 (rowC A c).toNat 12 j = B 12 j ∨ (bury B (c - lbC A c (-1) (c % 10).toNat) 1 (rowC A c).toNat 12 j = 2 ∧ A 16 j = 0) := fun B => by
    have h := bury_r B c 1 (lbC A c (-1) (c % 10).toNat) (lbC A c 1 (9 - c % 10).toNat) j
    rw [Int.mul_one, ← hrc] at h
    by_cases hi : inR c 1 (lbC A c (-1) (c % 10).toNat) (lbC A c 1 (9 - c % 10).toNat) j
    · exact Or.inr ⟨h.1 hi, lb_16 h16 rfl rfl hi⟩
    · exact Or.inl (h.2 hi)
  have b2 : ∀ B : Mem, bury B (c - lbC A c (-10) (c / 10).toNat * 10) 10 (colC A c).toNat 12 j = B 12 j ∨ (bury B (c - lbC A c (-10) (c / 10).toNat * 10) 10 (colC A c).toNat 12 j = 2 ∧ A 16 j = 0) := fun B => by
    have h := bury_r B c 10 (lbC A c (-10) (c / 10).toNat) (lbC A c 10 (9 - c / 10).toNat) j
    rw [← hcc] at h
    by_cases hi : inR c 10 (lbC A c (-10) (c / 10).toNat) (lbC A c 10 (9 - c / 10).toNat) j
    · exact Or.inr ⟨h.1 hi, lb_16 h16 rfl rfl hi⟩
    · exact Or.inl (h.2 hi)
  have hin : (if 3 < rowC A c then bury A (c - lbC A c (-1) (c % 10).toNat) 1 (rowC A c).toNat else A) 12 j = A 12 j ∨ ((if 3 < rowC A c then bury A (c - lbC A c (-1) (c % 10).toNat) 1 (rowC A c).toNat else A) 12 j = 2 ∧ A 16 j = 0) := by
    by_cases h3 : 3 < rowC A c
    · rw [if_pos h3]; exact b1 A
    · rw [if_neg h3]; exact Or.inl rfl
  unfold fallC
  by_cases h3 : 3 < colC A c
  · rw [if_pos h3]
    rcases b2 (if 3 < rowC A c then bury A (c - lbC A c (-1) (c % 10).toNat) 1 (rowC A c).toNat else A) with h | h
    · rw [h]; exact hin
    · exact Or.inr h
  · rw [if_neg h3]; exact hin

