theorem rlen_ge {f : Nat → Bool} {n m : Nat} (hm : m ≤ n) (h : ∀ i, i < m → f i = true) : m ≤ rlen f n := by
  rcases rlen_fin f n with e | e
  · omega
  · rcases Nat.lt_or_ge (rlen f n) m with q | q
    · rw [h _ q] at e; exact absurd e (by decide)
    · exact q
theorem lb_in {A : Mem} {c s : Int} {n i : Nat} (h : i < lbC A c s n) : loB A (c + ((i : Int) + 1) * s) = true := rlen_in (f := fun i : Nat => loB A (c + ((i : Int) + 1) * s)) h
theorem lb_ge {A : Mem} {c s : Int} {n m : Nat} (hm : m ≤ n) (h : ∀ i : Nat, i < m → loB A (c + ((i : Int) + 1) * s) = true) : m ≤ lbC A c s n := rlen_ge hm h
theorem lb_mono {A B : Mem} (h : ∀ x, loB A x = true → loB B x = true) (c s : Int) (n : Nat) : lbC A c s n ≤ lbC B c s n := lb_ge (lbC_le _ _ _ _) (fun i hi => h _ (lb_in hi))
theorem row_mono {A B : Mem} (h : ∀ x, loB A x = true → loB B x = true) (c : Int) : rowC A c ≤ rowC B c := by unfold rowC; have := lb_mono h c (-1) (c % 10).toNat; have := lb_mono h c 1 (9 - c % 10).toNat; omega
theorem col_mono {A B : Mem} (h : ∀ x, loB A x = true → loB B x = true) (c : Int) : colC A c ≤ colC B c := by unfold colC; have := lb_mono h c (-10) (c / 10).toNat; have := lb_mono h c 10 (9 - c / 10).toNat; omega
theorem lo_mono {A : Mem} {c : Nat} (x : Int) (h : loB A x = true) : loB (gup A 12 c 1) x = true := by
  unfold loB at *
  simp only [decide_eq_true_eq] at *
  rw [gup_ne (show 16 ≠ 12 by decide), gup_ap]
  refine ⟨h.1, h.2.1, ?_, h.2.2.2⟩
  split
  · rfl
  · exact h.2.2.1
theorem op_mono {A : Mem} {c : Nat} (x : Int) (h : opB A x = true) : opB (gup A 12 c 1) x = true := by
  unfold opB at *
  simp only [decide_eq_true_eq] at *
  rw [gup_ap]
  refine ⟨h.1, h.2.1, ?_⟩
  split
  · rfl
  · exact h.2.2
theorem op_new {A : Mem} {c x : Int} (hx : 0 ≤ x ∧ x < 100) (h : opB A x = false) (hn : x ≠ c) (hc : 0 ≤ c) : opB (gup A 12 c.toNat 1) x = false := by
  unfold opB at *
  simp only [decide_eq_false_iff_not] at *
  rw [gup_ap, if_neg (by omega)]
  exact h
theorem op_self {A : Mem} {c : Int} (hc : 0 ≤ c ∧ c < 100) : opB (gup A 12 c.toNat 1) c = true := by
  unfold opB
  simp only [decide_eq_true_eq]
  exact ⟨hc.1, hc.2, by rw [gup_ap, if_pos ⟨rfl, rfl⟩]⟩
theorem lo_self {A : Mem} {c : Int} (hc : 0 ≤ c ∧ c < 100) (h16 : A 16 c.toNat = 0) : loB (gup A 12 c.toNat 1) c = true := by
  unfold loB
  simp only [decide_eq_true_eq]
  exact ⟨hc.1, hc.2, by rw [gup_ap, if_pos ⟨rfl, rfl⟩], by rw [gup_ne (by decide)]; exact h16⟩

theorem swp_row {A : Mem} {x y : Int} (hx : 0 ≤ x ∧ x < 100) (hy : 0 ≤ y ∧ y < 100) (h16 : A 16 y.toNat = 0) (h1 : rowC A y ≤ 3) (h2 : rowC (gup A 12 y.toNat 1) x ≤ 3) : rowC (gup A 12 x.toNat 1) y ≤ 3 := by
  have ha := lbC_le (gup A 12 x.toNat 1) y (-1) (y % 10).toNat
  have hb := lbC_le (gup A 12 x.toNat 1) y 1 (9 - y % 10).toNat
  have la := fun (i : Nat) => lb_in (A := gup A 12 x.toNat 1) (c := y) (s := -1) (n := (y % 10).toNat) (i := i)
  have lb := fun (i : Nat) => lb_in (A := gup A 12 x.toNat 1) (c := y) (s := 1) (n := (9 - y % 10).toNat) (i := i)
  unfold rowC at h1 h2 ⊢
  generalize lbC (gup A 12 x.toNat 1) y (-1) (y % 10).toNat = a at *
  generalize lbC (gup A 12 x.toNat 1) y 1 (9 - y % 10).toNat = b at *
  have hz : ∀ z : Int, -(a : Int) ≤ z → z ≤ b → z ≠ 0 → loB (gup A 12 x.toNat 1) (y + z * 1) = true := fun z q1 q2 q3 => by
    rcases Int.lt_or_gt_of_ne q3 with q | q
    · have := la (-z - 1).toNat (by omega)
      rw [show y + ((((-z - 1).toNat : Nat) : Int) + 1) * (-1) = y + z * 1 by omega] at this
      exact this
    · have := lb (z - 1).toNat (by omega)
      rw [show y + ((((z - 1).toNat : Nat) : Int) + 1) * 1 = y + z * 1 by omega] at this
      exact this
  have hA : ∀ p : Int, p ≠ x → loB (gup A 12 x.toNat 1) p = true → loB A p = true := fun p q1 q2 => by rw [loB_gup (by omega)] at q2; exact q2
  by_cases hin : ∃ z0 : Int, x = y + z0 * 1 ∧ -(a : Int) ≤ z0 ∧ z0 ≤ b
  · obtain ⟨z0, e0, q1, q2⟩ := hin
    by_cases e9 : z0 = 0
    · have exy : x = y := by rw [e0, e9]; omega
      subst exy
      have hl : a ≤ lbC (gup A 12 x.toNat 1) x (-1) (x % 10).toNat := lb_ge (by omega) (fun i hi => la i hi)
      have hr : b ≤ lbC (gup A 12 x.toNat 1) x 1 (9 - x % 10).toNat := lb_ge (by omega) (fun i hi => lb i hi)
      omega
    have hy2 : ∀ z : Int, -(a : Int) ≤ z → z ≤ b → z ≠ z0 → loB (gup A 12 y.toNat 1) (y + z * 1) = true := fun z w1 w2 w3 => by
      by_cases e : z = 0
      · subst e
        rw [show y + 0 * 1 = y by omega]
        exact lo_self hy h16
      · exact lo_mono _ (hA _ (by omega) (hz z w1 w2 e))
    have hl : (a + z0).toNat ≤ lbC (gup A 12 y.toNat 1) x (-1) (x % 10).toNat := lb_ge (by omega) (fun i hi => by
      have := hy2 (z0 - i - 1) (by omega) (by omega) (by omega)
      rw [show x + ((i : Int) + 1) * (-1) = y + (z0 - i - 1) * 1 by omega]
      exact this)
    have hr : (b - z0).toNat ≤ lbC (gup A 12 y.toNat 1) x 1 (9 - x % 10).toNat := lb_ge (by omega) (fun i hi => by
      have := hy2 (z0 + i + 1) (by omega) (by omega) (by omega)
      rw [show x + ((i : Int) + 1) * 1 = y + (z0 + i + 1) * 1 by omega]
      exact this)
    omega
  · have hl : a ≤ lbC A y (-1) (y % 10).toNat := lb_ge ha (fun i hi => by
      refine hA _ (fun e => hin ⟨-(i : Int) - 1, by omega, by omega, by omega⟩) (la i hi))
    have hr : b ≤ lbC A y 1 (9 - y % 10).toNat := lb_ge hb (fun i hi => by
      refine hA _ (fun e => hin ⟨(i : Int) + 1, by omega, by omega, by omega⟩) (lb i hi))
    omega

theorem swp_col {A : Mem} {x y : Int} (hx : 0 ≤ x ∧ x < 100) (hy : 0 ≤ y ∧ y < 100) (h16 : A 16 y.toNat = 0) (h1 : colC A y ≤ 3) (h2 : colC (gup A 12 y.toNat 1) x ≤ 3) : colC (gup A 12 x.toNat 1) y ≤ 3 := by
  have ha := lbC_le (gup A 12 x.toNat 1) y (-10) (y / 10).toNat
  have hb := lbC_le (gup A 12 x.toNat 1) y 10 (9 - y / 10).toNat
  have la := fun (i : Nat) => lb_in (A := gup A 12 x.toNat 1) (c := y) (s := -10) (n := (y / 10).toNat) (i := i)
  have lb := fun (i : Nat) => lb_in (A := gup A 12 x.toNat 1) (c := y) (s := 10) (n := (9 - y / 10).toNat) (i := i)
  unfold colC at h1 h2 ⊢
  generalize lbC (gup A 12 x.toNat 1) y (-10) (y / 10).toNat = a at *
  generalize lbC (gup A 12 x.toNat 1) y 10 (9 - y / 10).toNat = b at *
  have hz : ∀ z : Int, -(a : Int) ≤ z → z ≤ b → z ≠ 0 → loB (gup A 12 x.toNat 1) (y + z * 10) = true := fun z q1 q2 q3 => by
    rcases Int.lt_or_gt_of_ne q3 with q | q
    · have := la (-z - 1).toNat (by omega)
      rw [show y + ((((-z - 1).toNat : Nat) : Int) + 1) * (-10) = y + z * 10 by omega] at this
      exact this
    · have := lb (z - 1).toNat (by omega)
      rw [show y + ((((z - 1).toNat : Nat) : Int) + 1) * 10 = y + z * 10 by omega] at this
      exact this
  have hA : ∀ p : Int, p ≠ x → loB (gup A 12 x.toNat 1) p = true → loB A p = true := fun p q1 q2 => by rw [loB_gup (by omega)] at q2; exact q2
  by_cases hin : ∃ z0 : Int, x = y + z0 * 10 ∧ -(a : Int) ≤ z0 ∧ z0 ≤ b
  · obtain ⟨z0, e0, q1, q2⟩ := hin
    by_cases e9 : z0 = 0
    · have exy : x = y := by rw [e0, e9]; omega
      subst exy
      have hl : a ≤ lbC (gup A 12 x.toNat 1) x (-10) (x / 10).toNat := lb_ge (by omega) (fun i hi => la i hi)
      have hr : b ≤ lbC (gup A 12 x.toNat 1) x 10 (9 - x / 10).toNat := lb_ge (by omega) (fun i hi => lb i hi)
      omega
    have hy2 : ∀ z : Int, -(a : Int) ≤ z → z ≤ b → z ≠ z0 → loB (gup A 12 y.toNat 1) (y + z * 10) = true := fun z w1 w2 w3 => by
      by_cases e : z = 0
      · subst e
        rw [show y + 0 * 10 = y by omega]
        exact lo_self hy h16
      · exact lo_mono _ (hA _ (by omega) (hz z w1 w2 e))
    have hl : (a + z0).toNat ≤ lbC (gup A 12 y.toNat 1) x (-10) (x / 10).toNat := lb_ge (by omega) (fun i hi => by
      have := hy2 (z0 - i - 1) (by omega) (by omega) (by omega)
      rw [show x + ((i : Int) + 1) * (-10) = y + (z0 - i - 1) * 10 by omega]
      exact this)
    have hr : (b - z0).toNat ≤ lbC (gup A 12 y.toNat 1) x 10 (9 - x / 10).toNat := lb_ge (by omega) (fun i hi => by
      have := hy2 (z0 + i + 1) (by omega) (by omega) (by omega)
      rw [show x + ((i : Int) + 1) * 10 = y + (z0 + i + 1) * 10 by omega]
      exact this)
    omega
  · have hl : a ≤ lbC A y (-10) (y / 10).toNat := lb_ge ha (fun i hi => by
      refine hA _ (fun e => hin ⟨-(i : Int) - 1, by omega, by omega, by omega⟩) (la i hi))
    have hr : b ≤ lbC A y 10 (9 - y / 10).toNat := lb_ge hb (fun i hi => by
      refine hA _ (fun e => hin ⟨(i : Int) + 1, by omega, by omega, by omega⟩) (lb i hi))
    omega

/-- a row of digs that holds -/
def Pth (lst : Nat → Int) : Mem → List Nat → Prop
  | _, [] => True
  | A, i :: l => safeB A (lst i) = true ∧ Pth lst (gup A 12 (lst i).toNat 1) l
def vlP (A : Mem) (lst : Nat → Int) : List Nat → Int
  | [] => 0
  | i :: l => A 14 (lst i).toNat + vlP A lst l
theorem safe_iff {A : Mem} {x : Int} : safeB A x = true ↔ digB A x = true ∧ rowC A x ≤ 3 ∧ colC A x ≤ 3 := by unfold safeB; rw [decide_eq_true_eq]
theorem dig_iff {A : Mem} {x : Int} : digB A x = true ↔ opB A x = false ∧ (opB A (x - 10) = true ∨ opB A (x + 10) = true ∨ (0 < x % 10 ∧ opB A (x - 1) = true) ∨ (x % 10 < 9 ∧ opB A (x + 1) = true)) := by unfold digB; rw [decide_eq_true_eq]
theorem dig_mono {A : Mem} {x c : Int} (hx : 0 ≤ x ∧ x < 100) (hc : 0 ≤ c) (hn : x ≠ c) (h : digB A x = true) : digB (gup A 12 c.toNat 1) x = true := by
  rw [dig_iff] at h ⊢
  refine ⟨op_new hx h.1 hn hc, ?_⟩
  rcases h.2 with q | q | q | q
  · exact Or.inl (op_mono _ q)
  · exact Or.inr (Or.inl (op_mono _ q))
  · exact Or.inr (Or.inr (Or.inl ⟨q.1, op_mono _ q.2⟩))
  · exact Or.inr (Or.inr (Or.inr ⟨q.1, op_mono _ q.2⟩))
section GSET
variable {lst : Nat → Int} {n : Nat}
theorem gup_12 (A : Mem) (x y : Nat) : gup (gup A 12 x 1) 12 y 1 = gup (gup A 12 y 1) 12 x 1 := by
  funext m j
  simp only [gup_ap]
  by_cases h1 : m = 12 ∧ j = x <;> by_cases h2 : m = 12 ∧ j = y <;> simp [h1, h2]
/-- two digs may change places -/
theorem safe_swap {A : Mem} {x y : Int} (hx : 0 ≤ x ∧ x < 100) (hy : 0 ≤ y ∧ y < 100) (h16 : ∀ c, A 12 c ≠ 1 → A 16 c = 0) (h1 : safeB A x = true) (h2 : safeB A y = true) (h3 : safeB (gup A 12 y.toNat 1) x = true) : safeB (gup A 12 x.toNat 1) y = true := by
  have hn : x ≠ y := fun e => by
    rw [e] at h3
    have := (dig_iff.mp (safe_iff.mp h3).1).1
    rw [op_self hy] at this
    exact absurd this (by decide)
  obtain ⟨d2, r2, c2⟩ := safe_iff.mp h2
  obtain ⟨d3, r3, c3⟩ := safe_iff.mp h3
  have hy16 : A 16 y.toNat = 0 := h16 _ (fun e => by
    have := (dig_iff.mp d2).1
    unfold opB at this
    simp only [decide_eq_false_iff_not] at this
    exact this ⟨hy.1, hy.2, e⟩)
  exact safe_iff.mpr ⟨dig_mono hy hx.1 (Ne.symm hn) d2, swp_row hx hy hy16 r2 r3, swp_col hx hy hy16 c2 c3⟩
theorem h16_op {A : Mem} {c : Int} (h16 : ∀ c, A 12 c ≠ 1 → A 16 c = 0) : ∀ c', gup A 12 c.toNat 1 12 c' ≠ 1 → gup A 12 c.toNat 1 16 c' = 0 := fun c' h => by
  rw [gup_ne (by decide)]
  rw [gup_ap] at h
  by_cases e : (12 : Nat) = 12 ∧ c' = c.toNat
  · rw [if_pos e] at h; exact absurd rfl h
  · rw [if_neg e] at h; exact h16 _ h
theorem Pth_op {A : Mem} {l : List Nat} (h : Pth lst A l) {j : Nat} (hj : j ∈ l) : opB A (lst j) = false := by
  induction l generalizing A with
  | nil => exact absurd hj List.not_mem_nil
  | cons y l ih =>
    rcases List.mem_cons.mp hj with rfl | hj
    · exact (dig_iff.mp (safe_iff.mp h.1).1).1
    · have h1 := ih h.2 hj
      cases h2 : opB A (lst j) with
      | false => rfl
      | true => rw [op_mono _ h2] at h1; exact absurd h1 (by decide)
/-- what is safe in the end is safe between -/
theorem Pth_safe {A : Mem} {l1 l2 : List Nat} {x : Nat} (hl : ∀ i, i ∈ l1 ++ x :: l2 → 0 ≤ lst i ∧ lst i < 100) (h : Pth lst A (l1 ++ x :: l2)) (hd : digB A (lst x) = true) : safeB A (lst x) = true := by
  induction l1 generalizing A with
  | nil => exact h.1
  | cons y l ih =>
    have hx := hl x (by simp)
    have hy := hl y (by simp)
    have hn : lst x ≠ lst y := fun e => by
      have h1 := Pth_op h.2 (j := x) (by simp)
      rw [e, op_self hy] at h1
      exact absurd h1 (by decide)
    have h2 := safe_iff.mp (ih (fun i hi => hl i (List.mem_cons_of_mem _ hi)) h.2 (dig_mono hx hy.1 hn hd))
    have r := row_mono (A := A) (B := gup A 12 (lst y).toNat 1) (fun z hz => lo_mono z hz) (lst x)
    have c := col_mono (A := A) (B := gup A 12 (lst y).toNat 1) (fun z hz => lo_mono z hz) (lst x)
    exact safe_iff.mpr ⟨hd, by omega, by omega⟩
/-- a dig that holds at once may come first -/
theorem Pth_front {A : Mem} {l1 l2 : List Nat} {x : Nat} (h16 : ∀ c, A 12 c ≠ 1 → A 16 c = 0) (hl : ∀ i, i ∈ l1 ++ x :: l2 → 0 ≤ lst i ∧ lst i < 100) (h : Pth lst A (l1 ++ x :: l2)) (hs : safeB A (lst x) = true) : Pth lst A (x :: (l1 ++ l2)) := by
  induction l1 generalizing A with
  | nil => exact h
  | cons y l ih =>
    have hx := hl x (by simp)
    have hy := hl y (by simp)
    have hn : lst x ≠ lst y := fun e => by
      have h1 := Pth_op h.2 (j := x) (by simp)
      rw [e, op_self hy] at h1
      exact absurd h1 (by decide)
    have hs2 := Pth_safe (fun i hi => hl i (List.mem_cons_of_mem _ hi)) h.2 (dig_mono hx hy.1 hn (safe_iff.mp hs).1)
    have h3 := ih (h16_op h16) (fun i hi => hl i (List.mem_cons_of_mem _ hi)) h.2 hs2
    refine ⟨hs, safe_swap hx hy h16 hs h.1 hs2, ?_⟩
    rw [gup_12]
    exact h3.2
theorem vlP_app (A : Mem) (l1 l2 : List Nat) : vlP A lst (l1 ++ l2) = vlP A lst l1 + vlP A lst l2 := by
  induction l1 with
  | nil => simp [vlP]
  | cons y l ih => simp only [List.cons_append, vlP, ih]; omega
theorem vlP_op (A : Mem) (c : Nat) (l : List Nat) : vlP (gup A 12 c 1) lst l = vlP A lst l := by
  induction l with
  | nil => rfl
  | cons y l ih => simp only [vlP, ih]; rw [gup_ne (by decide)]
/-- rows of digs that leave out what is marked -/
def mbT (lst : Nat → Int) (n : Nat) (t : Nat) : Nat → Mem → Int
  | 0, _ => 0
  | d + 1, A => plR (fun i => A 14 (lst i).toNat + mbT lst n t d (gup A 12 (lst i).toNat 1)) (fun i => !t.testBit i && safeB A (lst i)) n
theorem mbT_0 (d : Nat) (A : Mem) : mbT lst n 0 d A = mbR lst n d A := by
  induction d generalizing A with
  | zero => rfl
  | succ d ih =>
    simp only [mbT, mbR]
    have e1 : (fun i => A 14 (lst i).toNat + mbT lst n 0 d (gup A 12 (lst i).toNat 1)) = fun i => A 14 (lst i).toNat + mbR lst n d (gup A 12 (lst i).toNat 1) := by funext i; rw [ih]
    have e2 : (fun i => !Nat.testBit 0 i && safeB A (lst i)) = fun i => safeB A (lst i) := by funext i; simp
    rw [e1, e2]
theorem mbT_up {t d : Nat} {A : Mem} {l : List Nat} (h : Pth lst A l) (hlen : l.length ≤ d) (hl : ∀ i, i ∈ l → i < n ∧ t.testBit i = false) : vlP A lst l ≤ mbT lst n t d A := by
  induction d generalizing A l with
  | zero =>
    cases l with
    | nil => exact Int.le_refl _
    | cons y l => exact absurd hlen (by simp)
  | succ d ih =>
    cases l with
    | nil => exact plR_nn _
    | cons y l =>
      have h1 := hl y List.mem_cons_self
      have h2 := ih (A := gup A 12 (lst y).toNat 1) h.2 (by simpa using hlen) (fun i hi => hl i (List.mem_cons_of_mem _ hi))
      rw [vlP_op] at h2
      have h3 := plR_ge (f := fun i => A 14 (lst i).toNat + mbT lst n t d (gup A 12 (lst i).toNat 1)) (ok := fun i => !t.testBit i && safeB A (lst i)) h1.1 (by show (!t.testBit y && safeB A (lst y)) = true; rw [h1.2, h.1]; rfl)
      simp only [vlP, mbT]
      have h4 : A 14 (lst y).toNat + mbT lst n t d (gup A 12 (lst y).toNat 1) ≤ plR (fun i => A 14 (lst i).toNat + mbT lst n t d (gup A 12 (lst i).toNat 1)) (fun i => !t.testBit i && safeB A (lst i)) n := h3
      omega
theorem mbT_at (t d : Nat) (A : Mem) : ∃ l : List Nat, Pth lst A l ∧ l.length ≤ d ∧ (∀ i, i ∈ l → i < n ∧ t.testBit i = false) ∧ mbT lst n t d A = vlP A lst l := by
  induction d generalizing A with
  | zero => exact ⟨[], trivial, Nat.le_refl _, fun _ h => absurd h List.not_mem_nil, rfl⟩
  | succ d ih =>
    simp only [mbT]
    rcases plR_at (fun i => A 14 (lst i).toNat + mbT lst n t d (gup A 12 (lst i).toNat 1)) (fun i => !t.testBit i && safeB A (lst i)) n with h | ⟨i, hi, hok, h⟩
    · exact ⟨[], trivial, Nat.zero_le _, fun _ h => absurd h List.not_mem_nil, h⟩
    · obtain ⟨l, h1, h2, h3, h4⟩ := ih (gup A 12 (lst i).toNat 1)
      have hok2 : t.testBit i = false ∧ safeB A (lst i) = true := by
        cases hb : t.testBit i <;> cases hs : safeB A (lst i) <;> rw [hb, hs] at hok <;> simp at hok
        exact ⟨rfl, rfl⟩
      refine ⟨i :: l, ⟨hok2.2, h1⟩, by simpa using h2, fun j hj => ?_, ?_⟩
      · rcases List.mem_cons.mp hj with rfl | hj
        · exact ⟨hi, hok2.1⟩
        · exact h3 j hj
      · rw [h]
        show _ + mbT lst n t d _ = _ + vlP A lst l
        rw [h4, vlP_op]
theorem mbT_le {t t2 : Nat} (h : ∀ i, t2.testBit i = false → t.testBit i = false) (d : Nat) (A : Mem) : mbT lst n t2 d A ≤ mbT lst n t d A := by
  obtain ⟨l, h1, h2, h3, h4⟩ := mbT_at (lst := lst) (n := n) t2 d A
  rw [h4]
  exact mbT_up h1 h2 (fun i hi => ⟨(h3 i hi).1, h _ (h3 i hi).2⟩)
/-- a least of a list's members with a mark -/
theorem least_in (f : Nat → Bool) (l : List Nat) (h : ∃ i, i ∈ l ∧ f i = true) : ∃ i, i ∈ l ∧ f i = true ∧ ∀ j, j ∈ l → f j = true → i ≤ j := by
  induction l with
  | nil => obtain ⟨i, hi, _⟩ := h; exact absurd hi List.not_mem_nil
  | cons y l ih =>
    by_cases hl : ∃ i, i ∈ l ∧ f i = true
    · obtain ⟨i, hi, hf, hm⟩ := ih hl
      by_cases hy : f y = true ∧ y < i
      · refine ⟨y, List.mem_cons_self, hy.1, fun j hj hfj => ?_⟩
        rcases List.mem_cons.mp hj with rfl | hj
        · exact Nat.le_refl _
        · have := hm j hj hfj; omega
      · refine ⟨i, List.mem_cons_of_mem _ hi, hf, fun j hj hfj => ?_⟩
        rcases List.mem_cons.mp hj with rfl | hj
        · rcases Nat.lt_or_ge j i with q | q
          · exact absurd ⟨hfj, q⟩ hy
          · exact q
        · exact hm j hj hfj
    · obtain ⟨i, hi, hf⟩ := h
      rcases List.mem_cons.mp hi with rfl | hi
      · refine ⟨i, List.mem_cons_self, hf, fun j hj hfj => ?_⟩
        rcases List.mem_cons.mp hj with rfl | hj
        · exact Nat.le_refl _
        · exact absurd ⟨j, hj, hfj⟩ hl
      · exact absurd ⟨i, hi, hf⟩ hl
theorem mbS_T {A : Mem} (hl : ∀ i, i < n → 0 ≤ lst i ∧ lst i < 100) (h16 : ∀ c, A 12 c ≠ 1 → A 16 c = 0) (d t : Nat) : mbS lst n d A t = mbT lst n t d A := by
  induction d generalizing A t with
  | zero => rfl
  | succ d ih =>
    have ih2 : ∀ i t2, mbS lst n d (gup A 12 (lst i).toNat 1) t2 = mbT lst n t2 d (gup A 12 (lst i).toNat 1) := fun i t2 => ih (h16_op h16) t2
    apply Int.le_antisymm
    · simp only [mbS, mbT]
      refine plR_le (fun i hi h1 => ⟨i, hi, h1, ?_⟩)
      show _ + mbS lst n d _ _ ≤ _ + mbT lst n t d _
      rw [ih2]
      have := mbT_le (lst := lst) (n := n) (t := t) (t2 := trS lst A t (i + 1)) (fun j hj => by rw [trS_bit] at hj; cases h : t.testBit j with | false => rfl | true => rw [h] at hj; simp at hj) d (gup A 12 (lst i).toNat 1)
      omega
    · obtain ⟨l, h1, h2, h3, h4⟩ := mbT_at (lst := lst) (n := n) t (d + 1) A
      rw [h4]
      cases l with
      | nil => simp only [mbS, vlP]; exact plR_nn _
      | cons y0 l0 =>
        obtain ⟨i, hi, hf, hm⟩ := least_in (fun i => safeB A (lst i)) (y0 :: l0) ⟨y0, List.mem_cons_self, h1.1⟩
        obtain ⟨l1, l2, e⟩ := List.append_of_mem hi
        rw [e] at h1 h2 h3 hm ⊢
        have hin : ∀ j, j ∈ l1 ++ i :: l2 → 0 ≤ lst j ∧ lst j < 100 := fun j hj => hl j (h3 j hj).1
        have hp := Pth_front h16 hin h1 hf
        have hmem : ∀ j, j ∈ l1 ++ l2 → j ∈ l1 ++ i :: l2 := fun j hj => by
          rcases List.mem_append.mp hj with q | q
          · exact List.mem_append_left _ q
          · exact List.mem_append_right _ (List.mem_cons_of_mem _ q)
        have hii := h3 i (by simp)
        have hup := mbT_up (n := n) (t := trS lst A t (i + 1)) (d := d) hp.2 (by simp at h2 ⊢; omega) (fun j hj => by
          have q := h3 j (hmem j hj)
          refine ⟨q.1, ?_⟩
          rw [trS_bit, q.2, Bool.false_or]
          by_cases hlt : j < i + 1
          · have hji : j ≠ i := fun e2 => by
              have h9 := Pth_op hp.2 hj
              rw [e2, op_self (hin i (by simp))] at h9
              exact absurd h9 (by decide)
            cases hs : safeB A (lst j) with
            | false => simp
            | true => have := hm j (hmem j hj) hs; omega
          · rw [decide_eq_false hlt, Bool.false_and])
        rw [vlP_op, ← ih2] at hup
        have h5 := plR_ge (f := fun i => A 14 (lst i).toNat + mbS lst n d (gup A 12 (lst i).toNat 1) (trS lst A t (i + 1))) (ok := fun i => !t.testBit i && safeB A (lst i)) hii.1 (by show (!t.testBit i && safeB A (lst i)) = true; rw [hii.2, show safeB A (lst i) = true from hf]; rfl)
        have h6 : A 14 (lst i).toNat + mbS lst n d (gup A 12 (lst i).toNat 1) (trS lst A t (i + 1)) ≤ mbS lst n (d + 1) A t := h5
        have ev : vlP A lst (l1 ++ i :: l2) = A 14 (lst i).toNat + vlP A lst (l1 ++ l2) := by rw [vlP_app, vlP_app]; simp only [vlP]; omega
        omega
end GSET
/-- plan's carats are the reference's -/
theorem plan_pl {L : Nat → Nat} {A : Mem} (hV : VC L A) (hI : IV A) {k : Nat} (hk : (k : Int) < A 2 2) (d : Nat) : mbS (ldM A (ldF A k) 100 11) (ldN (ldF A k) 100) d (ldM A (ldF A k) 100) 0 = plN d A k := by
  rw [mbS_T (fun i hi => by have := ldM_v A (ldF A k) 100 i hi; omega) (fun c => by rw [ldM_ne _ _ _ (by decide), ldM_ne _ _ _ (by decide)]; exact iv_p hI c), mbT_0]
  exact anew_pl hV hk d

