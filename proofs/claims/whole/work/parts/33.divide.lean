/-- the class's heaviest is the reference's greatest where the parcel's stones weigh something -/
theorem gr_hv {inp : Nat → Bool} {w : Nat → Int} {n : Nat} (h : ∀ i, i < n → inp i = true → 1 ≤ w i) : grF inp w n = hvF inp w n := by
  have hin : ∀ m, m ≤ n → hvF inp w m ≠ -1 → inp (hvF inp w m).toNat = true ∧ (hvF inp w m).toNat < n := by
    intro m
    induction m with
    | zero => intro _ q; exact absurd rfl q
    | succ m ih =>
      intro hm q
      by_cases h1 : inp m = true ∧ (if hvF inp w m = -1 then 0 else w (hvF inp w m).toNat) < w m
      · rw [show hvF inp w (m + 1) = m from if_pos h1, show ((m : Int)).toNat = m by omega]; exact ⟨h1.1, by omega⟩
      · have e : hvF inp w (m + 1) = hvF inp w m := if_neg h1
        rw [e] at q ⊢; exact ih (by omega) q
  have : ∀ m, m ≤ n → grF inp w m = hvF inp w m := by
    intro m
    induction m with
    | zero => intro _; rfl
    | succ m ih =>
      intro hm
      simp only [grF, hvF]
      rw [ih (by omega)]
      by_cases h1 : inp m = true
      · have h2 := h m (by omega) h1
        by_cases h3 : hvF inp w m = -1
        · rw [if_pos ⟨h1, Or.inl h3⟩, if_pos ⟨h1, by rw [if_pos h3]; omega⟩]
        · by_cases h4 : w (hvF inp w m).toNat < w m
          · rw [if_pos ⟨h1, Or.inr h4⟩, if_pos ⟨h1, by rw [if_neg h3]; exact h4⟩]
          · rw [if_neg (fun q => by rcases q.2 with q | q; exact h3 q; exact h4 q), if_neg (fun q => by have := q.2; rw [if_neg h3] at this; exact h4 this)]
      · rw [if_neg (fun q => h1 q.1), if_neg (fun q => h1 q.1)]
  exact this n (Nat.le_refl _)
theorem hv_in {inp : Nat → Bool} {w : Nat → Int} {n : Nat} (h : ∀ i, i < n → inp i = true → 1 ≤ w i) (hc : cntF inp n ≠ 0) : 0 ≤ hvF inp w n ∧ hvF inp w n < n ∧ inp (hvF inp w n).toNat = true := by
  induction n with
  | zero => exact absurd rfl hc
  | succ n ih =>
    have hr := hvF_rg inp w n
    by_cases h1 : inp n = true ∧ (if hvF inp w n = -1 then 0 else w (hvF inp w n).toNat) < w n
    · rw [show hvF inp w (n + 1) = n from if_pos h1, show ((n : Int)).toNat = n by omega]; exact ⟨by omega, by omega, h1.1⟩
    · rw [show hvF inp w (n + 1) = hvF inp w n from if_neg h1]
      by_cases h2 : cntF inp n = 0
      · have h3 : inp n = true := by
          simp only [cntF] at hc
          by_cases h4 : inp n = true
          · exact h4
          · rw [h2, show inp n = false by simpa using h4] at hc; exact absurd rfl hc
        have h5 : ∀ m, m ≤ n → hvF inp w m = -1 := by
          intro m
          induction m with
          | zero => intro _; rfl
          | succ m im =>
            intro hm
            simp only [hvF]
            rw [if_neg (fun q => by have := cntF_pos (f := inp) (n := n) (j := m) (by omega) q.1; omega), im (by omega)]
        exact absurd ⟨h3, by rw [if_pos (h5 n (Nat.le_refl _))]; have := h n (by omega) h3; omega⟩ h1
      · have := ih (fun i hi => h i (by omega)) h2
        exact ⟨this.1, by omega, this.2.2⟩
theorem mw_is (sh gv : Nat → Int) (w : Int) (own : Nat) (n : Nat) : IsBest (fun c => c = own ∨ (c < n ∧ 0 < sh c)) (wntC sh gv w) (fun c => (c : Int)) (mwC sh gv w own n : Nat) := by
  induction n with
  | zero => exact Or.inr ⟨own, rfl, Or.inl rfl, fun c q => Or.inr (by rcases q with q | q; (rw [q]; exact ⟨rfl, Or.inr rfl⟩); omega)⟩
  | succ n ih =>
    have e : 0 < sh n → ∀ c, ((c = own ∨ (c < n ∧ 0 < sh c)) ∨ c = n) ↔ (c = own ∨ (c < n + 1 ∧ 0 < sh c)) := fun h c => by
      constructor
      · rintro ((q | q) | q)
        · exact Or.inl q
        · exact Or.inr ⟨by omega, q.2⟩
        · rw [q]; exact Or.inr ⟨by omega, h⟩
      · rintro (q | q)
        · exact Or.inl (Or.inl q)
        · by_cases h9 : c = n
          · exact Or.inr h9
          · exact Or.inl (Or.inr ⟨by omega, q.2⟩)
    have tn : (((mwC sh gv w own n : Nat) : Int)).toNat = mwC sh gv w own n := by omega
    simp only [mwC]
    by_cases h0 : 0 < sh n
    · by_cases h1 : wntC sh gv w (mwC sh gv w own n) < wntC sh gv w n ∨ (wntC sh gv w n = wntC sh gv w (mwC sh gv w own n) ∧ n < mwC sh gv w own n)
      · rw [if_pos ⟨h0, h1⟩]
        exact best_cg (e h0) (best_add ih (by rw [tn]; omega))
      · rw [if_neg (fun q => h1 q.2)]
        by_cases h9 : n = mwC sh gv w own n
        · refine best_cg (fun c => ?_) ih
          rw [← e h0]
          constructor
          · intro q; exact Or.inl q
          · rintro (q | q)
            · exact q
            · rcases ih with ⟨e1, _⟩ | ⟨b, e1, p1, _⟩
              · omega
              · rw [show c = b by omega]; exact p1
        · exact best_cg (e h0) (best_keep ih (by omega) (by rw [tn]; omega))
    · rw [if_neg (fun q => h0 q.1)]
      refine best_cg (fun c => ?_) ih
      constructor
      · rintro (q | q)
        · exact Or.inl q
        · exact Or.inr ⟨by omega, q.2⟩
      · rintro (q | q)
        · exact Or.inl q
        · by_cases h9 : c = n
          · rw [h9] at q; exact absurd q.2 h0
          · exact Or.inr ⟨by omega, q.2⟩
theorem nx_is (sh gt : Nat → Int) (w : Int) (n : Nat) : IsBest (fun c => c < n ∧ 0 < sh c) (wntC sh gt w) (fun c => (c : Int)) (nxF sh gt w n) := by
  induction n with
  | zero => exact Or.inl ⟨rfl, fun c q => by omega⟩
  | succ n ih =>
    have e : 0 < sh n → ∀ c, ((c < n ∧ 0 < sh c) ∨ c = n) ↔ (c < n + 1 ∧ 0 < sh c) := fun h c => by
      constructor
      · rintro (q | q)
        · exact ⟨by omega, q.2⟩
        · rw [q]; exact ⟨by omega, h⟩
      · intro q
        by_cases h9 : c = n
        · exact Or.inr h9
        · exact Or.inl ⟨by omega, q.2⟩
    have hr := nxF_rg sh gt w n
    simp only [nxF]
    by_cases h0 : 0 < sh n
    · by_cases h1 : nxF sh gt w n = -1 ∨ wntC sh gt w (nxF sh gt w n).toNat < wntC sh gt w n
      · rw [if_pos ⟨h0, h1⟩]
        exact best_cg (e h0) (best_add ih (by omega))
      · rw [if_neg (fun q => h1 q.2)]
        exact best_cg (e h0) (best_keep ih (fun q => h1 (Or.inl q)) (by omega))
    · rw [if_neg (fun q => h0 q.1)]
      refine best_cg (fun c => ?_) ih
      constructor
      · intro q; exact ⟨by omega, q.2⟩
      · intro q
        by_cases h9 : c = n
        · rw [h9] at q; exact absurd q.2 h0
        · exact ⟨by omega, q.2⟩
theorem wntC_cg {sh g1 g2 : Nat → Int} {w : Int} {p : Nat} (h : g1 p = g2 p) : wntC sh g1 w p = wntC sh g2 w p := by unfold wntC; rw [h]
theorem nx_cg {sh g1 g2 : Nat → Int} {w : Int} {n : Nat} (h : ∀ p, p < n → g1 p = g2 p) : nxF sh g1 w n = nxF sh g2 w n := by
  induction n with
  | zero => rfl
  | succ n ih =>
    have hr := nxF_rg sh g2 w n
    simp only [nxF]
    rw [ih (fun p hp => h p (by omega)), wntC_cg (h n (by omega))]
    by_cases h1 : nxF sh g2 w n = -1
    · simp [h1]
    · rw [wntC_cg (p := (nxF sh g2 w n).toNat) (h _ (by omega))]
/-- both give the next stone to the same person -/
theorem nx_mw {sh gv gt : Nat → Int} {w : Int} {own : Nat} (ho : own < 8) (hs : 0 < sh own) (h : ∀ p, p < 8 → gt p = gv p) : nxF sh gt w 8 = (mwC sh gv w own 8 : Nat) := by
  rw [nx_cg h]
  refine best_one (nx_is sh gv w 8) (best_cg (fun c => ?_) (mw_is sh gv w own 8))
  constructor
  · rintro (q | q)
    · rw [q]; exact ⟨ho, hs⟩
    · exact q
  · intro q; exact Or.inr q
section GDV
variable {L : Nat → Nat} {B A : Mem}
/-- one stone of a parcel given to a person -/
theorem keep_giv {s p : Nat} {v z : Int} (hV : VC L B) (hI : IV B) (hR : Rel B A) (hs : (s : Int) < B 3 2) (hp : p < 8) (h7 : B (200 + 3 * s) 7 = -1) : VC L (gup (gup B (200 + 3 * s) 6 p) 10 p v) ∧ IV (gup (gup B (200 + 3 * s) 6 p) 10 p v) ∧ Rel (gup (gup B (200 + 3 * s) 6 p) 10 p v) (gup (gup A 48 s p) 43 p z) := by
  have hsv := vc_sv hV hs
  have his := iv_s hI hs
  have rs := rl_s hR hs
  have g : ∀ j, gup B (200 + 3 * s) 6 (p : Int) (200 + 3 * s) j = if j = 6 then (p : Int) else B (200 + 3 * s) j := fun j => by rw [gup_ap]; simp
  have f : ∀ n, n ≠ 200 + 3 * s → gup B (200 + 3 * s) 6 (p : Int) n = B n := fun n q => gup_ne q
  have hf : ∀ n, n ≠ 6 → n ≠ 9 → n ≠ 200 + 3 * s → n ≠ 201 + 3 * s → n ≠ 202 + 3 * s → gup B (200 + 3 * s) 6 (p : Int) n = B n := fun n _ _ q0 _ _ => f n q0
  have hc : ∀ n, (n < 18 ∧ n ≠ 10 ∧ n ≠ 11) ∨ 100 ≤ n → gup (gup B (200 + 3 * s) 6 (p : Int)) 10 p v n = gup B (200 + 3 * s) 6 (p : Int) n := fun n q => gup_ne (by omega)
  refine ⟨vc_cg hc (vc_stone hV hf ?_ ?_), iv_cg hc (iv_stone hV hI hf ?_ ?_), rel_cg (A := gup A 48 s p) hc (fun n q => gup_ne (by omega)) (fun j _ => by rw [gup_ne (by omega)]) (rel_stone hV hR hf (fun n _ _ _ _ => gup_ne (by omega)) (fun j _ _ => by rw [gup_ne (by omega)]) (by rw [gup_ne (by omega), f 6 (by omega)]; exact rl_mo hR) (by rw [gup_ne (by omega), f 9 (by omega)]; exact rl_pu hR) ?_ (fun n i q1 q2 q3 => ?_) (fun i _ => by rw [gup_ne (by omega)]) (fun i _ => by rw [gup_ne (by omega)]) hs ?_)⟩
  · exact PVd_cg (f 0 (by omega)) (fun n _ _ => f n (by omega)) (vc_p hV)
  · obtain ⟨a1, a2, a3, a4, a5, a6, a7, a8, a9, a10, a11⟩ := hsv
    unfold SV
    rw [f (201 + 3 * s) (by omega), f (202 + 3 * s) (by omega)]
    simp only [g]
    simp
    exact ⟨a1, a2, a3, a4, a5, a6, by omega, a8, a9, a10, a11⟩
  · rw [f 6 (by omega), f 9 (by omega)]; exact iv_m hI
  · obtain ⟨a1, a2, a3, a4, a5⟩ := his
    unfold IVs
    rw [f (201 + 3 * s) (by omega), f (202 + 3 * s) (by omega)]
    simp only [g]
    simp
    exact ⟨a2, a3, a4, a5⟩
  · rw [gup_ne (by omega), rl_lost hR]
    refine sumF_cg (fun i hi => ?_)
    by_cases q : i = s
    · rw [q, g, if_neg (by omega)]
    · rw [f _ (by omega)]
  · rw [gup_ap, if_neg (by omega)]
  · have fA : ∀ n, n ≠ 48 → gup A 48 s (p : Int) n = A n := fun n q => gup_ne q
    unfold RelS at *
    obtain ⟨a1, a2, a3, a4, a5, a6, a7, a8, a9, a10⟩ := rs
    rw [gup_at, fA 45 (by omega), fA 46 (by omega), fA 47 (by omega), fA 49 (by omega), fA 50 (by omega), fA 51 (by omega), fA 52 (by omega), fA 53 (by omega), fA 54 (by omega), f (201 + 3 * s) (by omega), f (202 + 3 * s) (by omega)]
    simp only [g]
    simp
    exact ⟨a1, a2, a3, a5, a6, a7, a8, a9, a10⟩
end GDV
/-- the class's step of a division: the heaviest stone to whom it goes -/
def dvs (B : Mem) (k : Nat) : Nat := (hvF (inpC B k) (fun s => B (200 + 3 * s) 3) (B 3 2).toNat).toNat
def dvp (B : Mem) (k : Nat) (w : Int) : Nat := mwC (B (101 + 3 * k)) (B 10) w (B (100 + 3 * k) 0).toNat 8
def dvS (B : Mem) (k : Nat) (w : Int) : Mem := gup (gup B (200 + 3 * dvs B k) 6 (dvp B k w)) 10 (dvp B k w) (B 10 (dvp B k w) + B (200 + 3 * dvs B k) 3)
def dvM (B : Mem) (k : Nat) (w : Int) : Nat → Mem
  | 0 => B
  | i + 1 => dvS (dvM B k w i) k w
/-- the reference's steps beside them -/
def dvR (B A : Mem) (k : Nat) (w : Int) : Nat → Mem
  | 0 => A
  | i + 1 => gup (gup (dvR B A k w i) 48 (dvs (dvM B k w i) k) (dvp (dvM B k w i) k w)) 43 (dvp (dvM B k w i) k w) (dvR B A k w i 43 (dvp (dvM B k w i) k w) + dvR B A k w i 45 (dvs (dvM B k w i) k))
theorem dvp_lt {L : Nat → Nat} {B : Mem} {k : Nat} {w : Int} (hV : VC L B) (hk : (k : Int) < B 2 2) : dvp B k w < 8 := mwC_lt (by have := (vc_cv hV hk).1; omega) 8 (Nat.le_refl _)
theorem cntF_one {f g : Nat → Bool} {s n : Nat} (hs : s < n) (h : ∀ i, i ≠ s → f i = g i) : cntF f n = cntF g n + b2 (f s) - b2 (g s) := by
  induction n with
  | zero => omega
  | succ n ih =>
    simp only [cntF]
    by_cases h1 : s = n
    · rw [cntF_cg (f := f) (g := g) (n := n) (fun i hi => h i (by omega)), h1]; omega
    · rw [ih (by omega), h n (by omega)]; omega
theorem inp_w {L : Nat → Nat} {B : Mem} {k : Nat} (hV : VC L B) (hI : IV B) (s : Nat) (hs : s < (B 3 2).toNat) (h : inpC B k s = true) : 1 ≤ B (200 + 3 * s) 3 ∧ B (200 + 3 * s) 7 = -1 ∧ B (200 + 3 * s) 6 = -1 := by
  have his := (iv_s hI (show (s : Int) < B 3 2 by omega)).1
  unfold inpC inpB plcC at h
  rw [decide_eq_true_eq] at h
  have h2 := h.2
  split at h2
  · omega
  · split at h2
    · rename_i h3; have := his h3; exact ⟨this.2.2, this.1, h3⟩
    · omega

